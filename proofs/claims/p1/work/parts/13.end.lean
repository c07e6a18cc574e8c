set_option maxHeartbeats 4000000 in
set_option maxRecDepth 100000 in
theorem whole_start {p : Program} {e : Env} {s : State} {m : MethodId} {below : List Frame} {meth : Method} {c : Code} (l : Launch) (hflags : l.flags = flags0) {b L : Nat} {xs : Nat → Int32} (hL : L ≤ 6) (C0 : lw_At p s m meth c b L xs) : W p l e room_1 s m #[Value.ref b] below meth c s.heap [] 0 0 (lw_Z below #[Value.ref b] s) (entryFrame m ([Value.ref b] : List Value).toArray 4) := by
  obtain ⟨hx, hb, hr, hml, hown, hts, hX, hbl, hlocks, hgv⟩ := id C0
  have hown : s.vm.findClass RL = some m.cls := hown
  obtain ⟨A, hAe⟩ : ∃ A : Nat → Prop, A = (fun q : Nat => s.heap.size ≤ q) := ⟨_, rfl⟩
  have hA : ∀ q : Nat, s.heap.size ≤ q → A q := fun q h => by rw [hAe]; exact h
  have hAq : ∀ q : Nat, A q → s.heap.size ≤ q := fun q h => by rw [hAe] at h; exact h
  have hbA : ¬ A b := fun h => absurd (hAq b h) (Nat.not_le.mpr hbl)
  have hE0 : va_Nw (.methodLinkNest RX11 11 yX9_init "DeadlineShare") s := va_Nw.of rfl (hts (.methodLinkNest RX11 11 yX9_init "DeadlineShare") (List.mem_append_right _ (List.mem_of_getElem? (i := 30) (by decide +kernel))))
  have hE1 : va_Nw (.methodLinkNest RX11 20 yX7_init "DeadlineShare") s := va_Nw.of rfl (hts (.methodLinkNest RX11 20 yX7_init "DeadlineShare") (List.mem_append_right _ (List.mem_of_getElem? (i := 52) (by decide +kernel))))
  have hE2 : va_Nw (.methodLinkNest RX11 27 yX3_init "DeadlineShare") s := va_Nw.of rfl (hts (.methodLinkNest RX11 27 yX3_init "DeadlineShare") (List.mem_append_right _ (List.mem_of_getElem? (i := 68) (by decide +kernel))))
  have hE3 : va_Nw (.methodLinkNest RX11 71 yX4_init "DeadlineShare") s := va_Nw.of rfl (hts (.methodLinkNest RX11 71 yX4_init "DeadlineShare") (List.mem_append_right _ (List.mem_of_getElem? (i := 308) (by decide +kernel))))
  have hE4 : va_Nw (.methodLinkNest RX3 11 yX5_init "DeadlineShare") s := va_Nw.of rfl (hts (.methodLinkNest RX3 11 yX5_init "DeadlineShare") (List.mem_append_right _ (List.mem_of_getElem? (i := 74) (by decide +kernel))))
  have hE5 : va_AO "DeadlineShare$State" s := va_AO.of (hts (.arrayOver (.object "DeadlineShare$State")) (List.mem_append_right _ (List.mem_of_getElem? (i := 282) (by decide +kernel))))
  have hE6 : va_AO "DeadlineShare$Task" s := va_AO.of (hts (.arrayOver (.object "DeadlineShare$Task")) (List.mem_append_right _ (List.mem_of_getElem? (i := 115) (by decide +kernel))))
  have hE7 : va_Nw (.methodLinkNest RX6 19 yX2_init "DeadlineShare") s := va_Nw.of rfl (hts (.methodLinkNest RX6 19 yX2_init "DeadlineShare") (List.mem_append_right _ (List.mem_of_getElem? (i := 118) (by decide +kernel))))
  have hE8 : va_Nw (.methodLinkNest RX6 26 yX10_init "DeadlineShare") s := va_Nw.of rfl (hts (.methodLinkNest RX6 26 yX10_init "DeadlineShare") (List.mem_append_right _ (List.mem_of_getElem? (i := 129) (by decide +kernel))))
  have hE9 : va_Nw (.methodLinkNest RX8 11 yX5_init "DeadlineShare") s := va_Nw.of rfl (hts (.methodLinkNest RX8 11 yX5_init "DeadlineShare") (List.mem_append_right _ (List.mem_of_getElem? (i := 146) (by decide +kernel))))
  have hE10 : va_Nw (.methodLinkNest RX8 20 yX10_init "DeadlineShare") s := va_Nw.of rfl (hts (.methodLinkNest RX8 20 yX10_init "DeadlineShare") (List.mem_append_right _ (List.mem_of_getElem? (i := 148) (by decide +kernel))))
  obtain ⟨cc0, iS0, hKn0⟩ := u_known (C := RX0) (T := TX0) (N := 3) (n := 3) hts (fun w h => (tu_X0 w h).1) (hts (.instantiable RX0 3) tw_98.1)
  obtain ⟨cc1, iS1, hKn1⟩ := u_known (C := RX1) (T := TX1) (N := 4) (n := 4) hts (fun w h => (tu_X1 w h).1) (hts (.instantiable RX1 4) tw_88.1)
  obtain ⟨cc2, iS2, hKn2⟩ := u_known (C := RX2) (T := TX2) (N := 1) (n := 1) hts (fun w h => (tu_X2 w h).1) (hts (.instantiable RX2 1) tw_64.1)
  obtain ⟨cc3, iS3, hKn3⟩ := u_known (C := RX3) (T := TX3) (N := 2) (n := 2) hts (fun w h => (tu_X3 w h).1) (hts (.instantiable RX3 2) tw_107.1)
  obtain ⟨cc4, iS4, hKn4⟩ := u_known (C := RX4) (T := TX4) (N := 2) (n := 2) hts (fun w h => (tu_X4 w h).1) (hts (.instantiable RX4 2) tw_82.1)
  obtain ⟨cc5, iS5, hKn5⟩ := u_known (C := RX5) (T := TX5) (N := 5) (n := 5) hts (fun w h => (tu_X5 w h).1) (hts (.instantiable RX5 5) tw_37.1)
  obtain ⟨cc6, iS6, hKn6⟩ := u_known (C := RX6) (T := TX6) (N := 10) (n := 10) hts (fun w h => (tu_X6 w h).1) (hts (.instantiable RX6 10) tw_73.1)
  obtain ⟨cc7, iS7, hKn7⟩ := u_known (C := RX7) (T := TX7) (N := 2) (n := 2) hts (fun w h => (tu_X7 w h).1) (hts (.instantiable RX7 2) tw_112.1)
  obtain ⟨cc8, iS8, hKn8⟩ := u_known (C := RX8) (T := TX8) (N := 18) (n := 18) hts (fun w h => (tu_X8 w h).1) (hts (.instantiable RX8 18) tw_54.1)
  obtain ⟨cc9, iS9, hKn9⟩ := u_known (C := RX9) (T := TX9) (N := 3) (n := 3) hts (fun w h => (tu_X9 w h).1) (hts (.instantiable RX9 3) tw_117.1)
  obtain ⟨cc10, iS10, hKn10⟩ := u_known (C := RX10) (T := TX10) (N := 2) (n := 2) hts (fun w h => (tu_X10 w h).1) (hts (.instantiable RX10 2) tw_45.1)
  obtain ⟨cc11, iS11, hKn11⟩ := u_known (C := RX11) (T := TX11) (N := 12) (n := 12) hts (fun w h => (tu_X11 w h).1) (hts (.instantiable RX11 12) tw_787.1)
  obtain ⟨cc12, iS12, hKn12⟩ := u_known (C := RX12) (T := TX12) (N := 27) (n := 27) hts (fun w h => (tu_X12 w h).1) (hts (.instantiable RX12 27) tw_788.1)
  obtain ⟨dC, dI, hKc⟩ : ∃ (dC : Nat → ClassId) (dI : Nat → Nat → Nat), ∀ (k : Nat) (q : vw_C), vwCl[k]? = some q → u_Kn s q.1 q.2.1 q.2.2 (dC k) (dI k) := by
    refine ⟨fun k => if k = 0 then cc0 else if k = 1 then cc1 else if k = 2 then cc2 else if k = 3 then cc3 else if k = 4 then cc4 else if k = 5 then cc5 else if k = 6 then cc6 else if k = 7 then cc7 else if k = 8 then cc8 else if k = 9 then cc9 else if k = 10 then cc10 else if k = 11 then cc11 else cc12, fun k => if k = 0 then iS0 else if k = 1 then iS1 else if k = 2 then iS2 else if k = 3 then iS3 else if k = 4 then iS4 else if k = 5 then iS5 else if k = 6 then iS6 else if k = 7 then iS7 else if k = 8 then iS8 else if k = 9 then iS9 else if k = 10 then iS10 else if k = 11 then iS11 else iS12, ?_⟩
    intro k q hq
    match k, hq with
    | 0, hq => cases hq; exact hKn0
    | 1, hq => cases hq; exact hKn1
    | 2, hq => cases hq; exact hKn2
    | 3, hq => cases hq; exact hKn3
    | 4, hq => cases hq; exact hKn4
    | 5, hq => cases hq; exact hKn5
    | 6, hq => cases hq; exact hKn6
    | 7, hq => cases hq; exact hKn7
    | 8, hq => cases hq; exact hKn8
    | 9, hq => cases hq; exact hKn9
    | 10, hq => cases hq; exact hKn10
    | 11, hq => cases hq; exact hKn11
    | 12, hq => cases hq; exact hKn12
    | k + 13, hq => simp [vwCl] at hq
  have hS : va_S A s.heap s.heap [] := va_S.rf
  have hK : va_K (dC, dI) vwCl [] s := ⟨hKc, fun k q h => by simp at h⟩
  have hP : va_P (dC, dI) vwCl [] s.heap := fun k q h => by simp at h
  have hD : va_D A [] := ⟨fun i j p q h => by simp at h, fun k q h => by simp at h⟩
  have hl := lv_entry ([.ref b]) (n := 4) (Nat.le_of_ble_eq_true rfl)
  rw [lg_entry_eq]
  generalize (lg_sl ([.ref b]) ++ List.replicate (4 - (lg_sl ([.ref b])).length) Slot.unset).toArray = ls at hl ⊢
  have hl : lv_has ls 4 [(0, .ref b)] := hl
  refine va_new (ci := 11) (fs := [.null, .null, .null, .null, .null, .null, .null, .null, .null, .null, .null, .int 0]) (C := RX11) (T := TX11) (N := 12) hx hb hts (fun w h => (tu_X11 w h).1) tyX11 tyX11_ok hown (hts (.classLink RL 7 RX11) tw_789.1) (hts (.instantiable RX11 12) tw_787.1) (hts (.initialized RX11) tw_324.1) hK hP hD hS hA rfl (fun j hj => by match j, hj with | 0, _ => rfl | 1, _ => rfl | 2, _ => rfl | 3, _ => rfl | 4, _ => rfl | 5, _ => rfl | 6, _ => rfl | 7, _ => rfl | 8, _ => rfl | 9, _ => rfl | 10, _ => rfl | 11, _ => rfl | (j9 + 12), h => exact absurd h (by omega)) (Nat.le_of_ble_eq_true rfl) (Nat.le_of_ble_eq_true rfl) dL_law_0 (fun q_1 H hP hD hS => ?_)
  have hP : va_P (dC, dI) vwCl [(q_1, .inr (11, [.null, .null, .null, .null, .null, .null, .null, .null, .null, .null, .null, .int 0]))] H := hP
  have hD : va_D A [(q_1, .inr (11, [.null, .null, .null, .null, .null, .null, .null, .null, .null, .null, .null, .int 0]))] := hD
  refine W.widen (k := 1) (n := 12) (Nat.le_of_ble_eq_true rfl) (Nat.le_of_ble_eq_true rfl) ?_
  refine lv_dup hx hb dL_law_3 rfl ?_
  have hPc := hP.sub (ws' := [(q_1, .inr (11, [.null, .null, .null, .null, .null, .null, .null, .null, .null, .null, .null, .int 0]))]) [0] rfl
  have hDc := hD.sub (ws' := [(q_1, .inr (11, [.null, .null, .null, .null, .null, .null, .null, .null, .null, .null, .null, .int 0]))]) [0] (by decide) rfl
  have hKc := hK.sub (tys' := []) [] rfl
  have hFc := va_free (wc := [(q_1, .inr (11, [.null, .null, .null, .null, .null, .null, .null, .null, .null, .null, .null, .int 0]))]) hD hS hA [0] rfl
  refine va_callv (va_runI (As := []) (rest := [.ref q_1]) ⟨hx, hb, hml, hown, hts⟩ (c_X11_init l dC dI q_1 H.size) (cwI 0 hts tb_c_X11_init rfl rfl rfl (hts (.initialized RX11) tw_324.1) (hts (.methodLink RL 9 yX11_init) tw_790.1) (hts (.instanceMethod yX11_init) tw_791.1) rfl (by decide +kernel) ⟨Nat.le_of_ble_eq_true rfl, Nat.le_of_ble_eq_true rfl⟩) ⟨fun a U g mk q => by obtain ⟨q0, q1, qP, qK, qD, qE0, qE1, qE2, qE3, qE4, qE5, qE6, qE7, qE8, qE9, qE10⟩ := q; exact ⟨q0, q1, qP, va_K.moved (u := U) (U := U.calling g mk a) (Vm.Alike.refl U.vm) qK, qD, va_Nw.same (u := U) rfl rfl qE0, va_Nw.same (u := U) rfl rfl qE1, va_Nw.same (u := U) rfl rfl qE2, va_Nw.same (u := U) rfl rfl qE3, va_Nw.same (u := U) rfl rfl qE4, va_AO.moved (u := U) (U := U.calling g mk a) (Vm.Alike.refl U.vm) qE5, va_AO.moved (u := U) (U := U.calling g mk a) (Vm.Alike.refl U.vm) qE6, va_Nw.same (u := U) rfl rfl qE7, va_Nw.same (u := U) rfl rfl qE8, va_Nw.same (u := U) rfl rfl qE9, va_Nw.same (u := U) rfl rfl qE10⟩, fun U hU hW => ⟨rfl, by rw [hU], by rw [hU]; exact hPc, va_K.moved hW.alike hKc, hDc.weaken (fun _ _ _ _ => trivial), va_Nw.warmM hW hE0, va_Nw.warmM hW hE1, va_Nw.warmM hW hE2, va_Nw.warmM hW hE3, va_Nw.warmM hW hE4, va_AO.moved hW.alike hE5, va_AO.moved hW.alike hE6, va_Nw.warmM hW hE7, va_Nw.warmM hW hE8, va_Nw.warmM hW hE9, va_Nw.warmM hW hE10⟩⟩ rfl rfl hl.1 rfl (lv_room (Nat.le_of_ble_eq_true rfl)) dL_law_4 ⟨Nat.le_of_ble_eq_true rfl, Nat.le_of_ble_eq_true rfl⟩) hS (fun q _ h => hFc q h) hFc (fun u t H1 locs ht hvm hw hB hz1 hk1 hS => ?_)
  obtain ⟨te_2, ta_3, re_4, no_5, pa_6, ac_7, op_8, im_9, ik_10, hi_11, rf_12, tb_13, nt_14, nl_15, ns_16, np_17, nr_18, t_19, sc_20, lg_21, sp_22, pt_23, pl_24, ps_25, pp_26, pr_27, i_28, it_29, il_30, is_31, ip_32, ir_33, i_34, it_35, il_36, is_37, ip_38, ir_39, hbf_40, hac_41, b_42, bt_43, bl_44, bs_45, bp_46, br_47, rc_48, cb_49, ct_50, cl_51, cl_52, cs_53, cl_54, cl_55, cz_56, cs_57, ci_58, cl_59, ci_60, fn_61, fm_62, fb_63, k_64, k_65, k_66, k_67, hP1, hK1, hD1⟩ := hB
  rw [ht] at hP1
  have hK1 := va_K.moved hvm.symm hK1
  obtain ⟨hP, hD⟩ := va_join (wr := []) (w1 := [(q_1, .inr (11, [.ref te_2, .ref ta_3, .ref re_4, .ref no_5, .ref pa_6, .ref ac_7, .ref op_8, .ref im_9, .ref ik_10, .ref hi_11, .ref rf_12, .int (-1)])), (te_2, .inr (9, [.int 0, .int 1, .int 1])), (ta_3, .inr (7, [.ref tb_13, .int 0])), (tb_13, .inl (cb_49, 200, .inl (fun _ => 0))), (no_5, .inr (6, [.ref te_2, .ref nt_14, .ref nl_15, .ref ns_16, .ref np_17, .int 0, .int 0, .long 0, .int (-1), .int (-1)])), (nt_14, .inl (ct_50, 12, .inr (.inr (.inr (.inr fn_61))))), (nl_15, .inr (2, [.ref nr_18])), (nr_18, .inl (cl_51, 128, .inr (.inl (fun _ => 0)))), (ns_16, .inr (10, [.long 0, .long 0])), (np_17, .inr (10, [.long 0, .long 0])), (t_19, .inr (8, [.int 0, .ref sc_20, .int 0, .int 0, .int 0, .long 0, .int 0, .ref lg_21, .int 0, .int 0, .int 0, .int 0, .int 0, .int 0, .int 0, .int 0, .int 0, .int 0])), (sc_20, .inr (5, [.ref sp_22, .int 0, .int 0, .int 0, .int 0])), (lg_21, .inr (10, [.long 0, .long 0])), (pa_6, .inr (6, [.ref te_2, .ref pt_23, .ref pl_24, .ref ps_25, .ref pp_26, .int 0, .int 0, .long 0, .int (-1), .int (-1)])), (pl_24, .inr (2, [.ref pr_27])), (pr_27, .inl (cl_52, 128, .inr (.inl (fun _ => 0)))), (ps_25, .inr (10, [.long 0, .long 0])), (ac_7, .inr (0, [.ref te_2, .int 0, .long 0])), (op_8, .inr (0, [.ref te_2, .int 0, .long 0])), (im_9, .inl (cs_53, 2, .inr (.inr (.inr (.inr fm_62))))), (i_28, .inr (6, [.ref te_2, .ref it_29, .ref il_30, .ref is_31, .ref ip_32, .int 0, .int 0, .long 0, .int (-1), .int (-1)])), (il_30, .inr (2, [.ref ir_33])), (ir_33, .inl (cl_54, 128, .inr (.inl (fun _ => 0)))), (i_34, .inr (6, [.ref te_2, .ref it_35, .ref il_36, .ref is_37, .ref ip_38, .int 0, .int 0, .long 0, .int (-1), .int (-1)])), (il_36, .inr (2, [.ref ir_39])), (ir_39, .inl (cl_55, 128, .inr (.inl (fun _ => 0)))), (ik_10, .inl (cz_56, 2, .inl (fun _ => 0))), (hi_11, .inr (1, [.ref hbf_40, .ref hac_41, .int 0, .int 0])), (hbf_40, .inl (cs_57, 10, .inr (.inr (.inr (.inr fb_63))))), (hac_41, .inl (ci_58, 10, .inl (fun _ => 0))), (b_42, .inr (6, [.ref te_2, .ref bt_43, .ref bl_44, .ref bs_45, .ref bp_46, .int 0, .int 0, .long 0, .int (-1), .int (-1)])), (bl_44, .inr (2, [.ref br_47])), (br_47, .inl (cl_59, 128, .inr (.inl (fun _ => 0)))), (rf_12, .inr (4, [.ref rc_48, .int 0])), (rc_48, .inl (ci_60, 5, .inl (fun _ => 0)))]) hP hD [0] [] rfl rfl (by decide) (by decide) hk1 hFc hP1 hD1
  have hK := hK.app hK1
  have hK : va_K (dC, dI) vwCl [(cb_49, .byte), (ct_50, .object "DeadlineShare$Task"), (cl_51, .long), (cl_52, .long), (cs_53, .object "DeadlineShare$State"), (cl_54, .long), (cl_55, .long), (cz_56, .boolean), (cs_57, .object "DeadlineShare$State"), (ci_58, .int), (cl_59, .long), (ci_60, .int)] s := hK
  generalize H1 = H at hP hS ⊢
  have hP : va_P (dC, dI) vwCl [(q_1, .inr (11, [.ref te_2, .ref ta_3, .ref re_4, .ref no_5, .ref pa_6, .ref ac_7, .ref op_8, .ref im_9, .ref ik_10, .ref hi_11, .ref rf_12, .int (-1)])), (te_2, .inr (9, [.int 0, .int 1, .int 1])), (ta_3, .inr (7, [.ref tb_13, .int 0])), (tb_13, .inl (cb_49, 200, .inl (fun _ => 0))), (no_5, .inr (6, [.ref te_2, .ref nt_14, .ref nl_15, .ref ns_16, .ref np_17, .int 0, .int 0, .long 0, .int (-1), .int (-1)])), (nt_14, .inl (ct_50, 12, .inr (.inr (.inr (.inr fn_61))))), (nl_15, .inr (2, [.ref nr_18])), (nr_18, .inl (cl_51, 128, .inr (.inl (fun _ => 0)))), (ns_16, .inr (10, [.long 0, .long 0])), (np_17, .inr (10, [.long 0, .long 0])), (t_19, .inr (8, [.int 0, .ref sc_20, .int 0, .int 0, .int 0, .long 0, .int 0, .ref lg_21, .int 0, .int 0, .int 0, .int 0, .int 0, .int 0, .int 0, .int 0, .int 0, .int 0])), (sc_20, .inr (5, [.ref sp_22, .int 0, .int 0, .int 0, .int 0])), (lg_21, .inr (10, [.long 0, .long 0])), (pa_6, .inr (6, [.ref te_2, .ref pt_23, .ref pl_24, .ref ps_25, .ref pp_26, .int 0, .int 0, .long 0, .int (-1), .int (-1)])), (pl_24, .inr (2, [.ref pr_27])), (pr_27, .inl (cl_52, 128, .inr (.inl (fun _ => 0)))), (ps_25, .inr (10, [.long 0, .long 0])), (ac_7, .inr (0, [.ref te_2, .int 0, .long 0])), (op_8, .inr (0, [.ref te_2, .int 0, .long 0])), (im_9, .inl (cs_53, 2, .inr (.inr (.inr (.inr fm_62))))), (i_28, .inr (6, [.ref te_2, .ref it_29, .ref il_30, .ref is_31, .ref ip_32, .int 0, .int 0, .long 0, .int (-1), .int (-1)])), (il_30, .inr (2, [.ref ir_33])), (ir_33, .inl (cl_54, 128, .inr (.inl (fun _ => 0)))), (i_34, .inr (6, [.ref te_2, .ref it_35, .ref il_36, .ref is_37, .ref ip_38, .int 0, .int 0, .long 0, .int (-1), .int (-1)])), (il_36, .inr (2, [.ref ir_39])), (ir_39, .inl (cl_55, 128, .inr (.inl (fun _ => 0)))), (ik_10, .inl (cz_56, 2, .inl (fun _ => 0))), (hi_11, .inr (1, [.ref hbf_40, .ref hac_41, .int 0, .int 0])), (hbf_40, .inl (cs_57, 10, .inr (.inr (.inr (.inr fb_63))))), (hac_41, .inl (ci_58, 10, .inl (fun _ => 0))), (b_42, .inr (6, [.ref te_2, .ref bt_43, .ref bl_44, .ref bs_45, .ref bp_46, .int 0, .int 0, .long 0, .int (-1), .int (-1)])), (bl_44, .inr (2, [.ref br_47])), (br_47, .inl (cl_59, 128, .inr (.inl (fun _ => 0)))), (rf_12, .inr (4, [.ref rc_48, .int 0])), (rc_48, .inl (ci_60, 5, .inl (fun _ => 0)))] H := hP
  have hD : va_D A [(q_1, .inr (11, [.ref te_2, .ref ta_3, .ref re_4, .ref no_5, .ref pa_6, .ref ac_7, .ref op_8, .ref im_9, .ref ik_10, .ref hi_11, .ref rf_12, .int (-1)])), (te_2, .inr (9, [.int 0, .int 1, .int 1])), (ta_3, .inr (7, [.ref tb_13, .int 0])), (tb_13, .inl (cb_49, 200, .inl (fun _ => 0))), (no_5, .inr (6, [.ref te_2, .ref nt_14, .ref nl_15, .ref ns_16, .ref np_17, .int 0, .int 0, .long 0, .int (-1), .int (-1)])), (nt_14, .inl (ct_50, 12, .inr (.inr (.inr (.inr fn_61))))), (nl_15, .inr (2, [.ref nr_18])), (nr_18, .inl (cl_51, 128, .inr (.inl (fun _ => 0)))), (ns_16, .inr (10, [.long 0, .long 0])), (np_17, .inr (10, [.long 0, .long 0])), (t_19, .inr (8, [.int 0, .ref sc_20, .int 0, .int 0, .int 0, .long 0, .int 0, .ref lg_21, .int 0, .int 0, .int 0, .int 0, .int 0, .int 0, .int 0, .int 0, .int 0, .int 0])), (sc_20, .inr (5, [.ref sp_22, .int 0, .int 0, .int 0, .int 0])), (lg_21, .inr (10, [.long 0, .long 0])), (pa_6, .inr (6, [.ref te_2, .ref pt_23, .ref pl_24, .ref ps_25, .ref pp_26, .int 0, .int 0, .long 0, .int (-1), .int (-1)])), (pl_24, .inr (2, [.ref pr_27])), (pr_27, .inl (cl_52, 128, .inr (.inl (fun _ => 0)))), (ps_25, .inr (10, [.long 0, .long 0])), (ac_7, .inr (0, [.ref te_2, .int 0, .long 0])), (op_8, .inr (0, [.ref te_2, .int 0, .long 0])), (im_9, .inl (cs_53, 2, .inr (.inr (.inr (.inr fm_62))))), (i_28, .inr (6, [.ref te_2, .ref it_29, .ref il_30, .ref is_31, .ref ip_32, .int 0, .int 0, .long 0, .int (-1), .int (-1)])), (il_30, .inr (2, [.ref ir_33])), (ir_33, .inl (cl_54, 128, .inr (.inl (fun _ => 0)))), (i_34, .inr (6, [.ref te_2, .ref it_35, .ref il_36, .ref is_37, .ref ip_38, .int 0, .int 0, .long 0, .int (-1), .int (-1)])), (il_36, .inr (2, [.ref ir_39])), (ir_39, .inl (cl_55, 128, .inr (.inl (fun _ => 0)))), (ik_10, .inl (cz_56, 2, .inl (fun _ => 0))), (hi_11, .inr (1, [.ref hbf_40, .ref hac_41, .int 0, .int 0])), (hbf_40, .inl (cs_57, 10, .inr (.inr (.inr (.inr fb_63))))), (hac_41, .inl (ci_58, 10, .inl (fun _ => 0))), (b_42, .inr (6, [.ref te_2, .ref bt_43, .ref bl_44, .ref bs_45, .ref bp_46, .int 0, .int 0, .long 0, .int (-1), .int (-1)])), (bl_44, .inr (2, [.ref br_47])), (br_47, .inl (cl_59, 128, .inr (.inl (fun _ => 0)))), (rf_12, .inr (4, [.ref rc_48, .int 0])), (rc_48, .inl (ci_60, 5, .inl (fun _ => 0)))] := hD
  refine W.widen (k := 772) (n := 7987) (Nat.le_of_ble_eq_true rfl) (Nat.le_of_ble_eq_true rfl) ?_
  refine lv_astore_n (lv' := [(1, .ref q_1), (0, .ref b)]) hx hb dL_law_7 rfl hl (by decide) rfl (fun ls hl => ?_)
  refine va_new (ci := 12) (fs := [.int 0, .int 0, .null, .null, .null, .null, .null, .null, .null, .null, .int 0, .null, .int 0, .int 0, .int 0, .int 0, .long 0, .int 0, .int 0, .null, .null, .null, .null, .int 0, .long 0, .long 0, .long 0]) (C := RX12) (T := TX12) (N := 27) hx hb hts (fun w h => (tu_X12 w h).1) tyX12 tyX12_ok hown (hts (.classLink RL 10 RX12) tw_792.1) (hts (.instantiable RX12 27) tw_788.1) (hts (.initialized RX12) tw_435.1) hK hP hD hS hA rfl (fun j hj => by match j, hj with | 0, _ => rfl | 1, _ => rfl | 2, _ => rfl | 3, _ => rfl | 4, _ => rfl | 5, _ => rfl | 6, _ => rfl | 7, _ => rfl | 8, _ => rfl | 9, _ => rfl | 10, _ => rfl | 11, _ => rfl | 12, _ => rfl | 13, _ => rfl | 14, _ => rfl | 15, _ => rfl | 16, _ => rfl | 17, _ => rfl | 18, _ => rfl | 19, _ => rfl | 20, _ => rfl | 21, _ => rfl | 22, _ => rfl | 23, _ => rfl | 24, _ => rfl | 25, _ => rfl | 26, _ => rfl | (j9 + 27), h => exact absurd h (by omega)) (Nat.le_of_ble_eq_true rfl) (Nat.le_of_ble_eq_true rfl) dL_law_8 (fun q_68 H hP hD hS => ?_)
  have hP : va_P (dC, dI) vwCl [(q_1, .inr (11, [.ref te_2, .ref ta_3, .ref re_4, .ref no_5, .ref pa_6, .ref ac_7, .ref op_8, .ref im_9, .ref ik_10, .ref hi_11, .ref rf_12, .int (-1)])), (te_2, .inr (9, [.int 0, .int 1, .int 1])), (ta_3, .inr (7, [.ref tb_13, .int 0])), (tb_13, .inl (cb_49, 200, .inl (fun _ => 0))), (no_5, .inr (6, [.ref te_2, .ref nt_14, .ref nl_15, .ref ns_16, .ref np_17, .int 0, .int 0, .long 0, .int (-1), .int (-1)])), (nt_14, .inl (ct_50, 12, .inr (.inr (.inr (.inr fn_61))))), (nl_15, .inr (2, [.ref nr_18])), (nr_18, .inl (cl_51, 128, .inr (.inl (fun _ => 0)))), (ns_16, .inr (10, [.long 0, .long 0])), (np_17, .inr (10, [.long 0, .long 0])), (t_19, .inr (8, [.int 0, .ref sc_20, .int 0, .int 0, .int 0, .long 0, .int 0, .ref lg_21, .int 0, .int 0, .int 0, .int 0, .int 0, .int 0, .int 0, .int 0, .int 0, .int 0])), (sc_20, .inr (5, [.ref sp_22, .int 0, .int 0, .int 0, .int 0])), (lg_21, .inr (10, [.long 0, .long 0])), (pa_6, .inr (6, [.ref te_2, .ref pt_23, .ref pl_24, .ref ps_25, .ref pp_26, .int 0, .int 0, .long 0, .int (-1), .int (-1)])), (pl_24, .inr (2, [.ref pr_27])), (pr_27, .inl (cl_52, 128, .inr (.inl (fun _ => 0)))), (ps_25, .inr (10, [.long 0, .long 0])), (ac_7, .inr (0, [.ref te_2, .int 0, .long 0])), (op_8, .inr (0, [.ref te_2, .int 0, .long 0])), (im_9, .inl (cs_53, 2, .inr (.inr (.inr (.inr fm_62))))), (i_28, .inr (6, [.ref te_2, .ref it_29, .ref il_30, .ref is_31, .ref ip_32, .int 0, .int 0, .long 0, .int (-1), .int (-1)])), (il_30, .inr (2, [.ref ir_33])), (ir_33, .inl (cl_54, 128, .inr (.inl (fun _ => 0)))), (i_34, .inr (6, [.ref te_2, .ref it_35, .ref il_36, .ref is_37, .ref ip_38, .int 0, .int 0, .long 0, .int (-1), .int (-1)])), (il_36, .inr (2, [.ref ir_39])), (ir_39, .inl (cl_55, 128, .inr (.inl (fun _ => 0)))), (ik_10, .inl (cz_56, 2, .inl (fun _ => 0))), (hi_11, .inr (1, [.ref hbf_40, .ref hac_41, .int 0, .int 0])), (hbf_40, .inl (cs_57, 10, .inr (.inr (.inr (.inr fb_63))))), (hac_41, .inl (ci_58, 10, .inl (fun _ => 0))), (b_42, .inr (6, [.ref te_2, .ref bt_43, .ref bl_44, .ref bs_45, .ref bp_46, .int 0, .int 0, .long 0, .int (-1), .int (-1)])), (bl_44, .inr (2, [.ref br_47])), (br_47, .inl (cl_59, 128, .inr (.inl (fun _ => 0)))), (rf_12, .inr (4, [.ref rc_48, .int 0])), (rc_48, .inl (ci_60, 5, .inl (fun _ => 0))), (q_68, .inr (12, [.int 0, .int 0, .null, .null, .null, .null, .null, .null, .null, .null, .int 0, .null, .int 0, .int 0, .int 0, .int 0, .long 0, .int 0, .int 0, .null, .null, .null, .null, .int 0, .long 0, .long 0, .long 0]))] H := hP
  have hD : va_D A [(q_1, .inr (11, [.ref te_2, .ref ta_3, .ref re_4, .ref no_5, .ref pa_6, .ref ac_7, .ref op_8, .ref im_9, .ref ik_10, .ref hi_11, .ref rf_12, .int (-1)])), (te_2, .inr (9, [.int 0, .int 1, .int 1])), (ta_3, .inr (7, [.ref tb_13, .int 0])), (tb_13, .inl (cb_49, 200, .inl (fun _ => 0))), (no_5, .inr (6, [.ref te_2, .ref nt_14, .ref nl_15, .ref ns_16, .ref np_17, .int 0, .int 0, .long 0, .int (-1), .int (-1)])), (nt_14, .inl (ct_50, 12, .inr (.inr (.inr (.inr fn_61))))), (nl_15, .inr (2, [.ref nr_18])), (nr_18, .inl (cl_51, 128, .inr (.inl (fun _ => 0)))), (ns_16, .inr (10, [.long 0, .long 0])), (np_17, .inr (10, [.long 0, .long 0])), (t_19, .inr (8, [.int 0, .ref sc_20, .int 0, .int 0, .int 0, .long 0, .int 0, .ref lg_21, .int 0, .int 0, .int 0, .int 0, .int 0, .int 0, .int 0, .int 0, .int 0, .int 0])), (sc_20, .inr (5, [.ref sp_22, .int 0, .int 0, .int 0, .int 0])), (lg_21, .inr (10, [.long 0, .long 0])), (pa_6, .inr (6, [.ref te_2, .ref pt_23, .ref pl_24, .ref ps_25, .ref pp_26, .int 0, .int 0, .long 0, .int (-1), .int (-1)])), (pl_24, .inr (2, [.ref pr_27])), (pr_27, .inl (cl_52, 128, .inr (.inl (fun _ => 0)))), (ps_25, .inr (10, [.long 0, .long 0])), (ac_7, .inr (0, [.ref te_2, .int 0, .long 0])), (op_8, .inr (0, [.ref te_2, .int 0, .long 0])), (im_9, .inl (cs_53, 2, .inr (.inr (.inr (.inr fm_62))))), (i_28, .inr (6, [.ref te_2, .ref it_29, .ref il_30, .ref is_31, .ref ip_32, .int 0, .int 0, .long 0, .int (-1), .int (-1)])), (il_30, .inr (2, [.ref ir_33])), (ir_33, .inl (cl_54, 128, .inr (.inl (fun _ => 0)))), (i_34, .inr (6, [.ref te_2, .ref it_35, .ref il_36, .ref is_37, .ref ip_38, .int 0, .int 0, .long 0, .int (-1), .int (-1)])), (il_36, .inr (2, [.ref ir_39])), (ir_39, .inl (cl_55, 128, .inr (.inl (fun _ => 0)))), (ik_10, .inl (cz_56, 2, .inl (fun _ => 0))), (hi_11, .inr (1, [.ref hbf_40, .ref hac_41, .int 0, .int 0])), (hbf_40, .inl (cs_57, 10, .inr (.inr (.inr (.inr fb_63))))), (hac_41, .inl (ci_58, 10, .inl (fun _ => 0))), (b_42, .inr (6, [.ref te_2, .ref bt_43, .ref bl_44, .ref bs_45, .ref bp_46, .int 0, .int 0, .long 0, .int (-1), .int (-1)])), (bl_44, .inr (2, [.ref br_47])), (br_47, .inl (cl_59, 128, .inr (.inl (fun _ => 0)))), (rf_12, .inr (4, [.ref rc_48, .int 0])), (rc_48, .inl (ci_60, 5, .inl (fun _ => 0))), (q_68, .inr (12, [.int 0, .int 0, .null, .null, .null, .null, .null, .null, .null, .null, .int 0, .null, .int 0, .int 0, .int 0, .int 0, .long 0, .int 0, .int 0, .null, .null, .null, .null, .int 0, .long 0, .long 0, .long 0]))] := hD
  refine W.widen (k := 773) (n := 8014) (Nat.le_of_ble_eq_true rfl) (Nat.le_of_ble_eq_true rfl) ?_
  refine lv_dup hx hb dL_law_11 rfl ?_
  have hPc := hP.sub (ws' := [(q_68, .inr (12, [.int 0, .int 0, .null, .null, .null, .null, .null, .null, .null, .null, .int 0, .null, .int 0, .int 0, .int 0, .int 0, .long 0, .int 0, .int 0, .null, .null, .null, .null, .int 0, .long 0, .long 0, .long 0]))]) [35] rfl
  have hDc := hD.sub (ws' := [(q_68, .inr (12, [.int 0, .int 0, .null, .null, .null, .null, .null, .null, .null, .null, .int 0, .null, .int 0, .int 0, .int 0, .int 0, .long 0, .int 0, .int 0, .null, .null, .null, .null, .int 0, .long 0, .long 0, .long 0]))]) [35] (by decide) rfl
  have hKc := hK.sub (tys' := []) [] rfl
  have hFc := va_free (wc := [(q_68, .inr (12, [.int 0, .int 0, .null, .null, .null, .null, .null, .null, .null, .null, .int 0, .null, .int 0, .int 0, .int 0, .int 0, .long 0, .int 0, .int 0, .null, .null, .null, .null, .int 0, .long 0, .long 0, .long 0]))]) hD hS hA [35] rfl
  refine va_callv (va_runI (As := []) (rest := [.ref q_68]) ⟨hx, hb, hml, hown, hts⟩ (c_X12_init l dC dI q_68 H.size) (cwI 0 hts tb_c_X12_init rfl rfl rfl (hts (.initialized RX12) tw_435.1) (hts (.methodLink RL 12 yX12_init) tw_793.1) (hts (.instanceMethod yX12_init) tw_794.1) rfl (by decide +kernel) ⟨Nat.le_of_ble_eq_true rfl, Nat.le_of_ble_eq_true rfl⟩) ⟨fun a U g mk q => by obtain ⟨q0, q1, qP, qK, qD⟩ := q; exact ⟨q0, q1, qP, va_K.moved (u := U) (U := U.calling g mk a) (Vm.Alike.refl U.vm) qK, qD⟩, fun U hU hW => ⟨rfl, by rw [hU], by rw [hU]; exact hPc, va_K.moved hW.alike hKc, hDc.weaken (fun _ _ _ _ => trivial)⟩⟩ rfl rfl hl.1 rfl (lv_room (Nat.le_of_ble_eq_true rfl)) dL_law_12 ⟨Nat.le_of_ble_eq_true rfl, Nat.le_of_ble_eq_true rfl⟩) hS (fun q _ h => hFc q h) hFc (fun u t H1 locs ht hvm hw hB hz1 hk1 hS => ?_)
  obtain ⟨mr_69, mt_70, mw_71, mu_72, mp_73, mi_74, mk_75, ms_76, mv_77, m1w_78, m2w_79, m3w_80, m4w_81, cm_82, cm_83, cm_84, cm_85, cm_86, cm_87, cm_88, cm_89, cm_90, ft_91, fw_92, k_93, k_94, k_95, k_96, k_97, k_98, k_99, k_100, k_101, hP1, hK1, hD1⟩ := hB
  rw [ht] at hP1
  have hK1 := va_K.moved hvm.symm hK1
  obtain ⟨hP, hD⟩ := va_join (wr := [(q_1, .inr (11, [.ref te_2, .ref ta_3, .ref re_4, .ref no_5, .ref pa_6, .ref ac_7, .ref op_8, .ref im_9, .ref ik_10, .ref hi_11, .ref rf_12, .int (-1)])), (te_2, .inr (9, [.int 0, .int 1, .int 1])), (ta_3, .inr (7, [.ref tb_13, .int 0])), (tb_13, .inl (cb_49, 200, .inl (fun _ => 0))), (no_5, .inr (6, [.ref te_2, .ref nt_14, .ref nl_15, .ref ns_16, .ref np_17, .int 0, .int 0, .long 0, .int (-1), .int (-1)])), (nt_14, .inl (ct_50, 12, .inr (.inr (.inr (.inr fn_61))))), (nl_15, .inr (2, [.ref nr_18])), (nr_18, .inl (cl_51, 128, .inr (.inl (fun _ => 0)))), (ns_16, .inr (10, [.long 0, .long 0])), (np_17, .inr (10, [.long 0, .long 0])), (t_19, .inr (8, [.int 0, .ref sc_20, .int 0, .int 0, .int 0, .long 0, .int 0, .ref lg_21, .int 0, .int 0, .int 0, .int 0, .int 0, .int 0, .int 0, .int 0, .int 0, .int 0])), (sc_20, .inr (5, [.ref sp_22, .int 0, .int 0, .int 0, .int 0])), (lg_21, .inr (10, [.long 0, .long 0])), (pa_6, .inr (6, [.ref te_2, .ref pt_23, .ref pl_24, .ref ps_25, .ref pp_26, .int 0, .int 0, .long 0, .int (-1), .int (-1)])), (pl_24, .inr (2, [.ref pr_27])), (pr_27, .inl (cl_52, 128, .inr (.inl (fun _ => 0)))), (ps_25, .inr (10, [.long 0, .long 0])), (ac_7, .inr (0, [.ref te_2, .int 0, .long 0])), (op_8, .inr (0, [.ref te_2, .int 0, .long 0])), (im_9, .inl (cs_53, 2, .inr (.inr (.inr (.inr fm_62))))), (i_28, .inr (6, [.ref te_2, .ref it_29, .ref il_30, .ref is_31, .ref ip_32, .int 0, .int 0, .long 0, .int (-1), .int (-1)])), (il_30, .inr (2, [.ref ir_33])), (ir_33, .inl (cl_54, 128, .inr (.inl (fun _ => 0)))), (i_34, .inr (6, [.ref te_2, .ref it_35, .ref il_36, .ref is_37, .ref ip_38, .int 0, .int 0, .long 0, .int (-1), .int (-1)])), (il_36, .inr (2, [.ref ir_39])), (ir_39, .inl (cl_55, 128, .inr (.inl (fun _ => 0)))), (ik_10, .inl (cz_56, 2, .inl (fun _ => 0))), (hi_11, .inr (1, [.ref hbf_40, .ref hac_41, .int 0, .int 0])), (hbf_40, .inl (cs_57, 10, .inr (.inr (.inr (.inr fb_63))))), (hac_41, .inl (ci_58, 10, .inl (fun _ => 0))), (b_42, .inr (6, [.ref te_2, .ref bt_43, .ref bl_44, .ref bs_45, .ref bp_46, .int 0, .int 0, .long 0, .int (-1), .int (-1)])), (bl_44, .inr (2, [.ref br_47])), (br_47, .inl (cl_59, 128, .inr (.inl (fun _ => 0)))), (rf_12, .inr (4, [.ref rc_48, .int 0])), (rc_48, .inl (ci_60, 5, .inl (fun _ => 0)))]) (w1 := [(q_68, .inr (12, [.int 0, .int 0, .ref mr_69, .ref mt_70, .ref mw_71, .ref mu_72, .ref mp_73, .ref mi_74, .ref mk_75, .ref ms_76, .int 0, .ref mv_77, .int 0, .int 0, .int 0, .int 0, .long 0, .int (-1), .int 0, .ref m1w_78, .ref m2w_79, .ref m3w_80, .ref m4w_81, .int 0, .long 0, .long 0, .long 0])), (mr_69, .inl (cm_82, 7, .inl (fun _ => 0))), (mt_70, .inl (cm_83, 3, .inl ft_91)), (mw_71, .inl (cm_84, 906, .inr (.inl fw_92))), (mu_72, .inl (cm_85, 9060, .inr (.inl (fun _ => 0)))), (mp_73, .inl (cm_86, 906, .inr (.inl (fun _ => 0)))), (mi_74, .inl (cm_87, 1812, .inr (.inl (fun _ => 0)))), (mk_75, .inl (cm_88, 2, .inl (fun _ => 0))), (ms_76, .inl (cm_89, 10, .inl (fun _ => 0))), (mv_77, .inl (cm_90, 200, .inl (fun _ => 0)))]) hP hD [35] [0, 1, 2, 3, 4, 5, 6, 7, 8, 9, 10, 11, 12, 13, 14, 15, 16, 17, 18, 19, 20, 21, 22, 23, 24, 25, 26, 27, 28, 29, 30, 31, 32, 33, 34] rfl rfl (by decide) (by decide) hk1 hFc hP1 hD1
  have hK := hK.app hK1
  have hK : va_K (dC, dI) vwCl [(cb_49, .byte), (ct_50, .object "DeadlineShare$Task"), (cl_51, .long), (cl_52, .long), (cs_53, .object "DeadlineShare$State"), (cl_54, .long), (cl_55, .long), (cz_56, .boolean), (cs_57, .object "DeadlineShare$State"), (ci_58, .int), (cl_59, .long), (ci_60, .int), (cm_82, .int), (cm_83, .int), (cm_84, .long), (cm_85, .long), (cm_86, .long), (cm_87, .long), (cm_88, .boolean), (cm_89, .int), (cm_90, .int)] s := hK
  generalize H1 = H at hP hS ⊢
  have hP : va_P (dC, dI) vwCl [(q_1, .inr (11, [.ref te_2, .ref ta_3, .ref re_4, .ref no_5, .ref pa_6, .ref ac_7, .ref op_8, .ref im_9, .ref ik_10, .ref hi_11, .ref rf_12, .int (-1)])), (te_2, .inr (9, [.int 0, .int 1, .int 1])), (ta_3, .inr (7, [.ref tb_13, .int 0])), (tb_13, .inl (cb_49, 200, .inl (fun _ => 0))), (no_5, .inr (6, [.ref te_2, .ref nt_14, .ref nl_15, .ref ns_16, .ref np_17, .int 0, .int 0, .long 0, .int (-1), .int (-1)])), (nt_14, .inl (ct_50, 12, .inr (.inr (.inr (.inr fn_61))))), (nl_15, .inr (2, [.ref nr_18])), (nr_18, .inl (cl_51, 128, .inr (.inl (fun _ => 0)))), (ns_16, .inr (10, [.long 0, .long 0])), (np_17, .inr (10, [.long 0, .long 0])), (t_19, .inr (8, [.int 0, .ref sc_20, .int 0, .int 0, .int 0, .long 0, .int 0, .ref lg_21, .int 0, .int 0, .int 0, .int 0, .int 0, .int 0, .int 0, .int 0, .int 0, .int 0])), (sc_20, .inr (5, [.ref sp_22, .int 0, .int 0, .int 0, .int 0])), (lg_21, .inr (10, [.long 0, .long 0])), (pa_6, .inr (6, [.ref te_2, .ref pt_23, .ref pl_24, .ref ps_25, .ref pp_26, .int 0, .int 0, .long 0, .int (-1), .int (-1)])), (pl_24, .inr (2, [.ref pr_27])), (pr_27, .inl (cl_52, 128, .inr (.inl (fun _ => 0)))), (ps_25, .inr (10, [.long 0, .long 0])), (ac_7, .inr (0, [.ref te_2, .int 0, .long 0])), (op_8, .inr (0, [.ref te_2, .int 0, .long 0])), (im_9, .inl (cs_53, 2, .inr (.inr (.inr (.inr fm_62))))), (i_28, .inr (6, [.ref te_2, .ref it_29, .ref il_30, .ref is_31, .ref ip_32, .int 0, .int 0, .long 0, .int (-1), .int (-1)])), (il_30, .inr (2, [.ref ir_33])), (ir_33, .inl (cl_54, 128, .inr (.inl (fun _ => 0)))), (i_34, .inr (6, [.ref te_2, .ref it_35, .ref il_36, .ref is_37, .ref ip_38, .int 0, .int 0, .long 0, .int (-1), .int (-1)])), (il_36, .inr (2, [.ref ir_39])), (ir_39, .inl (cl_55, 128, .inr (.inl (fun _ => 0)))), (ik_10, .inl (cz_56, 2, .inl (fun _ => 0))), (hi_11, .inr (1, [.ref hbf_40, .ref hac_41, .int 0, .int 0])), (hbf_40, .inl (cs_57, 10, .inr (.inr (.inr (.inr fb_63))))), (hac_41, .inl (ci_58, 10, .inl (fun _ => 0))), (b_42, .inr (6, [.ref te_2, .ref bt_43, .ref bl_44, .ref bs_45, .ref bp_46, .int 0, .int 0, .long 0, .int (-1), .int (-1)])), (bl_44, .inr (2, [.ref br_47])), (br_47, .inl (cl_59, 128, .inr (.inl (fun _ => 0)))), (rf_12, .inr (4, [.ref rc_48, .int 0])), (rc_48, .inl (ci_60, 5, .inl (fun _ => 0))), (q_68, .inr (12, [.int 0, .int 0, .ref mr_69, .ref mt_70, .ref mw_71, .ref mu_72, .ref mp_73, .ref mi_74, .ref mk_75, .ref ms_76, .int 0, .ref mv_77, .int 0, .int 0, .int 0, .int 0, .long 0, .int (-1), .int 0, .ref m1w_78, .ref m2w_79, .ref m3w_80, .ref m4w_81, .int 0, .long 0, .long 0, .long 0])), (mr_69, .inl (cm_82, 7, .inl (fun _ => 0))), (mt_70, .inl (cm_83, 3, .inl ft_91)), (mw_71, .inl (cm_84, 906, .inr (.inl fw_92))), (mu_72, .inl (cm_85, 9060, .inr (.inl (fun _ => 0)))), (mp_73, .inl (cm_86, 906, .inr (.inl (fun _ => 0)))), (mi_74, .inl (cm_87, 1812, .inr (.inl (fun _ => 0)))), (mk_75, .inl (cm_88, 2, .inl (fun _ => 0))), (ms_76, .inl (cm_89, 10, .inl (fun _ => 0))), (mv_77, .inl (cm_90, 200, .inl (fun _ => 0)))] H := hP
  have hD : va_D A [(q_1, .inr (11, [.ref te_2, .ref ta_3, .ref re_4, .ref no_5, .ref pa_6, .ref ac_7, .ref op_8, .ref im_9, .ref ik_10, .ref hi_11, .ref rf_12, .int (-1)])), (te_2, .inr (9, [.int 0, .int 1, .int 1])), (ta_3, .inr (7, [.ref tb_13, .int 0])), (tb_13, .inl (cb_49, 200, .inl (fun _ => 0))), (no_5, .inr (6, [.ref te_2, .ref nt_14, .ref nl_15, .ref ns_16, .ref np_17, .int 0, .int 0, .long 0, .int (-1), .int (-1)])), (nt_14, .inl (ct_50, 12, .inr (.inr (.inr (.inr fn_61))))), (nl_15, .inr (2, [.ref nr_18])), (nr_18, .inl (cl_51, 128, .inr (.inl (fun _ => 0)))), (ns_16, .inr (10, [.long 0, .long 0])), (np_17, .inr (10, [.long 0, .long 0])), (t_19, .inr (8, [.int 0, .ref sc_20, .int 0, .int 0, .int 0, .long 0, .int 0, .ref lg_21, .int 0, .int 0, .int 0, .int 0, .int 0, .int 0, .int 0, .int 0, .int 0, .int 0])), (sc_20, .inr (5, [.ref sp_22, .int 0, .int 0, .int 0, .int 0])), (lg_21, .inr (10, [.long 0, .long 0])), (pa_6, .inr (6, [.ref te_2, .ref pt_23, .ref pl_24, .ref ps_25, .ref pp_26, .int 0, .int 0, .long 0, .int (-1), .int (-1)])), (pl_24, .inr (2, [.ref pr_27])), (pr_27, .inl (cl_52, 128, .inr (.inl (fun _ => 0)))), (ps_25, .inr (10, [.long 0, .long 0])), (ac_7, .inr (0, [.ref te_2, .int 0, .long 0])), (op_8, .inr (0, [.ref te_2, .int 0, .long 0])), (im_9, .inl (cs_53, 2, .inr (.inr (.inr (.inr fm_62))))), (i_28, .inr (6, [.ref te_2, .ref it_29, .ref il_30, .ref is_31, .ref ip_32, .int 0, .int 0, .long 0, .int (-1), .int (-1)])), (il_30, .inr (2, [.ref ir_33])), (ir_33, .inl (cl_54, 128, .inr (.inl (fun _ => 0)))), (i_34, .inr (6, [.ref te_2, .ref it_35, .ref il_36, .ref is_37, .ref ip_38, .int 0, .int 0, .long 0, .int (-1), .int (-1)])), (il_36, .inr (2, [.ref ir_39])), (ir_39, .inl (cl_55, 128, .inr (.inl (fun _ => 0)))), (ik_10, .inl (cz_56, 2, .inl (fun _ => 0))), (hi_11, .inr (1, [.ref hbf_40, .ref hac_41, .int 0, .int 0])), (hbf_40, .inl (cs_57, 10, .inr (.inr (.inr (.inr fb_63))))), (hac_41, .inl (ci_58, 10, .inl (fun _ => 0))), (b_42, .inr (6, [.ref te_2, .ref bt_43, .ref bl_44, .ref bs_45, .ref bp_46, .int 0, .int 0, .long 0, .int (-1), .int (-1)])), (bl_44, .inr (2, [.ref br_47])), (br_47, .inl (cl_59, 128, .inr (.inl (fun _ => 0)))), (rf_12, .inr (4, [.ref rc_48, .int 0])), (rc_48, .inl (ci_60, 5, .inl (fun _ => 0))), (q_68, .inr (12, [.int 0, .int 0, .ref mr_69, .ref mt_70, .ref mw_71, .ref mu_72, .ref mp_73, .ref mi_74, .ref mk_75, .ref ms_76, .int 0, .ref mv_77, .int 0, .int 0, .int 0, .int 0, .long 0, .int (-1), .int 0, .ref m1w_78, .ref m2w_79, .ref m3w_80, .ref m4w_81, .int 0, .long 0, .long 0, .long 0])), (mr_69, .inl (cm_82, 7, .inl (fun _ => 0))), (mt_70, .inl (cm_83, 3, .inl ft_91)), (mw_71, .inl (cm_84, 906, .inr (.inl fw_92))), (mu_72, .inl (cm_85, 9060, .inr (.inl (fun _ => 0)))), (mp_73, .inl (cm_86, 906, .inr (.inl (fun _ => 0)))), (mi_74, .inl (cm_87, 1812, .inr (.inl (fun _ => 0)))), (mk_75, .inl (cm_88, 2, .inl (fun _ => 0))), (ms_76, .inl (cm_89, 10, .inl (fun _ => 0))), (mv_77, .inl (cm_90, 200, .inl (fun _ => 0)))] := hD
  refine W.widen (k := 786) (n := 20946) (Nat.le_of_ble_eq_true rfl) (Nat.le_of_ble_eq_true rfl) ?_
  refine lv_astore_n (lv' := [(2, .ref q_68), (1, .ref q_1), (0, .ref b)]) hx hb dL_law_15 rfl hl (by decide) rfl (fun ls hl => ?_)
  refine lv_iconst (v := 0) hx hb dL_law_16 (by decide) ?_
  refine lv_istore_n (lv' := [(3, .int 0), (2, .ref q_68), (1, .ref q_1), (0, .ref b)]) hx hb dL_law_17 rfl hl (by decide) rfl (fun ls hl => ?_)
  have hLc : L = 0 ∨ L = 1 ∨ L = 2 ∨ L = 3 ∨ L = 4 ∨ L = 5 ∨ L = 6 := by omega
  rcases hLc with rfl | rfl | rfl | rfl | rfl | rfl | rfl
  · refine lv_iload_n hx hb dL_law_18 rfl (lv_at hl 0 rfl) ?_
    refine lv_aload_n hx hb dL_law_19 rfl (lv_at hl 3 rfl) ?_
    refine va_slen hx hb hX hbl hbA hS dL_law_20 ?_
    refine k_topi (y := 0) rfl ?_
    refine lv_bipush (v := 6) hx hb dL_law_21 (by decide) ?_
    refine lv_isub hx hb dL_law_23 ?_
    refine k_topi (y := (-6)) (by decide) ?_
    refine lv_icmp_gt (tgt := 1210) hx hb dL_law_24 (by decide) (fun _ => ?_) (fun c => absurd (by decide) c)
    refine lv_iconst (v := 1) hx hb dL_law_1210 (by decide) ?_
    refine va_forget (fun q hq => hAq _ (hS.2.2 q hq)) ?_
    refine W.widen (k := 600000) (n := 7302250) (Nat.le_of_ble_eq_true rfl) (Nat.le_of_ble_eq_true rfl) ?_
    exact lw_ret hx hb hr hlocks dL_law_1211
  · refine lv_iload_n hx hb dL_law_18 rfl (lv_at hl 0 rfl) ?_
    refine lv_aload_n hx hb dL_law_19 rfl (lv_at hl 3 rfl) ?_
    refine va_slen hx hb hX hbl hbA hS dL_law_20 ?_
    refine k_topi (y := 1) rfl ?_
    refine lv_bipush (v := 6) hx hb dL_law_21 (by decide) ?_
    refine lv_isub hx hb dL_law_23 ?_
    refine k_topi (y := (-5)) (by decide) ?_
    refine lv_icmp_gt (tgt := 1210) hx hb dL_law_24 (by decide) (fun _ => ?_) (fun c => absurd (by decide) c)
    refine lv_iconst (v := 1) hx hb dL_law_1210 (by decide) ?_
    refine va_forget (fun q hq => hAq _ (hS.2.2 q hq)) ?_
    refine W.widen (k := 600000) (n := 7302250) (Nat.le_of_ble_eq_true rfl) (Nat.le_of_ble_eq_true rfl) ?_
    exact lw_ret hx hb hr hlocks dL_law_1211
  · refine lv_iload_n hx hb dL_law_18 rfl (lv_at hl 0 rfl) ?_
    refine lv_aload_n hx hb dL_law_19 rfl (lv_at hl 3 rfl) ?_
    refine va_slen hx hb hX hbl hbA hS dL_law_20 ?_
    refine k_topi (y := 2) rfl ?_
    refine lv_bipush (v := 6) hx hb dL_law_21 (by decide) ?_
    refine lv_isub hx hb dL_law_23 ?_
    refine k_topi (y := (-4)) (by decide) ?_
    refine lv_icmp_gt (tgt := 1210) hx hb dL_law_24 (by decide) (fun _ => ?_) (fun c => absurd (by decide) c)
    refine lv_iconst (v := 1) hx hb dL_law_1210 (by decide) ?_
    refine va_forget (fun q hq => hAq _ (hS.2.2 q hq)) ?_
    refine W.widen (k := 600000) (n := 7302250) (Nat.le_of_ble_eq_true rfl) (Nat.le_of_ble_eq_true rfl) ?_
    exact lw_ret hx hb hr hlocks dL_law_1211
  · refine lv_iload_n hx hb dL_law_18 rfl (lv_at hl 0 rfl) ?_
    refine lv_aload_n hx hb dL_law_19 rfl (lv_at hl 3 rfl) ?_
    refine va_slen hx hb hX hbl hbA hS dL_law_20 ?_
    refine k_topi (y := 3) rfl ?_
    refine lv_bipush (v := 6) hx hb dL_law_21 (by decide) ?_
    refine lv_isub hx hb dL_law_23 ?_
    refine k_topi (y := (-3)) (by decide) ?_
    refine lv_icmp_gt (tgt := 1210) hx hb dL_law_24 (by decide) (fun _ => ?_) (fun c => absurd (by decide) c)
    refine lv_iconst (v := 1) hx hb dL_law_1210 (by decide) ?_
    refine va_forget (fun q hq => hAq _ (hS.2.2 q hq)) ?_
    refine W.widen (k := 600000) (n := 7302250) (Nat.le_of_ble_eq_true rfl) (Nat.le_of_ble_eq_true rfl) ?_
    exact lw_ret hx hb hr hlocks dL_law_1211
  · refine lv_iload_n hx hb dL_law_18 rfl (lv_at hl 0 rfl) ?_
    refine lv_aload_n hx hb dL_law_19 rfl (lv_at hl 3 rfl) ?_
    refine va_slen hx hb hX hbl hbA hS dL_law_20 ?_
    refine k_topi (y := 4) rfl ?_
    refine lv_bipush (v := 6) hx hb dL_law_21 (by decide) ?_
    refine lv_isub hx hb dL_law_23 ?_
    refine k_topi (y := (-2)) (by decide) ?_
    refine lv_icmp_gt (tgt := 1210) hx hb dL_law_24 (by decide) (fun _ => ?_) (fun c => absurd (by decide) c)
    refine lv_iconst (v := 1) hx hb dL_law_1210 (by decide) ?_
    refine va_forget (fun q hq => hAq _ (hS.2.2 q hq)) ?_
    refine W.widen (k := 600000) (n := 7302250) (Nat.le_of_ble_eq_true rfl) (Nat.le_of_ble_eq_true rfl) ?_
    exact lw_ret hx hb hr hlocks dL_law_1211
  · refine lv_iload_n hx hb dL_law_18 rfl (lv_at hl 0 rfl) ?_
    refine lv_aload_n hx hb dL_law_19 rfl (lv_at hl 3 rfl) ?_
    refine va_slen hx hb hX hbl hbA hS dL_law_20 ?_
    refine k_topi (y := 5) rfl ?_
    refine lv_bipush (v := 6) hx hb dL_law_21 (by decide) ?_
    refine lv_isub hx hb dL_law_23 ?_
    refine k_topi (y := (-1)) (by decide) ?_
    refine lv_icmp_gt (tgt := 1210) hx hb dL_law_24 (by decide) (fun _ => ?_) (fun c => absurd (by decide) c)
    refine lv_iconst (v := 1) hx hb dL_law_1210 (by decide) ?_
    refine va_forget (fun q hq => hAq _ (hS.2.2 q hq)) ?_
    refine W.widen (k := 600000) (n := 7302250) (Nat.le_of_ble_eq_true rfl) (Nat.le_of_ble_eq_true rfl) ?_
    exact lw_ret hx hb hr hlocks dL_law_1211
  · refine lv_iload_n hx hb dL_law_18 rfl (lv_at hl 0 rfl) ?_
    refine lv_aload_n hx hb dL_law_19 rfl (lv_at hl 3 rfl) ?_
    refine va_slen hx hb hX hbl hbA hS dL_law_20 ?_
    refine k_topi (y := 6) rfl ?_
    refine lv_bipush (v := 6) hx hb dL_law_21 (by decide) ?_
    refine lv_isub hx hb dL_law_23 ?_
    refine k_topi (y := 0) (by decide) ?_
    refine lv_icmp_gt (tgt := 1210) hx hb dL_law_24 (by decide) (fun c => absurd c (by decide)) (fun _ => ?_)
    refine lv_aload_n hx hb dL_law_27 rfl (lv_at hl 3 rfl) ?_
    refine lv_iload_n hx hb dL_law_28 rfl (lv_at hl 0 rfl) ?_
    refine va_sld hx hb hX hbl hbA hS (by unfold vp_in; decide) dL_law_29 ?_
    refine k_topi (y := xs 0) (congrArg xs (by decide)) ?_
    refine lv_bipush (v := 63) hx hb dL_law_30 (by decide) ?_
    refine lv_iand hx hb dL_law_32 ?_
    refine lv_topi (fun v_102 ev_102 => ?_)
    by_cases h_103 : v_102 = 0
    · subst h_103
      refine lv_tableIn (tgt := 192) hx hb dL_law_33 (by decide) (by decide) rfl (by decide) ?_
      exact law_terms C0 hA hbA hAq k_93 k_94 k_95 (hK.sub [11, 12, 13] rfl) (hP.sub [0, 1, 33, 34, 35, 36, 37] rfl) (hD.sub [0, 1, 33, 34, 35, 36, 37] (by decide) rfl) hS (lv_sub hl [3, 2, 1, 0] rfl)
    by_cases h_104 : v_102 = 1
    · subst h_104
      refine lv_tableIn (tgt := 225) hx hb dL_law_33 (by decide) (by decide) rfl (by decide) ?_
      exact law_feed C0 hA hbA hAq (hK.sub [0, 20] rfl) (hP.sub [0, 2, 3, 35, 44] rfl) (hD.sub [0, 2, 3, 35, 44] (by decide) rfl) hS (lv_sub hl [3, 2, 1, 0] rfl)
    by_cases h_105 : v_102 = 2
    · subst h_105
      refine lv_tableIn (tgt := 288) hx hb dL_law_33 (by decide) (by decide) rfl (by decide) ?_
      exact law_end C0 hA hbA hAq (hK.sub [] rfl) (hP.sub [0, 2, 35] rfl) (hD.sub [0, 2, 35] (by decide) rfl) hS (lv_sub hl [3, 2, 1, 0] rfl)
    by_cases h_106 : v_102 = 3
    · subst h_106
      refine lv_tableIn (tgt := 311) hx hb dL_law_33 (by decide) (by decide) rfl (by decide) ?_
      exact law_tape C0 hA hbA hAq (hK.sub [] rfl) (hP.sub [0, 2, 35] rfl) (hD.sub [0, 2, 35] (by decide) rfl) hS (lv_sub hl [3, 2, 1, 0] rfl)
    by_cases h_107 : v_102 = 4
    · subst h_107
      refine lv_tableIn (tgt := 334) hx hb dL_law_33 (by decide) (by decide) rfl (by decide) ?_
      exact law_task C0 hA hbA hAq k_64 k_67 k_96 k_97 k_98 k_99 k_100 k_101 (hK.sub [1, 2, 8, 9, 10, 11, 12, 14, 15, 19] rfl) (hP.sub [0, 4, 5, 6, 7, 10, 11, 12, 27, 28, 29, 30, 31, 32, 33, 34, 35, 36, 38, 39, 43] rfl) (hD.sub [0, 4, 5, 6, 7, 10, 11, 12, 27, 28, 29, 30, 31, 32, 33, 34, 35, 36, 38, 39, 43] (by decide) rfl) hS (lv_sub hl [3, 2, 1, 0] rfl)
    by_cases h_108 : v_102 = 5
    · subst h_108
      refine lv_tableIn (tgt := 367) hx hb dL_law_33 (by decide) (by decide) rfl (by decide) ?_
      exact law_join C0 hA hbA hAq k_96 k_97 k_98 k_99 k_100 k_101 (hK.sub [11, 12, 14] rfl) (hP.sub [0, 4, 33, 34, 35, 36, 38] rfl) (hD.sub [0, 4, 33, 34, 35, 36, 38] (by decide) rfl) hS (lv_sub hl [3, 2, 1, 0] rfl)
    by_cases h_109 : v_102 = 6
    · subst h_109
      refine lv_tableIn (tgt := 390) hx hb dL_law_33 (by decide) (by decide) rfl (by decide) ?_
      exact law_leave C0 hA hbA hAq k_96 k_97 k_98 k_99 k_100 k_101 (hK.sub [11, 12, 14] rfl) (hP.sub [0, 4, 33, 34, 35, 36, 38] rfl) (hD.sub [0, 4, 33, 34, 35, 36, 38] (by decide) rfl) hS (lv_sub hl [3, 2, 1, 0] rfl)
    by_cases h_110 : v_102 = 7
    · subst h_110
      refine lv_tableIn (tgt := 413) hx hb dL_law_33 (by decide) (by decide) rfl (by decide) ?_
      exact law_weigh C0 hA hbA hAq k_96 k_97 k_98 k_99 k_100 k_101 (hK.sub [11, 12, 14] rfl) (hP.sub [0, 4, 33, 34, 35, 36, 38] rfl) (hD.sub [0, 4, 33, 34, 35, 36, 38] (by decide) rfl) hS (lv_sub hl [3, 2, 1, 0] rfl)
    by_cases h_111 : v_102 = 8
    · subst h_111
      refine lv_tableIn (tgt := 446) hx hb dL_law_33 (by decide) (by decide) rfl (by decide) ?_
      exact law_slice C0 hA hbA hAq k_96 k_97 k_98 k_99 k_100 k_101 (hK.sub [11, 12, 14] rfl) (hP.sub [0, 4, 33, 34, 35, 36, 38] rfl) (hD.sub [0, 4, 33, 34, 35, 36, 38] (by decide) rfl) hS (lv_sub hl [3, 2, 1, 0] rfl)
    by_cases h_112 : v_102 = 9
    · subst h_112
      refine lv_tableIn (tgt := 479) hx hb dL_law_33 (by decide) (by decide) rfl (by decide) ?_
      exact law_wish C0 hA hbA hAq k_96 k_97 k_98 k_99 k_100 k_101 (hK.sub [11, 12, 14] rfl) (hP.sub [0, 4, 33, 34, 35, 36, 38] rfl) (hD.sub [0, 4, 33, 34, 35, 36, 38] (by decide) rfl) hS (lv_sub hl [3, 2, 1, 0] rfl)
    by_cases h_113 : v_102 = 10
    · subst h_113
      refine lv_tableIn (tgt := 512) hx hb dL_law_33 (by decide) (by decide) rfl (by decide) ?_
      exact law_yields C0 hA hbA hAq k_96 k_97 k_98 k_99 k_100 k_101 (hK.sub [11, 12, 14] rfl) (hP.sub [0, 4, 33, 34, 35, 36, 38] rfl) (hD.sub [0, 4, 33, 34, 35, 36, 38] (by decide) rfl) hS (lv_sub hl [3, 2, 1, 0] rfl)
    by_cases h_114 : v_102 = 11
    · subst h_114
      refine lv_tableIn (tgt := 535) hx hb dL_law_33 (by decide) (by decide) rfl (by decide) ?_
      exact law_quota C0 hA hbA hAq k_96 k_97 k_98 k_99 k_100 k_101 (hK.sub [11, 12, 14] rfl) (hP.sub [0, 4, 33, 34, 35, 36, 38] rfl) (hD.sub [0, 4, 33, 34, 35, 36, 38] (by decide) rfl) hS (lv_sub hl [3, 2, 1, 0] rfl)
    by_cases h_115 : v_102 = 12
    · subst h_115
      refine lv_tableIn (tgt := 578) hx hb dL_law_33 (by decide) (by decide) rfl (by decide) ?_
      exact law_script C0 hA hbA hAq k_96 k_97 k_98 k_99 k_100 k_101 (hK.sub [11, 12, 14] rfl) (hP.sub [0, 4, 33, 34, 35, 36, 38] rfl) (hD.sub [0, 4, 33, 34, 35, 36, 38] (by decide) rfl) hS (lv_sub hl [3, 2, 1, 0] rfl)
    by_cases h_116 : v_102 = 13
    · subst h_116
      refine lv_tableIn (tgt := 601) hx hb dL_law_33 (by decide) (by decide) rfl (by decide) ?_
      exact law_listing C0 hA hbA hAq k_96 k_97 k_98 k_99 k_100 k_101 (hK.sub [11, 12, 14] rfl) (hP.sub [0, 4, 33, 34, 35, 36, 38] rfl) (hD.sub [0, 4, 33, 34, 35, 36, 38] (by decide) rfl) hS (lv_sub hl [3, 2, 1, 0] rfl)
    by_cases h_117 : v_102 = 14
    · subst h_117
      refine lv_tableIn (tgt := 624) hx hb dL_law_33 (by decide) (by decide) rfl (by decide) ?_
      exact law_fault C0 hA hbA hAq (hK.sub [] rfl) (hP.sub [0, 35] rfl) (hD.sub [0, 35] (by decide) rfl) hS (lv_sub hl [3, 2, 1, 0] rfl)
    by_cases h_118 : v_102 = 15
    · subst h_118
      refine lv_tableIn (tgt := 637) hx hb dL_law_33 (by decide) (by decide) rfl (by decide) ?_
      exact law_ticks C0 hA hbA hAq k_67 k_93 k_94 k_95 k_96 k_97 k_98 k_99 k_100 k_101 (hK.sub [2, 8, 9, 10, 11, 12, 13, 14, 15, 19] rfl) (hP.sub [0, 1, 4, 6, 7, 8, 17, 27, 28, 29, 30, 31, 32, 33, 34, 35, 36, 37, 38, 39, 43] rfl) (hD.sub [0, 1, 4, 6, 7, 8, 17, 27, 28, 29, 30, 31, 32, 33, 34, 35, 36, 37, 38, 39, 43] (by decide) rfl) hS (lv_sub hl [3, 2, 1, 0] rfl)
    by_cases h_119 : v_102 = 16
    · subst h_119
      refine lv_tableIn (tgt := 660) hx hb dL_law_33 (by decide) (by decide) rfl (by decide) ?_
      exact law_undo C0 hA hbA hAq (hK.sub [11, 12] rfl) (hP.sub [0, 27, 33, 34, 35, 36] rfl) (hD.sub [0, 27, 33, 34, 35, 36] (by decide) rfl) hS (lv_sub hl [3, 2, 1, 0] rfl)
    by_cases h_120 : v_102 = 17
    · subst h_120
      refine lv_tableIn (tgt := 673) hx hb dL_law_33 (by decide) (by decide) rfl (by decide) ?_
      exact law_image C0 hA hbA hAq k_65 k_66 k_96 k_97 k_98 k_99 k_100 k_101 (hK.sub [2, 4, 5, 6, 7, 11, 12, 14, 17, 18] rfl) (hP.sub [0, 4, 6, 7, 19, 20, 21, 22, 23, 24, 25, 26, 33, 34, 35, 36, 38, 41, 42] rfl) (hD.sub [0, 4, 6, 7, 19, 20, 21, 22, 23, 24, 25, 26, 33, 34, 35, 36, 38, 41, 42] (by decide) rfl) hS (lv_sub hl [3, 2, 1, 0] rfl)
    by_cases h_121 : v_102 = 18
    · subst h_121
      refine lv_tableIn (tgt := 696) hx hb dL_law_33 (by decide) (by decide) rfl (by decide) ?_
      exact law_back C0 hA hbA hAq (hK.sub [7, 11, 12, 18] rfl) (hP.sub [0, 26, 33, 34, 35, 36, 42] rfl) (hD.sub [0, 26, 33, 34, 35, 36, 42] (by decide) rfl) hS (lv_sub hl [3, 2, 1, 0] rfl)
    by_cases h_122 : v_102 = 19
    · subst h_122
      refine lv_tableIn (tgt := 719) hx hb dL_law_33 (by decide) (by decide) rfl (by decide) ?_
      exact law_of C0 hA hbA hAq k_96 k_97 k_98 k_99 k_100 k_101 (hK.sub [14] rfl) (hP.sub [0, 4, 35, 38] rfl) (hD.sub [0, 4, 35, 38] (by decide) rfl) hS (lv_sub hl [3, 2, 1, 0] rfl)
    by_cases h_123 : v_102 = 20
    · subst h_123
      refine lv_tableIn (tgt := 752) hx hb dL_law_33 (by decide) (by decide) rfl (by decide) ?_
      exact law_exact C0 hA hbA hAq k_96 k_97 k_98 k_99 k_100 k_101 (hK.sub [14] rfl) (hP.sub [0, 4, 35, 38] rfl) (hD.sub [0, 4, 35, 38] (by decide) rfl) hS (lv_sub hl [3, 2, 1, 0] rfl)
    by_cases h_124 : v_102 = 21
    · subst h_124
      refine lv_tableIn (tgt := 786) hx hb dL_law_33 (by decide) (by decide) rfl (by decide) ?_
      exact law_time C0 hA hbA hAq k_96 k_97 k_98 k_99 k_100 k_101 (hK.sub [14] rfl) (hP.sub [0, 4, 8, 35, 38] rfl) (hD.sub [0, 4, 8, 35, 38] (by decide) rfl) hS (lv_sub hl [3, 2, 1, 0] rfl)
    by_cases h_125 : v_102 = 22
    · subst h_125
      refine lv_tableIn (tgt := 810) hx hb dL_law_33 (by decide) (by decide) rfl (by decide) ?_
      exact law_eligible C0 hA hbA hAq k_96 k_97 k_98 k_99 k_100 k_101 (hK.sub [14] rfl) (hP.sub [0, 4, 8, 35, 38] rfl) (hD.sub [0, 4, 8, 35, 38] (by decide) rfl) hS (lv_sub hl [3, 2, 1, 0] rfl)
    by_cases h_126 : v_102 = 23
    · subst h_126
      refine lv_tableIn (tgt := 823) hx hb dL_law_33 (by decide) (by decide) rfl (by decide) ?_
      exact law_earliest C0 hA hbA hAq k_96 k_97 k_98 k_99 k_100 k_101 (hK.sub [14] rfl) (hP.sub [0, 4, 8, 35, 38] rfl) (hD.sub [0, 4, 8, 35, 38] (by decide) rfl) hS (lv_sub hl [3, 2, 1, 0] rfl)
    by_cases h_127 : v_102 = 24
    · subst h_127
      refine lv_tableIn (tgt := 846) hx hb dL_law_33 (by decide) (by decide) rfl (by decide) ?_
      exact law_rank C0 hA hbA hAq k_96 k_97 k_98 k_99 k_100 k_101 (hK.sub [14] rfl) (hP.sub [0, 4, 35, 38] rfl) (hD.sub [0, 4, 35, 38] (by decide) rfl) hS (lv_sub hl [3, 2, 1, 0] rfl)
    by_cases h_128 : v_102 = 25
    · subst h_128
      refine lv_tableIn (tgt := 869) hx hb dL_law_33 (by decide) (by decide) rfl (by decide) ?_
      exact law_ran C0 hA hbA hAq k_96 k_97 k_98 k_99 k_100 k_101 (hK.sub [14] rfl) (hP.sub [0, 4, 35, 38] rfl) (hD.sub [0, 4, 35, 38] (by decide) rfl) hS (lv_sub hl [3, 2, 1, 0] rfl)
    by_cases h_129 : v_102 = 26
    · subst h_129
      refine lv_tableIn (tgt := 892) hx hb dL_law_33 (by decide) (by decide) rfl (by decide) ?_
      exact law_service C0 hA hbA hAq k_96 k_97 k_98 k_99 k_100 k_101 (hK.sub [14] rfl) (hP.sub [0, 4, 35, 38] rfl) (hD.sub [0, 4, 35, 38] (by decide) rfl) hS (lv_sub hl [3, 2, 1, 0] rfl)
    by_cases h_130 : v_102 = 27
    · subst h_130
      refine lv_tableIn (tgt := 935) hx hb dL_law_33 (by decide) (by decide) rfl (by decide) ?_
      exact law_share C0 hA hbA hAq k_96 k_97 k_98 k_99 k_100 k_101 (hK.sub [14] rfl) (hP.sub [0, 4, 35, 38] rfl) (hD.sub [0, 4, 35, 38] (by decide) rfl) hS (lv_sub hl [3, 2, 1, 0] rfl)
    by_cases h_131 : v_102 = 28
    · subst h_131
      refine lv_tableIn (tgt := 979) hx hb dL_law_33 (by decide) (by decide) rfl (by decide) ?_
      exact law_worst C0 hA hbA hAq k_96 k_97 k_98 k_99 k_100 k_101 (hK.sub [14] rfl) (hP.sub [0, 4, 35, 38] rfl) (hD.sub [0, 4, 35, 38] (by decide) rfl) hS (lv_sub hl [3, 2, 1, 0] rfl)
    by_cases h_132 : v_102 = 29
    · subst h_132
      refine lv_tableIn (tgt := 1013) hx hb dL_law_33 (by decide) (by decide) rfl (by decide) ?_
      exact law_ahead C0 hA hbA hAq k_93 k_94 k_95 k_96 k_97 k_98 k_99 k_100 k_101 (hK.sub [2, 3, 13, 14, 16] rfl) (hP.sub [0, 1, 4, 6, 7, 8, 13, 14, 15, 16, 17, 35, 37, 38, 40] rfl) (hD.sub [0, 1, 4, 6, 7, 8, 13, 14, 15, 16, 17, 35, 37, 38, 40] (by decide) rfl) hS (lv_sub hl [3, 2, 1, 0] rfl)
    by_cases h_133 : v_102 = 30
    · subst h_133
      refine lv_tableIn (tgt := 1036) hx hb dL_law_33 (by decide) (by decide) rfl (by decide) ?_
      exact law_finish C0 hA hbA hAq k_96 k_97 k_98 k_99 k_100 k_101 (hK.sub [14] rfl) (hP.sub [0, 4, 35, 38] rfl) (hD.sub [0, 4, 35, 38] (by decide) rfl) hS (lv_sub hl [3, 2, 1, 0] rfl)
    by_cases h_134 : v_102 = 31
    · subst h_134
      refine lv_tableIn (tgt := 1059) hx hb dL_law_33 (by decide) (by decide) rfl (by decide) ?_
      exact law_due C0 hA hbA hAq k_96 k_97 k_98 k_99 k_100 k_101 (hK.sub [14] rfl) (hP.sub [0, 4, 35, 38] rfl) (hD.sub [0, 4, 35, 38] (by decide) rfl) hS (lv_sub hl [3, 2, 1, 0] rfl)
    by_cases h_135 : v_102 = 32
    · subst h_135
      refine lv_tableIn (tgt := 1082) hx hb dL_law_33 (by decide) (by decide) rfl (by decide) ?_
      exact law_least C0 hA hbA hAq k_96 k_97 k_98 k_99 k_100 k_101 (hK.sub [14] rfl) (hP.sub [0, 4, 35, 38] rfl) (hD.sub [0, 4, 35, 38] (by decide) rfl) hS (lv_sub hl [3, 2, 1, 0] rfl)
    by_cases h_136 : v_102 = 33
    · subst h_136
      refine lv_tableIn (tgt := 1125) hx hb dL_law_33 (by decide) (by decide) rfl (by decide) ?_
      exact law_would C0 hA hbA hAq k_93 k_94 k_95 k_96 k_97 k_98 k_99 k_100 k_101 (hK.sub [2, 3, 13, 14, 16] rfl) (hP.sub [0, 1, 4, 6, 7, 13, 14, 15, 16, 18, 35, 37, 38, 40] rfl) (hD.sub [0, 1, 4, 6, 7, 13, 14, 15, 16, 18, 35, 37, 38, 40] (by decide) rfl) hS (lv_sub hl [3, 2, 1, 0] rfl)
    by_cases h_137 : v_102 = 34
    · subst h_137
      refine lv_tableIn (tgt := 1168) hx hb dL_law_33 (by decide) (by decide) rfl (by decide) ?_
      exact law_count C0 hA hbA hAq k_93 k_94 k_95 k_96 k_97 k_98 k_99 k_100 k_101 (hK.sub [11, 12, 13, 14] rfl) (hP.sub [0, 1, 2, 4, 27, 33, 34, 35, 36, 37, 38] rfl) (hD.sub [0, 1, 2, 4, 27, 33, 34, 35, 36, 37, 38] (by decide) rfl) hS (lv_sub hl [3, 2, 1, 0] rfl)
    by_cases h_138 : v_102 = 35
    · subst h_138
      refine lv_tableIn (tgt := 1191) hx hb dL_law_33 (by decide) (by decide) rfl (by decide) ?_
      exact law_status C0 hA hbA hAq (hK.sub [] rfl) (hP.sub [0, 33, 35] rfl) (hD.sub [0, 33, 35] (by decide) rfl) hS (lv_sub hl [3, 2, 1, 0] rfl)
    have z_139 := lv_neT (a := 0) h_103 (by decide)
    have z_140 := lv_neT (a := 1) h_104 (by decide)
    have z_141 := lv_neT (a := 2) h_105 (by decide)
    have z_142 := lv_neT (a := 3) h_106 (by decide)
    have z_143 := lv_neT (a := 4) h_107 (by decide)
    have z_144 := lv_neT (a := 5) h_108 (by decide)
    have z_145 := lv_neT (a := 6) h_109 (by decide)
    have z_146 := lv_neT (a := 7) h_110 (by decide)
    have z_147 := lv_neT (a := 8) h_111 (by decide)
    have z_148 := lv_neT (a := 9) h_112 (by decide)
    have z_149 := lv_neT (a := 10) h_113 (by decide)
    have z_150 := lv_neT (a := 11) h_114 (by decide)
    have z_151 := lv_neT (a := 12) h_115 (by decide)
    have z_152 := lv_neT (a := 13) h_116 (by decide)
    have z_153 := lv_neT (a := 14) h_117 (by decide)
    have z_154 := lv_neT (a := 15) h_118 (by decide)
    have z_155 := lv_neT (a := 16) h_119 (by decide)
    have z_156 := lv_neT (a := 17) h_120 (by decide)
    have z_157 := lv_neT (a := 18) h_121 (by decide)
    have z_158 := lv_neT (a := 19) h_122 (by decide)
    have z_159 := lv_neT (a := 20) h_123 (by decide)
    have z_160 := lv_neT (a := 21) h_124 (by decide)
    have z_161 := lv_neT (a := 22) h_125 (by decide)
    have z_162 := lv_neT (a := 23) h_126 (by decide)
    have z_163 := lv_neT (a := 24) h_127 (by decide)
    have z_164 := lv_neT (a := 25) h_128 (by decide)
    have z_165 := lv_neT (a := 26) h_129 (by decide)
    have z_166 := lv_neT (a := 27) h_130 (by decide)
    have z_167 := lv_neT (a := 28) h_131 (by decide)
    have z_168 := lv_neT (a := 29) h_132 (by decide)
    have z_169 := lv_neT (a := 30) h_133 (by decide)
    have z_170 := lv_neT (a := 31) h_134 (by decide)
    have z_171 := lv_neT (a := 32) h_135 (by decide)
    have z_172 := lv_neT (a := 33) h_136 (by decide)
    have z_173 := lv_neT (a := 34) h_137 (by decide)
    have z_174 := lv_neT (a := 35) h_138 (by decide)
    refine lv_tableOut (tgt := 1204) hx hb dL_law_33 (by omega) (by decide) ?_
    exact law_next C0 hA hbA hAq (hK.sub [] rfl) (hP.sub [] rfl) (hD.sub [] (by decide) rfl) hS (lv_sub hl [3, 2, 1, 0] rfl)
-- ===== YOUR PART ENDS =====
set_option maxHeartbeats 4000000 in
theorem lw_walk (l : Launch) (hflags : l.flags = flags0) (b : Addr) (xs : List Int32) : MetFree l x (headSpec (Jvm.Cond.code x code maxLocals ret :: tables_1) room_1) (lw_P b xs) (fun _ _ _ _ _ => True) lw_Q := by
  refine MetFree.of_bodyS (code := code) (maxLocals := maxLocals) (ret := ret) (by decide) ?_ ?_
  · intro args s m h hn
    obtain ⟨meth, c, h1, h2, h3, h4, h5, h6, -, -⟩ := Cond.code_spec hn (atoms_spec (ws := Jvm.Cond.code x code maxLocals ret :: tables_1) h _ List.mem_cons_self)
    exact ⟨meth, c, h1, h2, h3, h4, h5, h6⟩
  · intro p e s m args below meth c s₁ B hml0 hP _
    obtain ⟨rfl, hx, hbd, hgv⟩ := hP
    obtain ⟨scr, harrAt, hlist, hof, hsmall⟩ := hx
    obtain ⟨hcb, hkn, -, -⟩ := State.arrayAt?_spec harrAt
    have hown : s.vm.findClass R_law = some m.cls := findClass_of_methodNamed B.named
    have hts0 : ∀ c ∈ (Jvm.Cond.code x code maxLocals ret :: tables_1), c.before #[Value.ref b] s = true := atoms_spec (ws := Jvm.Cond.code x code maxLocals ret :: tables_1) B.pre
    have hts : ∀ w ∈ lw_tbl, w.before #[Value.ref b] s = true := k2_hts_sels lw_privs (fun w hw => hts0 w (List.mem_cons_of_mem _ hw)) lw_privs_ok
    have hml : c.maxLocals = 4 := B.maxLocals_eq (hts0 _ List.mem_cons_self)
    have X₀ : Stand p l e room_1 s m #[Value.ref b] below meth c s₁ [] 0 0 := Stand.of_body B
    have hh0 : s₁.heap = s.heap := by rw [B.state]; rfl
    have hsz : scr.slots.size = xs.length := by rw [← Array.length_toList, hlist, List.length_map]
    have hval : ∀ j : Nat, j < xs.length → scr.slots[j]? = some (.int (xs.getD j 0)) := fun j hj => by
      rw [← Array.getElem?_toList, hlist]
      simp [hj]
    have hbl : b < s.heap.size := (Array.getElem?_eq_some_iff.mp hcb).1
    have hX : va_X b xs.length (fun j => xs.getD j 0) s s.heap := ⟨scr, hcb, hof, hkn, hsz, hval⟩
    have K : W p l e room_1 s m #[Value.ref b] below meth c s₁.heap [] 0 0 (lw_Z below #[Value.ref b] s) (entryFrame m ([Value.ref b] : List Value).toArray 4) := by
      rw [hh0]
      exact whole_start l hflags hbd ⟨B.exec, B.bytes, B.returns, hml, hown, hts, hX, hbl, B.notSynchronized, hgv⟩
    obtain ⟨t, a1, o, b1, b2, b3⟩ := K s₁ rfl X₀
    exact ⟨t, o, a1, b1, b2, b3⟩
theorem lw_pre_spec {args : Array Value} {s : State} (h : (Jvm.Cond.and given_1 narrow_1).before args s = true) (hr : rest_1_c.before args s = true) : ∃ (b : Addr) (xs : List Int32), lw_P b xs args s := by
  have hs := flat_of_before _ h
  have hq := flat_of_before _ hr
  have hc : (Cond.count 1).before args s = true := hs _ (by decide +kernel)
  have harr : (Cond.arrayOf (.arg 0) .int).before args s = true := hs _ (by decide +kernel)
  have hle : (Cond.le (.length (.arg 0)) (.int 6)).before args s = true := hs _ (by decide +kernel)
  have hlen : (Cond.isInt (.length (.arg 0))).before args s = true := hq _ (by decide +kernel)
  have hall : (Cond.all (.arg 0) (.isInt (.elem (.arg 0) (.index 0)))).before args s = true := hq _ (by decide +kernel)
  obtain ⟨b, xs, hb, hx⟩ := State.ints_of_pre rfl harr hlen hall
  have hsm : xs.length < 2 ^ 31 := hx.choose_spec.2.2.2
  have hev : (Term.length (.arg 0)).eval args s none [] s = some (.int xs.length.toInt32) := hx.length_eval hb
  have hv := Cond.le_ints hev (show (Term.int 6).eval args s none [] s = some (.int 6) from rfl)
  have hd : xs.length.toInt32 ≤ 6 := by
    simpa [Cond.before, Cond.holds, hv] using hle
  have hN : xs.length ≤ 6 := (Int32.ofNat_le_ofNat hsm (by decide)).mp (show Int32.ofNat xs.length ≤ Int32.ofNat 6 from hd)
  exact ⟨b, xs, Cond.one_arg hc (show args[0]? = some (.ref b) from hb), hx, hN, h⟩
theorem lw_comes (l : Launch) (hflags : l.flags = flags0) : Comes l x (Jvm.Cond.code x code maxLocals ret :: tables_1) room_1 (fun tb e args s => Calls_1 tb e args s ∧ rest_1 tb e args s ∧ Pre_1 tb e args s)
    (fun _ _ args s o t => lw_Q args s o t) := by
  intro p e ha hc hk s m args below hf hfit hheap happ hpre
  obtain ⟨b, xs, hP⟩ := lw_pre_spec hpre.2.2 hpre.2.1
  obtain ⟨k, o, h1, h2, h3, hQ⟩ := lw_walk l hflags b xs p e ha hc hk s m args below hf ((Spec.applies_iff_loose hf).mp happ).1 hP trivial
  exact ⟨k, o, h1, h2, h3, hQ⟩
theorem lw_frame {s t : State} {o : Outcome} {args : Array Value} (h : Framed s o t [] 600000 7302250) :
    Framed s o t (fieldLocs frame_1_writes args s ++ arrayLocs frame_1_arrays args s ++ staticLocs frame_1_statics s) 600000 7302250 := h
theorem lw_limb (L : Cond) (hL : ∀ (args : Array Value) (s t : State), L.after args s (.returned (some (.int 1))) t = true) :
    ArmFor flags0 classFile x code maxLocals ret World_1 tables_1 room_1 Calls_1 rest_1 Pre_1
      (fun tb e a s o t => postC L tb e a s o t ∧ Framed s o t (fieldLocs frame_1_writes a s ++ arrayLocs frame_1_arrays a s ++ staticLocs frame_1_statics s) 600000 7302250) := by
  intro l hflags _ _ p e ha hc hk s m args below hf hfit hheap happ hpre
  obtain ⟨k, o, h1, h2, h3, rfl, hF⟩ := lw_comes l hflags p e ha hc hk s m args below hf hfit hheap happ hpre
  exact ⟨k, _, h1, h2, h3, hL args s _, lw_frame hF⟩
theorem i_vc : Claimed_1_1 ∧ Claimed_1_2 := ⟨lw_limb limb_1_1 (fun args s t => by simp [limb_1_1, Cond.after, Cond.holds, Cond.value]), lw_limb limb_1_2 (fun args s t => Cond.after_iff.mpr (by
  first | (rw [show limb_1_2 = Cond.eq .result (.int 1) from rfl, Cond.eq_ints (x := 1) (y := 1) rfl rfl]; simp; done) | (simp [limb_1_2, Cond.value, Term.eval]; done)))⟩

