-- ===== end of PART A; then your names; then what follows =====
/-! THE CLAIM OUT OF ONE WALK OF THE LAW'S BODY. Your part is whole_start (and what it stands on); all else here is the same for every law, but numbers. -/
def R_law : String := "DeadlineShareLaw"
def lw_P (b : Addr) (xs : List Int32) (args : Array Value) (s : State) : Prop := args = #[.ref b] ∧ s.IntsAt b xs ∧ xs.length ≤ 3072 ∧ (Jvm.Cond.and given_1 narrow_1).before args s = true
def lw_Q (_ : Array Value) (s : State) (o : Outcome) (t : State) : Prop := o = .returned (some (.int 1)) ∧ Framed s o t [] 600000 7302250
def lw_Z (below : List Frame) (a : Array Value) (s : State) : State → Prop := fun t => ∃ o, t.status = .running ∧ Ended t below o ∧ lw_Q a s o t
/-- the law's own end, with 1 on the stack, nothing written that was there before, its room as the claim has it -/
theorem lw_ret {p : Program} {l : Launch} {e : Env} {s : State} {m : MethodId} {below : List Frame} {meth : Method} {c : Code} {b : Nat} (hx : p.tables.exec = Jvm.exec) (hb : c.code = code) (hr : meth.sig.returnType = ret) (hlocks : meth.locks = false) {pc : Nat} {H : Heap} {ls : Array Slot} (hdg : decode code pc = .ok (.ireturn, 1)) : W p l e room_1 s m #[Value.ref b] below meth c H [] 600000 7302250 (lw_Z below #[Value.ref b] s) (F0 m pc ls [.int 1]) := by
  intro T hT X
  obtain ⟨fs, hret, hrun, hended, hW, hframe⟩ := X.leave (v := some (.int 1)) (hlocks := hlocks) (fun h => by rw [hr] at h; cases h)
  have hmeth' : T.vm.method? m = some meth := X.method'
  refine ⟨T.setFrames fs, ?_, .returned (some (.int 1)), hrun, hended, rfl, ⟨_, rfl⟩, hW, hframe⟩
  jvm_step X.here [X.here.top, hx, hb, hdg, hmeth', hr, ret, narrow_b1]
  (try refine ⟨rfl, ?_⟩); (try refine ⟨rfl, ?_⟩)
  first | (intro acts; rw [hret _ acts rfl rfl rfl]) | rw [hret _ _ rfl rfl rfl]
  exact Steps.refl _
/-- what holds at the law's entry: the machine, the code, the tables' words (any of lw_tbl by 'hts w (by decide +kernel)'), the script of L ints xs at the cell b, what the Statement gives of the start (any of its parts by flat_of_before) -/
def lw_At (p : Program) (s : State) (m : MethodId) (meth : Method) (c : Code) (b L : Nat) (xs : Nat → Int32) : Prop :=
  p.tables.exec = Jvm.exec ∧ c.code = code ∧ meth.sig.returnType = ret ∧ c.maxLocals = 4 ∧ s.vm.findClass R_law = some m.cls ∧ (∀ w ∈ lw_tbl, w.before #[Value.ref b] s = true) ∧ va_X b L xs s s.heap ∧ b < s.heap.size ∧ meth.locks = false ∧ (Jvm.Cond.and given_1 narrow_1).before #[Value.ref b] s = true

theorem tw_1096 : q_g (.methodLink RL 13 yX11_terms) := ⟨(List.mem_append_right _ (List.mem_of_getElem? (i := 357) (by decide +kernel))), good_of_word (by decide +kernel)⟩
theorem tw_1097 : q_g (.instanceMethod yX11_terms) := ⟨(List.mem_append_right _ (List.mem_of_getElem? (i := 358) (by decide +kernel))), good_of_word (by decide +kernel)⟩
theorem tw_1098 : q_g (.selects RX11 yX11_terms yX11_terms) := ⟨(List.mem_append_right _ (List.mem_of_getElem? (i := 359) (by decide +kernel))), good_of_word (by decide +kernel)⟩
theorem tw_1099 : q_g (.methodLink RL 17 yX12_terms) := ⟨(List.mem_append_right _ (List.mem_of_getElem? (i := 1191) (by decide +kernel))), good_of_word (by decide +kernel)⟩
theorem tw_1100 : q_g (.instanceMethod yX12_terms) := ⟨(List.mem_append_right _ (List.mem_of_getElem? (i := 1192) (by decide +kernel))), good_of_word (by decide +kernel)⟩
theorem tw_1101 : q_g (.selects RX12 yX12_terms yX12_terms) := ⟨(List.mem_append_right _ (List.mem_of_getElem? (i := 1193) (by decide +kernel))), good_of_word (by decide +kernel)⟩
set_option maxHeartbeats 4000000 in
set_option maxRecDepth 100000 in
theorem law_terms {p : Program} {l : Launch} {e : Env} {s : State} {m : MethodId} {below : List Frame} {meth : Method} {c : Code} {dC : Nat → ClassId} {dI : Nat → Nat → Nat} {g : kG} {A : Nat → Prop} {b L : Nat} {xs : Nat → Int32} {x1 mo : Nat} (C0 : lw_At p s m meth c b L xs) (hL : L ≤ 3072) (hbA : ¬ A b) (hG : kWf g) (hK : va_K (dC, dI) vwCl (gty g) s) (hE : kE g A s) (i_x : ik g 11 x1) (i_m : ik g 12 mo) {n : Nat} (hn : 6 * n + 6 ≤ L) {f : Nat → va_E} {H : Heap} {locs : List Loc} {ls : Array Slot} (hI : Iv dC dI g A f H) (hS : va_S A s.heap H locs) (hLI : LI g f x1 mo) (hl : lv_has ls 4 [(0, .ref b), (1, .ref x1), (2, .ref mo), (3, .int (nI (6 * n)))]) (kk : ∀ (f : Nat → va_E) (H : Heap) (locs : List Loc) (ls : Array Slot), Iv dC dI g A f H → va_S A s.heap H locs → LI g f x1 mo → lv_has ls 4 [(0, .ref b), (1, .ref x1), (2, .ref mo), (3, .int (nI (6 * n)))] → W p l e room_1 s m #[Value.ref b] below meth c H locs 786 20946 (lw_Z below #[Value.ref b] s) (F0 m 1200 ls [])) : W p l e room_1 s m #[Value.ref b] below meth c H locs 786 20946 (lw_Z below #[Value.ref b] s) (F0 m 192 ls []) := by
  obtain ⟨hx, hb, hr, hml, hown, hts, hX, hbl, hlocks, hgv⟩ := id C0
  have hown : s.vm.findClass RL = some m.cls := hown
  obtain ⟨z0, z1, z10, z12, z13, z14, z15, z16, z17, z18, z23, z24, z25, z26, q, u, im, kt, tm, a0, a1, a2, hmo, hb0, hb1, hb2, hcq, hcu, hci, hck, hct, hok, hui, hca, he0, he1, he2⟩ := hLI
  have hk0 : Kp g [0, 1, 2, 3, 4, 5, 6, 7, 8, 9, 10, 11, 12, 20, 21, 22, 23, 24, 25, 26, 27, 28, 30, 31, 32, 33, 34, 35, 36, 37, 38, 39, 40, 41, 42] f f := Kp.rf
  have i_mo_4 := kw_12_4 hG i_m
  have i_mo_5 := kw_12_5 hG i_m
  have i_mo_7 := kw_12_7 hG i_m
  have i_mo_8 := kw_12_8 hG i_m
  have i_mo_3 := kw_12_3 hG i_m
  have i_x1_0 := kw_11_0 hG i_x
  refine lv_aload_n hx hb dL_law_192 rfl (lv_at hl 1 rfl) ?_
  refine lv_aload_n hx hb dL_law_193 rfl (lv_at hl 0 rfl) ?_
  refine lv_iload_n hx hb dL_law_194 rfl (lv_at hl 3 rfl) ?_
  refine lv_iconst (v := 1) hx hb dL_law_195 (by decide) ?_
  refine lv_iadd hx hb dL_law_196 ?_
  refine k_topi (y := nI (6 * n + 1)) ((nI_add (6 * n) 1).trans (congrArg nI (by omega))) ?_
  refine va_sld hx hb hX hbl hbA hS (vp_in_nI (by omega) (by omega)) dL_law_197 ?_
  refine k_topi (y := xs (6 * n + 1)) (congrArg xs (nI_clamp (by omega))) ?_
  refine lv_aload_n hx hb dL_law_198 rfl (lv_at hl 0 rfl) ?_
  refine lv_iload_n hx hb dL_law_199 rfl (lv_at hl 3 rfl) ?_
  refine lv_iconst (v := 2) hx hb dL_law_200 (by decide) ?_
  refine lv_iadd hx hb dL_law_201 ?_
  refine k_topi (y := nI (6 * n + 2)) ((nI_add (6 * n) 2).trans (congrArg nI (by omega))) ?_
  refine va_sld hx hb hX hbl hbA hS (vp_in_nI (by omega) (by omega)) dL_law_202 ?_
  refine k_topi (y := xs (6 * n + 2)) (congrArg xs (nI_clamp (by omega))) ?_
  obtain ⟨x_2, k_1⟩ := op_11 hI i_x
  refine va_calli (va_runV (As := [.int (xs (6 * n + 1)), .int (xs (6 * n + 2))]) (rest := []) ⟨hx, hb, hml, hown, hts⟩ (c_X11_terms l dC dI g A hG f x1 (xs (6 * n + 1)) (xs (6 * n + 2)) a0 a1 a2 i_x hca) (cwV 2 hts (gi_V tb_c_X11_terms tw_1096.1 tw_1097.1 tw_1098.1 tw_56.1) rfl rfl rfl (by decide +kernel) ⟨Nat.le_of_ble_eq_true rfl, Nat.le_of_ble_eq_true rfl⟩) ⟨fun a U g mk q => ⟨q.1, q.2.calling rfl rfl⟩, k_recv hK hI i_x.1 k_1 (ci := 11) rfl, fun U hU hW => ⟨rfl, kIn.of hI hK hE hS hU hW⟩⟩ rfl rfl hl.1 rfl (lv_room (Nat.le_of_ble_eq_true rfl)) dL_law_203 ⟨Nat.le_of_ble_eq_true rfl, Nat.le_of_ble_eq_true rfl⟩) hS (fun q _ h => h) (fun q h => h) (fun r_5 u9 t H1 locs ht hvm w_4 hB hz1 hk1 hS => ?_)
  obtain ⟨f_3, hI, kc_6, tb0_7, tb1_8, tb2_9, k_10, z_11⟩ := hB
  rw [ht] at hI
  have k_12 : f_3 mo = .inr (12, [.int z0, .int z1, .ref (gr g mo 2), .ref (gr g mo 3), .ref (gr g mo 4), .ref (gr g mo 5), .ref (gr g mo 6), .ref (gr g mo 7), .ref (gr g mo 8), .ref (gr g mo 9), .int z10, .ref (gr g mo 11), .int z12, .int z13, .int z14, .int z15, .long z16, .int z17, .int z18, .ref (gr g mo 19), .ref (gr g mo 20), .ref (gr g mo 21), .ref (gr g mo 22), .int z23, .long z24, .long z25, .long z26]) := Kp.at kc_6 i_m (by decide) hmo
  have k_13 : f_3 (gr g mo 4) = .inl (gc g 1, 906, .inr (.inl q)) := Kp.at kc_6 i_mo_4 (by decide) hcq
  have k_14 : f_3 (gr g mo 5) = .inl (gc g 1, 9060, .inr (.inl u)) := Kp.at kc_6 i_mo_5 (by decide) hcu
  have k_15 : f_3 (gr g mo 7) = .inl (gc g 1, 1812, .inr (.inl im)) := Kp.at kc_6 i_mo_7 (by decide) hci
  have k_16 : f_3 (gr g mo 8) = .inl (gc g 3, 2, .inl kt) := Kp.at kc_6 i_mo_8 (by decide) hck
  have k_17 : f_3 (gr g mo 3) = .inl (gc g 0, 3, .inl tm) := Kp.at kc_6 i_mo_3 (by decide) hct
  have k_18 : f_3 x1 = .inr (11, [.ref (gr g x1 0), .ref (gr g x1 1), .ref (gr g x1 2), .ref (gr g x1 3), .ref (gr g x1 4), .ref (gr g x1 5), .ref (gr g x1 6), .ref (gr g x1 7), .ref (gr g x1 8), .ref (gr g x1 9), .ref (gr g x1 10), .int x_2]) := Kp.at kc_6 i_x (by decide) k_1
  have k_10 : f_3 (gr g x1 0) = .inr (9, [.int tb0_7, .int tb1_8, .int tb2_9]) := k_10
  have z_11 : (tAl (xs (6 * n + 1)).toInt (xs (6 * n + 2)).toInt ∧ tSet (xs (6 * n + 1)).toInt (xs (6 * n + 2)).toInt a0.toInt a1.toInt a2.toInt tb0_7.toInt tb1_8.toInt tb2_9.toInt) ∨ (¬ tAl (xs (6 * n + 1)).toInt (xs (6 * n + 2)).toInt ∧ tb0_7.toInt = a0.toInt ∧ tb1_8.toInt = a1.toInt ∧ tb2_9.toInt = a2.toInt) := z_11
  have kp_19 := Kp.call hk0 kc_6 (by decide)
  generalize H1 = H at hI hS ⊢
  refine W.widen (k := 786) (n := 20946) (Nat.le_of_ble_eq_true rfl) (Nat.le_of_ble_eq_true rfl) ?_
  have w_4 : (tAl (xs (6 * n + 1)).toInt (xs (6 * n + 2)).toInt ∧ tGet (xs (6 * n + 1)).toInt a0.toInt a1.toInt a2.toInt r_5.toInt) ∨ (¬ tAl (xs (6 * n + 1)).toInt (xs (6 * n + 2)).toInt ∧ r_5.toInt = -1) := w_4
  refine lv_aload_n hx hb dL_law_206 rfl (lv_at hl 2 rfl) ?_
  refine lv_aload_n hx hb dL_law_207 rfl (lv_at hl 0 rfl) ?_
  refine lv_iload_n hx hb dL_law_208 rfl (lv_at hl 3 rfl) ?_
  refine lv_iconst (v := 1) hx hb dL_law_209 (by decide) ?_
  refine lv_iadd hx hb dL_law_210 ?_
  refine k_topi (y := nI (6 * n + 1)) ((nI_add (6 * n) 1).trans (congrArg nI (by omega))) ?_
  refine va_sld hx hb hX hbl hbA hS (vp_in_nI (by omega) (by omega)) dL_law_211 ?_
  refine k_topi (y := xs (6 * n + 1)) (congrArg xs (nI_clamp (by omega))) ?_
  refine lv_aload_n hx hb dL_law_212 rfl (lv_at hl 0 rfl) ?_
  refine lv_iload_n hx hb dL_law_213 rfl (lv_at hl 3 rfl) ?_
  refine lv_iconst (v := 2) hx hb dL_law_214 (by decide) ?_
  refine lv_iadd hx hb dL_law_215 ?_
  refine k_topi (y := nI (6 * n + 2)) ((nI_add (6 * n) 2).trans (congrArg nI (by omega))) ?_
  refine va_sld hx hb hX hbl hbA hS (vp_in_nI (by omega) (by omega)) dL_law_216 ?_
  refine k_topi (y := xs (6 * n + 2)) (congrArg xs (nI_clamp (by omega))) ?_
  refine va_calli (va_runV (As := [.int (xs (6 * n + 1)), .int (xs (6 * n + 2))]) (rest := [.int r_5]) ⟨hx, hb, hml, hown, hts⟩ (c_X12_terms l dC dI g A hG f_3 mo (xs (6 * n + 1)) (xs (6 * n + 2)) z0 z1 z10 z12 z13 z14 z15 z16 z17 z18 z23 z24 z25 z26 q u im kt tm i_m k_12 (by omega) (by omega) (by omega) k_13 hok k_14 k_15 k_16 k_17 hui) (cwV 2 hts (gi_V tb_c_X12_terms tw_1099.1 tw_1100.1 tw_1101.1 tw_728.1) rfl rfl rfl (by decide +kernel) ⟨Nat.le_of_ble_eq_true rfl, Nat.le_of_ble_eq_true rfl⟩) ⟨fun a U g mk q => ⟨q.1, q.2.calling rfl rfl⟩, k_recv hK hI i_m.1 k_12 (ci := 12) rfl, fun U hU hW => ⟨rfl, kIn.of hI hK hE hS hU hW⟩⟩ rfl rfl hl.1 rfl (lv_room (Nat.le_of_ble_eq_true rfl)) dL_law_217 ⟨Nat.le_of_ble_eq_true rfl, Nat.le_of_ble_eq_true rfl⟩) hS (fun q _ h => h) (fun q h => h) (fun r_22 u9 t H1 locs ht hvm w_21 hB hz1 hk1 hS => ?_)
  obtain ⟨f_20, hI, kc_23, w0_24, w1_25, w10_26, w12_27, w13_28, w14_29, w15_30, w16_31, w17_32, w18_33, w23_34, w24_35, w25_36, w26_37, q1_38, u1_39, im1_40, ik1_41, tm1_42, k_43, z_44, z_45, z_46, k_47, z_48, k_49, k_50, k_51, z_52, k_53, z_54⟩ := hB
  rw [ht] at hI
  have k_55 : f_20 (gr g mo 4) = .inl (gc g 1, 906, .inr (.inl q)) := Kp.at kc_23 i_mo_4 (by decide) k_13
  have k_56 : f_20 (gr g mo 5) = .inl (gc g 1, 9060, .inr (.inl u)) := Kp.at kc_23 i_mo_5 (by decide) k_14
  have k_57 : f_20 (gr g mo 7) = .inl (gc g 1, 1812, .inr (.inl im)) := Kp.at kc_23 i_mo_7 (by decide) k_15
  have k_58 : f_20 (gr g mo 8) = .inl (gc g 3, 2, .inl kt) := Kp.at kc_23 i_mo_8 (by decide) k_16
  have k_59 : f_20 x1 = .inr (11, [.ref (gr g x1 0), .ref (gr g x1 1), .ref (gr g x1 2), .ref (gr g x1 3), .ref (gr g x1 4), .ref (gr g x1 5), .ref (gr g x1 6), .ref (gr g x1 7), .ref (gr g x1 8), .ref (gr g x1 9), .ref (gr g x1 10), .int x_2]) := Kp.at kc_23 i_x (by decide) k_18
  have k_60 : f_20 (gr g x1 0) = .inr (9, [.int tb0_7, .int tb1_8, .int tb2_9]) := Kp.at kc_23 i_x1_0 (by decide) k_10
  have k_43 : f_20 mo = .inr (12, [.int w0_24, .int w1_25, .ref (gr g mo 2), .ref (gr g mo 3), .ref (gr g mo 4), .ref (gr g mo 5), .ref (gr g mo 6), .ref (gr g mo 7), .ref (gr g mo 8), .ref (gr g mo 9), .int w10_26, .ref (gr g mo 11), .int w12_27, .int w13_28, .int w14_29, .int w15_30, .long w16_31, .int w17_32, .int w18_33, .ref (gr g mo 19), .ref (gr g mo 20), .ref (gr g mo 21), .ref (gr g mo 22), .int w23_34, .long w24_35, .long w25_36, .long w26_37]) := k_43
  have z_44 : 0 ≤ w10_26.toInt ∧ w10_26.toInt ≤ 10 := z_44
  have z_45 : 0 ≤ w12_27.toInt ∧ w12_27.toInt ≤ 200 := z_45
  have z_46 : 0 ≤ w23_34.toInt ∧ w23_34.toInt ≤ 8 := z_46
  have z_48 : RowOK q1_38 := z_48
  have d_61 := rk_hd z_48
  have z_52 : UIq w10_26 u1_39 im1_40 ik1_41 := z_52
  have z_54 : (tAl (xs (6 * n + 1)).toInt (xs (6 * n + 2)).toInt ∧ tSet (xs (6 * n + 1)).toInt (xs (6 * n + 2)).toInt (tm 0).toInt (tm 1).toInt (tm 2).toInt (tm1_42 0).toInt (tm1_42 1).toInt (tm1_42 2).toInt) ∨ (¬ tAl (xs (6 * n + 1)).toInt (xs (6 * n + 2)).toInt ∧ (tm1_42 0).toInt = (tm 0).toInt ∧ (tm1_42 1).toInt = (tm 1).toInt ∧ (tm1_42 2).toInt = (tm 2).toInt) := z_54
  have kp_62 := Kp.call kp_19 kc_23 (by decide)
  generalize H1 = H at hI hS ⊢
  refine W.widen (k := 786) (n := 20946) (Nat.le_of_ble_eq_true rfl) (Nat.le_of_ble_eq_true rfl) ?_
  have w_21 : (tAl (xs (6 * n + 1)).toInt (xs (6 * n + 2)).toInt ∧ tGet (xs (6 * n + 1)).toInt (tm 0).toInt (tm 1).toInt (tm 2).toInt r_22.toInt) ∨ (¬ tAl (xs (6 * n + 1)).toInt (xs (6 * n + 2)).toInt ∧ r_22.toInt = -1) := w_21
  have hts9 := ts_eq z_11 z_54 he0 he1 he2
  refine lv_icmp_eq (tgt := 1200) hx hb dL_law_220 (by decide) (fun _ => ?_) (fun c9 => absurd (Int32.toInt_inj.mp (tr_eq w_4 w_21 he0 he1 he2)) c9)
  exact kk _ _ _ _ hI hS ⟨w0_24, w1_25, w10_26, w12_27, w13_28, w14_29, w15_30, w16_31, w17_32, w18_33, w23_34, w24_35, w25_36, w26_37, q1_38, u1_39, im1_40, ik1_41, tm1_42, tb0_7, tb1_8, tb2_9, k_43, (by omega), (by omega), (by omega), k_47, k_49, k_50, k_51, k_53, z_48, z_52, k_60, hts9.1, hts9.2.1, hts9.2.2⟩ hl
theorem tw_1102 : q_g (.methodLink RL 18 yX11_feed) := ⟨(List.mem_append_right _ (List.mem_of_getElem? (i := 385) (by decide +kernel))), good_of_word (by decide +kernel)⟩
theorem tw_1103 : q_g (.instanceMethod yX11_feed) := ⟨(List.mem_append_right _ (List.mem_of_getElem? (i := 386) (by decide +kernel))), good_of_word (by decide +kernel)⟩
theorem tw_1104 : q_g (.selects RX11 yX11_feed yX11_feed) := ⟨(List.mem_append_right _ (List.mem_of_getElem? (i := 387) (by decide +kernel))), good_of_word (by decide +kernel)⟩
theorem tw_1105 : q_g (.methodLink RL 22 yX12_feed) := ⟨(List.mem_append_right _ (List.mem_of_getElem? (i := 1201) (by decide +kernel))), good_of_word (by decide +kernel)⟩
theorem tw_1106 : q_g (.instanceMethod yX12_feed) := ⟨(List.mem_append_right _ (List.mem_of_getElem? (i := 1202) (by decide +kernel))), good_of_word (by decide +kernel)⟩
theorem tw_1107 : q_g (.selects RX12 yX12_feed yX12_feed) := ⟨(List.mem_append_right _ (List.mem_of_getElem? (i := 1203) (by decide +kernel))), good_of_word (by decide +kernel)⟩
set_option maxHeartbeats 4000000 in
set_option maxRecDepth 100000 in
theorem law_feed {p : Program} {l : Launch} {e : Env} {s : State} {m : MethodId} {below : List Frame} {meth : Method} {c : Code} {dC : Nat → ClassId} {dI : Nat → Nat → Nat} {g : kG} {A : Nat → Prop} {b L : Nat} {xs : Nat → Int32} {x1 mo : Nat} (C0 : lw_At p s m meth c b L xs) (hL : L ≤ 3072) (hbA : ¬ A b) (hG : kWf g) (hK : va_K (dC, dI) vwCl (gty g) s) (hE : kE g A s) (i_x : ik g 11 x1) (i_m : ik g 12 mo) {n : Nat} (hn : 6 * n + 6 ≤ L) {f : Nat → va_E} {H : Heap} {locs : List Loc} {ls : Array Slot} (hI : Iv dC dI g A f H) (hS : va_S A s.heap H locs) (hLI : LI g f x1 mo) (hl : lv_has ls 4 [(0, .ref b), (1, .ref x1), (2, .ref mo), (3, .int (nI (6 * n)))]) (kk : ∀ (f : Nat → va_E) (H : Heap) (locs : List Loc) (ls : Array Slot), Iv dC dI g A f H → va_S A s.heap H locs → LI g f x1 mo → lv_has ls 4 [(0, .ref b), (1, .ref x1), (2, .ref mo), (3, .int (nI (6 * n)))] → W p l e room_1 s m #[Value.ref b] below meth c H locs 786 20946 (lw_Z below #[Value.ref b] s) (F0 m 1200 ls [])) : W p l e room_1 s m #[Value.ref b] below meth c H locs 786 20946 (lw_Z below #[Value.ref b] s) (F0 m 225 ls []) := by
  obtain ⟨hx, hb, hr, hml, hown, hts, hX, hbl, hlocks, hgv⟩ := id C0
  have hown : s.vm.findClass RL = some m.cls := hown
  obtain ⟨z0, z1, z10, z12, z13, z14, z15, z16, z17, z18, z23, z24, z25, z26, q, u, im, kt, tm, a0, a1, a2, hmo, hb0, hb1, hb2, hcq, hcu, hci, hck, hct, hok, hui, hca, he0, he1, he2⟩ := hLI
  have hk0 : Kp g [0, 1, 2, 3, 4, 5, 6, 7, 8, 9, 10, 11, 12, 20, 21, 22, 23, 24, 25, 26, 27, 28, 30, 31, 32, 33, 34, 35, 36, 37, 38, 39, 40, 41, 42] f f := Kp.rf
  have i_mo_4 := kw_12_4 hG i_m
  have i_mo_5 := kw_12_5 hG i_m
  have i_mo_7 := kw_12_7 hG i_m
  have i_mo_8 := kw_12_8 hG i_m
  have i_mo_3 := kw_12_3 hG i_m
  have i_x1_0 := kw_11_0 hG i_x
  refine lv_aload_n hx hb dL_law_225 rfl (lv_at hl 1 rfl) ?_
  refine lv_aload_n hx hb dL_law_226 rfl (lv_at hl 0 rfl) ?_
  refine lv_iload_n hx hb dL_law_227 rfl (lv_at hl 3 rfl) ?_
  refine lv_iconst (v := 1) hx hb dL_law_228 (by decide) ?_
  refine lv_iadd hx hb dL_law_229 ?_
  refine k_topi (y := nI (6 * n + 1)) ((nI_add (6 * n) 1).trans (congrArg nI (by omega))) ?_
  refine va_sld hx hb hX hbl hbA hS (vp_in_nI (by omega) (by omega)) dL_law_230 ?_
  refine k_topi (y := xs (6 * n + 1)) (congrArg xs (nI_clamp (by omega))) ?_
  refine lv_aload_n hx hb dL_law_231 rfl (lv_at hl 0 rfl) ?_
  refine lv_iload_n hx hb dL_law_232 rfl (lv_at hl 3 rfl) ?_
  refine lv_iconst (v := 2) hx hb dL_law_233 (by decide) ?_
  refine lv_iadd hx hb dL_law_234 ?_
  refine k_topi (y := nI (6 * n + 2)) ((nI_add (6 * n) 2).trans (congrArg nI (by omega))) ?_
  refine va_sld hx hb hX hbl hbA hS (vp_in_nI (by omega) (by omega)) dL_law_235 ?_
  refine k_topi (y := xs (6 * n + 2)) (congrArg xs (nI_clamp (by omega))) ?_
  refine lv_aload_n hx hb dL_law_236 rfl (lv_at hl 0 rfl) ?_
  refine lv_iload_n hx hb dL_law_237 rfl (lv_at hl 3 rfl) ?_
  refine lv_iconst (v := 3) hx hb dL_law_238 (by decide) ?_
  refine lv_iadd hx hb dL_law_239 ?_
  refine k_topi (y := nI (6 * n + 3)) ((nI_add (6 * n) 3).trans (congrArg nI (by omega))) ?_
  refine va_sld hx hb hX hbl hbA hS (vp_in_nI (by omega) (by omega)) dL_law_240 ?_
  refine k_topi (y := xs (6 * n + 3)) (congrArg xs (nI_clamp (by omega))) ?_
  refine lv_aload_n hx hb dL_law_241 rfl (lv_at hl 0 rfl) ?_
  refine lv_iload_n hx hb dL_law_242 rfl (lv_at hl 3 rfl) ?_
  refine lv_iconst (v := 4) hx hb dL_law_243 (by decide) ?_
  refine lv_iadd hx hb dL_law_244 ?_
  refine k_topi (y := nI (6 * n + 4)) ((nI_add (6 * n) 4).trans (congrArg nI (by omega))) ?_
  refine va_sld hx hb hX hbl hbA hS (vp_in_nI (by omega) (by omega)) dL_law_245 ?_
  refine k_topi (y := xs (6 * n + 4)) (congrArg xs (nI_clamp (by omega))) ?_
  refine lv_aload_n hx hb dL_law_246 rfl (lv_at hl 0 rfl) ?_
  refine lv_iload_n hx hb dL_law_247 rfl (lv_at hl 3 rfl) ?_
  refine lv_iconst (v := 5) hx hb dL_law_248 (by decide) ?_
  refine lv_iadd hx hb dL_law_249 ?_
  refine k_topi (y := nI (6 * n + 5)) ((nI_add (6 * n) 5).trans (congrArg nI (by omega))) ?_
  refine va_sld hx hb hX hbl hbA hS (vp_in_nI (by omega) (by omega)) dL_law_250 ?_
  refine k_topi (y := xs (6 * n + 5)) (congrArg xs (nI_clamp (by omega))) ?_
  obtain ⟨x_2, k_1⟩ := op_11 hI i_x
  refine va_calli (va_runV (As := [.int (xs (6 * n + 1)), .int (xs (6 * n + 2)), .int (xs (6 * n + 3)), .int (xs (6 * n + 4)), .int (xs (6 * n + 5))]) (rest := []) ⟨hx, hb, hml, hown, hts⟩ (c_X11_feed l dC dI g A hG f x1 (xs (6 * n + 1)) (xs (6 * n + 2)) (xs (6 * n + 3)) (xs (6 * n + 4)) (xs (6 * n + 5)) i_x) (cwV 5 hts (gi_V tb_c_X11_feed tw_1102.1 tw_1103.1 tw_1104.1 tw_56.1) rfl rfl rfl (by decide +kernel) ⟨Nat.le_of_ble_eq_true rfl, Nat.le_of_ble_eq_true rfl⟩) ⟨fun a U g mk q => ⟨q.1, q.2.calling rfl rfl⟩, k_recv hK hI i_x.1 k_1 (ci := 11) rfl, fun U hU hW => ⟨rfl, kIn.of hI hK hE hS hU hW⟩⟩ rfl rfl hl.1 rfl (lv_room (Nat.le_of_ble_eq_true rfl)) dL_law_251 ⟨Nat.le_of_ble_eq_true rfl, Nat.le_of_ble_eq_true rfl⟩) hS (fun q _ h => h) (fun q h => h) (fun r_5 u9 t H1 locs ht hvm w_4 hB hz1 hk1 hS => ?_)
  obtain ⟨f_3, hI, kc_6⟩ := hB
  rw [ht] at hI
  have k_7 : f_3 mo = .inr (12, [.int z0, .int z1, .ref (gr g mo 2), .ref (gr g mo 3), .ref (gr g mo 4), .ref (gr g mo 5), .ref (gr g mo 6), .ref (gr g mo 7), .ref (gr g mo 8), .ref (gr g mo 9), .int z10, .ref (gr g mo 11), .int z12, .int z13, .int z14, .int z15, .long z16, .int z17, .int z18, .ref (gr g mo 19), .ref (gr g mo 20), .ref (gr g mo 21), .ref (gr g mo 22), .int z23, .long z24, .long z25, .long z26]) := Kp.at kc_6 i_m (by decide) hmo
  have k_8 : f_3 (gr g mo 4) = .inl (gc g 1, 906, .inr (.inl q)) := Kp.at kc_6 i_mo_4 (by decide) hcq
  have k_9 : f_3 (gr g mo 5) = .inl (gc g 1, 9060, .inr (.inl u)) := Kp.at kc_6 i_mo_5 (by decide) hcu
  have k_10 : f_3 (gr g mo 7) = .inl (gc g 1, 1812, .inr (.inl im)) := Kp.at kc_6 i_mo_7 (by decide) hci
  have k_11 : f_3 (gr g mo 8) = .inl (gc g 3, 2, .inl kt) := Kp.at kc_6 i_mo_8 (by decide) hck
  have k_12 : f_3 (gr g mo 3) = .inl (gc g 0, 3, .inl tm) := Kp.at kc_6 i_mo_3 (by decide) hct
  have k_13 : f_3 (gr g x1 0) = .inr (9, [.int a0, .int a1, .int a2]) := Kp.at kc_6 i_x1_0 (by decide) hca
  have k_14 : f_3 x1 = .inr (11, [.ref (gr g x1 0), .ref (gr g x1 1), .ref (gr g x1 2), .ref (gr g x1 3), .ref (gr g x1 4), .ref (gr g x1 5), .ref (gr g x1 6), .ref (gr g x1 7), .ref (gr g x1 8), .ref (gr g x1 9), .ref (gr g x1 10), .int x_2]) := Kp.at kc_6 i_x (by decide) k_1
  have kp_15 := Kp.call hk0 kc_6 (by decide)
  generalize H1 = H at hI hS ⊢
  refine W.widen (k := 786) (n := 20946) (Nat.le_of_ble_eq_true rfl) (Nat.le_of_ble_eq_true rfl) ?_
  refine lv_pop hx hb dL_law_254 rfl ?_
  refine lv_aload_n hx hb dL_law_255 rfl (lv_at hl 2 rfl) ?_
  refine lv_aload_n hx hb dL_law_256 rfl (lv_at hl 0 rfl) ?_
  refine lv_iload_n hx hb dL_law_257 rfl (lv_at hl 3 rfl) ?_
  refine lv_iconst (v := 1) hx hb dL_law_258 (by decide) ?_
  refine lv_iadd hx hb dL_law_259 ?_
  refine k_topi (y := nI (6 * n + 1)) ((nI_add (6 * n) 1).trans (congrArg nI (by omega))) ?_
  refine va_sld hx hb hX hbl hbA hS (vp_in_nI (by omega) (by omega)) dL_law_260 ?_
  refine k_topi (y := xs (6 * n + 1)) (congrArg xs (nI_clamp (by omega))) ?_
  refine lv_aload_n hx hb dL_law_261 rfl (lv_at hl 0 rfl) ?_
  refine lv_iload_n hx hb dL_law_262 rfl (lv_at hl 3 rfl) ?_
  refine lv_iconst (v := 2) hx hb dL_law_263 (by decide) ?_
  refine lv_iadd hx hb dL_law_264 ?_
  refine k_topi (y := nI (6 * n + 2)) ((nI_add (6 * n) 2).trans (congrArg nI (by omega))) ?_
  refine va_sld hx hb hX hbl hbA hS (vp_in_nI (by omega) (by omega)) dL_law_265 ?_
  refine k_topi (y := xs (6 * n + 2)) (congrArg xs (nI_clamp (by omega))) ?_
  refine lv_aload_n hx hb dL_law_266 rfl (lv_at hl 0 rfl) ?_
  refine lv_iload_n hx hb dL_law_267 rfl (lv_at hl 3 rfl) ?_
  refine lv_iconst (v := 3) hx hb dL_law_268 (by decide) ?_
  refine lv_iadd hx hb dL_law_269 ?_
  refine k_topi (y := nI (6 * n + 3)) ((nI_add (6 * n) 3).trans (congrArg nI (by omega))) ?_
  refine va_sld hx hb hX hbl hbA hS (vp_in_nI (by omega) (by omega)) dL_law_270 ?_
  refine k_topi (y := xs (6 * n + 3)) (congrArg xs (nI_clamp (by omega))) ?_
  refine lv_aload_n hx hb dL_law_271 rfl (lv_at hl 0 rfl) ?_
  refine lv_iload_n hx hb dL_law_272 rfl (lv_at hl 3 rfl) ?_
  refine lv_iconst (v := 4) hx hb dL_law_273 (by decide) ?_
  refine lv_iadd hx hb dL_law_274 ?_
  refine k_topi (y := nI (6 * n + 4)) ((nI_add (6 * n) 4).trans (congrArg nI (by omega))) ?_
  refine va_sld hx hb hX hbl hbA hS (vp_in_nI (by omega) (by omega)) dL_law_275 ?_
  refine k_topi (y := xs (6 * n + 4)) (congrArg xs (nI_clamp (by omega))) ?_
  refine lv_aload_n hx hb dL_law_276 rfl (lv_at hl 0 rfl) ?_
  refine lv_iload_n hx hb dL_law_277 rfl (lv_at hl 3 rfl) ?_
  refine lv_iconst (v := 5) hx hb dL_law_278 (by decide) ?_
  refine lv_iadd hx hb dL_law_279 ?_
  refine k_topi (y := nI (6 * n + 5)) ((nI_add (6 * n) 5).trans (congrArg nI (by omega))) ?_
  refine va_sld hx hb hX hbl hbA hS (vp_in_nI (by omega) (by omega)) dL_law_280 ?_
  refine k_topi (y := xs (6 * n + 5)) (congrArg xs (nI_clamp (by omega))) ?_
  refine va_calli (va_runV (As := [.int (xs (6 * n + 1)), .int (xs (6 * n + 2)), .int (xs (6 * n + 3)), .int (xs (6 * n + 4)), .int (xs (6 * n + 5))]) (rest := []) ⟨hx, hb, hml, hown, hts⟩ (c_X12_feed l dC dI g A hG f_3 mo (xs (6 * n + 1)) (xs (6 * n + 2)) (xs (6 * n + 3)) (xs (6 * n + 4)) (xs (6 * n + 5)) z0 z1 z10 z12 z13 z14 z15 z16 z17 z18 z23 z24 z25 z26 q u im kt i_m k_7 (by omega) (by omega) (by omega) k_8 hok k_9 k_10 k_11 hui) (cwV 5 hts (gi_V tb_c_X12_feed tw_1105.1 tw_1106.1 tw_1107.1 tw_728.1) rfl rfl rfl (by decide +kernel) ⟨Nat.le_of_ble_eq_true rfl, Nat.le_of_ble_eq_true rfl⟩) ⟨fun a U g mk q => ⟨q.1, q.2.calling rfl rfl⟩, k_recv hK hI i_m.1 k_7 (ci := 12) rfl, fun U hU hW => ⟨rfl, kIn.of hI hK hE hS hU hW⟩⟩ rfl rfl hl.1 rfl (lv_room (Nat.le_of_ble_eq_true rfl)) dL_law_281 ⟨Nat.le_of_ble_eq_true rfl, Nat.le_of_ble_eq_true rfl⟩) hS (fun q _ h => h) (fun q h => h) (fun r_18 u9 t H1 locs ht hvm w_17 hB hz1 hk1 hS => ?_)
  obtain ⟨f_16, hI, kc_19, w0_20, w1_21, w10_22, w12_23, w13_24, w14_25, w15_26, w16_27, w17_28, w18_29, w23_30, w24_31, w25_32, w26_33, q1_34, u1_35, im1_36, ik1_37, k_38, z_39, z_40, z_41, k_42, z_43, k_44, k_45, k_46, z_47⟩ := hB
  rw [ht] at hI
  have k_48 : f_16 (gr g mo 4) = .inl (gc g 1, 906, .inr (.inl q)) := Kp.at kc_19 i_mo_4 (by decide) k_8
  have k_49 : f_16 (gr g mo 5) = .inl (gc g 1, 9060, .inr (.inl u)) := Kp.at kc_19 i_mo_5 (by decide) k_9
  have k_50 : f_16 (gr g mo 7) = .inl (gc g 1, 1812, .inr (.inl im)) := Kp.at kc_19 i_mo_7 (by decide) k_10
  have k_51 : f_16 (gr g mo 8) = .inl (gc g 3, 2, .inl kt) := Kp.at kc_19 i_mo_8 (by decide) k_11
  have k_52 : f_16 (gr g mo 3) = .inl (gc g 0, 3, .inl tm) := Kp.at kc_19 i_mo_3 (by decide) k_12
  have k_53 : f_16 (gr g x1 0) = .inr (9, [.int a0, .int a1, .int a2]) := Kp.at kc_19 i_x1_0 (by decide) k_13
  have k_54 : f_16 x1 = .inr (11, [.ref (gr g x1 0), .ref (gr g x1 1), .ref (gr g x1 2), .ref (gr g x1 3), .ref (gr g x1 4), .ref (gr g x1 5), .ref (gr g x1 6), .ref (gr g x1 7), .ref (gr g x1 8), .ref (gr g x1 9), .ref (gr g x1 10), .int x_2]) := Kp.at kc_19 i_x (by decide) k_14
  have k_38 : f_16 mo = .inr (12, [.int w0_20, .int w1_21, .ref (gr g mo 2), .ref (gr g mo 3), .ref (gr g mo 4), .ref (gr g mo 5), .ref (gr g mo 6), .ref (gr g mo 7), .ref (gr g mo 8), .ref (gr g mo 9), .int w10_22, .ref (gr g mo 11), .int w12_23, .int w13_24, .int w14_25, .int w15_26, .long w16_27, .int w17_28, .int w18_29, .ref (gr g mo 19), .ref (gr g mo 20), .ref (gr g mo 21), .ref (gr g mo 22), .int w23_30, .long w24_31, .long w25_32, .long w26_33]) := k_38
  have z_39 : 0 ≤ w10_22.toInt ∧ w10_22.toInt ≤ 10 := z_39
  have z_40 : 0 ≤ w12_23.toInt ∧ w12_23.toInt ≤ 200 := z_40
  have z_41 : 0 ≤ w23_30.toInt ∧ w23_30.toInt ≤ 8 := z_41
  have z_43 : RowOK q1_34 := z_43
  have d_55 := rk_hd z_43
  have z_47 : UIq w10_22 u1_35 im1_36 ik1_37 := z_47
  have kp_56 := Kp.call kp_15 kc_19 (by decide)
  generalize H1 = H at hI hS ⊢
  refine W.widen (k := 786) (n := 20946) (Nat.le_of_ble_eq_true rfl) (Nat.le_of_ble_eq_true rfl) ?_
  refine lv_pop hx hb dL_law_284 rfl ?_
  refine lv_goto (tgt := 1200) hx hb dL_law_285 (by decide) ?_
  exact kk _ _ _ _ hI hS ⟨w0_20, w1_21, w10_22, w12_23, w13_24, w14_25, w15_26, w16_27, w17_28, w18_29, w23_30, w24_31, w25_32, w26_33, q1_34, u1_35, im1_36, ik1_37, tm, a0, a1, a2, k_38, (by omega), (by omega), (by omega), k_42, k_44, k_45, k_46, k_52, z_43, z_47, k_53, he0, he1, he2⟩ hl
theorem tw_1108 : q_g (.methodLink RL 23 yX11_end) := ⟨(List.mem_append_right _ (List.mem_of_getElem? (i := 401) (by decide +kernel))), good_of_word (by decide +kernel)⟩
theorem tw_1109 : q_g (.instanceMethod yX11_end) := ⟨(List.mem_append_right _ (List.mem_of_getElem? (i := 402) (by decide +kernel))), good_of_word (by decide +kernel)⟩
theorem tw_1110 : q_g (.selects RX11 yX11_end yX11_end) := ⟨(List.mem_append_right _ (List.mem_of_getElem? (i := 403) (by decide +kernel))), good_of_word (by decide +kernel)⟩
theorem tw_1111 : q_g (.methodLink RL 27 yX12_end) := ⟨(List.mem_append_right _ (List.mem_of_getElem? (i := 1209) (by decide +kernel))), good_of_word (by decide +kernel)⟩
theorem tw_1112 : q_g (.instanceMethod yX12_end) := ⟨(List.mem_append_right _ (List.mem_of_getElem? (i := 1210) (by decide +kernel))), good_of_word (by decide +kernel)⟩
theorem tw_1113 : q_g (.selects RX12 yX12_end yX12_end) := ⟨(List.mem_append_right _ (List.mem_of_getElem? (i := 1211) (by decide +kernel))), good_of_word (by decide +kernel)⟩
set_option maxHeartbeats 4000000 in
set_option maxRecDepth 100000 in
theorem law_end {p : Program} {l : Launch} {e : Env} {s : State} {m : MethodId} {below : List Frame} {meth : Method} {c : Code} {dC : Nat → ClassId} {dI : Nat → Nat → Nat} {g : kG} {A : Nat → Prop} {b L : Nat} {xs : Nat → Int32} {x1 mo : Nat} (C0 : lw_At p s m meth c b L xs) (hL : L ≤ 3072) (hbA : ¬ A b) (hG : kWf g) (hK : va_K (dC, dI) vwCl (gty g) s) (hE : kE g A s) (i_x : ik g 11 x1) (i_m : ik g 12 mo) {n : Nat} (hn : 6 * n + 6 ≤ L) {f : Nat → va_E} {H : Heap} {locs : List Loc} {ls : Array Slot} (hI : Iv dC dI g A f H) (hS : va_S A s.heap H locs) (hLI : LI g f x1 mo) (hl : lv_has ls 4 [(0, .ref b), (1, .ref x1), (2, .ref mo), (3, .int (nI (6 * n)))]) (kk : ∀ (f : Nat → va_E) (H : Heap) (locs : List Loc) (ls : Array Slot), Iv dC dI g A f H → va_S A s.heap H locs → LI g f x1 mo → lv_has ls 4 [(0, .ref b), (1, .ref x1), (2, .ref mo), (3, .int (nI (6 * n)))] → W p l e room_1 s m #[Value.ref b] below meth c H locs 786 20946 (lw_Z below #[Value.ref b] s) (F0 m 1200 ls [])) : W p l e room_1 s m #[Value.ref b] below meth c H locs 786 20946 (lw_Z below #[Value.ref b] s) (F0 m 288 ls []) := by
  obtain ⟨hx, hb, hr, hml, hown, hts, hX, hbl, hlocks, hgv⟩ := id C0
  have hown : s.vm.findClass RL = some m.cls := hown
  obtain ⟨z0, z1, z10, z12, z13, z14, z15, z16, z17, z18, z23, z24, z25, z26, q, u, im, kt, tm, a0, a1, a2, hmo, hb0, hb1, hb2, hcq, hcu, hci, hck, hct, hok, hui, hca, he0, he1, he2⟩ := hLI
  have hk0 : Kp g [0, 1, 2, 3, 4, 5, 6, 7, 8, 9, 10, 11, 12, 20, 21, 22, 23, 24, 25, 26, 27, 28, 30, 31, 32, 33, 34, 35, 36, 37, 38, 39, 40, 41, 42] f f := Kp.rf
  have i_mo_4 := kw_12_4 hG i_m
  have i_mo_5 := kw_12_5 hG i_m
  have i_mo_7 := kw_12_7 hG i_m
  have i_mo_8 := kw_12_8 hG i_m
  have i_mo_3 := kw_12_3 hG i_m
  have i_x1_0 := kw_11_0 hG i_x
  refine lv_aload_n hx hb dL_law_288 rfl (lv_at hl 1 rfl) ?_
  refine lv_aload_n hx hb dL_law_289 rfl (lv_at hl 0 rfl) ?_
  refine lv_iload_n hx hb dL_law_290 rfl (lv_at hl 3 rfl) ?_
  refine lv_iconst (v := 1) hx hb dL_law_291 (by decide) ?_
  refine lv_iadd hx hb dL_law_292 ?_
  refine k_topi (y := nI (6 * n + 1)) ((nI_add (6 * n) 1).trans (congrArg nI (by omega))) ?_
  refine va_sld hx hb hX hbl hbA hS (vp_in_nI (by omega) (by omega)) dL_law_293 ?_
  refine k_topi (y := xs (6 * n + 1)) (congrArg xs (nI_clamp (by omega))) ?_
  obtain ⟨x_2, k_1⟩ := op_11 hI i_x
  refine va_calli (va_runV (As := [.int (xs (6 * n + 1))]) (rest := []) ⟨hx, hb, hml, hown, hts⟩ (c_X11_end l dC dI g A hG f x1 (xs (6 * n + 1)) i_x) (cwV 1 hts (gi_V tb_c_X11_end tw_1108.1 tw_1109.1 tw_1110.1 tw_56.1) rfl rfl rfl (by decide +kernel) ⟨Nat.le_of_ble_eq_true rfl, Nat.le_of_ble_eq_true rfl⟩) ⟨fun a U g mk q => ⟨q.1, q.2.calling rfl rfl⟩, k_recv hK hI i_x.1 k_1 (ci := 11) rfl, fun U hU hW => ⟨rfl, kIn.of hI hK hE hS hU hW⟩⟩ rfl rfl hl.1 rfl (lv_room (Nat.le_of_ble_eq_true rfl)) dL_law_294 ⟨Nat.le_of_ble_eq_true rfl, Nat.le_of_ble_eq_true rfl⟩) hS (fun q _ h => h) (fun q h => h) (fun r_5 u9 t H1 locs ht hvm w_4 hB hz1 hk1 hS => ?_)
  obtain ⟨f_3, hI, kc_6⟩ := hB
  rw [ht] at hI
  have k_7 : f_3 mo = .inr (12, [.int z0, .int z1, .ref (gr g mo 2), .ref (gr g mo 3), .ref (gr g mo 4), .ref (gr g mo 5), .ref (gr g mo 6), .ref (gr g mo 7), .ref (gr g mo 8), .ref (gr g mo 9), .int z10, .ref (gr g mo 11), .int z12, .int z13, .int z14, .int z15, .long z16, .int z17, .int z18, .ref (gr g mo 19), .ref (gr g mo 20), .ref (gr g mo 21), .ref (gr g mo 22), .int z23, .long z24, .long z25, .long z26]) := Kp.at kc_6 i_m (by decide) hmo
  have k_8 : f_3 (gr g mo 4) = .inl (gc g 1, 906, .inr (.inl q)) := Kp.at kc_6 i_mo_4 (by decide) hcq
  have k_9 : f_3 (gr g mo 5) = .inl (gc g 1, 9060, .inr (.inl u)) := Kp.at kc_6 i_mo_5 (by decide) hcu
  have k_10 : f_3 (gr g mo 7) = .inl (gc g 1, 1812, .inr (.inl im)) := Kp.at kc_6 i_mo_7 (by decide) hci
  have k_11 : f_3 (gr g mo 8) = .inl (gc g 3, 2, .inl kt) := Kp.at kc_6 i_mo_8 (by decide) hck
  have k_12 : f_3 (gr g mo 3) = .inl (gc g 0, 3, .inl tm) := Kp.at kc_6 i_mo_3 (by decide) hct
  have k_13 : f_3 (gr g x1 0) = .inr (9, [.int a0, .int a1, .int a2]) := Kp.at kc_6 i_x1_0 (by decide) hca
  have k_14 : f_3 x1 = .inr (11, [.ref (gr g x1 0), .ref (gr g x1 1), .ref (gr g x1 2), .ref (gr g x1 3), .ref (gr g x1 4), .ref (gr g x1 5), .ref (gr g x1 6), .ref (gr g x1 7), .ref (gr g x1 8), .ref (gr g x1 9), .ref (gr g x1 10), .int x_2]) := Kp.at kc_6 i_x (by decide) k_1
  have kp_15 := Kp.call hk0 kc_6 (by decide)
  generalize H1 = H at hI hS ⊢
  refine W.widen (k := 786) (n := 20946) (Nat.le_of_ble_eq_true rfl) (Nat.le_of_ble_eq_true rfl) ?_
  refine lv_pop hx hb dL_law_297 rfl ?_
  refine lv_aload_n hx hb dL_law_298 rfl (lv_at hl 2 rfl) ?_
  refine lv_aload_n hx hb dL_law_299 rfl (lv_at hl 0 rfl) ?_
  refine lv_iload_n hx hb dL_law_300 rfl (lv_at hl 3 rfl) ?_
  refine lv_iconst (v := 1) hx hb dL_law_301 (by decide) ?_
  refine lv_iadd hx hb dL_law_302 ?_
  refine k_topi (y := nI (6 * n + 1)) ((nI_add (6 * n) 1).trans (congrArg nI (by omega))) ?_
  refine va_sld hx hb hX hbl hbA hS (vp_in_nI (by omega) (by omega)) dL_law_303 ?_
  refine k_topi (y := xs (6 * n + 1)) (congrArg xs (nI_clamp (by omega))) ?_
  refine va_calli (va_runV (As := [.int (xs (6 * n + 1))]) (rest := []) ⟨hx, hb, hml, hown, hts⟩ (c_X12_end l dC dI g A hG f_3 mo (xs (6 * n + 1)) z0 z1 z10 z12 z13 z14 z15 z16 z17 z18 z23 z24 z25 z26 q u im kt i_m k_7 (by omega) (by omega) (by omega) k_8 hok k_9 k_10 k_11 hui) (cwV 1 hts (gi_V tb_c_X12_end tw_1111.1 tw_1112.1 tw_1113.1 tw_728.1) rfl rfl rfl (by decide +kernel) ⟨Nat.le_of_ble_eq_true rfl, Nat.le_of_ble_eq_true rfl⟩) ⟨fun a U g mk q => ⟨q.1, q.2.calling rfl rfl⟩, k_recv hK hI i_m.1 k_7 (ci := 12) rfl, fun U hU hW => ⟨rfl, kIn.of hI hK hE hS hU hW⟩⟩ rfl rfl hl.1 rfl (lv_room (Nat.le_of_ble_eq_true rfl)) dL_law_304 ⟨Nat.le_of_ble_eq_true rfl, Nat.le_of_ble_eq_true rfl⟩) hS (fun q _ h => h) (fun q h => h) (fun r_18 u9 t H1 locs ht hvm w_17 hB hz1 hk1 hS => ?_)
  obtain ⟨f_16, hI, kc_19, w0_20, w1_21, w10_22, w12_23, w13_24, w14_25, w15_26, w16_27, w17_28, w18_29, w23_30, w24_31, w25_32, w26_33, q1_34, u1_35, im1_36, ik1_37, k_38, z_39, z_40, z_41, k_42, z_43, k_44, k_45, k_46, z_47⟩ := hB
  rw [ht] at hI
  have k_48 : f_16 (gr g mo 4) = .inl (gc g 1, 906, .inr (.inl q)) := Kp.at kc_19 i_mo_4 (by decide) k_8
  have k_49 : f_16 (gr g mo 5) = .inl (gc g 1, 9060, .inr (.inl u)) := Kp.at kc_19 i_mo_5 (by decide) k_9
  have k_50 : f_16 (gr g mo 7) = .inl (gc g 1, 1812, .inr (.inl im)) := Kp.at kc_19 i_mo_7 (by decide) k_10
  have k_51 : f_16 (gr g mo 8) = .inl (gc g 3, 2, .inl kt) := Kp.at kc_19 i_mo_8 (by decide) k_11
  have k_52 : f_16 (gr g mo 3) = .inl (gc g 0, 3, .inl tm) := Kp.at kc_19 i_mo_3 (by decide) k_12
  have k_53 : f_16 (gr g x1 0) = .inr (9, [.int a0, .int a1, .int a2]) := Kp.at kc_19 i_x1_0 (by decide) k_13
  have k_54 : f_16 x1 = .inr (11, [.ref (gr g x1 0), .ref (gr g x1 1), .ref (gr g x1 2), .ref (gr g x1 3), .ref (gr g x1 4), .ref (gr g x1 5), .ref (gr g x1 6), .ref (gr g x1 7), .ref (gr g x1 8), .ref (gr g x1 9), .ref (gr g x1 10), .int x_2]) := Kp.at kc_19 i_x (by decide) k_14
  have k_38 : f_16 mo = .inr (12, [.int w0_20, .int w1_21, .ref (gr g mo 2), .ref (gr g mo 3), .ref (gr g mo 4), .ref (gr g mo 5), .ref (gr g mo 6), .ref (gr g mo 7), .ref (gr g mo 8), .ref (gr g mo 9), .int w10_22, .ref (gr g mo 11), .int w12_23, .int w13_24, .int w14_25, .int w15_26, .long w16_27, .int w17_28, .int w18_29, .ref (gr g mo 19), .ref (gr g mo 20), .ref (gr g mo 21), .ref (gr g mo 22), .int w23_30, .long w24_31, .long w25_32, .long w26_33]) := k_38
  have z_39 : 0 ≤ w10_22.toInt ∧ w10_22.toInt ≤ 10 := z_39
  have z_40 : 0 ≤ w12_23.toInt ∧ w12_23.toInt ≤ 200 := z_40
  have z_41 : 0 ≤ w23_30.toInt ∧ w23_30.toInt ≤ 8 := z_41
  have z_43 : RowOK q1_34 := z_43
  have d_55 := rk_hd z_43
  have z_47 : UIq w10_22 u1_35 im1_36 ik1_37 := z_47
  have kp_56 := Kp.call kp_15 kc_19 (by decide)
  generalize H1 = H at hI hS ⊢
  refine W.widen (k := 786) (n := 20946) (Nat.le_of_ble_eq_true rfl) (Nat.le_of_ble_eq_true rfl) ?_
  refine lv_pop hx hb dL_law_307 rfl ?_
  refine lv_goto (tgt := 1200) hx hb dL_law_308 (by decide) ?_
  exact kk _ _ _ _ hI hS ⟨w0_20, w1_21, w10_22, w12_23, w13_24, w14_25, w15_26, w16_27, w17_28, w18_29, w23_30, w24_31, w25_32, w26_33, q1_34, u1_35, im1_36, ik1_37, tm, a0, a1, a2, k_38, (by omega), (by omega), (by omega), k_42, k_44, k_45, k_46, k_52, z_43, z_47, k_53, he0, he1, he2⟩ hl
theorem tw_1114 : q_g (.methodLink RL 28 yX11_tape) := ⟨(List.mem_append_right _ (List.mem_of_getElem? (i := 405) (by decide +kernel))), good_of_word (by decide +kernel)⟩
theorem tw_1115 : q_g (.instanceMethod yX11_tape) := ⟨(List.mem_append_right _ (List.mem_of_getElem? (i := 406) (by decide +kernel))), good_of_word (by decide +kernel)⟩
theorem tw_1116 : q_g (.selects RX11 yX11_tape yX11_tape) := ⟨(List.mem_append_right _ (List.mem_of_getElem? (i := 407) (by decide +kernel))), good_of_word (by decide +kernel)⟩
theorem tw_1117 : q_g (.methodLink RL 31 yX12_tape) := ⟨(List.mem_append_right _ (List.mem_of_getElem? (i := 1213) (by decide +kernel))), good_of_word (by decide +kernel)⟩
theorem tw_1118 : q_g (.instanceMethod yX12_tape) := ⟨(List.mem_append_right _ (List.mem_of_getElem? (i := 1214) (by decide +kernel))), good_of_word (by decide +kernel)⟩
theorem tw_1119 : q_g (.selects RX12 yX12_tape yX12_tape) := ⟨(List.mem_append_right _ (List.mem_of_getElem? (i := 1215) (by decide +kernel))), good_of_word (by decide +kernel)⟩
set_option maxHeartbeats 4000000 in
set_option maxRecDepth 100000 in
theorem law_tape {p : Program} {l : Launch} {e : Env} {s : State} {m : MethodId} {below : List Frame} {meth : Method} {c : Code} {dC : Nat → ClassId} {dI : Nat → Nat → Nat} {g : kG} {A : Nat → Prop} {b L : Nat} {xs : Nat → Int32} {x1 mo : Nat} (C0 : lw_At p s m meth c b L xs) (hL : L ≤ 3072) (hbA : ¬ A b) (hG : kWf g) (hK : va_K (dC, dI) vwCl (gty g) s) (hE : kE g A s) (i_x : ik g 11 x1) (i_m : ik g 12 mo) {n : Nat} (hn : 6 * n + 6 ≤ L) {f : Nat → va_E} {H : Heap} {locs : List Loc} {ls : Array Slot} (hI : Iv dC dI g A f H) (hS : va_S A s.heap H locs) (hLI : LI g f x1 mo) (hl : lv_has ls 4 [(0, .ref b), (1, .ref x1), (2, .ref mo), (3, .int (nI (6 * n)))]) (kk : ∀ (f : Nat → va_E) (H : Heap) (locs : List Loc) (ls : Array Slot), Iv dC dI g A f H → va_S A s.heap H locs → LI g f x1 mo → lv_has ls 4 [(0, .ref b), (1, .ref x1), (2, .ref mo), (3, .int (nI (6 * n)))] → W p l e room_1 s m #[Value.ref b] below meth c H locs 786 20946 (lw_Z below #[Value.ref b] s) (F0 m 1200 ls [])) : W p l e room_1 s m #[Value.ref b] below meth c H locs 786 20946 (lw_Z below #[Value.ref b] s) (F0 m 311 ls []) := by
  obtain ⟨hx, hb, hr, hml, hown, hts, hX, hbl, hlocks, hgv⟩ := id C0
  have hown : s.vm.findClass RL = some m.cls := hown
  obtain ⟨z0, z1, z10, z12, z13, z14, z15, z16, z17, z18, z23, z24, z25, z26, q, u, im, kt, tm, a0, a1, a2, hmo, hb0, hb1, hb2, hcq, hcu, hci, hck, hct, hok, hui, hca, he0, he1, he2⟩ := hLI
  have hk0 : Kp g [0, 1, 2, 3, 4, 5, 6, 7, 8, 9, 10, 11, 12, 20, 21, 22, 23, 24, 25, 26, 27, 28, 30, 31, 32, 33, 34, 35, 36, 37, 38, 39, 40, 41, 42] f f := Kp.rf
  have i_mo_4 := kw_12_4 hG i_m
  have i_mo_5 := kw_12_5 hG i_m
  have i_mo_7 := kw_12_7 hG i_m
  have i_mo_8 := kw_12_8 hG i_m
  have i_mo_3 := kw_12_3 hG i_m
  have i_x1_0 := kw_11_0 hG i_x
  refine lv_aload_n hx hb dL_law_311 rfl (lv_at hl 1 rfl) ?_
  refine lv_aload_n hx hb dL_law_312 rfl (lv_at hl 0 rfl) ?_
  refine lv_iload_n hx hb dL_law_313 rfl (lv_at hl 3 rfl) ?_
  refine lv_iconst (v := 1) hx hb dL_law_314 (by decide) ?_
  refine lv_iadd hx hb dL_law_315 ?_
  refine k_topi (y := nI (6 * n + 1)) ((nI_add (6 * n) 1).trans (congrArg nI (by omega))) ?_
  refine va_sld hx hb hX hbl hbA hS (vp_in_nI (by omega) (by omega)) dL_law_316 ?_
  refine k_topi (y := xs (6 * n + 1)) (congrArg xs (nI_clamp (by omega))) ?_
  obtain ⟨x_2, k_1⟩ := op_11 hI i_x
  refine va_calli (va_runV (As := [.int (xs (6 * n + 1))]) (rest := []) ⟨hx, hb, hml, hown, hts⟩ (c_X11_tape l dC dI g A hG f x1 (xs (6 * n + 1)) i_x) (cwV 1 hts (gi_V tb_c_X11_tape tw_1114.1 tw_1115.1 tw_1116.1 tw_56.1) rfl rfl rfl (by decide +kernel) ⟨Nat.le_of_ble_eq_true rfl, Nat.le_of_ble_eq_true rfl⟩) ⟨fun a U g mk q => ⟨q.1, q.2.calling rfl rfl⟩, k_recv hK hI i_x.1 k_1 (ci := 11) rfl, fun U hU hW => ⟨rfl, kIn.of hI hK hE hS hU hW⟩⟩ rfl rfl hl.1 rfl (lv_room (Nat.le_of_ble_eq_true rfl)) dL_law_317 ⟨Nat.le_of_ble_eq_true rfl, Nat.le_of_ble_eq_true rfl⟩) hS (fun q _ h => h) (fun q h => h) (fun r_4 u9 t H1 locs ht hvm w_3 hB hz1 hk1 hS => ?_)
  have hI : Iv dC dI g A f t.heap := hB
  rw [ht] at hI
  generalize H1 = H at hI hS ⊢
  refine W.widen (k := 786) (n := 20946) (Nat.le_of_ble_eq_true rfl) (Nat.le_of_ble_eq_true rfl) ?_
  refine lv_pop hx hb dL_law_320 rfl ?_
  refine lv_aload_n hx hb dL_law_321 rfl (lv_at hl 2 rfl) ?_
  refine lv_aload_n hx hb dL_law_322 rfl (lv_at hl 0 rfl) ?_
  refine lv_iload_n hx hb dL_law_323 rfl (lv_at hl 3 rfl) ?_
  refine lv_iconst (v := 1) hx hb dL_law_324 (by decide) ?_
  refine lv_iadd hx hb dL_law_325 ?_
  refine k_topi (y := nI (6 * n + 1)) ((nI_add (6 * n) 1).trans (congrArg nI (by omega))) ?_
  refine va_sld hx hb hX hbl hbA hS (vp_in_nI (by omega) (by omega)) dL_law_326 ?_
  refine k_topi (y := xs (6 * n + 1)) (congrArg xs (nI_clamp (by omega))) ?_
  refine va_calli (va_runV (As := [.int (xs (6 * n + 1))]) (rest := []) ⟨hx, hb, hml, hown, hts⟩ (c_X12_tape l dC dI g A hG f mo (xs (6 * n + 1)) z0 z1 z10 z12 z13 z14 z15 z16 z17 z18 z23 z24 z25 z26 q u im kt i_m hmo (by omega) (by omega) (by omega) hcq hok hcu hci hck hui) (cwV 1 hts (gi_V tb_c_X12_tape tw_1117.1 tw_1118.1 tw_1119.1 tw_728.1) rfl rfl rfl (by decide +kernel) ⟨Nat.le_of_ble_eq_true rfl, Nat.le_of_ble_eq_true rfl⟩) ⟨fun a U g mk q => ⟨q.1, q.2.calling rfl rfl⟩, k_recv hK hI i_m.1 hmo (ci := 12) rfl, fun U hU hW => ⟨rfl, kIn.of hI hK hE hS hU hW⟩⟩ rfl rfl hl.1 rfl (lv_room (Nat.le_of_ble_eq_true rfl)) dL_law_327 ⟨Nat.le_of_ble_eq_true rfl, Nat.le_of_ble_eq_true rfl⟩) hS (fun q _ h => h) (fun q h => h) (fun r_7 u9 t H1 locs ht hvm w_6 hB hz1 hk1 hS => ?_)
  obtain ⟨f_5, hI, kc_8, w0_9, w1_10, w10_11, w12_12, w13_13, w14_14, w15_15, w16_16, w17_17, w18_18, w23_19, w24_20, w25_21, w26_22, q1_23, u1_24, im1_25, ik1_26, k_27, z_28, z_29, z_30, k_31, z_32, k_33, k_34, k_35, z_36⟩ := hB
  rw [ht] at hI
  have k_37 : f_5 (gr g mo 4) = .inl (gc g 1, 906, .inr (.inl q)) := Kp.at kc_8 i_mo_4 (by decide) hcq
  have k_38 : f_5 (gr g mo 5) = .inl (gc g 1, 9060, .inr (.inl u)) := Kp.at kc_8 i_mo_5 (by decide) hcu
  have k_39 : f_5 (gr g mo 7) = .inl (gc g 1, 1812, .inr (.inl im)) := Kp.at kc_8 i_mo_7 (by decide) hci
  have k_40 : f_5 (gr g mo 8) = .inl (gc g 3, 2, .inl kt) := Kp.at kc_8 i_mo_8 (by decide) hck
  have k_41 : f_5 (gr g mo 3) = .inl (gc g 0, 3, .inl tm) := Kp.at kc_8 i_mo_3 (by decide) hct
  have k_42 : f_5 (gr g x1 0) = .inr (9, [.int a0, .int a1, .int a2]) := Kp.at kc_8 i_x1_0 (by decide) hca
  have k_43 : f_5 x1 = .inr (11, [.ref (gr g x1 0), .ref (gr g x1 1), .ref (gr g x1 2), .ref (gr g x1 3), .ref (gr g x1 4), .ref (gr g x1 5), .ref (gr g x1 6), .ref (gr g x1 7), .ref (gr g x1 8), .ref (gr g x1 9), .ref (gr g x1 10), .int x_2]) := Kp.at kc_8 i_x (by decide) k_1
  have k_27 : f_5 mo = .inr (12, [.int w0_9, .int w1_10, .ref (gr g mo 2), .ref (gr g mo 3), .ref (gr g mo 4), .ref (gr g mo 5), .ref (gr g mo 6), .ref (gr g mo 7), .ref (gr g mo 8), .ref (gr g mo 9), .int w10_11, .ref (gr g mo 11), .int w12_12, .int w13_13, .int w14_14, .int w15_15, .long w16_16, .int w17_17, .int w18_18, .ref (gr g mo 19), .ref (gr g mo 20), .ref (gr g mo 21), .ref (gr g mo 22), .int w23_19, .long w24_20, .long w25_21, .long w26_22]) := k_27
  have z_28 : 0 ≤ w10_11.toInt ∧ w10_11.toInt ≤ 10 := z_28
  have z_29 : 0 ≤ w12_12.toInt ∧ w12_12.toInt ≤ 200 := z_29
  have z_30 : 0 ≤ w23_19.toInt ∧ w23_19.toInt ≤ 8 := z_30
  have z_32 : RowOK q1_23 := z_32
  have d_44 := rk_hd z_32
  have z_36 : UIq w10_11 u1_24 im1_25 ik1_26 := z_36
  have kp_45 := Kp.call hk0 kc_8 (by decide)
  generalize H1 = H at hI hS ⊢
  refine W.widen (k := 786) (n := 20946) (Nat.le_of_ble_eq_true rfl) (Nat.le_of_ble_eq_true rfl) ?_
  refine lv_pop hx hb dL_law_330 rfl ?_
  refine lv_goto (tgt := 1200) hx hb dL_law_331 (by decide) ?_
  exact kk _ _ _ _ hI hS ⟨w0_9, w1_10, w10_11, w12_12, w13_13, w14_14, w15_15, w16_16, w17_17, w18_18, w23_19, w24_20, w25_21, w26_22, q1_23, u1_24, im1_25, ik1_26, tm, a0, a1, a2, k_27, (by omega), (by omega), (by omega), k_31, k_33, k_34, k_35, k_41, z_32, z_36, k_42, he0, he1, he2⟩ hl
theorem tw_1120 : q_g (.methodLink RL 32 yX11_task) := ⟨(List.mem_append_right _ (List.mem_of_getElem? (i := 413) (by decide +kernel))), good_of_word (by decide +kernel)⟩
theorem tw_1121 : q_g (.instanceMethod yX11_task) := ⟨(List.mem_append_right _ (List.mem_of_getElem? (i := 414) (by decide +kernel))), good_of_word (by decide +kernel)⟩
theorem tw_1122 : q_g (.selects RX11 yX11_task yX11_task) := ⟨(List.mem_append_right _ (List.mem_of_getElem? (i := 415) (by decide +kernel))), good_of_word (by decide +kernel)⟩
theorem tw_1123 : q_g (.methodLink RL 35 yX12_task) := ⟨(List.mem_append_right _ (List.mem_of_getElem? (i := 1217) (by decide +kernel))), good_of_word (by decide +kernel)⟩
theorem tw_1124 : q_g (.instanceMethod yX12_task) := ⟨(List.mem_append_right _ (List.mem_of_getElem? (i := 1218) (by decide +kernel))), good_of_word (by decide +kernel)⟩
theorem tw_1125 : q_g (.selects RX12 yX12_task yX12_task) := ⟨(List.mem_append_right _ (List.mem_of_getElem? (i := 1219) (by decide +kernel))), good_of_word (by decide +kernel)⟩
set_option maxHeartbeats 4000000 in
set_option maxRecDepth 100000 in
theorem law_task {p : Program} {l : Launch} {e : Env} {s : State} {m : MethodId} {below : List Frame} {meth : Method} {c : Code} {dC : Nat → ClassId} {dI : Nat → Nat → Nat} {g : kG} {A : Nat → Prop} {b L : Nat} {xs : Nat → Int32} {x1 mo : Nat} (C0 : lw_At p s m meth c b L xs) (hL : L ≤ 3072) (hbA : ¬ A b) (hG : kWf g) (hK : va_K (dC, dI) vwCl (gty g) s) (hE : kE g A s) (i_x : ik g 11 x1) (i_m : ik g 12 mo) {n : Nat} (hn : 6 * n + 6 ≤ L) {f : Nat → va_E} {H : Heap} {locs : List Loc} {ls : Array Slot} (hI : Iv dC dI g A f H) (hS : va_S A s.heap H locs) (hLI : LI g f x1 mo) (hl : lv_has ls 4 [(0, .ref b), (1, .ref x1), (2, .ref mo), (3, .int (nI (6 * n)))]) (kk : ∀ (f : Nat → va_E) (H : Heap) (locs : List Loc) (ls : Array Slot), Iv dC dI g A f H → va_S A s.heap H locs → LI g f x1 mo → lv_has ls 4 [(0, .ref b), (1, .ref x1), (2, .ref mo), (3, .int (nI (6 * n)))] → W p l e room_1 s m #[Value.ref b] below meth c H locs 786 20946 (lw_Z below #[Value.ref b] s) (F0 m 1200 ls [])) : W p l e room_1 s m #[Value.ref b] below meth c H locs 786 20946 (lw_Z below #[Value.ref b] s) (F0 m 334 ls []) := by
  obtain ⟨hx, hb, hr, hml, hown, hts, hX, hbl, hlocks, hgv⟩ := id C0
  have hown : s.vm.findClass RL = some m.cls := hown
  obtain ⟨z0, z1, z10, z12, z13, z14, z15, z16, z17, z18, z23, z24, z25, z26, q, u, im, kt, tm, a0, a1, a2, hmo, hb0, hb1, hb2, hcq, hcu, hci, hck, hct, hok, hui, hca, he0, he1, he2⟩ := hLI
  have hk0 : Kp g [0, 1, 2, 3, 4, 5, 6, 7, 8, 9, 10, 11, 12, 20, 21, 22, 23, 24, 25, 26, 27, 28, 30, 31, 32, 33, 34, 35, 36, 37, 38, 39, 40, 41, 42] f f := Kp.rf
  have i_mo_4 := kw_12_4 hG i_m
  have i_mo_5 := kw_12_5 hG i_m
  have i_mo_7 := kw_12_7 hG i_m
  have i_mo_8 := kw_12_8 hG i_m
  have i_mo_3 := kw_12_3 hG i_m
  have i_x1_0 := kw_11_0 hG i_x
  refine lv_aload_n hx hb dL_law_334 rfl (lv_at hl 1 rfl) ?_
  refine lv_aload_n hx hb dL_law_335 rfl (lv_at hl 0 rfl) ?_
  refine lv_iload_n hx hb dL_law_336 rfl (lv_at hl 3 rfl) ?_
  refine lv_iconst (v := 1) hx hb dL_law_337 (by decide) ?_
  refine lv_iadd hx hb dL_law_338 ?_
  refine k_topi (y := nI (6 * n + 1)) ((nI_add (6 * n) 1).trans (congrArg nI (by omega))) ?_
  refine va_sld hx hb hX hbl hbA hS (vp_in_nI (by omega) (by omega)) dL_law_339 ?_
  refine k_topi (y := xs (6 * n + 1)) (congrArg xs (nI_clamp (by omega))) ?_
  refine lv_aload_n hx hb dL_law_340 rfl (lv_at hl 0 rfl) ?_
  refine lv_iload_n hx hb dL_law_341 rfl (lv_at hl 3 rfl) ?_
  refine lv_iconst (v := 2) hx hb dL_law_342 (by decide) ?_
  refine lv_iadd hx hb dL_law_343 ?_
  refine k_topi (y := nI (6 * n + 2)) ((nI_add (6 * n) 2).trans (congrArg nI (by omega))) ?_
  refine va_sld hx hb hX hbl hbA hS (vp_in_nI (by omega) (by omega)) dL_law_344 ?_
  refine k_topi (y := xs (6 * n + 2)) (congrArg xs (nI_clamp (by omega))) ?_
  obtain ⟨x_2, k_1⟩ := op_11 hI i_x
  refine va_calli (va_runV (As := [.int (xs (6 * n + 1)), .int (xs (6 * n + 2))]) (rest := []) ⟨hx, hb, hml, hown, hts⟩ (c_X11_task l dC dI g A hG f x1 (xs (6 * n + 1)) (xs (6 * n + 2)) i_x) (cwV 2 hts (gi_V tb_c_X11_task tw_1120.1 tw_1121.1 tw_1122.1 tw_56.1) rfl rfl rfl (by decide +kernel) ⟨Nat.le_of_ble_eq_true rfl, Nat.le_of_ble_eq_true rfl⟩) ⟨fun a U g mk q => ⟨q.1, q.2.calling rfl rfl⟩, k_recv hK hI i_x.1 k_1 (ci := 11) rfl, fun U hU hW => ⟨rfl, kIn.of hI hK hE hS hU hW⟩⟩ rfl rfl hl.1 rfl (lv_room (Nat.le_of_ble_eq_true rfl)) dL_law_345 ⟨Nat.le_of_ble_eq_true rfl, Nat.le_of_ble_eq_true rfl⟩) hS (fun q _ h => h) (fun q h => h) (fun r_5 u9 t H1 locs ht hvm w_4 hB hz1 hk1 hS => ?_)
  obtain ⟨f_3, hI, kc_6⟩ := hB
  rw [ht] at hI
  have k_7 : f_3 mo = .inr (12, [.int z0, .int z1, .ref (gr g mo 2), .ref (gr g mo 3), .ref (gr g mo 4), .ref (gr g mo 5), .ref (gr g mo 6), .ref (gr g mo 7), .ref (gr g mo 8), .ref (gr g mo 9), .int z10, .ref (gr g mo 11), .int z12, .int z13, .int z14, .int z15, .long z16, .int z17, .int z18, .ref (gr g mo 19), .ref (gr g mo 20), .ref (gr g mo 21), .ref (gr g mo 22), .int z23, .long z24, .long z25, .long z26]) := Kp.at kc_6 i_m (by decide) hmo
  have k_8 : f_3 (gr g mo 4) = .inl (gc g 1, 906, .inr (.inl q)) := Kp.at kc_6 i_mo_4 (by decide) hcq
  have k_9 : f_3 (gr g mo 5) = .inl (gc g 1, 9060, .inr (.inl u)) := Kp.at kc_6 i_mo_5 (by decide) hcu
  have k_10 : f_3 (gr g mo 7) = .inl (gc g 1, 1812, .inr (.inl im)) := Kp.at kc_6 i_mo_7 (by decide) hci
  have k_11 : f_3 (gr g mo 8) = .inl (gc g 3, 2, .inl kt) := Kp.at kc_6 i_mo_8 (by decide) hck
  have k_12 : f_3 (gr g mo 3) = .inl (gc g 0, 3, .inl tm) := Kp.at kc_6 i_mo_3 (by decide) hct
  have k_13 : f_3 (gr g x1 0) = .inr (9, [.int a0, .int a1, .int a2]) := Kp.at kc_6 i_x1_0 (by decide) hca
  have k_14 : f_3 x1 = .inr (11, [.ref (gr g x1 0), .ref (gr g x1 1), .ref (gr g x1 2), .ref (gr g x1 3), .ref (gr g x1 4), .ref (gr g x1 5), .ref (gr g x1 6), .ref (gr g x1 7), .ref (gr g x1 8), .ref (gr g x1 9), .ref (gr g x1 10), .int x_2]) := Kp.at kc_6 i_x (by decide) k_1
  have kp_15 := Kp.call hk0 kc_6 (by decide)
  generalize H1 = H at hI hS ⊢
  refine W.widen (k := 786) (n := 20946) (Nat.le_of_ble_eq_true rfl) (Nat.le_of_ble_eq_true rfl) ?_
  refine lv_pop hx hb dL_law_348 rfl ?_
  refine lv_aload_n hx hb dL_law_349 rfl (lv_at hl 2 rfl) ?_
  refine lv_aload_n hx hb dL_law_350 rfl (lv_at hl 0 rfl) ?_
  refine lv_iload_n hx hb dL_law_351 rfl (lv_at hl 3 rfl) ?_
  refine lv_iconst (v := 1) hx hb dL_law_352 (by decide) ?_
  refine lv_iadd hx hb dL_law_353 ?_
  refine k_topi (y := nI (6 * n + 1)) ((nI_add (6 * n) 1).trans (congrArg nI (by omega))) ?_
  refine va_sld hx hb hX hbl hbA hS (vp_in_nI (by omega) (by omega)) dL_law_354 ?_
  refine k_topi (y := xs (6 * n + 1)) (congrArg xs (nI_clamp (by omega))) ?_
  refine lv_aload_n hx hb dL_law_355 rfl (lv_at hl 0 rfl) ?_
  refine lv_iload_n hx hb dL_law_356 rfl (lv_at hl 3 rfl) ?_
  refine lv_iconst (v := 2) hx hb dL_law_357 (by decide) ?_
  refine lv_iadd hx hb dL_law_358 ?_
  refine k_topi (y := nI (6 * n + 2)) ((nI_add (6 * n) 2).trans (congrArg nI (by omega))) ?_
  refine va_sld hx hb hX hbl hbA hS (vp_in_nI (by omega) (by omega)) dL_law_359 ?_
  refine k_topi (y := xs (6 * n + 2)) (congrArg xs (nI_clamp (by omega))) ?_
  refine va_calli (va_runV (As := [.int (xs (6 * n + 1)), .int (xs (6 * n + 2))]) (rest := []) ⟨hx, hb, hml, hown, hts⟩ (c_X12_task l dC dI g A hG f_3 mo (xs (6 * n + 1)) (xs (6 * n + 2)) z0 z1 z10 z12 z13 z14 z15 z16 z17 z18 z23 z24 z25 z26 q u im kt i_m k_7 (by omega) (by omega) (by omega) k_8 hok k_9 k_10 k_11 hui) (cwV 2 hts (gi_V tb_c_X12_task tw_1123.1 tw_1124.1 tw_1125.1 tw_728.1) rfl rfl rfl (by decide +kernel) ⟨Nat.le_of_ble_eq_true rfl, Nat.le_of_ble_eq_true rfl⟩) ⟨fun a U g mk q => ⟨q.1, q.2.calling rfl rfl⟩, k_recv hK hI i_m.1 k_7 (ci := 12) rfl, fun U hU hW => ⟨rfl, kIn.of hI hK hE hS hU hW⟩⟩ rfl rfl hl.1 rfl (lv_room (Nat.le_of_ble_eq_true rfl)) dL_law_360 ⟨Nat.le_of_ble_eq_true rfl, Nat.le_of_ble_eq_true rfl⟩) hS (fun q _ h => h) (fun q h => h) (fun r_18 u9 t H1 locs ht hvm w_17 hB hz1 hk1 hS => ?_)
  obtain ⟨f_16, hI, kc_19, w0_20, w1_21, w10_22, w12_23, w13_24, w14_25, w15_26, w16_27, w17_28, w18_29, w23_30, w24_31, w25_32, w26_33, q1_34, u1_35, im1_36, ik1_37, k_38, z_39, z_40, z_41, k_42, z_43, k_44, k_45, k_46, z_47⟩ := hB
  rw [ht] at hI
  have k_48 : f_16 (gr g mo 7) = .inl (gc g 1, 1812, .inr (.inl im)) := Kp.at kc_19 i_mo_7 (by decide) k_10
  have k_49 : f_16 (gr g mo 8) = .inl (gc g 3, 2, .inl kt) := Kp.at kc_19 i_mo_8 (by decide) k_11
  have k_50 : f_16 (gr g mo 3) = .inl (gc g 0, 3, .inl tm) := Kp.at kc_19 i_mo_3 (by decide) k_12
  have k_51 : f_16 (gr g x1 0) = .inr (9, [.int a0, .int a1, .int a2]) := Kp.at kc_19 i_x1_0 (by decide) k_13
  have k_52 : f_16 x1 = .inr (11, [.ref (gr g x1 0), .ref (gr g x1 1), .ref (gr g x1 2), .ref (gr g x1 3), .ref (gr g x1 4), .ref (gr g x1 5), .ref (gr g x1 6), .ref (gr g x1 7), .ref (gr g x1 8), .ref (gr g x1 9), .ref (gr g x1 10), .int x_2]) := Kp.at kc_19 i_x (by decide) k_14
  have k_38 : f_16 mo = .inr (12, [.int w0_20, .int w1_21, .ref (gr g mo 2), .ref (gr g mo 3), .ref (gr g mo 4), .ref (gr g mo 5), .ref (gr g mo 6), .ref (gr g mo 7), .ref (gr g mo 8), .ref (gr g mo 9), .int w10_22, .ref (gr g mo 11), .int w12_23, .int w13_24, .int w14_25, .int w15_26, .long w16_27, .int w17_28, .int w18_29, .ref (gr g mo 19), .ref (gr g mo 20), .ref (gr g mo 21), .ref (gr g mo 22), .int w23_30, .long w24_31, .long w25_32, .long w26_33]) := k_38
  have z_39 : 0 ≤ w10_22.toInt ∧ w10_22.toInt ≤ 10 := z_39
  have z_40 : 0 ≤ w12_23.toInt ∧ w12_23.toInt ≤ 200 := z_40
  have z_41 : 0 ≤ w23_30.toInt ∧ w23_30.toInt ≤ 8 := z_41
  have z_43 : RowOK q1_34 := z_43
  have d_53 := rk_hd z_43
  have z_47 : UIq w10_22 u1_35 im1_36 ik1_37 := z_47
  have kp_54 := Kp.call kp_15 kc_19 (by decide)
  generalize H1 = H at hI hS ⊢
  refine W.widen (k := 786) (n := 20946) (Nat.le_of_ble_eq_true rfl) (Nat.le_of_ble_eq_true rfl) ?_
  refine lv_pop hx hb dL_law_363 rfl ?_
  refine lv_goto (tgt := 1200) hx hb dL_law_364 (by decide) ?_
  exact kk _ _ _ _ hI hS ⟨w0_20, w1_21, w10_22, w12_23, w13_24, w14_25, w15_26, w16_27, w17_28, w18_29, w23_30, w24_31, w25_32, w26_33, q1_34, u1_35, im1_36, ik1_37, tm, a0, a1, a2, k_38, (by omega), (by omega), (by omega), k_42, k_44, k_45, k_46, k_50, z_43, z_47, k_51, he0, he1, he2⟩ hl
theorem tw_1126 : q_g (.methodLink RL 36 yX11_join) := ⟨(List.mem_append_right _ (List.mem_of_getElem? (i := 475) (by decide +kernel))), good_of_word (by decide +kernel)⟩
theorem tw_1127 : q_g (.instanceMethod yX11_join) := ⟨(List.mem_append_right _ (List.mem_of_getElem? (i := 476) (by decide +kernel))), good_of_word (by decide +kernel)⟩
theorem tw_1128 : q_g (.selects RX11 yX11_join yX11_join) := ⟨(List.mem_append_right _ (List.mem_of_getElem? (i := 477) (by decide +kernel))), good_of_word (by decide +kernel)⟩
theorem tw_1129 : q_g (.methodLink RL 39 yX12_join) := ⟨(List.mem_append_right _ (List.mem_of_getElem? (i := 1230) (by decide +kernel))), good_of_word (by decide +kernel)⟩
theorem tw_1130 : q_g (.instanceMethod yX12_join) := ⟨(List.mem_append_right _ (List.mem_of_getElem? (i := 1231) (by decide +kernel))), good_of_word (by decide +kernel)⟩
theorem tw_1131 : q_g (.selects RX12 yX12_join yX12_join) := ⟨(List.mem_append_right _ (List.mem_of_getElem? (i := 1232) (by decide +kernel))), good_of_word (by decide +kernel)⟩
set_option maxHeartbeats 4000000 in
set_option maxRecDepth 100000 in
theorem law_join {p : Program} {l : Launch} {e : Env} {s : State} {m : MethodId} {below : List Frame} {meth : Method} {c : Code} {dC : Nat → ClassId} {dI : Nat → Nat → Nat} {g : kG} {A : Nat → Prop} {b L : Nat} {xs : Nat → Int32} {x1 mo : Nat} (C0 : lw_At p s m meth c b L xs) (hL : L ≤ 3072) (hbA : ¬ A b) (hG : kWf g) (hK : va_K (dC, dI) vwCl (gty g) s) (hE : kE g A s) (i_x : ik g 11 x1) (i_m : ik g 12 mo) {n : Nat} (hn : 6 * n + 6 ≤ L) {f : Nat → va_E} {H : Heap} {locs : List Loc} {ls : Array Slot} (hI : Iv dC dI g A f H) (hS : va_S A s.heap H locs) (hLI : LI g f x1 mo) (hl : lv_has ls 4 [(0, .ref b), (1, .ref x1), (2, .ref mo), (3, .int (nI (6 * n)))]) (kk : ∀ (f : Nat → va_E) (H : Heap) (locs : List Loc) (ls : Array Slot), Iv dC dI g A f H → va_S A s.heap H locs → LI g f x1 mo → lv_has ls 4 [(0, .ref b), (1, .ref x1), (2, .ref mo), (3, .int (nI (6 * n)))] → W p l e room_1 s m #[Value.ref b] below meth c H locs 786 20946 (lw_Z below #[Value.ref b] s) (F0 m 1200 ls [])) : W p l e room_1 s m #[Value.ref b] below meth c H locs 786 20946 (lw_Z below #[Value.ref b] s) (F0 m 367 ls []) := by
  obtain ⟨hx, hb, hr, hml, hown, hts, hX, hbl, hlocks, hgv⟩ := id C0
  have hown : s.vm.findClass RL = some m.cls := hown
  obtain ⟨z0, z1, z10, z12, z13, z14, z15, z16, z17, z18, z23, z24, z25, z26, q, u, im, kt, tm, a0, a1, a2, hmo, hb0, hb1, hb2, hcq, hcu, hci, hck, hct, hok, hui, hca, he0, he1, he2⟩ := hLI
  have hk0 : Kp g [0, 1, 2, 3, 4, 5, 6, 7, 8, 9, 10, 11, 12, 20, 21, 22, 23, 24, 25, 26, 27, 28, 30, 31, 32, 33, 34, 35, 36, 37, 38, 39, 40, 41, 42] f f := Kp.rf
  have i_mo_4 := kw_12_4 hG i_m
  have i_mo_5 := kw_12_5 hG i_m
  have i_mo_7 := kw_12_7 hG i_m
  have i_mo_8 := kw_12_8 hG i_m
  have i_mo_3 := kw_12_3 hG i_m
  have i_x1_0 := kw_11_0 hG i_x
  refine lv_aload_n hx hb dL_law_367 rfl (lv_at hl 1 rfl) ?_
  refine lv_aload_n hx hb dL_law_368 rfl (lv_at hl 0 rfl) ?_
  refine lv_iload_n hx hb dL_law_369 rfl (lv_at hl 3 rfl) ?_
  refine lv_iconst (v := 1) hx hb dL_law_370 (by decide) ?_
  refine lv_iadd hx hb dL_law_371 ?_
  refine k_topi (y := nI (6 * n + 1)) ((nI_add (6 * n) 1).trans (congrArg nI (by omega))) ?_
  refine va_sld hx hb hX hbl hbA hS (vp_in_nI (by omega) (by omega)) dL_law_372 ?_
  refine k_topi (y := xs (6 * n + 1)) (congrArg xs (nI_clamp (by omega))) ?_
  obtain ⟨x_2, k_1⟩ := op_11 hI i_x
  refine va_calli (va_runV (As := [.int (xs (6 * n + 1))]) (rest := []) ⟨hx, hb, hml, hown, hts⟩ (c_X11_join l dC dI g A hG f x1 (xs (6 * n + 1)) i_x) (cwV 1 hts (gi_V tb_c_X11_join tw_1126.1 tw_1127.1 tw_1128.1 tw_56.1) rfl rfl rfl (by decide +kernel) ⟨Nat.le_of_ble_eq_true rfl, Nat.le_of_ble_eq_true rfl⟩) ⟨fun a U g mk q => ⟨q.1, q.2.calling rfl rfl⟩, k_recv hK hI i_x.1 k_1 (ci := 11) rfl, fun U hU hW => ⟨rfl, kIn.of hI hK hE hS hU hW⟩⟩ rfl rfl hl.1 rfl (lv_room (Nat.le_of_ble_eq_true rfl)) dL_law_373 ⟨Nat.le_of_ble_eq_true rfl, Nat.le_of_ble_eq_true rfl⟩) hS (fun q _ h => h) (fun q h => h) (fun r_5 u9 t H1 locs ht hvm w_4 hB hz1 hk1 hS => ?_)
  obtain ⟨f_3, hI, kc_6⟩ := hB
  rw [ht] at hI
  have k_7 : f_3 mo = .inr (12, [.int z0, .int z1, .ref (gr g mo 2), .ref (gr g mo 3), .ref (gr g mo 4), .ref (gr g mo 5), .ref (gr g mo 6), .ref (gr g mo 7), .ref (gr g mo 8), .ref (gr g mo 9), .int z10, .ref (gr g mo 11), .int z12, .int z13, .int z14, .int z15, .long z16, .int z17, .int z18, .ref (gr g mo 19), .ref (gr g mo 20), .ref (gr g mo 21), .ref (gr g mo 22), .int z23, .long z24, .long z25, .long z26]) := Kp.at kc_6 i_m (by decide) hmo
  have k_8 : f_3 (gr g mo 4) = .inl (gc g 1, 906, .inr (.inl q)) := Kp.at kc_6 i_mo_4 (by decide) hcq
  have k_9 : f_3 (gr g mo 5) = .inl (gc g 1, 9060, .inr (.inl u)) := Kp.at kc_6 i_mo_5 (by decide) hcu
  have k_10 : f_3 (gr g mo 7) = .inl (gc g 1, 1812, .inr (.inl im)) := Kp.at kc_6 i_mo_7 (by decide) hci
  have k_11 : f_3 (gr g mo 8) = .inl (gc g 3, 2, .inl kt) := Kp.at kc_6 i_mo_8 (by decide) hck
  have k_12 : f_3 (gr g mo 3) = .inl (gc g 0, 3, .inl tm) := Kp.at kc_6 i_mo_3 (by decide) hct
  have k_13 : f_3 (gr g x1 0) = .inr (9, [.int a0, .int a1, .int a2]) := Kp.at kc_6 i_x1_0 (by decide) hca
  have k_14 : f_3 x1 = .inr (11, [.ref (gr g x1 0), .ref (gr g x1 1), .ref (gr g x1 2), .ref (gr g x1 3), .ref (gr g x1 4), .ref (gr g x1 5), .ref (gr g x1 6), .ref (gr g x1 7), .ref (gr g x1 8), .ref (gr g x1 9), .ref (gr g x1 10), .int x_2]) := Kp.at kc_6 i_x (by decide) k_1
  have kp_15 := Kp.call hk0 kc_6 (by decide)
  generalize H1 = H at hI hS ⊢
  refine W.widen (k := 786) (n := 20946) (Nat.le_of_ble_eq_true rfl) (Nat.le_of_ble_eq_true rfl) ?_
  refine lv_pop hx hb dL_law_376 rfl ?_
  refine lv_aload_n hx hb dL_law_377 rfl (lv_at hl 2 rfl) ?_
  refine lv_aload_n hx hb dL_law_378 rfl (lv_at hl 0 rfl) ?_
  refine lv_iload_n hx hb dL_law_379 rfl (lv_at hl 3 rfl) ?_
  refine lv_iconst (v := 1) hx hb dL_law_380 (by decide) ?_
  refine lv_iadd hx hb dL_law_381 ?_
  refine k_topi (y := nI (6 * n + 1)) ((nI_add (6 * n) 1).trans (congrArg nI (by omega))) ?_
  refine va_sld hx hb hX hbl hbA hS (vp_in_nI (by omega) (by omega)) dL_law_382 ?_
  refine k_topi (y := xs (6 * n + 1)) (congrArg xs (nI_clamp (by omega))) ?_
  refine va_calli (va_runV (As := [.int (xs (6 * n + 1))]) (rest := []) ⟨hx, hb, hml, hown, hts⟩ (c_X12_join l dC dI g A hG f_3 mo (xs (6 * n + 1)) z0 z1 z10 z12 z13 z14 z15 z16 z17 z18 z23 z24 z25 z26 q u im kt i_m k_7 (by omega) (by omega) (by omega) k_8 hok k_9 k_10 k_11 hui) (cwV 1 hts (gi_V tb_c_X12_join tw_1129.1 tw_1130.1 tw_1131.1 tw_728.1) rfl rfl rfl (by decide +kernel) ⟨Nat.le_of_ble_eq_true rfl, Nat.le_of_ble_eq_true rfl⟩) ⟨fun a U g mk q => ⟨q.1, q.2.calling rfl rfl⟩, k_recv hK hI i_m.1 k_7 (ci := 12) rfl, fun U hU hW => ⟨rfl, kIn.of hI hK hE hS hU hW⟩⟩ rfl rfl hl.1 rfl (lv_room (Nat.le_of_ble_eq_true rfl)) dL_law_383 ⟨Nat.le_of_ble_eq_true rfl, Nat.le_of_ble_eq_true rfl⟩) hS (fun q _ h => h) (fun q h => h) (fun r_18 u9 t H1 locs ht hvm w_17 hB hz1 hk1 hS => ?_)
  obtain ⟨f_16, hI, kc_19, w0_20, w1_21, w10_22, w12_23, w13_24, w14_25, w15_26, w16_27, w17_28, w18_29, w23_30, w24_31, w25_32, w26_33, q1_34, u1_35, im1_36, ik1_37, k_38, z_39, z_40, z_41, k_42, z_43, k_44, k_45, k_46, z_47⟩ := hB
  rw [ht] at hI
  have k_48 : f_16 (gr g mo 7) = .inl (gc g 1, 1812, .inr (.inl im)) := Kp.at kc_19 i_mo_7 (by decide) k_10
  have k_49 : f_16 (gr g mo 8) = .inl (gc g 3, 2, .inl kt) := Kp.at kc_19 i_mo_8 (by decide) k_11
  have k_50 : f_16 (gr g mo 3) = .inl (gc g 0, 3, .inl tm) := Kp.at kc_19 i_mo_3 (by decide) k_12
  have k_51 : f_16 (gr g x1 0) = .inr (9, [.int a0, .int a1, .int a2]) := Kp.at kc_19 i_x1_0 (by decide) k_13
  have k_52 : f_16 x1 = .inr (11, [.ref (gr g x1 0), .ref (gr g x1 1), .ref (gr g x1 2), .ref (gr g x1 3), .ref (gr g x1 4), .ref (gr g x1 5), .ref (gr g x1 6), .ref (gr g x1 7), .ref (gr g x1 8), .ref (gr g x1 9), .ref (gr g x1 10), .int x_2]) := Kp.at kc_19 i_x (by decide) k_14
  have k_38 : f_16 mo = .inr (12, [.int w0_20, .int w1_21, .ref (gr g mo 2), .ref (gr g mo 3), .ref (gr g mo 4), .ref (gr g mo 5), .ref (gr g mo 6), .ref (gr g mo 7), .ref (gr g mo 8), .ref (gr g mo 9), .int w10_22, .ref (gr g mo 11), .int w12_23, .int w13_24, .int w14_25, .int w15_26, .long w16_27, .int w17_28, .int w18_29, .ref (gr g mo 19), .ref (gr g mo 20), .ref (gr g mo 21), .ref (gr g mo 22), .int w23_30, .long w24_31, .long w25_32, .long w26_33]) := k_38
  have z_39 : 0 ≤ w10_22.toInt ∧ w10_22.toInt ≤ 10 := z_39
  have z_40 : 0 ≤ w12_23.toInt ∧ w12_23.toInt ≤ 200 := z_40
  have z_41 : 0 ≤ w23_30.toInt ∧ w23_30.toInt ≤ 8 := z_41
  have z_43 : RowOK q1_34 := z_43
  have d_53 := rk_hd z_43
  have z_47 : UIq w10_22 u1_35 im1_36 ik1_37 := z_47
  have kp_54 := Kp.call kp_15 kc_19 (by decide)
  generalize H1 = H at hI hS ⊢
  refine W.widen (k := 786) (n := 20946) (Nat.le_of_ble_eq_true rfl) (Nat.le_of_ble_eq_true rfl) ?_
  refine lv_pop hx hb dL_law_386 rfl ?_
  refine lv_goto (tgt := 1200) hx hb dL_law_387 (by decide) ?_
  exact kk _ _ _ _ hI hS ⟨w0_20, w1_21, w10_22, w12_23, w13_24, w14_25, w15_26, w16_27, w17_28, w18_29, w23_30, w24_31, w25_32, w26_33, q1_34, u1_35, im1_36, ik1_37, tm, a0, a1, a2, k_38, (by omega), (by omega), (by omega), k_42, k_44, k_45, k_46, k_50, z_43, z_47, k_51, he0, he1, he2⟩ hl
theorem tw_1132 : q_g (.methodLink RL 40 yX11_leave) := ⟨(List.mem_append_right _ (List.mem_of_getElem? (i := 546) (by decide +kernel))), good_of_word (by decide +kernel)⟩
theorem tw_1133 : q_g (.instanceMethod yX11_leave) := ⟨(List.mem_append_right _ (List.mem_of_getElem? (i := 547) (by decide +kernel))), good_of_word (by decide +kernel)⟩
theorem tw_1134 : q_g (.selects RX11 yX11_leave yX11_leave) := ⟨(List.mem_append_right _ (List.mem_of_getElem? (i := 548) (by decide +kernel))), good_of_word (by decide +kernel)⟩
theorem tw_1135 : q_g (.methodLink RL 43 yX12_leave) := ⟨(List.mem_append_right _ (List.mem_of_getElem? (i := 1279) (by decide +kernel))), good_of_word (by decide +kernel)⟩
theorem tw_1136 : q_g (.instanceMethod yX12_leave) := ⟨(List.mem_append_right _ (List.mem_of_getElem? (i := 1280) (by decide +kernel))), good_of_word (by decide +kernel)⟩
theorem tw_1137 : q_g (.selects RX12 yX12_leave yX12_leave) := ⟨(List.mem_append_right _ (List.mem_of_getElem? (i := 1281) (by decide +kernel))), good_of_word (by decide +kernel)⟩
set_option maxHeartbeats 4000000 in
set_option maxRecDepth 100000 in
theorem law_leave {p : Program} {l : Launch} {e : Env} {s : State} {m : MethodId} {below : List Frame} {meth : Method} {c : Code} {dC : Nat → ClassId} {dI : Nat → Nat → Nat} {g : kG} {A : Nat → Prop} {b L : Nat} {xs : Nat → Int32} {x1 mo : Nat} (C0 : lw_At p s m meth c b L xs) (hL : L ≤ 3072) (hbA : ¬ A b) (hG : kWf g) (hK : va_K (dC, dI) vwCl (gty g) s) (hE : kE g A s) (i_x : ik g 11 x1) (i_m : ik g 12 mo) {n : Nat} (hn : 6 * n + 6 ≤ L) {f : Nat → va_E} {H : Heap} {locs : List Loc} {ls : Array Slot} (hI : Iv dC dI g A f H) (hS : va_S A s.heap H locs) (hLI : LI g f x1 mo) (hl : lv_has ls 4 [(0, .ref b), (1, .ref x1), (2, .ref mo), (3, .int (nI (6 * n)))]) (kk : ∀ (f : Nat → va_E) (H : Heap) (locs : List Loc) (ls : Array Slot), Iv dC dI g A f H → va_S A s.heap H locs → LI g f x1 mo → lv_has ls 4 [(0, .ref b), (1, .ref x1), (2, .ref mo), (3, .int (nI (6 * n)))] → W p l e room_1 s m #[Value.ref b] below meth c H locs 786 20946 (lw_Z below #[Value.ref b] s) (F0 m 1200 ls [])) : W p l e room_1 s m #[Value.ref b] below meth c H locs 786 20946 (lw_Z below #[Value.ref b] s) (F0 m 390 ls []) := by
  obtain ⟨hx, hb, hr, hml, hown, hts, hX, hbl, hlocks, hgv⟩ := id C0
  have hown : s.vm.findClass RL = some m.cls := hown
  obtain ⟨z0, z1, z10, z12, z13, z14, z15, z16, z17, z18, z23, z24, z25, z26, q, u, im, kt, tm, a0, a1, a2, hmo, hb0, hb1, hb2, hcq, hcu, hci, hck, hct, hok, hui, hca, he0, he1, he2⟩ := hLI
  have hk0 : Kp g [0, 1, 2, 3, 4, 5, 6, 7, 8, 9, 10, 11, 12, 20, 21, 22, 23, 24, 25, 26, 27, 28, 30, 31, 32, 33, 34, 35, 36, 37, 38, 39, 40, 41, 42] f f := Kp.rf
  have i_mo_4 := kw_12_4 hG i_m
  have i_mo_5 := kw_12_5 hG i_m
  have i_mo_7 := kw_12_7 hG i_m
  have i_mo_8 := kw_12_8 hG i_m
  have i_mo_3 := kw_12_3 hG i_m
  have i_x1_0 := kw_11_0 hG i_x
  refine lv_aload_n hx hb dL_law_390 rfl (lv_at hl 1 rfl) ?_
  refine lv_aload_n hx hb dL_law_391 rfl (lv_at hl 0 rfl) ?_
  refine lv_iload_n hx hb dL_law_392 rfl (lv_at hl 3 rfl) ?_
  refine lv_iconst (v := 1) hx hb dL_law_393 (by decide) ?_
  refine lv_iadd hx hb dL_law_394 ?_
  refine k_topi (y := nI (6 * n + 1)) ((nI_add (6 * n) 1).trans (congrArg nI (by omega))) ?_
  refine va_sld hx hb hX hbl hbA hS (vp_in_nI (by omega) (by omega)) dL_law_395 ?_
  refine k_topi (y := xs (6 * n + 1)) (congrArg xs (nI_clamp (by omega))) ?_
  obtain ⟨x_2, k_1⟩ := op_11 hI i_x
  refine va_calli (va_runV (As := [.int (xs (6 * n + 1))]) (rest := []) ⟨hx, hb, hml, hown, hts⟩ (c_X11_leave l dC dI g A hG f x1 (xs (6 * n + 1)) i_x) (cwV 1 hts (gi_V tb_c_X11_leave tw_1132.1 tw_1133.1 tw_1134.1 tw_56.1) rfl rfl rfl (by decide +kernel) ⟨Nat.le_of_ble_eq_true rfl, Nat.le_of_ble_eq_true rfl⟩) ⟨fun a U g mk q => ⟨q.1, q.2.calling rfl rfl⟩, k_recv hK hI i_x.1 k_1 (ci := 11) rfl, fun U hU hW => ⟨rfl, kIn.of hI hK hE hS hU hW⟩⟩ rfl rfl hl.1 rfl (lv_room (Nat.le_of_ble_eq_true rfl)) dL_law_396 ⟨Nat.le_of_ble_eq_true rfl, Nat.le_of_ble_eq_true rfl⟩) hS (fun q _ h => h) (fun q h => h) (fun r_5 u9 t H1 locs ht hvm w_4 hB hz1 hk1 hS => ?_)
  obtain ⟨f_3, hI, kc_6⟩ := hB
  rw [ht] at hI
  have k_7 : f_3 mo = .inr (12, [.int z0, .int z1, .ref (gr g mo 2), .ref (gr g mo 3), .ref (gr g mo 4), .ref (gr g mo 5), .ref (gr g mo 6), .ref (gr g mo 7), .ref (gr g mo 8), .ref (gr g mo 9), .int z10, .ref (gr g mo 11), .int z12, .int z13, .int z14, .int z15, .long z16, .int z17, .int z18, .ref (gr g mo 19), .ref (gr g mo 20), .ref (gr g mo 21), .ref (gr g mo 22), .int z23, .long z24, .long z25, .long z26]) := Kp.at kc_6 i_m (by decide) hmo
  have k_8 : f_3 (gr g mo 4) = .inl (gc g 1, 906, .inr (.inl q)) := Kp.at kc_6 i_mo_4 (by decide) hcq
  have k_9 : f_3 (gr g mo 5) = .inl (gc g 1, 9060, .inr (.inl u)) := Kp.at kc_6 i_mo_5 (by decide) hcu
  have k_10 : f_3 (gr g mo 7) = .inl (gc g 1, 1812, .inr (.inl im)) := Kp.at kc_6 i_mo_7 (by decide) hci
  have k_11 : f_3 (gr g mo 8) = .inl (gc g 3, 2, .inl kt) := Kp.at kc_6 i_mo_8 (by decide) hck
  have k_12 : f_3 (gr g mo 3) = .inl (gc g 0, 3, .inl tm) := Kp.at kc_6 i_mo_3 (by decide) hct
  have k_13 : f_3 (gr g x1 0) = .inr (9, [.int a0, .int a1, .int a2]) := Kp.at kc_6 i_x1_0 (by decide) hca
  have k_14 : f_3 x1 = .inr (11, [.ref (gr g x1 0), .ref (gr g x1 1), .ref (gr g x1 2), .ref (gr g x1 3), .ref (gr g x1 4), .ref (gr g x1 5), .ref (gr g x1 6), .ref (gr g x1 7), .ref (gr g x1 8), .ref (gr g x1 9), .ref (gr g x1 10), .int x_2]) := Kp.at kc_6 i_x (by decide) k_1
  have kp_15 := Kp.call hk0 kc_6 (by decide)
  generalize H1 = H at hI hS ⊢
  refine W.widen (k := 786) (n := 20946) (Nat.le_of_ble_eq_true rfl) (Nat.le_of_ble_eq_true rfl) ?_
  refine lv_pop hx hb dL_law_399 rfl ?_
  refine lv_aload_n hx hb dL_law_400 rfl (lv_at hl 2 rfl) ?_
  refine lv_aload_n hx hb dL_law_401 rfl (lv_at hl 0 rfl) ?_
  refine lv_iload_n hx hb dL_law_402 rfl (lv_at hl 3 rfl) ?_
  refine lv_iconst (v := 1) hx hb dL_law_403 (by decide) ?_
  refine lv_iadd hx hb dL_law_404 ?_
  refine k_topi (y := nI (6 * n + 1)) ((nI_add (6 * n) 1).trans (congrArg nI (by omega))) ?_
  refine va_sld hx hb hX hbl hbA hS (vp_in_nI (by omega) (by omega)) dL_law_405 ?_
  refine k_topi (y := xs (6 * n + 1)) (congrArg xs (nI_clamp (by omega))) ?_
  refine va_calli (va_runV (As := [.int (xs (6 * n + 1))]) (rest := []) ⟨hx, hb, hml, hown, hts⟩ (c_X12_leave l dC dI g A hG f_3 mo (xs (6 * n + 1)) z0 z1 z10 z12 z13 z14 z15 z16 z17 z18 z23 z24 z25 z26 q u im kt i_m k_7 (by omega) (by omega) (by omega) k_8 hok k_9 k_10 k_11 hui) (cwV 1 hts (gi_V tb_c_X12_leave tw_1135.1 tw_1136.1 tw_1137.1 tw_728.1) rfl rfl rfl (by decide +kernel) ⟨Nat.le_of_ble_eq_true rfl, Nat.le_of_ble_eq_true rfl⟩) ⟨fun a U g mk q => ⟨q.1, q.2.calling rfl rfl⟩, k_recv hK hI i_m.1 k_7 (ci := 12) rfl, fun U hU hW => ⟨rfl, kIn.of hI hK hE hS hU hW⟩⟩ rfl rfl hl.1 rfl (lv_room (Nat.le_of_ble_eq_true rfl)) dL_law_406 ⟨Nat.le_of_ble_eq_true rfl, Nat.le_of_ble_eq_true rfl⟩) hS (fun q _ h => h) (fun q h => h) (fun r_18 u9 t H1 locs ht hvm w_17 hB hz1 hk1 hS => ?_)
  obtain ⟨f_16, hI, kc_19, w0_20, w1_21, w10_22, w12_23, w13_24, w14_25, w15_26, w16_27, w17_28, w18_29, w23_30, w24_31, w25_32, w26_33, q1_34, u1_35, im1_36, ik1_37, k_38, z_39, z_40, z_41, k_42, z_43, k_44, k_45, k_46, z_47⟩ := hB
  rw [ht] at hI
  have k_48 : f_16 (gr g mo 7) = .inl (gc g 1, 1812, .inr (.inl im)) := Kp.at kc_19 i_mo_7 (by decide) k_10
  have k_49 : f_16 (gr g mo 8) = .inl (gc g 3, 2, .inl kt) := Kp.at kc_19 i_mo_8 (by decide) k_11
  have k_50 : f_16 (gr g mo 3) = .inl (gc g 0, 3, .inl tm) := Kp.at kc_19 i_mo_3 (by decide) k_12
  have k_51 : f_16 (gr g x1 0) = .inr (9, [.int a0, .int a1, .int a2]) := Kp.at kc_19 i_x1_0 (by decide) k_13
  have k_52 : f_16 x1 = .inr (11, [.ref (gr g x1 0), .ref (gr g x1 1), .ref (gr g x1 2), .ref (gr g x1 3), .ref (gr g x1 4), .ref (gr g x1 5), .ref (gr g x1 6), .ref (gr g x1 7), .ref (gr g x1 8), .ref (gr g x1 9), .ref (gr g x1 10), .int x_2]) := Kp.at kc_19 i_x (by decide) k_14
  have k_38 : f_16 mo = .inr (12, [.int w0_20, .int w1_21, .ref (gr g mo 2), .ref (gr g mo 3), .ref (gr g mo 4), .ref (gr g mo 5), .ref (gr g mo 6), .ref (gr g mo 7), .ref (gr g mo 8), .ref (gr g mo 9), .int w10_22, .ref (gr g mo 11), .int w12_23, .int w13_24, .int w14_25, .int w15_26, .long w16_27, .int w17_28, .int w18_29, .ref (gr g mo 19), .ref (gr g mo 20), .ref (gr g mo 21), .ref (gr g mo 22), .int w23_30, .long w24_31, .long w25_32, .long w26_33]) := k_38
  have z_39 : 0 ≤ w10_22.toInt ∧ w10_22.toInt ≤ 10 := z_39
  have z_40 : 0 ≤ w12_23.toInt ∧ w12_23.toInt ≤ 200 := z_40
  have z_41 : 0 ≤ w23_30.toInt ∧ w23_30.toInt ≤ 8 := z_41
  have z_43 : RowOK q1_34 := z_43
  have d_53 := rk_hd z_43
  have z_47 : UIq w10_22 u1_35 im1_36 ik1_37 := z_47
  have kp_54 := Kp.call kp_15 kc_19 (by decide)
  generalize H1 = H at hI hS ⊢
  refine W.widen (k := 786) (n := 20946) (Nat.le_of_ble_eq_true rfl) (Nat.le_of_ble_eq_true rfl) ?_
  refine lv_pop hx hb dL_law_409 rfl ?_
  refine lv_goto (tgt := 1200) hx hb dL_law_410 (by decide) ?_
  exact kk _ _ _ _ hI hS ⟨w0_20, w1_21, w10_22, w12_23, w13_24, w14_25, w15_26, w16_27, w17_28, w18_29, w23_30, w24_31, w25_32, w26_33, q1_34, u1_35, im1_36, ik1_37, tm, a0, a1, a2, k_38, (by omega), (by omega), (by omega), k_42, k_44, k_45, k_46, k_50, z_43, z_47, k_51, he0, he1, he2⟩ hl
theorem tw_1138 : q_g (.methodLink RL 44 yX11_weigh) := ⟨(List.mem_append_right _ (List.mem_of_getElem? (i := 563) (by decide +kernel))), good_of_word (by decide +kernel)⟩
theorem tw_1139 : q_g (.instanceMethod yX11_weigh) := ⟨(List.mem_append_right _ (List.mem_of_getElem? (i := 564) (by decide +kernel))), good_of_word (by decide +kernel)⟩
theorem tw_1140 : q_g (.selects RX11 yX11_weigh yX11_weigh) := ⟨(List.mem_append_right _ (List.mem_of_getElem? (i := 565) (by decide +kernel))), good_of_word (by decide +kernel)⟩
theorem tw_1141 : q_g (.methodLink RL 47 yX12_weigh) := ⟨(List.mem_append_right _ (List.mem_of_getElem? (i := 1291) (by decide +kernel))), good_of_word (by decide +kernel)⟩
theorem tw_1142 : q_g (.instanceMethod yX12_weigh) := ⟨(List.mem_append_right _ (List.mem_of_getElem? (i := 1292) (by decide +kernel))), good_of_word (by decide +kernel)⟩
theorem tw_1143 : q_g (.selects RX12 yX12_weigh yX12_weigh) := ⟨(List.mem_append_right _ (List.mem_of_getElem? (i := 1293) (by decide +kernel))), good_of_word (by decide +kernel)⟩
set_option maxHeartbeats 4000000 in
set_option maxRecDepth 100000 in
theorem law_weigh {p : Program} {l : Launch} {e : Env} {s : State} {m : MethodId} {below : List Frame} {meth : Method} {c : Code} {dC : Nat → ClassId} {dI : Nat → Nat → Nat} {g : kG} {A : Nat → Prop} {b L : Nat} {xs : Nat → Int32} {x1 mo : Nat} (C0 : lw_At p s m meth c b L xs) (hL : L ≤ 3072) (hbA : ¬ A b) (hG : kWf g) (hK : va_K (dC, dI) vwCl (gty g) s) (hE : kE g A s) (i_x : ik g 11 x1) (i_m : ik g 12 mo) {n : Nat} (hn : 6 * n + 6 ≤ L) {f : Nat → va_E} {H : Heap} {locs : List Loc} {ls : Array Slot} (hI : Iv dC dI g A f H) (hS : va_S A s.heap H locs) (hLI : LI g f x1 mo) (hl : lv_has ls 4 [(0, .ref b), (1, .ref x1), (2, .ref mo), (3, .int (nI (6 * n)))]) (kk : ∀ (f : Nat → va_E) (H : Heap) (locs : List Loc) (ls : Array Slot), Iv dC dI g A f H → va_S A s.heap H locs → LI g f x1 mo → lv_has ls 4 [(0, .ref b), (1, .ref x1), (2, .ref mo), (3, .int (nI (6 * n)))] → W p l e room_1 s m #[Value.ref b] below meth c H locs 786 20946 (lw_Z below #[Value.ref b] s) (F0 m 1200 ls [])) : W p l e room_1 s m #[Value.ref b] below meth c H locs 786 20946 (lw_Z below #[Value.ref b] s) (F0 m 413 ls []) := by
  obtain ⟨hx, hb, hr, hml, hown, hts, hX, hbl, hlocks, hgv⟩ := id C0
  have hown : s.vm.findClass RL = some m.cls := hown
  obtain ⟨z0, z1, z10, z12, z13, z14, z15, z16, z17, z18, z23, z24, z25, z26, q, u, im, kt, tm, a0, a1, a2, hmo, hb0, hb1, hb2, hcq, hcu, hci, hck, hct, hok, hui, hca, he0, he1, he2⟩ := hLI
  have hk0 : Kp g [0, 1, 2, 3, 4, 5, 6, 7, 8, 9, 10, 11, 12, 20, 21, 22, 23, 24, 25, 26, 27, 28, 30, 31, 32, 33, 34, 35, 36, 37, 38, 39, 40, 41, 42] f f := Kp.rf
  have i_mo_4 := kw_12_4 hG i_m
  have i_mo_5 := kw_12_5 hG i_m
  have i_mo_7 := kw_12_7 hG i_m
  have i_mo_8 := kw_12_8 hG i_m
  have i_mo_3 := kw_12_3 hG i_m
  have i_x1_0 := kw_11_0 hG i_x
  refine lv_aload_n hx hb dL_law_413 rfl (lv_at hl 1 rfl) ?_
  refine lv_aload_n hx hb dL_law_414 rfl (lv_at hl 0 rfl) ?_
  refine lv_iload_n hx hb dL_law_415 rfl (lv_at hl 3 rfl) ?_
  refine lv_iconst (v := 1) hx hb dL_law_416 (by decide) ?_
  refine lv_iadd hx hb dL_law_417 ?_
  refine k_topi (y := nI (6 * n + 1)) ((nI_add (6 * n) 1).trans (congrArg nI (by omega))) ?_
  refine va_sld hx hb hX hbl hbA hS (vp_in_nI (by omega) (by omega)) dL_law_418 ?_
  refine k_topi (y := xs (6 * n + 1)) (congrArg xs (nI_clamp (by omega))) ?_
  refine lv_aload_n hx hb dL_law_419 rfl (lv_at hl 0 rfl) ?_
  refine lv_iload_n hx hb dL_law_420 rfl (lv_at hl 3 rfl) ?_
  refine lv_iconst (v := 2) hx hb dL_law_421 (by decide) ?_
  refine lv_iadd hx hb dL_law_422 ?_
  refine k_topi (y := nI (6 * n + 2)) ((nI_add (6 * n) 2).trans (congrArg nI (by omega))) ?_
  refine va_sld hx hb hX hbl hbA hS (vp_in_nI (by omega) (by omega)) dL_law_423 ?_
  refine k_topi (y := xs (6 * n + 2)) (congrArg xs (nI_clamp (by omega))) ?_
  obtain ⟨x_2, k_1⟩ := op_11 hI i_x
  refine va_calli (va_runV (As := [.int (xs (6 * n + 1)), .int (xs (6 * n + 2))]) (rest := []) ⟨hx, hb, hml, hown, hts⟩ (c_X11_weigh l dC dI g A hG f x1 (xs (6 * n + 1)) (xs (6 * n + 2)) i_x) (cwV 2 hts (gi_V tb_c_X11_weigh tw_1138.1 tw_1139.1 tw_1140.1 tw_56.1) rfl rfl rfl (by decide +kernel) ⟨Nat.le_of_ble_eq_true rfl, Nat.le_of_ble_eq_true rfl⟩) ⟨fun a U g mk q => ⟨q.1, q.2.calling rfl rfl⟩, k_recv hK hI i_x.1 k_1 (ci := 11) rfl, fun U hU hW => ⟨rfl, kIn.of hI hK hE hS hU hW⟩⟩ rfl rfl hl.1 rfl (lv_room (Nat.le_of_ble_eq_true rfl)) dL_law_424 ⟨Nat.le_of_ble_eq_true rfl, Nat.le_of_ble_eq_true rfl⟩) hS (fun q _ h => h) (fun q h => h) (fun r_5 u9 t H1 locs ht hvm w_4 hB hz1 hk1 hS => ?_)
  obtain ⟨f_3, hI, kc_6⟩ := hB
  rw [ht] at hI
  have k_7 : f_3 mo = .inr (12, [.int z0, .int z1, .ref (gr g mo 2), .ref (gr g mo 3), .ref (gr g mo 4), .ref (gr g mo 5), .ref (gr g mo 6), .ref (gr g mo 7), .ref (gr g mo 8), .ref (gr g mo 9), .int z10, .ref (gr g mo 11), .int z12, .int z13, .int z14, .int z15, .long z16, .int z17, .int z18, .ref (gr g mo 19), .ref (gr g mo 20), .ref (gr g mo 21), .ref (gr g mo 22), .int z23, .long z24, .long z25, .long z26]) := Kp.at kc_6 i_m (by decide) hmo
  have k_8 : f_3 (gr g mo 4) = .inl (gc g 1, 906, .inr (.inl q)) := Kp.at kc_6 i_mo_4 (by decide) hcq
  have k_9 : f_3 (gr g mo 5) = .inl (gc g 1, 9060, .inr (.inl u)) := Kp.at kc_6 i_mo_5 (by decide) hcu
  have k_10 : f_3 (gr g mo 7) = .inl (gc g 1, 1812, .inr (.inl im)) := Kp.at kc_6 i_mo_7 (by decide) hci
  have k_11 : f_3 (gr g mo 8) = .inl (gc g 3, 2, .inl kt) := Kp.at kc_6 i_mo_8 (by decide) hck
  have k_12 : f_3 (gr g mo 3) = .inl (gc g 0, 3, .inl tm) := Kp.at kc_6 i_mo_3 (by decide) hct
  have k_13 : f_3 (gr g x1 0) = .inr (9, [.int a0, .int a1, .int a2]) := Kp.at kc_6 i_x1_0 (by decide) hca
  have k_14 : f_3 x1 = .inr (11, [.ref (gr g x1 0), .ref (gr g x1 1), .ref (gr g x1 2), .ref (gr g x1 3), .ref (gr g x1 4), .ref (gr g x1 5), .ref (gr g x1 6), .ref (gr g x1 7), .ref (gr g x1 8), .ref (gr g x1 9), .ref (gr g x1 10), .int x_2]) := Kp.at kc_6 i_x (by decide) k_1
  have kp_15 := Kp.call hk0 kc_6 (by decide)
  generalize H1 = H at hI hS ⊢
  refine W.widen (k := 786) (n := 20946) (Nat.le_of_ble_eq_true rfl) (Nat.le_of_ble_eq_true rfl) ?_
  refine lv_pop hx hb dL_law_427 rfl ?_
  refine lv_aload_n hx hb dL_law_428 rfl (lv_at hl 2 rfl) ?_
  refine lv_aload_n hx hb dL_law_429 rfl (lv_at hl 0 rfl) ?_
  refine lv_iload_n hx hb dL_law_430 rfl (lv_at hl 3 rfl) ?_
  refine lv_iconst (v := 1) hx hb dL_law_431 (by decide) ?_
  refine lv_iadd hx hb dL_law_432 ?_
  refine k_topi (y := nI (6 * n + 1)) ((nI_add (6 * n) 1).trans (congrArg nI (by omega))) ?_
  refine va_sld hx hb hX hbl hbA hS (vp_in_nI (by omega) (by omega)) dL_law_433 ?_
  refine k_topi (y := xs (6 * n + 1)) (congrArg xs (nI_clamp (by omega))) ?_
  refine lv_aload_n hx hb dL_law_434 rfl (lv_at hl 0 rfl) ?_
  refine lv_iload_n hx hb dL_law_435 rfl (lv_at hl 3 rfl) ?_
  refine lv_iconst (v := 2) hx hb dL_law_436 (by decide) ?_
  refine lv_iadd hx hb dL_law_437 ?_
  refine k_topi (y := nI (6 * n + 2)) ((nI_add (6 * n) 2).trans (congrArg nI (by omega))) ?_
  refine va_sld hx hb hX hbl hbA hS (vp_in_nI (by omega) (by omega)) dL_law_438 ?_
  refine k_topi (y := xs (6 * n + 2)) (congrArg xs (nI_clamp (by omega))) ?_
  refine va_calli (va_runV (As := [.int (xs (6 * n + 1)), .int (xs (6 * n + 2))]) (rest := []) ⟨hx, hb, hml, hown, hts⟩ (c_X12_weigh l dC dI g A hG f_3 mo (xs (6 * n + 1)) (xs (6 * n + 2)) z0 z1 z10 z12 z13 z14 z15 z16 z17 z18 z23 z24 z25 z26 q u im kt i_m k_7 (by omega) (by omega) (by omega) k_8 hok k_9 k_10 k_11 hui) (cwV 2 hts (gi_V tb_c_X12_weigh tw_1141.1 tw_1142.1 tw_1143.1 tw_728.1) rfl rfl rfl (by decide +kernel) ⟨Nat.le_of_ble_eq_true rfl, Nat.le_of_ble_eq_true rfl⟩) ⟨fun a U g mk q => ⟨q.1, q.2.calling rfl rfl⟩, k_recv hK hI i_m.1 k_7 (ci := 12) rfl, fun U hU hW => ⟨rfl, kIn.of hI hK hE hS hU hW⟩⟩ rfl rfl hl.1 rfl (lv_room (Nat.le_of_ble_eq_true rfl)) dL_law_439 ⟨Nat.le_of_ble_eq_true rfl, Nat.le_of_ble_eq_true rfl⟩) hS (fun q _ h => h) (fun q h => h) (fun r_18 u9 t H1 locs ht hvm w_17 hB hz1 hk1 hS => ?_)
  obtain ⟨f_16, hI, kc_19, w0_20, w1_21, w10_22, w12_23, w13_24, w14_25, w15_26, w16_27, w17_28, w18_29, w23_30, w24_31, w25_32, w26_33, q1_34, u1_35, im1_36, ik1_37, k_38, z_39, z_40, z_41, k_42, z_43, k_44, k_45, k_46, z_47⟩ := hB
  rw [ht] at hI
  have k_48 : f_16 (gr g mo 7) = .inl (gc g 1, 1812, .inr (.inl im)) := Kp.at kc_19 i_mo_7 (by decide) k_10
  have k_49 : f_16 (gr g mo 8) = .inl (gc g 3, 2, .inl kt) := Kp.at kc_19 i_mo_8 (by decide) k_11
  have k_50 : f_16 (gr g mo 3) = .inl (gc g 0, 3, .inl tm) := Kp.at kc_19 i_mo_3 (by decide) k_12
  have k_51 : f_16 (gr g x1 0) = .inr (9, [.int a0, .int a1, .int a2]) := Kp.at kc_19 i_x1_0 (by decide) k_13
  have k_52 : f_16 x1 = .inr (11, [.ref (gr g x1 0), .ref (gr g x1 1), .ref (gr g x1 2), .ref (gr g x1 3), .ref (gr g x1 4), .ref (gr g x1 5), .ref (gr g x1 6), .ref (gr g x1 7), .ref (gr g x1 8), .ref (gr g x1 9), .ref (gr g x1 10), .int x_2]) := Kp.at kc_19 i_x (by decide) k_14
  have k_38 : f_16 mo = .inr (12, [.int w0_20, .int w1_21, .ref (gr g mo 2), .ref (gr g mo 3), .ref (gr g mo 4), .ref (gr g mo 5), .ref (gr g mo 6), .ref (gr g mo 7), .ref (gr g mo 8), .ref (gr g mo 9), .int w10_22, .ref (gr g mo 11), .int w12_23, .int w13_24, .int w14_25, .int w15_26, .long w16_27, .int w17_28, .int w18_29, .ref (gr g mo 19), .ref (gr g mo 20), .ref (gr g mo 21), .ref (gr g mo 22), .int w23_30, .long w24_31, .long w25_32, .long w26_33]) := k_38
  have z_39 : 0 ≤ w10_22.toInt ∧ w10_22.toInt ≤ 10 := z_39
  have z_40 : 0 ≤ w12_23.toInt ∧ w12_23.toInt ≤ 200 := z_40
  have z_41 : 0 ≤ w23_30.toInt ∧ w23_30.toInt ≤ 8 := z_41
  have z_43 : RowOK q1_34 := z_43
  have d_53 := rk_hd z_43
  have z_47 : UIq w10_22 u1_35 im1_36 ik1_37 := z_47
  have kp_54 := Kp.call kp_15 kc_19 (by decide)
  generalize H1 = H at hI hS ⊢
  refine W.widen (k := 786) (n := 20946) (Nat.le_of_ble_eq_true rfl) (Nat.le_of_ble_eq_true rfl) ?_
  refine lv_pop hx hb dL_law_442 rfl ?_
  refine lv_goto (tgt := 1200) hx hb dL_law_443 (by decide) ?_
  exact kk _ _ _ _ hI hS ⟨w0_20, w1_21, w10_22, w12_23, w13_24, w14_25, w15_26, w16_27, w17_28, w18_29, w23_30, w24_31, w25_32, w26_33, q1_34, u1_35, im1_36, ik1_37, tm, a0, a1, a2, k_38, (by omega), (by omega), (by omega), k_42, k_44, k_45, k_46, k_50, z_43, z_47, k_51, he0, he1, he2⟩ hl
theorem tw_1144 : q_g (.methodLink RL 48 yX11_slice) := ⟨(List.mem_append_right _ (List.mem_of_getElem? (i := 576) (by decide +kernel))), good_of_word (by decide +kernel)⟩
theorem tw_1145 : q_g (.instanceMethod yX11_slice) := ⟨(List.mem_append_right _ (List.mem_of_getElem? (i := 577) (by decide +kernel))), good_of_word (by decide +kernel)⟩
theorem tw_1146 : q_g (.selects RX11 yX11_slice yX11_slice) := ⟨(List.mem_append_right _ (List.mem_of_getElem? (i := 578) (by decide +kernel))), good_of_word (by decide +kernel)⟩
theorem tw_1147 : q_g (.methodLink RL 51 yX12_slice) := ⟨(List.mem_append_right _ (List.mem_of_getElem? (i := 1299) (by decide +kernel))), good_of_word (by decide +kernel)⟩
theorem tw_1148 : q_g (.instanceMethod yX12_slice) := ⟨(List.mem_append_right _ (List.mem_of_getElem? (i := 1300) (by decide +kernel))), good_of_word (by decide +kernel)⟩
theorem tw_1149 : q_g (.selects RX12 yX12_slice yX12_slice) := ⟨(List.mem_append_right _ (List.mem_of_getElem? (i := 1301) (by decide +kernel))), good_of_word (by decide +kernel)⟩
set_option maxHeartbeats 4000000 in
set_option maxRecDepth 100000 in
theorem law_slice {p : Program} {l : Launch} {e : Env} {s : State} {m : MethodId} {below : List Frame} {meth : Method} {c : Code} {dC : Nat → ClassId} {dI : Nat → Nat → Nat} {g : kG} {A : Nat → Prop} {b L : Nat} {xs : Nat → Int32} {x1 mo : Nat} (C0 : lw_At p s m meth c b L xs) (hL : L ≤ 3072) (hbA : ¬ A b) (hG : kWf g) (hK : va_K (dC, dI) vwCl (gty g) s) (hE : kE g A s) (i_x : ik g 11 x1) (i_m : ik g 12 mo) {n : Nat} (hn : 6 * n + 6 ≤ L) {f : Nat → va_E} {H : Heap} {locs : List Loc} {ls : Array Slot} (hI : Iv dC dI g A f H) (hS : va_S A s.heap H locs) (hLI : LI g f x1 mo) (hl : lv_has ls 4 [(0, .ref b), (1, .ref x1), (2, .ref mo), (3, .int (nI (6 * n)))]) (kk : ∀ (f : Nat → va_E) (H : Heap) (locs : List Loc) (ls : Array Slot), Iv dC dI g A f H → va_S A s.heap H locs → LI g f x1 mo → lv_has ls 4 [(0, .ref b), (1, .ref x1), (2, .ref mo), (3, .int (nI (6 * n)))] → W p l e room_1 s m #[Value.ref b] below meth c H locs 786 20946 (lw_Z below #[Value.ref b] s) (F0 m 1200 ls [])) : W p l e room_1 s m #[Value.ref b] below meth c H locs 786 20946 (lw_Z below #[Value.ref b] s) (F0 m 446 ls []) := by
  obtain ⟨hx, hb, hr, hml, hown, hts, hX, hbl, hlocks, hgv⟩ := id C0
  have hown : s.vm.findClass RL = some m.cls := hown
  obtain ⟨z0, z1, z10, z12, z13, z14, z15, z16, z17, z18, z23, z24, z25, z26, q, u, im, kt, tm, a0, a1, a2, hmo, hb0, hb1, hb2, hcq, hcu, hci, hck, hct, hok, hui, hca, he0, he1, he2⟩ := hLI
  have hk0 : Kp g [0, 1, 2, 3, 4, 5, 6, 7, 8, 9, 10, 11, 12, 20, 21, 22, 23, 24, 25, 26, 27, 28, 30, 31, 32, 33, 34, 35, 36, 37, 38, 39, 40, 41, 42] f f := Kp.rf
  have i_mo_4 := kw_12_4 hG i_m
  have i_mo_5 := kw_12_5 hG i_m
  have i_mo_7 := kw_12_7 hG i_m
  have i_mo_8 := kw_12_8 hG i_m
  have i_mo_3 := kw_12_3 hG i_m
  have i_x1_0 := kw_11_0 hG i_x
  refine lv_aload_n hx hb dL_law_446 rfl (lv_at hl 1 rfl) ?_
  refine lv_aload_n hx hb dL_law_447 rfl (lv_at hl 0 rfl) ?_
  refine lv_iload_n hx hb dL_law_448 rfl (lv_at hl 3 rfl) ?_
  refine lv_iconst (v := 1) hx hb dL_law_449 (by decide) ?_
  refine lv_iadd hx hb dL_law_450 ?_
  refine k_topi (y := nI (6 * n + 1)) ((nI_add (6 * n) 1).trans (congrArg nI (by omega))) ?_
  refine va_sld hx hb hX hbl hbA hS (vp_in_nI (by omega) (by omega)) dL_law_451 ?_
  refine k_topi (y := xs (6 * n + 1)) (congrArg xs (nI_clamp (by omega))) ?_
  refine lv_aload_n hx hb dL_law_452 rfl (lv_at hl 0 rfl) ?_
  refine lv_iload_n hx hb dL_law_453 rfl (lv_at hl 3 rfl) ?_
  refine lv_iconst (v := 2) hx hb dL_law_454 (by decide) ?_
  refine lv_iadd hx hb dL_law_455 ?_
  refine k_topi (y := nI (6 * n + 2)) ((nI_add (6 * n) 2).trans (congrArg nI (by omega))) ?_
  refine va_sld hx hb hX hbl hbA hS (vp_in_nI (by omega) (by omega)) dL_law_456 ?_
  refine k_topi (y := xs (6 * n + 2)) (congrArg xs (nI_clamp (by omega))) ?_
  obtain ⟨x_2, k_1⟩ := op_11 hI i_x
  refine va_calli (va_runV (As := [.int (xs (6 * n + 1)), .int (xs (6 * n + 2))]) (rest := []) ⟨hx, hb, hml, hown, hts⟩ (c_X11_slice l dC dI g A hG f x1 (xs (6 * n + 1)) (xs (6 * n + 2)) i_x) (cwV 2 hts (gi_V tb_c_X11_slice tw_1144.1 tw_1145.1 tw_1146.1 tw_56.1) rfl rfl rfl (by decide +kernel) ⟨Nat.le_of_ble_eq_true rfl, Nat.le_of_ble_eq_true rfl⟩) ⟨fun a U g mk q => ⟨q.1, q.2.calling rfl rfl⟩, k_recv hK hI i_x.1 k_1 (ci := 11) rfl, fun U hU hW => ⟨rfl, kIn.of hI hK hE hS hU hW⟩⟩ rfl rfl hl.1 rfl (lv_room (Nat.le_of_ble_eq_true rfl)) dL_law_457 ⟨Nat.le_of_ble_eq_true rfl, Nat.le_of_ble_eq_true rfl⟩) hS (fun q _ h => h) (fun q h => h) (fun r_5 u9 t H1 locs ht hvm w_4 hB hz1 hk1 hS => ?_)
  obtain ⟨f_3, hI, kc_6⟩ := hB
  rw [ht] at hI
  have k_7 : f_3 mo = .inr (12, [.int z0, .int z1, .ref (gr g mo 2), .ref (gr g mo 3), .ref (gr g mo 4), .ref (gr g mo 5), .ref (gr g mo 6), .ref (gr g mo 7), .ref (gr g mo 8), .ref (gr g mo 9), .int z10, .ref (gr g mo 11), .int z12, .int z13, .int z14, .int z15, .long z16, .int z17, .int z18, .ref (gr g mo 19), .ref (gr g mo 20), .ref (gr g mo 21), .ref (gr g mo 22), .int z23, .long z24, .long z25, .long z26]) := Kp.at kc_6 i_m (by decide) hmo
  have k_8 : f_3 (gr g mo 4) = .inl (gc g 1, 906, .inr (.inl q)) := Kp.at kc_6 i_mo_4 (by decide) hcq
  have k_9 : f_3 (gr g mo 5) = .inl (gc g 1, 9060, .inr (.inl u)) := Kp.at kc_6 i_mo_5 (by decide) hcu
  have k_10 : f_3 (gr g mo 7) = .inl (gc g 1, 1812, .inr (.inl im)) := Kp.at kc_6 i_mo_7 (by decide) hci
  have k_11 : f_3 (gr g mo 8) = .inl (gc g 3, 2, .inl kt) := Kp.at kc_6 i_mo_8 (by decide) hck
  have k_12 : f_3 (gr g mo 3) = .inl (gc g 0, 3, .inl tm) := Kp.at kc_6 i_mo_3 (by decide) hct
  have k_13 : f_3 (gr g x1 0) = .inr (9, [.int a0, .int a1, .int a2]) := Kp.at kc_6 i_x1_0 (by decide) hca
  have k_14 : f_3 x1 = .inr (11, [.ref (gr g x1 0), .ref (gr g x1 1), .ref (gr g x1 2), .ref (gr g x1 3), .ref (gr g x1 4), .ref (gr g x1 5), .ref (gr g x1 6), .ref (gr g x1 7), .ref (gr g x1 8), .ref (gr g x1 9), .ref (gr g x1 10), .int x_2]) := Kp.at kc_6 i_x (by decide) k_1
  have kp_15 := Kp.call hk0 kc_6 (by decide)
  generalize H1 = H at hI hS ⊢
  refine W.widen (k := 786) (n := 20946) (Nat.le_of_ble_eq_true rfl) (Nat.le_of_ble_eq_true rfl) ?_
  refine lv_pop hx hb dL_law_460 rfl ?_
  refine lv_aload_n hx hb dL_law_461 rfl (lv_at hl 2 rfl) ?_
  refine lv_aload_n hx hb dL_law_462 rfl (lv_at hl 0 rfl) ?_
  refine lv_iload_n hx hb dL_law_463 rfl (lv_at hl 3 rfl) ?_
  refine lv_iconst (v := 1) hx hb dL_law_464 (by decide) ?_
  refine lv_iadd hx hb dL_law_465 ?_
  refine k_topi (y := nI (6 * n + 1)) ((nI_add (6 * n) 1).trans (congrArg nI (by omega))) ?_
  refine va_sld hx hb hX hbl hbA hS (vp_in_nI (by omega) (by omega)) dL_law_466 ?_
  refine k_topi (y := xs (6 * n + 1)) (congrArg xs (nI_clamp (by omega))) ?_
  refine lv_aload_n hx hb dL_law_467 rfl (lv_at hl 0 rfl) ?_
  refine lv_iload_n hx hb dL_law_468 rfl (lv_at hl 3 rfl) ?_
  refine lv_iconst (v := 2) hx hb dL_law_469 (by decide) ?_
  refine lv_iadd hx hb dL_law_470 ?_
  refine k_topi (y := nI (6 * n + 2)) ((nI_add (6 * n) 2).trans (congrArg nI (by omega))) ?_
  refine va_sld hx hb hX hbl hbA hS (vp_in_nI (by omega) (by omega)) dL_law_471 ?_
  refine k_topi (y := xs (6 * n + 2)) (congrArg xs (nI_clamp (by omega))) ?_
  refine va_calli (va_runV (As := [.int (xs (6 * n + 1)), .int (xs (6 * n + 2))]) (rest := []) ⟨hx, hb, hml, hown, hts⟩ (c_X12_slice l dC dI g A hG f_3 mo (xs (6 * n + 1)) (xs (6 * n + 2)) z0 z1 z10 z12 z13 z14 z15 z16 z17 z18 z23 z24 z25 z26 q u im kt i_m k_7 (by omega) (by omega) (by omega) k_8 hok k_9 k_10 k_11 hui) (cwV 2 hts (gi_V tb_c_X12_slice tw_1147.1 tw_1148.1 tw_1149.1 tw_728.1) rfl rfl rfl (by decide +kernel) ⟨Nat.le_of_ble_eq_true rfl, Nat.le_of_ble_eq_true rfl⟩) ⟨fun a U g mk q => ⟨q.1, q.2.calling rfl rfl⟩, k_recv hK hI i_m.1 k_7 (ci := 12) rfl, fun U hU hW => ⟨rfl, kIn.of hI hK hE hS hU hW⟩⟩ rfl rfl hl.1 rfl (lv_room (Nat.le_of_ble_eq_true rfl)) dL_law_472 ⟨Nat.le_of_ble_eq_true rfl, Nat.le_of_ble_eq_true rfl⟩) hS (fun q _ h => h) (fun q h => h) (fun r_18 u9 t H1 locs ht hvm w_17 hB hz1 hk1 hS => ?_)
  obtain ⟨f_16, hI, kc_19, w0_20, w1_21, w10_22, w12_23, w13_24, w14_25, w15_26, w16_27, w17_28, w18_29, w23_30, w24_31, w25_32, w26_33, q1_34, u1_35, im1_36, ik1_37, k_38, z_39, z_40, z_41, k_42, z_43, k_44, k_45, k_46, z_47⟩ := hB
  rw [ht] at hI
  have k_48 : f_16 (gr g mo 7) = .inl (gc g 1, 1812, .inr (.inl im)) := Kp.at kc_19 i_mo_7 (by decide) k_10
  have k_49 : f_16 (gr g mo 8) = .inl (gc g 3, 2, .inl kt) := Kp.at kc_19 i_mo_8 (by decide) k_11
  have k_50 : f_16 (gr g mo 3) = .inl (gc g 0, 3, .inl tm) := Kp.at kc_19 i_mo_3 (by decide) k_12
  have k_51 : f_16 (gr g x1 0) = .inr (9, [.int a0, .int a1, .int a2]) := Kp.at kc_19 i_x1_0 (by decide) k_13
  have k_52 : f_16 x1 = .inr (11, [.ref (gr g x1 0), .ref (gr g x1 1), .ref (gr g x1 2), .ref (gr g x1 3), .ref (gr g x1 4), .ref (gr g x1 5), .ref (gr g x1 6), .ref (gr g x1 7), .ref (gr g x1 8), .ref (gr g x1 9), .ref (gr g x1 10), .int x_2]) := Kp.at kc_19 i_x (by decide) k_14
  have k_38 : f_16 mo = .inr (12, [.int w0_20, .int w1_21, .ref (gr g mo 2), .ref (gr g mo 3), .ref (gr g mo 4), .ref (gr g mo 5), .ref (gr g mo 6), .ref (gr g mo 7), .ref (gr g mo 8), .ref (gr g mo 9), .int w10_22, .ref (gr g mo 11), .int w12_23, .int w13_24, .int w14_25, .int w15_26, .long w16_27, .int w17_28, .int w18_29, .ref (gr g mo 19), .ref (gr g mo 20), .ref (gr g mo 21), .ref (gr g mo 22), .int w23_30, .long w24_31, .long w25_32, .long w26_33]) := k_38
  have z_39 : 0 ≤ w10_22.toInt ∧ w10_22.toInt ≤ 10 := z_39
  have z_40 : 0 ≤ w12_23.toInt ∧ w12_23.toInt ≤ 200 := z_40
  have z_41 : 0 ≤ w23_30.toInt ∧ w23_30.toInt ≤ 8 := z_41
  have z_43 : RowOK q1_34 := z_43
  have d_53 := rk_hd z_43
  have z_47 : UIq w10_22 u1_35 im1_36 ik1_37 := z_47
  have kp_54 := Kp.call kp_15 kc_19 (by decide)
  generalize H1 = H at hI hS ⊢
  refine W.widen (k := 786) (n := 20946) (Nat.le_of_ble_eq_true rfl) (Nat.le_of_ble_eq_true rfl) ?_
  refine lv_pop hx hb dL_law_475 rfl ?_
  refine lv_goto (tgt := 1200) hx hb dL_law_476 (by decide) ?_
  exact kk _ _ _ _ hI hS ⟨w0_20, w1_21, w10_22, w12_23, w13_24, w14_25, w15_26, w16_27, w17_28, w18_29, w23_30, w24_31, w25_32, w26_33, q1_34, u1_35, im1_36, ik1_37, tm, a0, a1, a2, k_38, (by omega), (by omega), (by omega), k_42, k_44, k_45, k_46, k_50, z_43, z_47, k_51, he0, he1, he2⟩ hl
