theorem tw_142 : q_g (.selects RX8 yX8_copy yX8_copy) := ⟨(List.mem_append_right _ (List.mem_of_getElem? (i := 433) (by decide +kernel))), good_of_word (by decide +kernel)⟩
theorem tw_143 : q_g (.instanceMethod yX8_copy) := ⟨(List.mem_append_right _ (List.mem_of_getElem? (i := 432) (by decide +kernel))), good_of_word (by decide +kernel)⟩
theorem tw_144 : q_g (.methodLink RX6 51 yX8_copy) := ⟨(List.mem_append_right _ (List.mem_of_getElem? (i := 431) (by decide +kernel))), good_of_word (by decide +kernel)⟩
theorem tw_145 : q_g (.fieldLink RX6 38 "DeadlineShare$State" "holder" "I") := ⟨(List.mem_append_right _ (List.mem_of_getElem? (i := 243) (by decide +kernel))), good_of_word (by decide +kernel)⟩
theorem tw_146 : q_g (.fieldLink RX6 58 "DeadlineShare$State" "time" "I") := ⟨(List.mem_append_right _ (List.mem_of_getElem? (i := 238) (by decide +kernel))), good_of_word (by decide +kernel)⟩
theorem tw_147 : q_g (.initialized RX2) := ⟨(List.mem_append_right _ (List.mem_of_getElem? (i := 7) (by decide +kernel))), good_of_word (by decide +kernel)⟩
theorem tw_148 : q_g (.selects RX2 yX2_copy yX2_copy) := ⟨(List.mem_append_right _ (List.mem_of_getElem? (i := 448) (by decide +kernel))), good_of_word (by decide +kernel)⟩
theorem tw_149 : q_g (.instanceMethod yX2_copy) := ⟨(List.mem_append_right _ (List.mem_of_getElem? (i := 447) (by decide +kernel))), good_of_word (by decide +kernel)⟩
theorem tw_150 : q_g (.methodLink RX6 55 yX2_copy) := ⟨(List.mem_append_right _ (List.mem_of_getElem? (i := 446) (by decide +kernel))), good_of_word (by decide +kernel)⟩
theorem tw_151 : q_g (.fieldLink RX6 20 "DeadlineShare$State" "log" "LDeadlineShare$Log;") := ⟨(List.mem_append_right _ (List.mem_of_getElem? (i := 232) (by decide +kernel))), good_of_word (by decide +kernel)⟩
theorem tw_152 : q_g (.code yX6_copy cX6_copy 3 none) := ⟨(List.mem_append_right _ (List.mem_of_getElem? (i := 430) (by decide +kernel))), good_of_word (by decide +kernel)⟩
def ow_c_X6_copy : List Cond := [.fieldLink RX6 48 "DeadlineShare$State" "count" "I", .fieldLink RX6 20 "DeadlineShare$State" "log" "LDeadlineShare$Log;", .methodLink RX6 55 yX2_copy, .instanceMethod yX2_copy, .selects RX2 yX2_copy yX2_copy, .initialized RX2, .fieldLink RX6 58 "DeadlineShare$State" "time" "I", .fieldLink RX6 61 "DeadlineShare$State" "rest" "J", .fieldLink RX6 34 "DeadlineShare$State" "last" "I", .fieldLink RX6 38 "DeadlineShare$State" "holder" "I", .fieldLink RX6 11 "DeadlineShare$State" "tasks" "[LDeadlineShare$Task;", .methodLink RX6 51 yX8_copy, .instanceMethod yX8_copy, .selects RX8 yX8_copy yX8_copy, .initialized RX8]
def wq_c_X6_copy : List Cond := .code yX6_copy cX6_copy 3 none :: (ow_c_X6_copy ++ (u_ws RX6 TX6 10 ++ (wq_c_X2_copy ++ (wq_c_X8_copy ++ ([] : List Cond)))))
theorem tb_c_X6_copy : ∀ w ∈ wq_c_X6_copy, q_g w := by
  unfold wq_c_X6_copy ow_c_X6_copy
  exact q_cons tw_152 (q_app (q_cons tw_13 (q_cons tw_151 (q_cons tw_150 (q_cons tw_149 (q_cons tw_148 (q_cons tw_147 (q_cons tw_146 (q_cons tw_25 (q_cons tw_77 (q_cons tw_145 (q_cons tw_12 (q_cons tw_144 (q_cons tw_143 (q_cons tw_142 (q_cons tw_8 q_nil))))))))))))))) (q_app tu_X6 (q_app tb_c_X2_copy (q_app tb_c_X8_copy q_nil))))
set_option maxHeartbeats 4000000 in
set_option maxRecDepth 100000 in
theorem c_X6_copy (l : Launch) (dC : Nat → ClassId) (dI : Nat → Nat → Nat) (g : kG) (A : Nat → Prop) (hG : kWf g) (f : Nat → va_E) (h0 : Nat) (p1 : Nat) (i_h0 : ik g 6 h0) (i_p1 : ik g 6 p1) : Met l yX6_copy wq_c_X6_copy ({ frames := 3, cells := 0, slots := 0, locals := 82 } : Room) (va_Pc [.ref h0, .ref p1] (fun U => kIn dC dI g A f U)) (va_Qv (fun (_ : Unit) => True) (fun (_ : Unit) t => ∃ f1 : Nat → va_E, Iv dC dI g A f1 t.heap ∧ Kp g [5, 6, 8, 10, 23, 24] f f1) A) 0 0 A := by
  refine Met.ofW (cc := cX6_copy) (maxL := 3) (ret := none) (by decide) rfl ?_
  intro p e s m args below meth c s₁ B hml hv
  obtain ⟨rfl, hI, hK, hE⟩ := hv
  have hx := B.exec
  have hb := B.bytes
  have hr := B.returns
  have hts := atoms_spec (ws := wq_c_X6_copy) B.pre
  have hown : s.vm.findClass RX6 = some m.cls := findClass_of_methodNamed B.named
  have hlocks := B.notSynchronized
  have hS : va_S A s.heap s.heap [] := va_S.rf
  have hk0 : Kp g [5, 6, 8, 10, 23, 24] f f := Kp.rf
  have hl := lv_entry ([.ref h0, .ref p1]) (n := 3) (Nat.le_of_ble_eq_true rfl)
  rw [lg_entry_eq]
  generalize (lg_sl ([.ref h0, .ref p1]) ++ List.replicate (3 - (lg_sl ([.ref h0, .ref p1])).length) Slot.unset).toArray = ls at hl ⊢
  have hl : lv_has ls 3 [(0, .ref h0), (1, .ref p1)] := hl
  refine lv_iconst (v := 0) hx hb dX6_copy_0 (by decide) ?_
  refine lv_istore_n (lv' := [(2, .int 0), (0, .ref h0), (1, .ref p1)]) hx hb dX6_copy_1 rfl hl (by decide) rfl (fun ls hl => ?_)
  have K_2 : ∀ (nn : Nat) (y_1 : Int32) (f_2 : Nat → va_E) (H : Heap) (locs : List Loc) (ls : Array Slot), (12 - y_1.toInt).toNat < nn → Iv dC dI g A f_2 H → va_S A s.heap H locs → Kp g [5, 6, 8, 10, 23, 24] f f_2 → (0 ≤ y_1.toInt) → lv_has ls 3 [(2, .int y_1), (0, .ref h0), (1, .ref p1)] → W p l e (headSpec wq_c_X6_copy ({ frames := 3, cells := 0, slots := 0, locals := 82 } : Room)).room s m ([.ref h0, .ref p1].toArray) below meth c H locs 0 0 (MQ below (va_Qv (fun (_ : Unit) => True) (fun (_ : Unit) t => ∃ f1 : Nat → va_E, Iv dC dI g A f1 t.heap ∧ Kp g [5, 6, 8, 10, 23, 24] f f1) A) ([.ref h0, .ref p1].toArray) s 0 0 A) (F0 m 2 ls []) := by
    intro nn
    induction nn with
    | zero => intro y_1 f_2 H locs ls m_5; exact absurd m_5 (Nat.not_lt_zero _)
    | succ nn ih =>
      intro y_1 f_2 H locs ls m_5 hI hS kp_3 t_4 hl
      have g_6 := Int32.toInt_lt y_1
      have g_7 := Int32.le_toInt y_1
      refine lv_iload_n hx hb dX6_copy_2 rfl (lv_at hl 0 rfl) ?_
      refine lv_aload_n hx hb dX6_copy_3 rfl (lv_at hl 2 rfl) ?_
      obtain ⟨x_9, x_10, x_11, x_12, x_13, k_8, b_14, b_15⟩ := op_6 hI i_p1
      refine k_get (ci := 6) (v := .int x_9) (C := RX6) (T := TX6) (N := 10) hx hb hts (fun _ h0_ => List.mem_cons_of_mem _ (List.mem_append_right _ (List.mem_append_left _ h0_))) hown hK hI i_p1.1 k_8 rfl 5 (by decide) (hts (.fieldLink RX6 48 "DeadlineShare$State" "count" "I") (List.mem_cons_of_mem _ (List.mem_append_left _ (List.mem_of_getElem? (i := 0) rfl)))) (fun _ h9 => h9) rfl dX6_copy_4 ?_
      refine lv_icmp_ge (tgt := 31) hx hb dX6_copy_7 (by decide) (fun c_16 => ?_) (fun c_16 => ?_)
      · have c_16 := kc_le rfl rfl c_16
        refine lv_aload_n hx hb dX6_copy_31 rfl (lv_at hl 1 rfl) ?_
        obtain ⟨x_18, x_19, x_20, x_21, x_22, k_17, b_23, b_24⟩ := op_6 hI i_h0
        refine k_get (ci := 6) (v := .ref (gr g h0 2)) (C := RX6) (T := TX6) (N := 10) hx hb hts (fun _ h0_ => List.mem_cons_of_mem _ (List.mem_append_right _ (List.mem_append_left _ h0_))) hown hK hI i_h0.1 k_17 rfl 2 (by decide) (hts (.fieldLink RX6 20 "DeadlineShare$State" "log" "LDeadlineShare$Log;") (List.mem_cons_of_mem _ (List.mem_append_left _ (List.mem_of_getElem? (i := 1) rfl)))) (fun _ h9 => h9) rfl dX6_copy_32 ?_
        have i_26 := kw_6_2 hG i_h0
        refine lv_aload_n hx hb dX6_copy_35 rfl (lv_at hl 2 rfl) ?_
        refine k_get (ci := 6) (v := .ref (gr g p1 2)) (C := RX6) (T := TX6) (N := 10) hx hb hts (fun _ h0_ => List.mem_cons_of_mem _ (List.mem_append_right _ (List.mem_append_left _ h0_))) hown hK hI i_p1.1 k_8 rfl 2 (by decide) (hts (.fieldLink RX6 20 "DeadlineShare$State" "log" "LDeadlineShare$Log;") (List.mem_cons_of_mem _ (List.mem_append_left _ (List.mem_of_getElem? (i := 1) rfl)))) (fun _ h9 => h9) rfl dX6_copy_36 ?_
        have i_28 := kw_6_2 hG i_p1
        have k_29 := op_2 hI i_26
        refine va_callv (va_runV (As := [.ref (gr g p1 2)]) (rest := []) ⟨hx, hb, hml, hown, hts⟩ (c_X2_copy l dC dI g A hG f_2 (gr g h0 2) (gr g p1 2) i_26 i_28) (cwV 1 hts (gi_V (fun w_ h0_ => ⟨List.mem_cons_of_mem _ (List.mem_append_right _ (List.mem_append_right _ (List.mem_append_left _ h0_))), (tb_c_X2_copy w_ h0_).2⟩) (List.mem_cons_of_mem _ (List.mem_append_left _ (List.mem_of_getElem? (i := 2) rfl))) (List.mem_cons_of_mem _ (List.mem_append_left _ (List.mem_of_getElem? (i := 3) rfl))) (List.mem_cons_of_mem _ (List.mem_append_left _ (List.mem_of_getElem? (i := 4) rfl))) (List.mem_cons_of_mem _ (List.mem_append_left _ (List.mem_of_getElem? (i := 5) rfl)))) rfl rfl rfl (by decide +kernel) ⟨Nat.le_of_ble_eq_true rfl, Nat.le_of_ble_eq_true rfl⟩) ⟨fun a U g mk q => ⟨q.1, q.2.calling rfl rfl⟩, k_recv hK hI i_26.1 k_29 (ci := 2) rfl, fun U hU hW => ⟨rfl, kIn.of hI hK hE hS hU hW⟩⟩ rfl rfl hl.1 rfl (lv_room (Nat.le_of_ble_eq_true rfl)) dX6_copy_39 ⟨Nat.le_of_ble_eq_true rfl, Nat.le_of_ble_eq_true rfl⟩) hS (fun q _ h => h) (fun q h => h) (fun u t H1 locs ht hvm _ hB hz1 hk1 hS => ?_)
        obtain ⟨f_30, hI, kc_32⟩ := hB
        rw [ht] at hI
        have k_33 : f_30 p1 = .inr (6, [.ref (gr g p1 0), .ref (gr g p1 1), .ref (gr g p1 2), .ref (gr g p1 3), .ref (gr g p1 4), .int x_9, .int x_10, .long x_11, .int x_12, .int x_13]) := Kp.at kc_32 i_p1 (by decide) k_8
        have k_34 : f_30 h0 = .inr (6, [.ref (gr g h0 0), .ref (gr g h0 1), .ref (gr g h0 2), .ref (gr g h0 3), .ref (gr g h0 4), .int x_18, .int x_19, .long x_20, .int x_21, .int x_22]) := Kp.at kc_32 i_h0 (by decide) k_17
        have k_35 : f_30 (gr g h0 2) = .inr (2, [.ref (gr g (gr g h0 2) 0)]) := Kp.at kc_32 i_26 (by decide) k_29
        have kp_36 := Kp.call kp_3 kc_32 (by decide)
        generalize H1 = H at hI hS ⊢
        refine W.widen (k := 0) (n := 0) (Nat.le_of_ble_eq_true rfl) (Nat.le_of_ble_eq_true rfl) ?_
        refine lv_aload_n hx hb dX6_copy_42 rfl (lv_at hl 1 rfl) ?_
        refine lv_aload_n hx hb dX6_copy_43 rfl (lv_at hl 2 rfl) ?_
        refine k_get (ci := 6) (v := .int x_9) (C := RX6) (T := TX6) (N := 10) hx hb hts (fun _ h0_ => List.mem_cons_of_mem _ (List.mem_append_right _ (List.mem_append_left _ h0_))) hown hK hI i_p1.1 k_33 rfl 5 (by decide) (hts (.fieldLink RX6 48 "DeadlineShare$State" "count" "I") (List.mem_cons_of_mem _ (List.mem_append_left _ (List.mem_of_getElem? (i := 0) rfl)))) (fun _ h9 => h9) rfl dX6_copy_44 ?_
        have b_37 : 0 ≤ Int32.toInt x_9 ∧ Int32.toInt x_9 ≤ 12 := by omega
        refine k_put (ci := 6) (v := .int x_9) (ty := .int) (C := RX6) (T := TX6) (N := 10) hx hb hts (fun _ h0_ => List.mem_cons_of_mem _ (List.mem_append_right _ (List.mem_append_left _ h0_))) tyX6 tyX6_ok nmX6 hown hK hI hS i_h0.1 k_34 rfl 5 (by decide) (hts (.fieldLink RX6 48 "DeadlineShare$State" "count" "I") (List.mem_cons_of_mem _ (List.mem_append_left _ (List.mem_of_getElem? (i := 0) rfl)))) (fun _ h9 => h9) rfl (by decide +kernel) rfl rfl (Nat.le_of_ble_eq_true rfl) rfl (cl_6 i_h0 b_37) dX6_copy_47 (fun f_38 H locs e_39 hI hS => ?_)
        have k_41 : f_38 h0 = .inr (6, [.ref (gr g h0 0), .ref (gr g h0 1), .ref (gr g h0 2), .ref (gr g h0 3), .ref (gr g h0 4), .int x_9, .int x_19, .long x_20, .int x_21, .int x_22]) := by rw [e_39]; exact va_up_self _ _ _
        have k_42 : f_38 (gr g h0 2) = .inr (2, [.ref (gr g (gr g h0 2) 0)]) := by rw [e_39, va_up_ne _ _ (ik_ne i_26 i_h0 (by decide))]; exact k_35
        have kp_40 := Kp.put kp_36 i_h0 (by decide) e_39
        refine lv_aload_n hx hb dX6_copy_50 rfl (lv_at hl 1 rfl) ?_
        refine lv_aload_n hx hb dX6_copy_51 rfl (lv_at hl 2 rfl) ?_
        obtain ⟨x_44, x_45, x_46, x_47, x_48, k_43, b_49, b_50⟩ := op_6 hI i_p1
        refine k_get (ci := 6) (v := .int x_45) (C := RX6) (T := TX6) (N := 10) hx hb hts (fun _ h0_ => List.mem_cons_of_mem _ (List.mem_append_right _ (List.mem_append_left _ h0_))) hown hK hI i_p1.1 k_43 rfl 6 (by decide) (hts (.fieldLink RX6 58 "DeadlineShare$State" "time" "I") (List.mem_cons_of_mem _ (List.mem_append_left _ (List.mem_of_getElem? (i := 6) rfl)))) (fun _ h9 => h9) rfl dX6_copy_52 ?_
        refine k_put (ci := 6) (v := .int x_45) (ty := .int) (C := RX6) (T := TX6) (N := 10) hx hb hts (fun _ h0_ => List.mem_cons_of_mem _ (List.mem_append_right _ (List.mem_append_left _ h0_))) tyX6 tyX6_ok nmX6 hown hK hI hS i_h0.1 k_41 rfl 6 (by decide) (hts (.fieldLink RX6 58 "DeadlineShare$State" "time" "I") (List.mem_cons_of_mem _ (List.mem_append_left _ (List.mem_of_getElem? (i := 6) rfl)))) (fun _ h9 => h9) rfl (by decide +kernel) rfl rfl (Nat.le_of_ble_eq_true rfl) rfl (cl_6 i_h0 (by omega)) dX6_copy_55 (fun f_51 H locs e_52 hI hS => ?_)
        have k_54 : f_51 h0 = .inr (6, [.ref (gr g h0 0), .ref (gr g h0 1), .ref (gr g h0 2), .ref (gr g h0 3), .ref (gr g h0 4), .int x_9, .int x_45, .long x_20, .int x_21, .int x_22]) := by rw [e_52]; exact va_up_self _ _ _
        have k_55 : f_51 (gr g h0 2) = .inr (2, [.ref (gr g (gr g h0 2) 0)]) := by rw [e_52, va_up_ne _ _ (ik_ne i_26 i_h0 (by decide))]; exact k_42
        have kp_53 := Kp.put kp_40 i_h0 (by decide) e_52
        refine lv_aload_n hx hb dX6_copy_58 rfl (lv_at hl 1 rfl) ?_
        refine lv_aload_n hx hb dX6_copy_59 rfl (lv_at hl 2 rfl) ?_
        obtain ⟨x_57, x_58, x_59, x_60, x_61, k_56, b_62, b_63⟩ := op_6 hI i_p1
        refine k_get (ci := 6) (v := .long x_59) (C := RX6) (T := TX6) (N := 10) hx hb hts (fun _ h0_ => List.mem_cons_of_mem _ (List.mem_append_right _ (List.mem_append_left _ h0_))) hown hK hI i_p1.1 k_56 rfl 7 (by decide) (hts (.fieldLink RX6 61 "DeadlineShare$State" "rest" "J") (List.mem_cons_of_mem _ (List.mem_append_left _ (List.mem_of_getElem? (i := 7) rfl)))) (fun _ h9 => h9) rfl dX6_copy_60 ?_
        refine k_put (ci := 6) (v := .long x_59) (ty := .long) (C := RX6) (T := TX6) (N := 10) hx hb hts (fun _ h0_ => List.mem_cons_of_mem _ (List.mem_append_right _ (List.mem_append_left _ h0_))) tyX6 tyX6_ok nmX6 hown hK hI hS i_h0.1 k_54 rfl 7 (by decide) (hts (.fieldLink RX6 61 "DeadlineShare$State" "rest" "J") (List.mem_cons_of_mem _ (List.mem_append_left _ (List.mem_of_getElem? (i := 7) rfl)))) (fun _ h9 => h9) rfl (by decide +kernel) rfl rfl (Nat.le_of_ble_eq_true rfl) rfl (cl_6 i_h0 (by omega)) dX6_copy_63 (fun f_64 H locs e_65 hI hS => ?_)
        have k_67 : f_64 h0 = .inr (6, [.ref (gr g h0 0), .ref (gr g h0 1), .ref (gr g h0 2), .ref (gr g h0 3), .ref (gr g h0 4), .int x_9, .int x_45, .long x_59, .int x_21, .int x_22]) := by rw [e_65]; exact va_up_self _ _ _
        have k_68 : f_64 (gr g h0 2) = .inr (2, [.ref (gr g (gr g h0 2) 0)]) := by rw [e_65, va_up_ne _ _ (ik_ne i_26 i_h0 (by decide))]; exact k_55
        have kp_66 := Kp.put kp_53 i_h0 (by decide) e_65
        refine lv_aload_n hx hb dX6_copy_66 rfl (lv_at hl 1 rfl) ?_
        refine lv_aload_n hx hb dX6_copy_67 rfl (lv_at hl 2 rfl) ?_
        obtain ⟨x_70, x_71, x_72, x_73, x_74, k_69, b_75, b_76⟩ := op_6 hI i_p1
        refine k_get (ci := 6) (v := .int x_73) (C := RX6) (T := TX6) (N := 10) hx hb hts (fun _ h0_ => List.mem_cons_of_mem _ (List.mem_append_right _ (List.mem_append_left _ h0_))) hown hK hI i_p1.1 k_69 rfl 8 (by decide) (hts (.fieldLink RX6 34 "DeadlineShare$State" "last" "I") (List.mem_cons_of_mem _ (List.mem_append_left _ (List.mem_of_getElem? (i := 8) rfl)))) (fun _ h9 => h9) rfl dX6_copy_68 ?_
        refine k_put (ci := 6) (v := .int x_73) (ty := .int) (C := RX6) (T := TX6) (N := 10) hx hb hts (fun _ h0_ => List.mem_cons_of_mem _ (List.mem_append_right _ (List.mem_append_left _ h0_))) tyX6 tyX6_ok nmX6 hown hK hI hS i_h0.1 k_67 rfl 8 (by decide) (hts (.fieldLink RX6 34 "DeadlineShare$State" "last" "I") (List.mem_cons_of_mem _ (List.mem_append_left _ (List.mem_of_getElem? (i := 8) rfl)))) (fun _ h9 => h9) rfl (by decide +kernel) rfl rfl (Nat.le_of_ble_eq_true rfl) rfl (cl_6 i_h0 (by omega)) dX6_copy_71 (fun f_77 H locs e_78 hI hS => ?_)
        have k_80 : f_77 h0 = .inr (6, [.ref (gr g h0 0), .ref (gr g h0 1), .ref (gr g h0 2), .ref (gr g h0 3), .ref (gr g h0 4), .int x_9, .int x_45, .long x_59, .int x_73, .int x_22]) := by rw [e_78]; exact va_up_self _ _ _
        have k_81 : f_77 (gr g h0 2) = .inr (2, [.ref (gr g (gr g h0 2) 0)]) := by rw [e_78, va_up_ne _ _ (ik_ne i_26 i_h0 (by decide))]; exact k_68
        have kp_79 := Kp.put kp_66 i_h0 (by decide) e_78
        refine lv_aload_n hx hb dX6_copy_74 rfl (lv_at hl 1 rfl) ?_
        refine lv_aload_n hx hb dX6_copy_75 rfl (lv_at hl 2 rfl) ?_
        obtain ⟨x_83, x_84, x_85, x_86, x_87, k_82, b_88, b_89⟩ := op_6 hI i_p1
        refine k_get (ci := 6) (v := .int x_87) (C := RX6) (T := TX6) (N := 10) hx hb hts (fun _ h0_ => List.mem_cons_of_mem _ (List.mem_append_right _ (List.mem_append_left _ h0_))) hown hK hI i_p1.1 k_82 rfl 9 (by decide) (hts (.fieldLink RX6 38 "DeadlineShare$State" "holder" "I") (List.mem_cons_of_mem _ (List.mem_append_left _ (List.mem_of_getElem? (i := 9) rfl)))) (fun _ h9 => h9) rfl dX6_copy_76 ?_
        refine k_put (ci := 6) (v := .int x_87) (ty := .int) (C := RX6) (T := TX6) (N := 10) hx hb hts (fun _ h0_ => List.mem_cons_of_mem _ (List.mem_append_right _ (List.mem_append_left _ h0_))) tyX6 tyX6_ok nmX6 hown hK hI hS i_h0.1 k_80 rfl 9 (by decide) (hts (.fieldLink RX6 38 "DeadlineShare$State" "holder" "I") (List.mem_cons_of_mem _ (List.mem_append_left _ (List.mem_of_getElem? (i := 9) rfl)))) (fun _ h9 => h9) rfl (by decide +kernel) rfl rfl (Nat.le_of_ble_eq_true rfl) rfl (cl_6 i_h0 (by omega)) dX6_copy_79 (fun f_90 H locs e_91 hI hS => ?_)
        have k_93 : f_90 h0 = .inr (6, [.ref (gr g h0 0), .ref (gr g h0 1), .ref (gr g h0 2), .ref (gr g h0 3), .ref (gr g h0 4), .int x_9, .int x_45, .long x_59, .int x_73, .int x_87]) := by rw [e_91]; exact va_up_self _ _ _
        have k_94 : f_90 (gr g h0 2) = .inr (2, [.ref (gr g (gr g h0 2) 0)]) := by rw [e_91, va_up_ne _ _ (ik_ne i_26 i_h0 (by decide))]; exact k_81
        have kp_92 := Kp.put kp_79 i_h0 (by decide) e_91
        exact W.vret hx hb hr (fun t ht hW => ⟨⟨(), rfl, trivial, ⟨f_90, k_ret ht hI, kp_92⟩⟩, hS.F ht⟩) hS.2.2 dX6_copy_82
      · have c_16 := kn_le rfl rfl c_16
        refine lv_aload_n hx hb dX6_copy_10 rfl (lv_at hl 1 rfl) ?_
        obtain ⟨x_96, x_97, x_98, x_99, x_100, k_95, b_101, b_102⟩ := op_6 hI i_h0
        refine k_get (ci := 6) (v := .ref (gr g h0 1)) (C := RX6) (T := TX6) (N := 10) hx hb hts (fun _ h0_ => List.mem_cons_of_mem _ (List.mem_append_right _ (List.mem_append_left _ h0_))) hown hK hI i_h0.1 k_95 rfl 1 (by decide) (hts (.fieldLink RX6 11 "DeadlineShare$State" "tasks" "[LDeadlineShare$Task;") (List.mem_cons_of_mem _ (List.mem_append_left _ (List.mem_of_getElem? (i := 10) rfl)))) (fun _ h9 => h9) rfl dX6_copy_11 ?_
        have i_104 := kw_6_1 hG i_h0
        refine lv_iload_n hx hb dX6_copy_14 rfl (lv_at hl 0 rfl) ?_
        obtain ⟨q_106, k_105, b_107⟩ := op_20 hI i_104
        refine k_aald hx hb hK hI i_104.1 4 k_105 rfl (vp_in_iff.mpr (by omega)) b_107 (fun _ hj => kw_20 hG i_104 hj) dX6_copy_15 (fun a_108 i_109 => ?_)
        refine lv_aload_n hx hb dX6_copy_16 rfl (lv_at hl 2 rfl) ?_
        refine k_get (ci := 6) (v := .ref (gr g p1 1)) (C := RX6) (T := TX6) (N := 10) hx hb hts (fun _ h0_ => List.mem_cons_of_mem _ (List.mem_append_right _ (List.mem_append_left _ h0_))) hown hK hI i_p1.1 k_8 rfl 1 (by decide) (hts (.fieldLink RX6 11 "DeadlineShare$State" "tasks" "[LDeadlineShare$Task;") (List.mem_cons_of_mem _ (List.mem_append_left _ (List.mem_of_getElem? (i := 10) rfl)))) (fun _ h9 => h9) rfl dX6_copy_17 ?_
        have i_111 := kw_6_1 hG i_p1
        refine lv_iload_n hx hb dX6_copy_20 rfl (lv_at hl 0 rfl) ?_
        obtain ⟨q_113, k_112, b_114⟩ := op_20 hI i_111
        refine k_aald hx hb hK hI i_111.1 4 k_112 rfl (vp_in_iff.mpr (by omega)) b_114 (fun _ hj => kw_20 hG i_111 hj) dX6_copy_21 (fun a_115 i_116 => ?_)
        obtain ⟨x_118, x_119, x_120, x_121, x_122, x_123, x_124, x_125, x_126, x_127, x_128, x_129, x_130, x_131, x_132, x_133, k_117⟩ := op_8 hI i_109
        refine va_callv (va_runV (As := [.ref a_115]) (rest := []) ⟨hx, hb, hml, hown, hts⟩ (c_X8_copy l dC dI g A hG f_2 a_108 a_115 i_109 i_116) (cwV 1 hts (gi_V (fun w_ h0_ => ⟨List.mem_cons_of_mem _ (List.mem_append_right _ (List.mem_append_right _ (List.mem_append_right _ (List.mem_append_left _ h0_)))), (tb_c_X8_copy w_ h0_).2⟩) (List.mem_cons_of_mem _ (List.mem_append_left _ (List.mem_of_getElem? (i := 11) rfl))) (List.mem_cons_of_mem _ (List.mem_append_left _ (List.mem_of_getElem? (i := 12) rfl))) (List.mem_cons_of_mem _ (List.mem_append_left _ (List.mem_of_getElem? (i := 13) rfl))) (List.mem_cons_of_mem _ (List.mem_append_left _ (List.mem_of_getElem? (i := 14) rfl)))) rfl rfl rfl (by decide +kernel) ⟨Nat.le_of_ble_eq_true rfl, Nat.le_of_ble_eq_true rfl⟩) ⟨fun a U g mk q => ⟨q.1, q.2.calling rfl rfl⟩, k_recv hK hI i_109.1 k_117 (ci := 8) rfl, fun U hU hW => ⟨rfl, kIn.of hI hK hE hS hU hW⟩⟩ rfl rfl hl.1 rfl (lv_room (Nat.le_of_ble_eq_true rfl)) dX6_copy_22 ⟨Nat.le_of_ble_eq_true rfl, Nat.le_of_ble_eq_true rfl⟩) hS (fun q _ h => h) (fun q h => h) (fun u t H1 locs ht hvm _ hB hz1 hk1 hS => ?_)
        obtain ⟨f_134, hI, kc_136⟩ := hB
        rw [ht] at hI
        have k_137 : f_134 p1 = .inr (6, [.ref (gr g p1 0), .ref (gr g p1 1), .ref (gr g p1 2), .ref (gr g p1 3), .ref (gr g p1 4), .int x_9, .int x_10, .long x_11, .int x_12, .int x_13]) := Kp.at kc_136 i_p1 (by decide) k_8
        have k_138 : f_134 h0 = .inr (6, [.ref (gr g h0 0), .ref (gr g h0 1), .ref (gr g h0 2), .ref (gr g h0 3), .ref (gr g h0 4), .int x_96, .int x_97, .long x_98, .int x_99, .int x_100]) := Kp.at kc_136 i_h0 (by decide) k_95
        have k_139 : f_134 (gr g h0 1) = .inl (gc g 4, 12, .inr (.inr (.inr (.inr q_106)))) := Kp.at kc_136 i_104 (by decide) k_105
        have k_140 : f_134 (gr g p1 1) = .inl (gc g 4, 12, .inr (.inr (.inr (.inr q_113)))) := Kp.at kc_136 i_111 (by decide) k_112
        have kp_141 := Kp.call kp_3 kc_136 (by decide)
        generalize H1 = H at hI hS ⊢
        refine W.widen (k := 0) (n := 0) (Nat.le_of_ble_eq_true rfl) (Nat.le_of_ble_eq_true rfl) ?_
        obtain ⟨v_142, ev_142⟩ : ∃ y : Int32, y = y_1 + Int32.ofInt 1 := ⟨_, rfl⟩
        refine lv_iinc (v := v_142) (lv' := [(2, .int v_142), (0, .ref h0), (1, .ref p1)]) hx hb dX6_copy_25 hl (k := 0) rfl ev_142.symm (by decide) rfl (fun ls hl => ?_)
        have tv_142 := k_inc y_1
        rw [← ev_142] at tv_142
        refine lv_goto (tgt := 2) hx hb dX6_copy_28 (by decide) ?_
        exact ih v_142 f_134 _ _ _ (by omega) hI hS kp_141 (by first | omega | decide) (lv_sub hl [0, 1, 2] rfl)
  exact K_2 _ 0 f _ _ _ (Nat.lt_succ_self _) hI hS hk0 (by first | omega | decide | (simp only [show Int32.toInt 0 = 0 from by decide]; omega)) (lv_sub hl [0, 1, 2] rfl)
theorem tu_X1 : ∀ w ∈ u_ws RX1 TX1 4, q_g w := by
  intro w h
  unfold u_ws at h
  obtain ⟨j, hj, rfl⟩ := List.mem_map.mp h
  have hj := List.mem_range.mp hj
  match j, hj with
  | 0, _ => exact ⟨(List.mem_append_right _ (List.mem_of_getElem? (i := 296) (by decide +kernel))), good_of_word (by decide +kernel)⟩
  | 1, _ => exact ⟨(List.mem_append_right _ (List.mem_of_getElem? (i := 298) (by decide +kernel))), good_of_word (by decide +kernel)⟩
  | 2, _ => exact ⟨(List.mem_append_right _ (List.mem_of_getElem? (i := 300) (by decide +kernel))), good_of_word (by decide +kernel)⟩
  | 3, _ => exact ⟨(List.mem_append_right _ (List.mem_of_getElem? (i := 302) (by decide +kernel))), good_of_word (by decide +kernel)⟩
  | (j9 + 4), h9 => exact absurd h9 (by omega)
theorem tw_153 : q_g (.code Lib.Math.min.name Lib.Math.min.code 2 (some .int)) := ⟨(List.mem_append_right _ (List.mem_of_getElem? (i := 453) (by decide +kernel))), good_of_word (by decide +kernel)⟩
theorem tw_154 : q_g (.initialized "java/lang/Math") := ⟨(List.mem_append_right _ (List.mem_of_getElem? (i := 15) (by decide +kernel))), good_of_word (by decide +kernel)⟩
theorem tw_155 : q_g (.static Lib.Math.min.name) := ⟨(List.mem_append_right _ (List.mem_of_getElem? (i := 452) (by decide +kernel))), good_of_word (by decide +kernel)⟩
theorem tw_156 : q_g (.methodLink RX1 35 Lib.Math.min.name) := ⟨(List.mem_append_right _ (List.mem_of_getElem? (i := 451) (by decide +kernel))), good_of_word (by decide +kernel)⟩
theorem tw_157 : q_g (.fieldLink RX1 32 "DeadlineShare$History" "size" "I") := ⟨(List.mem_append_right _ (List.mem_of_getElem? (i := 294) (by decide +kernel))), good_of_word (by decide +kernel)⟩
theorem tw_158 : q_g (.fieldLink RX1 17 "DeadlineShare$History" "acts" "[I") := ⟨(List.mem_append_right _ (List.mem_of_getElem? (i := 292) (by decide +kernel))), good_of_word (by decide +kernel)⟩
theorem tw_159 : q_g (.selects RX6 yX6_copy yX6_copy) := ⟨(List.mem_append_right _ (List.mem_of_getElem? (i := 429) (by decide +kernel))), good_of_word (by decide +kernel)⟩
theorem tw_160 : q_g (.instanceMethod yX6_copy) := ⟨(List.mem_append_right _ (List.mem_of_getElem? (i := 428) (by decide +kernel))), good_of_word (by decide +kernel)⟩
theorem tw_161 : q_g (.methodLink RX1 28 yX6_copy) := ⟨(List.mem_append_right _ (List.mem_of_getElem? (i := 427) (by decide +kernel))), good_of_word (by decide +kernel)⟩
theorem tw_162 : q_g (.fieldLink RX1 11 "DeadlineShare$History" "before" "[LDeadlineShare$State;") := ⟨(List.mem_append_right _ (List.mem_of_getElem? (i := 291) (by decide +kernel))), good_of_word (by decide +kernel)⟩
theorem tw_163 : q_g (.fieldLink RX1 24 "DeadlineShare$History" "next" "I") := ⟨(List.mem_append_right _ (List.mem_of_getElem? (i := 293) (by decide +kernel))), good_of_word (by decide +kernel)⟩
theorem tw_164 : q_g (.code yX1_keep cX1_keep 3 none) := ⟨(List.mem_append_right _ (List.mem_of_getElem? (i := 426) (by decide +kernel))), good_of_word (by decide +kernel)⟩
def ow_c_X1_keep : List Cond := [.fieldLink RX1 24 "DeadlineShare$History" "next" "I", .fieldLink RX1 11 "DeadlineShare$History" "before" "[LDeadlineShare$State;", .methodLink RX1 28 yX6_copy, .instanceMethod yX6_copy, .selects RX6 yX6_copy yX6_copy, .initialized RX6, .fieldLink RX1 17 "DeadlineShare$History" "acts" "[I", .fieldLink RX1 32 "DeadlineShare$History" "size" "I", .methodLink RX1 35 Lib.Math.min.name, .static Lib.Math.min.name, .initialized "java/lang/Math", .code Lib.Math.min.name Lib.Math.min.code 2 (some .int)]
def wq_c_X1_keep : List Cond := .code yX1_keep cX1_keep 3 none :: (ow_c_X1_keep ++ (u_ws RX1 TX1 4 ++ (wq_c_X6_copy ++ ([] : List Cond))))
theorem tb_c_X1_keep : ∀ w ∈ wq_c_X1_keep, q_g w := by
  unfold wq_c_X1_keep ow_c_X1_keep
  exact q_cons tw_164 (q_app (q_cons tw_163 (q_cons tw_162 (q_cons tw_161 (q_cons tw_160 (q_cons tw_159 (q_cons tw_47 (q_cons tw_158 (q_cons tw_157 (q_cons tw_156 (q_cons tw_155 (q_cons tw_154 (q_cons tw_153 q_nil)))))))))))) (q_app tu_X1 (q_app tb_c_X6_copy q_nil)))
set_option maxHeartbeats 4000000 in
set_option maxRecDepth 100000 in
theorem c_X1_keep (l : Launch) (dC : Nat → ClassId) (dI : Nat → Nat → Nat) (g : kG) (A : Nat → Prop) (hG : kWf g) (f : Nat → va_E) (h0 : Nat) (p1 : Nat) (p2 : Int32) (i_h0 : ik g 1 h0) (i_p1 : ik g 6 p1) : Met l yX1_keep wq_c_X1_keep ({ frames := 4, cells := 0, slots := 0, locals := 104 } : Room) (va_Pc [.ref h0, .ref p1, .int p2] (fun U => kIn dC dI g A f U)) (va_Qv (fun (_ : Unit) => True) (fun (_ : Unit) t => ∃ f1 : Nat → va_E, Iv dC dI g A f1 t.heap ∧ Kp g [1, 5, 6, 8, 10, 23, 24, 27] f f1) A) 0 0 A := by
  refine Met.ofW (cc := cX1_keep) (maxL := 3) (ret := none) (by decide) rfl ?_
  intro p e s m args below meth c s₁ B hml hv
  obtain ⟨rfl, hI, hK, hE⟩ := hv
  have hx := B.exec
  have hb := B.bytes
  have hr := B.returns
  have hts := atoms_spec (ws := wq_c_X1_keep) B.pre
  have hown : s.vm.findClass RX1 = some m.cls := findClass_of_methodNamed B.named
  have hlocks := B.notSynchronized
  have hS : va_S A s.heap s.heap [] := va_S.rf
  have hk0 : Kp g [1, 5, 6, 8, 10, 23, 24, 27] f f := Kp.rf
  have hl := lv_entry ([.ref h0, .ref p1, .int p2]) (n := 3) (Nat.le_of_ble_eq_true rfl)
  rw [lg_entry_eq]
  generalize (lg_sl ([.ref h0, .ref p1, .int p2]) ++ List.replicate (3 - (lg_sl ([.ref h0, .ref p1, .int p2])).length) Slot.unset).toArray = ls at hl ⊢
  have hl : lv_has ls 3 [(0, .ref h0), (1, .ref p1), (2, .int p2)] := hl
  refine lv_aload_n hx hb dX1_keep_0 rfl (lv_at hl 0 rfl) ?_
  obtain ⟨x_2, x_3, k_1⟩ := op_1 hI i_h0
  refine k_get (ci := 1) (v := .int x_2) (C := RX1) (T := TX1) (N := 4) hx hb hts (fun _ h0_ => List.mem_cons_of_mem _ (List.mem_append_right _ (List.mem_append_left _ h0_))) hown hK hI i_h0.1 k_1 rfl 2 (by decide) (hts (.fieldLink RX1 24 "DeadlineShare$History" "next" "I") (List.mem_cons_of_mem _ (List.mem_append_left _ (List.mem_of_getElem? (i := 0) rfl)))) (fun _ h9 => h9) rfl dX1_keep_1 ?_
  refine lv_if_lt (tgt := 16) hx hb dX1_keep_4 (by decide) (fun c_4 => ?_) (fun c_4 => ?_)
  · have c_4 := kc_lt rfl (by decide : Int32.toInt 0 = 0) c_4
    exact W.vret hx hb hr (fun t ht hW => ⟨⟨(), rfl, trivial, ⟨f, k_ret ht hI, hk0⟩⟩, hS.F ht⟩) hS.2.2 dX1_keep_16
  · have c_4 := kn_lt rfl (by decide : Int32.toInt 0 = 0) c_4
    refine lv_aload_n hx hb dX1_keep_7 rfl (lv_at hl 0 rfl) ?_
    refine k_get (ci := 1) (v := .int x_2) (C := RX1) (T := TX1) (N := 4) hx hb hts (fun _ h0_ => List.mem_cons_of_mem _ (List.mem_append_right _ (List.mem_append_left _ h0_))) hown hK hI i_h0.1 k_1 rfl 2 (by decide) (hts (.fieldLink RX1 24 "DeadlineShare$History" "next" "I") (List.mem_cons_of_mem _ (List.mem_append_left _ (List.mem_of_getElem? (i := 0) rfl)))) (fun _ h9 => h9) rfl dX1_keep_8 ?_
    refine lv_bipush (v := 10) hx hb dX1_keep_11 (by decide) ?_
    refine lv_icmp_lt (tgt := 17) hx hb dX1_keep_13 (by decide) (fun c_5 => ?_) (fun c_5 => ?_)
    · have c_5 := kc_lt rfl (by decide : Int32.toInt 10 = 10) c_5
      refine lv_aload_n hx hb dX1_keep_17 rfl (lv_at hl 0 rfl) ?_
      refine k_get (ci := 1) (v := .ref (gr g h0 0)) (C := RX1) (T := TX1) (N := 4) hx hb hts (fun _ h0_ => List.mem_cons_of_mem _ (List.mem_append_right _ (List.mem_append_left _ h0_))) hown hK hI i_h0.1 k_1 rfl 0 (by decide) (hts (.fieldLink RX1 11 "DeadlineShare$History" "before" "[LDeadlineShare$State;") (List.mem_cons_of_mem _ (List.mem_append_left _ (List.mem_of_getElem? (i := 1) rfl)))) (fun _ h9 => h9) rfl dX1_keep_18 ?_
      have i_7 := kw_1_0 hG i_h0
      refine lv_aload_n hx hb dX1_keep_21 rfl (lv_at hl 0 rfl) ?_
      refine k_get (ci := 1) (v := .int x_2) (C := RX1) (T := TX1) (N := 4) hx hb hts (fun _ h0_ => List.mem_cons_of_mem _ (List.mem_append_right _ (List.mem_append_left _ h0_))) hown hK hI i_h0.1 k_1 rfl 2 (by decide) (hts (.fieldLink RX1 24 "DeadlineShare$History" "next" "I") (List.mem_cons_of_mem _ (List.mem_append_left _ (List.mem_of_getElem? (i := 0) rfl)))) (fun _ h9 => h9) rfl dX1_keep_22 ?_
      obtain ⟨q_9, k_8, b_10⟩ := op_22 hI i_7
      refine k_aald hx hb hK hI i_7.1 5 k_8 rfl (vp_in_iff.mpr (by omega)) b_10 (fun _ hj => kw_22 hG i_7 hj) dX1_keep_25 (fun a_11 i_12 => ?_)
      refine lv_aload_n hx hb dX1_keep_26 rfl (lv_at hl 1 rfl) ?_
      obtain ⟨x_14, x_15, x_16, x_17, x_18, k_13, b_19, b_20⟩ := op_6 hI i_12
      refine va_callv (va_runV (As := [.ref p1]) (rest := []) ⟨hx, hb, hml, hown, hts⟩ (c_X6_copy l dC dI g A hG f a_11 p1 i_12 i_p1) (cwV 1 hts (gi_V (fun w_ h0_ => ⟨List.mem_cons_of_mem _ (List.mem_append_right _ (List.mem_append_right _ (List.mem_append_left _ h0_))), (tb_c_X6_copy w_ h0_).2⟩) (List.mem_cons_of_mem _ (List.mem_append_left _ (List.mem_of_getElem? (i := 2) rfl))) (List.mem_cons_of_mem _ (List.mem_append_left _ (List.mem_of_getElem? (i := 3) rfl))) (List.mem_cons_of_mem _ (List.mem_append_left _ (List.mem_of_getElem? (i := 4) rfl))) (List.mem_cons_of_mem _ (List.mem_append_left _ (List.mem_of_getElem? (i := 5) rfl)))) rfl rfl rfl (by decide +kernel) ⟨Nat.le_of_ble_eq_true rfl, Nat.le_of_ble_eq_true rfl⟩) ⟨fun a U g mk q => ⟨q.1, q.2.calling rfl rfl⟩, k_recv hK hI i_12.1 k_13 (ci := 6) rfl, fun U hU hW => ⟨rfl, kIn.of hI hK hE hS hU hW⟩⟩ rfl rfl hl.1 rfl (lv_room (Nat.le_of_ble_eq_true rfl)) dX1_keep_27 ⟨Nat.le_of_ble_eq_true rfl, Nat.le_of_ble_eq_true rfl⟩) hS (fun q _ h => h) (fun q h => h) (fun u t H1 locs ht hvm _ hB hz1 hk1 hS => ?_)
      obtain ⟨f_21, hI, kc_23⟩ := hB
      rw [ht] at hI
      have k_24 : f_21 h0 = .inr (1, [.ref (gr g h0 0), .ref (gr g h0 1), .int x_2, .int x_3]) := Kp.at kc_23 i_h0 (by decide) k_1
      have k_25 : f_21 (gr g h0 0) = .inl (gc g 5, 10, .inr (.inr (.inr (.inr q_9)))) := Kp.at kc_23 i_7 (by decide) k_8
      have kp_26 := Kp.call hk0 kc_23 (by decide)
      generalize H1 = H at hI hS ⊢
      refine W.widen (k := 0) (n := 0) (Nat.le_of_ble_eq_true rfl) (Nat.le_of_ble_eq_true rfl) ?_
      refine lv_aload_n hx hb dX1_keep_30 rfl (lv_at hl 0 rfl) ?_
      refine k_get (ci := 1) (v := .ref (gr g h0 1)) (C := RX1) (T := TX1) (N := 4) hx hb hts (fun _ h0_ => List.mem_cons_of_mem _ (List.mem_append_right _ (List.mem_append_left _ h0_))) hown hK hI i_h0.1 k_24 rfl 1 (by decide) (hts (.fieldLink RX1 17 "DeadlineShare$History" "acts" "[I") (List.mem_cons_of_mem _ (List.mem_append_left _ (List.mem_of_getElem? (i := 6) rfl)))) (fun _ h9 => h9) rfl dX1_keep_31 ?_
      have i_28 := kw_1_1 hG i_h0
      refine lv_aload_n hx hb dX1_keep_34 rfl (lv_at hl 0 rfl) ?_
      refine k_get (ci := 1) (v := .int x_2) (C := RX1) (T := TX1) (N := 4) hx hb hts (fun _ h0_ => List.mem_cons_of_mem _ (List.mem_append_right _ (List.mem_append_left _ h0_))) hown hK hI i_h0.1 k_24 rfl 2 (by decide) (hts (.fieldLink RX1 24 "DeadlineShare$History" "next" "I") (List.mem_cons_of_mem _ (List.mem_append_left _ (List.mem_of_getElem? (i := 0) rfl)))) (fun _ h9 => h9) rfl dX1_keep_35 ?_
      refine lv_iload_n hx hb dX1_keep_38 rfl (lv_at hl 2 rfl) ?_
      obtain ⟨q_30, k_29⟩ := op_27 hI i_28
      refine k_iast hx hb hK hI hS i_28.1 0 k_29 rfl (vp_in_iff.mpr (by omega)) (cl_27 i_28) dX1_keep_39 (fun f_31 H locs e_32 hI hS => ?_)
      generalize eq_33 : upd q_30 (Int32.toNatClampNeg x_2) p2 = q_33 at e_32
      have k_35 : f_31 h0 = .inr (1, [.ref (gr g h0 0), .ref (gr g h0 1), .int x_2, .int x_3]) := by rw [e_32, va_up_ne _ _ (ik_ne i_h0 i_28 (by decide))]; exact k_24
      have k_36 : f_31 (gr g h0 0) = .inl (gc g 5, 10, .inr (.inr (.inr (.inr q_9)))) := by rw [e_32, va_up_ne _ _ (ik_ne i_7 i_28 (by decide))]; exact k_25
      have k_37 : f_31 (gr g h0 1) = .inl (gc g 0, 10, .inl q_33) := by rw [e_32]; exact va_up_self _ _ _
      have kp_34 := Kp.put kp_26 i_28 (by decide) e_32
      refine lv_aload_n hx hb dX1_keep_40 rfl (lv_at hl 0 rfl) ?_
      refine lv_aload_n hx hb dX1_keep_41 rfl (lv_at hl 0 rfl) ?_
      refine k_get (ci := 1) (v := .int x_2) (C := RX1) (T := TX1) (N := 4) hx hb hts (fun _ h0_ => List.mem_cons_of_mem _ (List.mem_append_right _ (List.mem_append_left _ h0_))) hown hK hI i_h0.1 k_35 rfl 2 (by decide) (hts (.fieldLink RX1 24 "DeadlineShare$History" "next" "I") (List.mem_cons_of_mem _ (List.mem_append_left _ (List.mem_of_getElem? (i := 0) rfl)))) (fun _ h9 => h9) rfl dX1_keep_42 ?_
      refine lv_iconst (v := 1) hx hb dX1_keep_45 (by decide) ?_
      refine lv_iadd hx hb dX1_keep_46 ?_
      refine lv_topi (fun v_38 ev_38 => ?_)
      have tv_38 := k_ad x_2 1
      rw [← ev_38, show Int32.toInt 1 = 1 from by decide] at tv_38
      refine lv_bipush (v := 10) hx hb dX1_keep_47 (by decide) ?_
      refine lv_irem hx hb dX1_keep_49 (by decide) ?_
      refine lv_topi (fun v_39 ev_39 => ?_)
      refine k_put (ci := 1) (v := .int v_39) (ty := .int) (C := RX1) (T := TX1) (N := 4) hx hb hts (fun _ h0_ => List.mem_cons_of_mem _ (List.mem_append_right _ (List.mem_append_left _ h0_))) tyX1 tyX1_ok nmX1 hown hK hI hS i_h0.1 k_35 rfl 2 (by decide) (hts (.fieldLink RX1 24 "DeadlineShare$History" "next" "I") (List.mem_cons_of_mem _ (List.mem_append_left _ (List.mem_of_getElem? (i := 0) rfl)))) (fun _ h9 => h9) rfl (by decide +kernel) rfl rfl (Nat.le_of_ble_eq_true rfl) rfl (cl_1 i_h0) dX1_keep_50 (fun f_40 H locs e_41 hI hS => ?_)
      have k_43 : f_40 h0 = .inr (1, [.ref (gr g h0 0), .ref (gr g h0 1), .int v_39, .int x_3]) := by rw [e_41]; exact va_up_self _ _ _
      have k_44 : f_40 (gr g h0 0) = .inl (gc g 5, 10, .inr (.inr (.inr (.inr q_9)))) := by rw [e_41, va_up_ne _ _ (ik_ne i_7 i_h0 (by decide))]; exact k_36
      have k_45 : f_40 (gr g h0 1) = .inl (gc g 0, 10, .inl q_33) := by rw [e_41, va_up_ne _ _ (ik_ne i_28 i_h0 (by decide))]; exact k_37
      have kp_42 := Kp.put kp_34 i_h0 (by decide) e_41
      refine lv_aload_n hx hb dX1_keep_53 rfl (lv_at hl 0 rfl) ?_
      refine lv_bipush (v := 10) hx hb dX1_keep_54 (by decide) ?_
      refine lv_aload_n hx hb dX1_keep_56 rfl (lv_at hl 0 rfl) ?_
      refine k_get (ci := 1) (v := .int x_3) (C := RX1) (T := TX1) (N := 4) hx hb hts (fun _ h0_ => List.mem_cons_of_mem _ (List.mem_append_right _ (List.mem_append_left _ h0_))) hown hK hI i_h0.1 k_43 rfl 3 (by decide) (hts (.fieldLink RX1 32 "DeadlineShare$History" "size" "I") (List.mem_cons_of_mem _ (List.mem_append_left _ (List.mem_of_getElem? (i := 7) rfl)))) (fun _ h9 => h9) rfl dX1_keep_57 ?_
      refine lv_iconst (v := 1) hx hb dX1_keep_60 (by decide) ?_
      refine lv_iadd hx hb dX1_keep_61 ?_
      refine lv_topi (fun v_46 ev_46 => ?_)
      have tv_46 := k_ad x_3 1
      rw [← ev_46, show Int32.toInt 1 = 1 from by decide] at tv_46
      refine va_mmin hx hb (by rw [hml]; exact hl.1.symm) hown (hts (.methodLink RX1 35 Lib.Math.min.name) (List.mem_cons_of_mem _ (List.mem_append_left _ (List.mem_of_getElem? (i := 8) rfl)))) (hts (.static Lib.Math.min.name) (List.mem_cons_of_mem _ (List.mem_append_left _ (List.mem_of_getElem? (i := 9) rfl)))) (hts (.initialized "java/lang/Math") (List.mem_cons_of_mem _ (List.mem_append_left _ (List.mem_of_getElem? (i := 10) rfl)))) (hts (.code Lib.Math.min.name Lib.Math.min.code 2 (some .int)) (List.mem_cons_of_mem _ (List.mem_append_left _ (List.mem_of_getElem? (i := 11) rfl)))) (Nat.le_of_ble_eq_true rfl) (Nat.le_of_ble_eq_true rfl) (Nat.le_of_ble_eq_true rfl) (Nat.le_of_ble_eq_true rfl) dX1_keep_62 ?_
      refine lv_topi (fun v_47 ev_47 => ?_)
      refine k_put (ci := 1) (v := .int v_47) (ty := .int) (C := RX1) (T := TX1) (N := 4) hx hb hts (fun _ h0_ => List.mem_cons_of_mem _ (List.mem_append_right _ (List.mem_append_left _ h0_))) tyX1 tyX1_ok nmX1 hown hK hI hS i_h0.1 k_43 rfl 3 (by decide) (hts (.fieldLink RX1 32 "DeadlineShare$History" "size" "I") (List.mem_cons_of_mem _ (List.mem_append_left _ (List.mem_of_getElem? (i := 7) rfl)))) (fun _ h9 => h9) rfl (by decide +kernel) rfl rfl (Nat.le_of_ble_eq_true rfl) rfl (cl_1 i_h0) dX1_keep_65 (fun f_48 H locs e_49 hI hS => ?_)
      have k_51 : f_48 h0 = .inr (1, [.ref (gr g h0 0), .ref (gr g h0 1), .int v_39, .int v_47]) := by rw [e_49]; exact va_up_self _ _ _
      have k_52 : f_48 (gr g h0 0) = .inl (gc g 5, 10, .inr (.inr (.inr (.inr q_9)))) := by rw [e_49, va_up_ne _ _ (ik_ne i_7 i_h0 (by decide))]; exact k_44
      have k_53 : f_48 (gr g h0 1) = .inl (gc g 0, 10, .inl q_33) := by rw [e_49, va_up_ne _ _ (ik_ne i_28 i_h0 (by decide))]; exact k_45
      have kp_50 := Kp.put kp_42 i_h0 (by decide) e_49
      exact W.vret hx hb hr (fun t ht hW => ⟨⟨(), rfl, trivial, ⟨f_48, k_ret ht hI, kp_50⟩⟩, hS.F ht⟩) hS.2.2 dX1_keep_68
    · have c_5 := kn_lt rfl (by decide : Int32.toInt 10 = 10) c_5
      exact W.vret hx hb hr (fun t ht hW => ⟨⟨(), rfl, trivial, ⟨f, k_ret ht hI, hk0⟩⟩, hS.F ht⟩) hS.2.2 dX1_keep_16
theorem tw_165 : q_g (.code yX1_takeBack cX1_takeBack 3 (some .int)) := ⟨(List.mem_append_right _ (List.mem_of_getElem? (i := 882) (by decide +kernel))), good_of_word (by decide +kernel)⟩
def ow_c_X1_takeBack : List Cond := [.fieldLink RX1 24 "DeadlineShare$History" "next" "I", .fieldLink RX1 32 "DeadlineShare$History" "size" "I", .fieldLink RX1 11 "DeadlineShare$History" "before" "[LDeadlineShare$State;", .methodLink RX1 28 yX6_copy, .instanceMethod yX6_copy, .selects RX6 yX6_copy yX6_copy, .initialized RX6, .fieldLink RX1 17 "DeadlineShare$History" "acts" "[I"]
def wq_c_X1_takeBack : List Cond := .code yX1_takeBack cX1_takeBack 3 (some .int) :: (ow_c_X1_takeBack ++ (u_ws RX1 TX1 4 ++ (wq_c_X6_copy ++ ([] : List Cond))))
theorem tb_c_X1_takeBack : ∀ w ∈ wq_c_X1_takeBack, q_g w := by
  unfold wq_c_X1_takeBack ow_c_X1_takeBack
  exact q_cons tw_165 (q_app (q_cons tw_163 (q_cons tw_157 (q_cons tw_162 (q_cons tw_161 (q_cons tw_160 (q_cons tw_159 (q_cons tw_47 (q_cons tw_158 q_nil)))))))) (q_app tu_X1 (q_app tb_c_X6_copy q_nil)))
set_option maxHeartbeats 4000000 in
set_option maxRecDepth 100000 in
theorem c_X1_takeBack (l : Launch) (dC : Nat → ClassId) (dI : Nat → Nat → Nat) (g : kG) (A : Nat → Prop) (hG : kWf g) (f : Nat → va_E) (h0 : Nat) (p1 : Nat) (i_h0 : ik g 1 h0) (i_p1 : ik g 6 p1) : Met l yX1_takeBack wq_c_X1_takeBack ({ frames := 4, cells := 0, slots := 0, locals := 104 } : Room) (va_Pc [.ref h0, .ref p1] (fun U => kIn dC dI g A f U)) (va_Qi (fun (r : Int32) (_ : Unit) => True) (fun (_ : Unit) t => ∃ f1 : Nat → va_E, Iv dC dI g A f1 t.heap ∧ Kp g [1, 5, 6, 8, 10, 23, 24] f f1) A) 0 0 A := by
  refine Met.ofW (cc := cX1_takeBack) (maxL := 3) (ret := (some .int)) (by decide) rfl ?_
  intro p e s m args below meth c s₁ B hml hv
  obtain ⟨rfl, hI, hK, hE⟩ := hv
  have hx := B.exec
  have hb := B.bytes
  have hr := B.returns
  have hts := atoms_spec (ws := wq_c_X1_takeBack) B.pre
  have hown : s.vm.findClass RX1 = some m.cls := findClass_of_methodNamed B.named
  have hlocks := B.notSynchronized
  have hS : va_S A s.heap s.heap [] := va_S.rf
  have hk0 : Kp g [1, 5, 6, 8, 10, 23, 24] f f := Kp.rf
  have hl := lv_entry ([.ref h0, .ref p1]) (n := 3) (Nat.le_of_ble_eq_true rfl)
  rw [lg_entry_eq]
  generalize (lg_sl ([.ref h0, .ref p1]) ++ List.replicate (3 - (lg_sl ([.ref h0, .ref p1])).length) Slot.unset).toArray = ls at hl ⊢
  have hl : lv_has ls 3 [(0, .ref h0), (1, .ref p1)] := hl
  refine lv_aload_n hx hb dX1_takeBack_0 rfl (lv_at hl 0 rfl) ?_
  obtain ⟨x_2, x_3, k_1⟩ := op_1 hI i_h0
  refine k_get (ci := 1) (v := .int x_2) (C := RX1) (T := TX1) (N := 4) hx hb hts (fun _ h0_ => List.mem_cons_of_mem _ (List.mem_append_right _ (List.mem_append_left _ h0_))) hown hK hI i_h0.1 k_1 rfl 2 (by decide) (hts (.fieldLink RX1 24 "DeadlineShare$History" "next" "I") (List.mem_cons_of_mem _ (List.mem_append_left _ (List.mem_of_getElem? (i := 0) rfl)))) (fun _ h9 => h9) rfl dX1_takeBack_1 ?_
  refine lv_bipush (v := 10) hx hb dX1_takeBack_4 (by decide) ?_
  refine lv_iadd hx hb dX1_takeBack_6 ?_
  refine lv_topi (fun v_4 ev_4 => ?_)
  have tv_4 := k_ad x_2 10
  rw [← ev_4, show Int32.toInt 10 = 10 from by decide] at tv_4
  refine lv_iconst (v := 1) hx hb dX1_takeBack_7 (by decide) ?_
  refine lv_isub hx hb dX1_takeBack_8 ?_
  refine lv_topi (fun v_5 ev_5 => ?_)
  have tv_5 := k_sb v_4 1
  rw [← ev_5, show Int32.toInt 1 = 1 from by decide] at tv_5
  refine lv_bipush (v := 10) hx hb dX1_takeBack_9 (by decide) ?_
  refine lv_irem hx hb dX1_takeBack_11 (by decide) ?_
  refine lv_topi (fun v_6 ev_6 => ?_)
  refine lv_istore_n (lv' := [(2, .int v_6), (0, .ref h0), (1, .ref p1)]) hx hb dX1_takeBack_12 rfl hl (by decide) rfl (fun ls hl => ?_)
  refine lv_aload_n hx hb dX1_takeBack_13 rfl (lv_at hl 1 rfl) ?_
  refine k_get (ci := 1) (v := .int x_3) (C := RX1) (T := TX1) (N := 4) hx hb hts (fun _ h0_ => List.mem_cons_of_mem _ (List.mem_append_right _ (List.mem_append_left _ h0_))) hown hK hI i_h0.1 k_1 rfl 3 (by decide) (hts (.fieldLink RX1 32 "DeadlineShare$History" "size" "I") (List.mem_cons_of_mem _ (List.mem_append_left _ (List.mem_of_getElem? (i := 1) rfl)))) (fun _ h9 => h9) rfl dX1_takeBack_14 ?_
  refine lv_if_le (tgt := 30) hx hb dX1_takeBack_17 (by decide) (fun c_7 => ?_) (fun c_7 => ?_)
  · have c_7 := kc_le rfl (by decide : Int32.toInt 0 = 0) c_7
    refine lv_iconst (v := (-1)) hx hb dX1_takeBack_30 (by decide) ?_
    exact W.iret (v := (-1)) hx hb hr (fun t ht hW => ⟨⟨(-1), (), rfl, trivial, ⟨f, k_ret ht hI, hk0⟩⟩, hS.F ht⟩) hS.2.2 dX1_takeBack_31
  · have c_7 := kn_le rfl (by decide : Int32.toInt 0 = 0) c_7
    refine lv_iload_n hx hb dX1_takeBack_20 rfl (lv_at hl 0 rfl) ?_
    refine lv_if_lt (tgt := 30) hx hb dX1_takeBack_21 (by decide) (fun c_8 => ?_) (fun c_8 => ?_)
    · have c_8 := kc_lt rfl (by decide : Int32.toInt 0 = 0) c_8
      refine lv_iconst (v := (-1)) hx hb dX1_takeBack_30 (by decide) ?_
      exact W.iret (v := (-1)) hx hb hr (fun t ht hW => ⟨⟨(-1), (), rfl, trivial, ⟨f, k_ret ht hI, hk0⟩⟩, hS.F ht⟩) hS.2.2 dX1_takeBack_31
    · have c_8 := kn_lt rfl (by decide : Int32.toInt 0 = 0) c_8
      refine lv_iload_n hx hb dX1_takeBack_24 rfl (lv_at hl 0 rfl) ?_
      refine lv_bipush (v := 10) hx hb dX1_takeBack_25 (by decide) ?_
      refine lv_icmp_lt (tgt := 32) hx hb dX1_takeBack_27 (by decide) (fun c_9 => ?_) (fun c_9 => ?_)
      · have c_9 := kc_lt rfl (by decide : Int32.toInt 10 = 10) c_9
        refine lv_aload_n hx hb dX1_takeBack_32 rfl (lv_at hl 2 rfl) ?_
        refine lv_aload_n hx hb dX1_takeBack_33 rfl (lv_at hl 1 rfl) ?_
        refine k_get (ci := 1) (v := .ref (gr g h0 0)) (C := RX1) (T := TX1) (N := 4) hx hb hts (fun _ h0_ => List.mem_cons_of_mem _ (List.mem_append_right _ (List.mem_append_left _ h0_))) hown hK hI i_h0.1 k_1 rfl 0 (by decide) (hts (.fieldLink RX1 11 "DeadlineShare$History" "before" "[LDeadlineShare$State;") (List.mem_cons_of_mem _ (List.mem_append_left _ (List.mem_of_getElem? (i := 2) rfl)))) (fun _ h9 => h9) rfl dX1_takeBack_34 ?_
        have i_11 := kw_1_0 hG i_h0
        refine lv_iload_n hx hb dX1_takeBack_37 rfl (lv_at hl 0 rfl) ?_
        obtain ⟨q_13, k_12, b_14⟩ := op_22 hI i_11
        refine k_aald hx hb hK hI i_11.1 5 k_12 rfl (vp_in_iff.mpr (by omega)) b_14 (fun _ hj => kw_22 hG i_11 hj) dX1_takeBack_38 (fun a_15 i_16 => ?_)
        obtain ⟨x_18, x_19, x_20, x_21, x_22, k_17, b_23, b_24⟩ := op_6 hI i_p1
        refine va_callv (va_runV (As := [.ref a_15]) (rest := []) ⟨hx, hb, hml, hown, hts⟩ (c_X6_copy l dC dI g A hG f p1 a_15 i_p1 i_16) (cwV 1 hts (gi_V (fun w_ h0_ => ⟨List.mem_cons_of_mem _ (List.mem_append_right _ (List.mem_append_right _ (List.mem_append_left _ h0_))), (tb_c_X6_copy w_ h0_).2⟩) (List.mem_cons_of_mem _ (List.mem_append_left _ (List.mem_of_getElem? (i := 3) rfl))) (List.mem_cons_of_mem _ (List.mem_append_left _ (List.mem_of_getElem? (i := 4) rfl))) (List.mem_cons_of_mem _ (List.mem_append_left _ (List.mem_of_getElem? (i := 5) rfl))) (List.mem_cons_of_mem _ (List.mem_append_left _ (List.mem_of_getElem? (i := 6) rfl)))) rfl rfl rfl (by decide +kernel) ⟨Nat.le_of_ble_eq_true rfl, Nat.le_of_ble_eq_true rfl⟩) ⟨fun a U g mk q => ⟨q.1, q.2.calling rfl rfl⟩, k_recv hK hI i_p1.1 k_17 (ci := 6) rfl, fun U hU hW => ⟨rfl, kIn.of hI hK hE hS hU hW⟩⟩ rfl rfl hl.1 rfl (lv_room (Nat.le_of_ble_eq_true rfl)) dX1_takeBack_39 ⟨Nat.le_of_ble_eq_true rfl, Nat.le_of_ble_eq_true rfl⟩) hS (fun q _ h => h) (fun q h => h) (fun u t H1 locs ht hvm _ hB hz1 hk1 hS => ?_)
        obtain ⟨f_25, hI, kc_27⟩ := hB
        rw [ht] at hI
        have k_28 : f_25 h0 = .inr (1, [.ref (gr g h0 0), .ref (gr g h0 1), .int x_2, .int x_3]) := Kp.at kc_27 i_h0 (by decide) k_1
        have k_29 : f_25 (gr g h0 0) = .inl (gc g 5, 10, .inr (.inr (.inr (.inr q_13)))) := Kp.at kc_27 i_11 (by decide) k_12
        have kp_30 := Kp.call hk0 kc_27 (by decide)
        generalize H1 = H at hI hS ⊢
        refine W.widen (k := 0) (n := 0) (Nat.le_of_ble_eq_true rfl) (Nat.le_of_ble_eq_true rfl) ?_
        refine lv_aload_n hx hb dX1_takeBack_42 rfl (lv_at hl 1 rfl) ?_
        refine lv_iload_n hx hb dX1_takeBack_43 rfl (lv_at hl 0 rfl) ?_
        refine k_put (ci := 1) (v := .int v_6) (ty := .int) (C := RX1) (T := TX1) (N := 4) hx hb hts (fun _ h0_ => List.mem_cons_of_mem _ (List.mem_append_right _ (List.mem_append_left _ h0_))) tyX1 tyX1_ok nmX1 hown hK hI hS i_h0.1 k_28 rfl 2 (by decide) (hts (.fieldLink RX1 24 "DeadlineShare$History" "next" "I") (List.mem_cons_of_mem _ (List.mem_append_left _ (List.mem_of_getElem? (i := 0) rfl)))) (fun _ h9 => h9) rfl (by decide +kernel) rfl rfl (Nat.le_of_ble_eq_true rfl) rfl (cl_1 i_h0) dX1_takeBack_44 (fun f_31 H locs e_32 hI hS => ?_)
        have k_34 : f_31 h0 = .inr (1, [.ref (gr g h0 0), .ref (gr g h0 1), .int v_6, .int x_3]) := by rw [e_32]; exact va_up_self _ _ _
        have k_35 : f_31 (gr g h0 0) = .inl (gc g 5, 10, .inr (.inr (.inr (.inr q_13)))) := by rw [e_32, va_up_ne _ _ (ik_ne i_11 i_h0 (by decide))]; exact k_29
        have kp_33 := Kp.put kp_30 i_h0 (by decide) e_32
        refine lv_aload_n hx hb dX1_takeBack_47 rfl (lv_at hl 1 rfl) ?_
        refine lv_dup hx hb dX1_takeBack_48 rfl ?_
        refine k_get (ci := 1) (v := .int x_3) (C := RX1) (T := TX1) (N := 4) hx hb hts (fun _ h0_ => List.mem_cons_of_mem _ (List.mem_append_right _ (List.mem_append_left _ h0_))) hown hK hI i_h0.1 k_34 rfl 3 (by decide) (hts (.fieldLink RX1 32 "DeadlineShare$History" "size" "I") (List.mem_cons_of_mem _ (List.mem_append_left _ (List.mem_of_getElem? (i := 1) rfl)))) (fun _ h9 => h9) rfl dX1_takeBack_49 ?_
        refine lv_iconst (v := 1) hx hb dX1_takeBack_52 (by decide) ?_
        refine lv_isub hx hb dX1_takeBack_53 ?_
        refine lv_topi (fun v_36 ev_36 => ?_)
        have tv_36 := k_sb x_3 1
        rw [← ev_36, show Int32.toInt 1 = 1 from by decide] at tv_36
        refine k_put (ci := 1) (v := .int v_36) (ty := .int) (C := RX1) (T := TX1) (N := 4) hx hb hts (fun _ h0_ => List.mem_cons_of_mem _ (List.mem_append_right _ (List.mem_append_left _ h0_))) tyX1 tyX1_ok nmX1 hown hK hI hS i_h0.1 k_34 rfl 3 (by decide) (hts (.fieldLink RX1 32 "DeadlineShare$History" "size" "I") (List.mem_cons_of_mem _ (List.mem_append_left _ (List.mem_of_getElem? (i := 1) rfl)))) (fun _ h9 => h9) rfl (by decide +kernel) rfl rfl (Nat.le_of_ble_eq_true rfl) rfl (cl_1 i_h0) dX1_takeBack_54 (fun f_37 H locs e_38 hI hS => ?_)
        have k_40 : f_37 h0 = .inr (1, [.ref (gr g h0 0), .ref (gr g h0 1), .int v_6, .int v_36]) := by rw [e_38]; exact va_up_self _ _ _
        have k_41 : f_37 (gr g h0 0) = .inl (gc g 5, 10, .inr (.inr (.inr (.inr q_13)))) := by rw [e_38, va_up_ne _ _ (ik_ne i_11 i_h0 (by decide))]; exact k_35
        have kp_39 := Kp.put kp_33 i_h0 (by decide) e_38
        refine lv_aload_n hx hb dX1_takeBack_57 rfl (lv_at hl 1 rfl) ?_
        refine k_get (ci := 1) (v := .ref (gr g h0 1)) (C := RX1) (T := TX1) (N := 4) hx hb hts (fun _ h0_ => List.mem_cons_of_mem _ (List.mem_append_right _ (List.mem_append_left _ h0_))) hown hK hI i_h0.1 k_40 rfl 1 (by decide) (hts (.fieldLink RX1 17 "DeadlineShare$History" "acts" "[I") (List.mem_cons_of_mem _ (List.mem_append_left _ (List.mem_of_getElem? (i := 7) rfl)))) (fun _ h9 => h9) rfl dX1_takeBack_58 ?_
        have i_43 := kw_1_1 hG i_h0
        refine lv_iload_n hx hb dX1_takeBack_61 rfl (lv_at hl 0 rfl) ?_
        obtain ⟨q_45, k_44⟩ := op_27 hI i_43
        refine k_iald hx hb hK hI i_43.1 0 k_44 rfl (vp_in_iff.mpr (by omega)) dX1_takeBack_62 ?_
        refine lv_topi (fun v_46 ev_46 => ?_)
        exact W.iret (v := v_46) hx hb hr (fun t ht hW => ⟨⟨v_46, (), rfl, trivial, ⟨f_37, k_ret ht hI, kp_39⟩⟩, hS.F ht⟩) hS.2.2 dX1_takeBack_63
      · have c_9 := kn_lt rfl (by decide : Int32.toInt 10 = 10) c_9
        refine lv_iconst (v := (-1)) hx hb dX1_takeBack_30 (by decide) ?_
        exact W.iret (v := (-1)) hx hb hr (fun t ht hW => ⟨⟨(-1), (), rfl, trivial, ⟨f, k_ret ht hI, hk0⟩⟩, hS.F ht⟩) hS.2.2 dX1_takeBack_31
theorem tw_166 : q_g (.code yX2_weightAsBits cX2_weightAsBits 2 (some .long)) := ⟨(List.mem_append_right _ (List.mem_of_getElem? (i := 842) (by decide +kernel))), good_of_word (by decide +kernel)⟩
def ow_c_X2_weightAsBits : List Cond := []
def wq_c_X2_weightAsBits : List Cond := .code yX2_weightAsBits cX2_weightAsBits 2 (some .long) :: (ow_c_X2_weightAsBits ++ ([] : List Cond))
theorem tb_c_X2_weightAsBits : ∀ w ∈ wq_c_X2_weightAsBits, q_g w := by
  unfold wq_c_X2_weightAsBits ow_c_X2_weightAsBits
  exact q_cons tw_166 (q_app q_nil q_nil)
set_option maxHeartbeats 4000000 in
set_option maxRecDepth 100000 in
theorem c_X2_weightAsBits (l : Launch) (dC : Nat → ClassId) (dI : Nat → Nat → Nat) (g : kG) (A : Nat → Prop) (hG : kWf g) (f : Nat → va_E) (p1 : Int32) (p2 : Int32) : Met l yX2_weightAsBits wq_c_X2_weightAsBits ({ frames := 0, cells := 0, slots := 0, locals := 0 } : Room) (va_Pc [.int p1, .int p2] (fun U => kIn dC dI g A f U)) (va_Ql (fun (r : Int64) (_ : Unit) => True) (fun (_ : Unit) t => Iv dC dI g A f t.heap) A) 0 0 A := by
  refine Met.ofW (cc := cX2_weightAsBits) (maxL := 2) (ret := (some .long)) (by decide) rfl ?_
  intro p e s m args below meth c s₁ B hml hv
  obtain ⟨rfl, hI, hK, hE⟩ := hv
  have hx := B.exec
  have hb := B.bytes
  have hr := B.returns
  have hts := atoms_spec (ws := wq_c_X2_weightAsBits) B.pre
  have hown : s.vm.findClass RX2 = some m.cls := findClass_of_methodNamed B.named
  have hlocks := B.notSynchronized
  have hS : va_S A s.heap s.heap [] := va_S.rf
  have hl := lv_entry ([.int p1, .int p2]) (n := 2) (Nat.le_of_ble_eq_true rfl)
  rw [lg_entry_eq]
  generalize (lg_sl ([.int p1, .int p2]) ++ List.replicate (2 - (lg_sl ([.int p1, .int p2])).length) Slot.unset).toArray = ls at hl ⊢
  have hl : lv_has ls 2 [(0, .int p1), (1, .int p2)] := hl
  refine lv_iload_n hx hb dX2_weightAsBits_0 rfl (lv_at hl 1 rfl) ?_
  refine lv_i2l (v := p2.toInt64) hx hb dX2_weightAsBits_1 rfl ?_
  have t_1 := Int32.toInt_toInt64 p2
  refine lv_iload_n hx hb dX2_weightAsBits_2 rfl (lv_at hl 0 rfl) ?_
  refine lv_iconst (v := 4) hx hb dX2_weightAsBits_3 (by decide) ?_
  refine lv_imul hx hb dX2_weightAsBits_4 ?_
  refine lv_topi (fun v_2 ev_2 => ?_)
  refine lv_lshl hx hb dX2_weightAsBits_5 rfl ?_
  refine lv_topl (fun v_3 ev_3 => ?_)
  exact W.lret (v := v_3) hx hb hr (fun t ht hW => ⟨⟨v_3, (), rfl, trivial, k_ret ht hI⟩, hS.F ht⟩) hS.2.2 dX2_weightAsBits_6
theorem tw_167 : q_g (.code yX2_put cX2_put 6 none) := ⟨(List.mem_append_right _ (List.mem_of_getElem? (i := 846) (by decide +kernel))), good_of_word (by decide +kernel)⟩
def ow_c_X2_put : List Cond := [.fieldLink RX2 11 "DeadlineShare$Log" "rows" "[J"]
def wq_c_X2_put : List Cond := .code yX2_put cX2_put 6 none :: (ow_c_X2_put ++ (u_ws RX2 TX2 1 ++ ([] : List Cond)))
theorem tb_c_X2_put : ∀ w ∈ wq_c_X2_put, q_g w := by
  unfold wq_c_X2_put ow_c_X2_put
  exact q_cons tw_167 (q_app (q_cons tw_140 q_nil) (q_app tu_X2 q_nil))
set_option maxHeartbeats 4000000 in
set_option maxRecDepth 100000 in
theorem c_X2_put (l : Launch) (dC : Nat → ClassId) (dI : Nat → Nat → Nat) (g : kG) (A : Nat → Prop) (hG : kWf g) (f : Nat → va_E) (h0 : Nat) (p1 : Int32) (p2 : Int32) (p3 : Int32) (p4 : Int64) (i_h0 : ik g 2 h0) : Met l yX2_put wq_c_X2_put ({ frames := 0, cells := 0, slots := 0, locals := 0 } : Room) (va_Pc [.ref h0, .int p1, .int p2, .int p3, .long p4] (fun U => kIn dC dI g A f U)) (va_Qv (fun (_ : Unit) => True) (fun (_ : Unit) t => ∃ f1 : Nat → va_E, Iv dC dI g A f1 t.heap ∧ Kp g [23] f f1) A) 0 0 A := by
  refine Met.ofW (cc := cX2_put) (maxL := 6) (ret := none) (by decide) rfl ?_
  intro p e s m args below meth c s₁ B hml hv
  obtain ⟨rfl, hI, hK, hE⟩ := hv
  have hx := B.exec
  have hb := B.bytes
  have hr := B.returns
  have hts := atoms_spec (ws := wq_c_X2_put) B.pre
  have hown : s.vm.findClass RX2 = some m.cls := findClass_of_methodNamed B.named
  have hlocks := B.notSynchronized
  have hS : va_S A s.heap s.heap [] := va_S.rf
  have hk0 : Kp g [23] f f := Kp.rf
  have hl := lv_entry ([.ref h0, .int p1, .int p2, .int p3, .long p4]) (n := 6) (Nat.le_of_ble_eq_true rfl)
  rw [lg_entry_eq]
  generalize (lg_sl ([.ref h0, .int p1, .int p2, .int p3, .long p4]) ++ List.replicate (6 - (lg_sl ([.ref h0, .int p1, .int p2, .int p3, .long p4])).length) Slot.unset).toArray = ls at hl ⊢
  have hl : lv_has ls 6 [(0, .ref h0), (1, .int p1), (2, .int p2), (3, .int p3), (4, .long p4)] := hl
  refine lv_aload_n hx hb dX2_put_0 rfl (lv_at hl 0 rfl) ?_
  have k_1 := op_2 hI i_h0
  refine k_get (ci := 2) (v := .ref (gr g h0 0)) (C := RX2) (T := TX2) (N := 1) hx hb hts (fun _ h0_ => List.mem_cons_of_mem _ (List.mem_append_right _ (List.mem_append_left _ h0_))) hown hK hI i_h0.1 k_1 rfl 0 (by decide) (hts (.fieldLink RX2 11 "DeadlineShare$Log" "rows" "[J") (List.mem_cons_of_mem _ (List.mem_append_left _ (List.mem_of_getElem? (i := 0) rfl)))) (fun _ h9 => h9) rfl dX2_put_1 ?_
  have i_3 := kw_2_0 hG i_h0
  refine lv_iload_n hx hb dX2_put_4 rfl (lv_at hl 1 rfl) ?_
  refine lv_bipush (v := 127) hx hb dX2_put_5 (by decide) ?_
  refine lv_iand hx hb dX2_put_7 ?_
  refine lv_topi (fun v_4 ev_4 => ?_)
  have tv_4 : 0 ≤ v_4.toInt ∧ v_4.toInt < 128 := vp_in_iff.mp (by rw [ev_4]; exact pk_andIn _ 7 (by decide) (by decide))
  refine lv_lload hx hb dX2_put_8 (lv_at hl 4 rfl) ?_
  refine lv_iload_n hx hb dX2_put_10 rfl (lv_at hl 3 rfl) ?_
  refine lv_i2l (v := p3.toInt64) hx hb dX2_put_11 rfl ?_
  have t_5 := Int32.toInt_toInt64 p3
  refine lv_bipush (v := 48) hx hb dX2_put_12 (by decide) ?_
  refine lv_lshl hx hb dX2_put_14 rfl ?_
  refine lv_topl (fun v_6 ev_6 => ?_)
  refine lv_lor hx hb dX2_put_15 ?_
  refine lv_topl (fun v_7 ev_7 => ?_)
  refine lv_iload_n hx hb dX2_put_16 rfl (lv_at hl 2 rfl) ?_
  refine lv_i2l (v := p2.toInt64) hx hb dX2_put_17 rfl ?_
  have t_8 := Int32.toInt_toInt64 p2
  refine lv_lconst (v := 1) hx hb dX2_put_18 (by decide) ?_
  refine lv_ladd hx hb dX2_put_19 ?_
  refine lv_topl (fun v_9 ev_9 => ?_)
  refine lv_bipush (v := 53) hx hb dX2_put_20 (by decide) ?_
  refine lv_lshl hx hb dX2_put_22 rfl ?_
  refine lv_topl (fun v_10 ev_10 => ?_)
  refine lv_lor hx hb dX2_put_23 ?_
  refine lv_topl (fun v_11 ev_11 => ?_)
  obtain ⟨q_13, k_12⟩ := op_23 hI i_3
  refine k_last hx hb hK hI hS i_3.1 1 k_12 rfl (vp_in_iff.mpr (by omega)) (cl_23 i_3) dX2_put_24 (fun f_14 H locs e_15 hI hS => ?_)
  generalize eq_16 : vp_updL q_13 (Int32.toNatClampNeg v_4) v_11 = q_16 at e_15
  have k_18 : f_14 h0 = .inr (2, [.ref (gr g h0 0)]) := by rw [e_15, va_up_ne _ _ (ik_ne i_h0 i_3 (by decide))]; exact k_1
  have k_19 : f_14 (gr g h0 0) = .inl (gc g 1, 128, .inr (.inl q_16)) := by rw [e_15]; exact va_up_self _ _ _
  have kp_17 := Kp.put hk0 i_3 (by decide) e_15
  exact W.vret hx hb hr (fun t ht hW => ⟨⟨(), rfl, trivial, ⟨f_14, k_ret ht hI, kp_17⟩⟩, hS.F ht⟩) hS.2.2 dX2_put_25
theorem tw_168 : q_g (.code yX2_runner cX2_runner 2 (some .int)) := ⟨(List.mem_append_right _ (List.mem_of_getElem? (i := 977) (by decide +kernel))), good_of_word (by decide +kernel)⟩
def ow_c_X2_runner : List Cond := [.fieldLink RX2 11 "DeadlineShare$Log" "rows" "[J"]
def wq_c_X2_runner : List Cond := .code yX2_runner cX2_runner 2 (some .int) :: (ow_c_X2_runner ++ (u_ws RX2 TX2 1 ++ ([] : List Cond)))
theorem tb_c_X2_runner : ∀ w ∈ wq_c_X2_runner, q_g w := by
  unfold wq_c_X2_runner ow_c_X2_runner
  exact q_cons tw_168 (q_app (q_cons tw_140 q_nil) (q_app tu_X2 q_nil))
set_option maxHeartbeats 4000000 in
set_option maxRecDepth 100000 in
theorem c_X2_runner (l : Launch) (dC : Nat → ClassId) (dI : Nat → Nat → Nat) (g : kG) (A : Nat → Prop) (hG : kWf g) (f : Nat → va_E) (h0 : Nat) (p1 : Int32) (i_h0 : ik g 2 h0) : Met l yX2_runner wq_c_X2_runner ({ frames := 0, cells := 0, slots := 0, locals := 0 } : Room) (va_Pc [.ref h0, .int p1] (fun U => kIn dC dI g A f U)) (va_Qi (fun (r : Int32) (_ : Unit) => True) (fun (_ : Unit) t => Iv dC dI g A f t.heap) A) 0 0 A := by
  refine Met.ofW (cc := cX2_runner) (maxL := 2) (ret := (some .int)) (by decide) rfl ?_
  intro p e s m args below meth c s₁ B hml hv
  obtain ⟨rfl, hI, hK, hE⟩ := hv
  have hx := B.exec
  have hb := B.bytes
  have hr := B.returns
  have hts := atoms_spec (ws := wq_c_X2_runner) B.pre
  have hown : s.vm.findClass RX2 = some m.cls := findClass_of_methodNamed B.named
  have hlocks := B.notSynchronized
  have hS : va_S A s.heap s.heap [] := va_S.rf
  have hl := lv_entry ([.ref h0, .int p1]) (n := 2) (Nat.le_of_ble_eq_true rfl)
  rw [lg_entry_eq]
  generalize (lg_sl ([.ref h0, .int p1]) ++ List.replicate (2 - (lg_sl ([.ref h0, .int p1])).length) Slot.unset).toArray = ls at hl ⊢
  have hl : lv_has ls 2 [(0, .ref h0), (1, .int p1)] := hl
  refine lv_aload_n hx hb dX2_runner_0 rfl (lv_at hl 0 rfl) ?_
  have k_1 := op_2 hI i_h0
  refine k_get (ci := 2) (v := .ref (gr g h0 0)) (C := RX2) (T := TX2) (N := 1) hx hb hts (fun _ h0_ => List.mem_cons_of_mem _ (List.mem_append_right _ (List.mem_append_left _ h0_))) hown hK hI i_h0.1 k_1 rfl 0 (by decide) (hts (.fieldLink RX2 11 "DeadlineShare$Log" "rows" "[J") (List.mem_cons_of_mem _ (List.mem_append_left _ (List.mem_of_getElem? (i := 0) rfl)))) (fun _ h9 => h9) rfl dX2_runner_1 ?_
  have i_3 := kw_2_0 hG i_h0
  refine lv_iload_n hx hb dX2_runner_4 rfl (lv_at hl 1 rfl) ?_
  refine lv_bipush (v := 127) hx hb dX2_runner_5 (by decide) ?_
  refine lv_iand hx hb dX2_runner_7 ?_
  refine lv_topi (fun v_4 ev_4 => ?_)
  have tv_4 : 0 ≤ v_4.toInt ∧ v_4.toInt < 128 := vp_in_iff.mp (by rw [ev_4]; exact pk_andIn _ 7 (by decide) (by decide))
  obtain ⟨q_6, k_5⟩ := op_23 hI i_3
  refine k_lald hx hb hK hI i_3.1 1 k_5 rfl (vp_in_iff.mpr (by omega)) dX2_runner_8 ?_
  refine lv_topl (fun v_7 ev_7 => ?_)
  refine lv_bipush (v := 53) hx hb dX2_runner_9 (by decide) ?_
  refine lv_lshr hx hb dX2_runner_11 rfl ?_
  refine lv_topl (fun v_8 ev_8 => ?_)
  refine lv_l2i (v := v_8.toInt32) hx hb dX2_runner_12 rfl ?_
  refine lv_iconst (v := 1) hx hb dX2_runner_13 (by decide) ?_
  refine lv_isub hx hb dX2_runner_14 ?_
  refine lv_topi (fun v_9 ev_9 => ?_)
  have tv_9 := k_sb v_8.toInt32 1
  rw [← ev_9, show Int32.toInt 1 = 1 from by decide] at tv_9
  exact W.iret (v := v_9) hx hb hr (fun t ht hW => ⟨⟨v_9, (), rfl, trivial, k_ret ht hI⟩, hS.F ht⟩) hS.2.2 dX2_runner_15
theorem tw_169 : q_g (.code yX2_weightThen cX2_weightThen 3 (some .int)) := ⟨(List.mem_append_right _ (List.mem_of_getElem? (i := 1006) (by decide +kernel))), good_of_word (by decide +kernel)⟩
def ow_c_X2_weightThen : List Cond := [.fieldLink RX2 11 "DeadlineShare$Log" "rows" "[J"]
def wq_c_X2_weightThen : List Cond := .code yX2_weightThen cX2_weightThen 3 (some .int) :: (ow_c_X2_weightThen ++ (u_ws RX2 TX2 1 ++ ([] : List Cond)))
theorem tb_c_X2_weightThen : ∀ w ∈ wq_c_X2_weightThen, q_g w := by
  unfold wq_c_X2_weightThen ow_c_X2_weightThen
  exact q_cons tw_169 (q_app (q_cons tw_140 q_nil) (q_app tu_X2 q_nil))
set_option maxHeartbeats 4000000 in
set_option maxRecDepth 100000 in
theorem c_X2_weightThen (l : Launch) (dC : Nat → ClassId) (dI : Nat → Nat → Nat) (g : kG) (A : Nat → Prop) (hG : kWf g) (f : Nat → va_E) (h0 : Nat) (p1 : Int32) (p2 : Int32) (i_h0 : ik g 2 h0) : Met l yX2_weightThen wq_c_X2_weightThen ({ frames := 0, cells := 0, slots := 0, locals := 0 } : Room) (va_Pc [.ref h0, .int p1, .int p2] (fun U => kIn dC dI g A f U)) (va_Qi (fun (r : Int32) (_ : Unit) => True) (fun (_ : Unit) t => Iv dC dI g A f t.heap) A) 0 0 A := by
  refine Met.ofW (cc := cX2_weightThen) (maxL := 3) (ret := (some .int)) (by decide) rfl ?_
  intro p e s m args below meth c s₁ B hml hv
  obtain ⟨rfl, hI, hK, hE⟩ := hv
  have hx := B.exec
  have hb := B.bytes
  have hr := B.returns
  have hts := atoms_spec (ws := wq_c_X2_weightThen) B.pre
  have hown : s.vm.findClass RX2 = some m.cls := findClass_of_methodNamed B.named
  have hlocks := B.notSynchronized
  have hS : va_S A s.heap s.heap [] := va_S.rf
  have hl := lv_entry ([.ref h0, .int p1, .int p2]) (n := 3) (Nat.le_of_ble_eq_true rfl)
  rw [lg_entry_eq]
  generalize (lg_sl ([.ref h0, .int p1, .int p2]) ++ List.replicate (3 - (lg_sl ([.ref h0, .int p1, .int p2])).length) Slot.unset).toArray = ls at hl ⊢
  have hl : lv_has ls 3 [(0, .ref h0), (1, .int p1), (2, .int p2)] := hl
  refine lv_aload_n hx hb dX2_weightThen_0 rfl (lv_at hl 0 rfl) ?_
  have k_1 := op_2 hI i_h0
  refine k_get (ci := 2) (v := .ref (gr g h0 0)) (C := RX2) (T := TX2) (N := 1) hx hb hts (fun _ h0_ => List.mem_cons_of_mem _ (List.mem_append_right _ (List.mem_append_left _ h0_))) hown hK hI i_h0.1 k_1 rfl 0 (by decide) (hts (.fieldLink RX2 11 "DeadlineShare$Log" "rows" "[J") (List.mem_cons_of_mem _ (List.mem_append_left _ (List.mem_of_getElem? (i := 0) rfl)))) (fun _ h9 => h9) rfl dX2_weightThen_1 ?_
  have i_3 := kw_2_0 hG i_h0
  refine lv_iload_n hx hb dX2_weightThen_4 rfl (lv_at hl 1 rfl) ?_
  refine lv_bipush (v := 127) hx hb dX2_weightThen_5 (by decide) ?_
  refine lv_iand hx hb dX2_weightThen_7 ?_
  refine lv_topi (fun v_4 ev_4 => ?_)
  have tv_4 : 0 ≤ v_4.toInt ∧ v_4.toInt < 128 := vp_in_iff.mp (by rw [ev_4]; exact pk_andIn _ 7 (by decide) (by decide))
  obtain ⟨q_6, k_5⟩ := op_23 hI i_3
  refine k_lald hx hb hK hI i_3.1 1 k_5 rfl (vp_in_iff.mpr (by omega)) dX2_weightThen_8 ?_
  refine lv_topl (fun v_7 ev_7 => ?_)
  refine lv_iload_n hx hb dX2_weightThen_9 rfl (lv_at hl 2 rfl) ?_
  refine lv_iconst (v := 4) hx hb dX2_weightThen_10 (by decide) ?_
  refine lv_imul hx hb dX2_weightThen_11 ?_
  refine lv_topi (fun v_8 ev_8 => ?_)
  refine lv_lshr hx hb dX2_weightThen_12 rfl ?_
  refine lv_topl (fun v_9 ev_9 => ?_)
  refine lv_l2i (v := v_9.toInt32) hx hb dX2_weightThen_13 rfl ?_
  refine lv_bipush (v := 15) hx hb dX2_weightThen_14 (by decide) ?_
  refine lv_iand hx hb dX2_weightThen_16 ?_
  refine lv_topi (fun v_10 ev_10 => ?_)
  exact W.iret (v := v_10) hx hb hr (fun t ht hW => ⟨⟨v_10, (), rfl, trivial, k_ret ht hI⟩, hS.F ht⟩) hS.2.2 dX2_weightThen_17
theorem tw_170 : q_g (.selects RX2 yX2_weightThen yX2_weightThen) := ⟨(List.mem_append_left _ (List.mem_of_getElem? (i := 18) (by decide +kernel))), good_of_word (by decide +kernel)⟩
theorem tw_171 : q_g (.instanceMethod yX2_weightThen) := ⟨(List.mem_append_right _ (List.mem_of_getElem? (i := 1005) (by decide +kernel))), good_of_word (by decide +kernel)⟩
theorem tw_172 : q_g (.methodLink RX2 21 yX2_weightThen) := ⟨(List.mem_append_right _ (List.mem_of_getElem? (i := 1003) (by decide +kernel))), good_of_word (by decide +kernel)⟩
theorem tw_173 : q_g (.code yX2_shareThen cX2_shareThen 4 (some .long)) := ⟨(List.mem_append_right _ (List.mem_of_getElem? (i := 1002) (by decide +kernel))), good_of_word (by decide +kernel)⟩
def ow_c_X2_shareThen : List Cond := [.fieldLink RX2 11 "DeadlineShare$Log" "rows" "[J", .methodLink RX2 21 yX2_weightThen, .instanceMethod yX2_weightThen, .selects RX2 yX2_weightThen yX2_weightThen, .initialized RX2, .initialized RX11, .static yX11_unitBy]
def wq_c_X2_shareThen : List Cond := .code yX2_shareThen cX2_shareThen 4 (some .long) :: (ow_c_X2_shareThen ++ (u_ws RX2 TX2 1 ++ (wq_c_X2_weightThen ++ (wq_c_X11_unitBy ++ ([] : List Cond)))))
theorem tb_c_X2_shareThen : ∀ w ∈ wq_c_X2_shareThen, q_g w := by
  unfold wq_c_X2_shareThen ow_c_X2_shareThen
  exact q_cons tw_173 (q_app (q_cons tw_140 (q_cons tw_172 (q_cons tw_171 (q_cons tw_170 (q_cons tw_147 (q_cons tw_56 (q_cons tw_55 q_nil))))))) (q_app tu_X2 (q_app tb_c_X2_weightThen (q_app tb_c_X11_unitBy q_nil))))
set_option maxHeartbeats 4000000 in
set_option maxRecDepth 100000 in
theorem c_X2_shareThen (l : Launch) (dC : Nat → ClassId) (dI : Nat → Nat → Nat) (g : kG) (A : Nat → Prop) (hG : kWf g) (f : Nat → va_E) (h0 : Nat) (p1 : Int32) (p2 : Int32) (i_h0 : ik g 2 h0) : Met l yX2_shareThen wq_c_X2_shareThen ({ frames := 1, cells := 0, slots := 0, locals := 22 } : Room) (va_Pc [.ref h0, .int p1, .int p2] (fun U => kIn dC dI g A f U)) (va_Ql (fun (r : Int64) (_ : Unit) => True) (fun (_ : Unit) t => Iv dC dI g A f t.heap) A) 0 0 A := by
  refine Met.ofW (cc := cX2_shareThen) (maxL := 4) (ret := (some .long)) (by decide) rfl ?_
  intro p e s m args below meth c s₁ B hml hv
  obtain ⟨rfl, hI, hK, hE⟩ := hv
  have hx := B.exec
  have hb := B.bytes
  have hr := B.returns
  have hts := atoms_spec (ws := wq_c_X2_shareThen) B.pre
  have hown : s.vm.findClass RX2 = some m.cls := findClass_of_methodNamed B.named
  have hlocks := B.notSynchronized
  have hS : va_S A s.heap s.heap [] := va_S.rf
  have hl := lv_entry ([.ref h0, .int p1, .int p2]) (n := 4) (Nat.le_of_ble_eq_true rfl)
  rw [lg_entry_eq]
  generalize (lg_sl ([.ref h0, .int p1, .int p2]) ++ List.replicate (4 - (lg_sl ([.ref h0, .int p1, .int p2])).length) Slot.unset).toArray = ls at hl ⊢
  have hl : lv_has ls 4 [(0, .ref h0), (1, .int p1), (2, .int p2)] := hl
  refine lv_aload_n hx hb dX2_shareThen_0 rfl (lv_at hl 0 rfl) ?_
  have k_1 := op_2 hI i_h0
  refine k_get (ci := 2) (v := .ref (gr g h0 0)) (C := RX2) (T := TX2) (N := 1) hx hb hts (fun _ h0_ => List.mem_cons_of_mem _ (List.mem_append_right _ (List.mem_append_left _ h0_))) hown hK hI i_h0.1 k_1 rfl 0 (by decide) (hts (.fieldLink RX2 11 "DeadlineShare$Log" "rows" "[J") (List.mem_cons_of_mem _ (List.mem_append_left _ (List.mem_of_getElem? (i := 0) rfl)))) (fun _ h9 => h9) rfl dX2_shareThen_1 ?_
  have i_3 := kw_2_0 hG i_h0
  refine lv_iload_n hx hb dX2_shareThen_4 rfl (lv_at hl 1 rfl) ?_
  refine lv_bipush (v := 127) hx hb dX2_shareThen_5 (by decide) ?_
  refine lv_iand hx hb dX2_shareThen_7 ?_
  refine lv_topi (fun v_4 ev_4 => ?_)
  have tv_4 : 0 ≤ v_4.toInt ∧ v_4.toInt < 128 := vp_in_iff.mp (by rw [ev_4]; exact pk_andIn _ 7 (by decide) (by decide))
  obtain ⟨q_6, k_5⟩ := op_23 hI i_3
  refine k_lald hx hb hK hI i_3.1 1 k_5 rfl (vp_in_iff.mpr (by omega)) dX2_shareThen_8 ?_
  refine lv_topl (fun v_7 ev_7 => ?_)
  refine lv_bipush (v := 48) hx hb dX2_shareThen_9 (by decide) ?_
  refine lv_lshr hx hb dX2_shareThen_11 rfl ?_
  refine lv_topl (fun v_8 ev_8 => ?_)
  refine lv_l2i (v := v_8.toInt32) hx hb dX2_shareThen_12 rfl ?_
  refine lv_bipush (v := 31) hx hb dX2_shareThen_13 (by decide) ?_
  refine lv_iand hx hb dX2_shareThen_15 ?_
  refine lv_topi (fun v_9 ev_9 => ?_)
  refine lv_istore_n (lv' := [(3, .int v_9), (0, .ref h0), (1, .int p1), (2, .int p2)]) hx hb dX2_shareThen_16 rfl hl (by decide) rfl (fun ls hl => ?_)
  refine lv_aload_n hx hb dX2_shareThen_17 rfl (lv_at hl 1 rfl) ?_
  refine lv_iload_n hx hb dX2_shareThen_18 rfl (lv_at hl 2 rfl) ?_
  refine lv_iload_n hx hb dX2_shareThen_19 rfl (lv_at hl 3 rfl) ?_
  refine va_calli (va_runV (As := [.int p1, .int p2]) (rest := []) ⟨hx, hb, hml, hown, hts⟩ (c_X2_weightThen l dC dI g A hG f h0 p1 p2 i_h0) (cwV 2 hts (gi_V (fun w_ h0_ => ⟨List.mem_cons_of_mem _ (List.mem_append_right _ (List.mem_append_right _ (List.mem_append_left _ h0_))), (tb_c_X2_weightThen w_ h0_).2⟩) (List.mem_cons_of_mem _ (List.mem_append_left _ (List.mem_of_getElem? (i := 1) rfl))) (List.mem_cons_of_mem _ (List.mem_append_left _ (List.mem_of_getElem? (i := 2) rfl))) (List.mem_cons_of_mem _ (List.mem_append_left _ (List.mem_of_getElem? (i := 3) rfl))) (List.mem_cons_of_mem _ (List.mem_append_left _ (List.mem_of_getElem? (i := 4) rfl)))) rfl rfl rfl (by decide +kernel) ⟨Nat.le_of_ble_eq_true rfl, Nat.le_of_ble_eq_true rfl⟩) ⟨fun a U g mk q => ⟨q.1, q.2.calling rfl rfl⟩, k_recv hK hI i_h0.1 k_1 (ci := 2) rfl, fun U hU hW => ⟨rfl, kIn.of hI hK hE hS hU hW⟩⟩ rfl rfl hl.1 rfl (lv_room (Nat.le_of_ble_eq_true rfl)) dX2_shareThen_20 ⟨Nat.le_of_ble_eq_true rfl, Nat.le_of_ble_eq_true rfl⟩) hS (fun q _ h => h) (fun q h => h) (fun r_11 u t H1 locs ht hvm w_10 hB hz1 hk1 hS => ?_)
  have hI : Iv dC dI g A f t.heap := hB
  rw [ht] at hI
  generalize H1 = H at hI hS ⊢
  refine W.widen (k := 0) (n := 0) (Nat.le_of_ble_eq_true rfl) (Nat.le_of_ble_eq_true rfl) ?_
  refine lv_i2l (v := r_11.toInt64) hx hb dX2_shareThen_23 rfl ?_
  have t_12 := Int32.toInt_toInt64 r_11
  refine lv_iload_n hx hb dX2_shareThen_24 rfl (lv_at hl 0 rfl) ?_
  refine va_calll (va_runSN (As := [.int v_9]) (rest := [.long r_11.toInt64]) ⟨hx, hb, hml, hown, hts⟩ (c_X11_unitBy l dC dI g A hG f v_9) ⟨va_cnB 1 hts (fun w_ h0_ => ⟨List.mem_cons_of_mem _ (List.mem_append_right _ (List.mem_append_right _ (List.mem_append_right _ (List.mem_append_left _ h0_)))), (tb_c_X11_unitBy w_ h0_).2⟩) rfl rfl rfl hE.2.2.1 (hts (.initialized RX11) (List.mem_cons_of_mem _ (List.mem_append_left _ (List.mem_of_getElem? (i := 5) rfl)))) (by decide +kernel) ⟨Nat.le_of_ble_eq_true rfl, Nat.le_of_ble_eq_true rfl⟩, (hts (.static yX11_unitBy) (List.mem_cons_of_mem _ (List.mem_append_left _ (List.mem_of_getElem? (i := 6) rfl)))), trivial⟩ ⟨fun a U g mk q => ⟨q.1, q.2.calling rfl rfl⟩, fun U hU hW => ⟨rfl, kIn.of hI hK hE hS hU hW⟩⟩ rfl rfl hl.1 rfl (lv_room (Nat.le_of_ble_eq_true rfl)) dX2_shareThen_25 ⟨Nat.le_of_ble_eq_true rfl, Nat.le_of_ble_eq_true rfl⟩) hS (fun q _ h => h) (fun q h => h) (fun r_14 u t H1 locs ht hvm w_13 hB hz1 hk1 hS => ?_)
  have hI : Iv dC dI g A f t.heap := hB
  rw [ht] at hI
  generalize H1 = H at hI hS ⊢
  refine W.widen (k := 0) (n := 0) (Nat.le_of_ble_eq_true rfl) (Nat.le_of_ble_eq_true rfl) ?_
  refine lv_lmul hx hb dX2_shareThen_28 ?_
  refine lv_topl (fun v_15 ev_15 => ?_)
  exact W.lret (v := v_15) hx hb hr (fun t ht hW => ⟨⟨v_15, (), rfl, trivial, k_ret ht hI⟩, hS.F ht⟩) hS.2.2 dX2_shareThen_29
theorem tw_174 : q_g (.selects RX2 yX2_runner yX2_runner) := ⟨(List.mem_append_right _ (List.mem_of_getElem? (i := 976) (by decide +kernel))), good_of_word (by decide +kernel)⟩
theorem tw_175 : q_g (.instanceMethod yX2_runner) := ⟨(List.mem_append_right _ (List.mem_of_getElem? (i := 975) (by decide +kernel))), good_of_word (by decide +kernel)⟩
theorem tw_176 : q_g (.methodLink RX2 29 yX2_runner) := ⟨(List.mem_append_right _ (List.mem_of_getElem? (i := 990) (by decide +kernel))), good_of_word (by decide +kernel)⟩
theorem tw_177 : q_g (.code yX2_serviceIn cX2_serviceIn 6 (some .int)) := ⟨(List.mem_append_right _ (List.mem_of_getElem? (i := 989) (by decide +kernel))), good_of_word (by decide +kernel)⟩
def ow_c_X2_serviceIn : List Cond := [.methodLink RX2 29 yX2_runner, .instanceMethod yX2_runner, .selects RX2 yX2_runner yX2_runner, .initialized RX2]
def wq_c_X2_serviceIn : List Cond := .code yX2_serviceIn cX2_serviceIn 6 (some .int) :: (ow_c_X2_serviceIn ++ (wq_c_X2_runner ++ ([] : List Cond)))
theorem tb_c_X2_serviceIn : ∀ w ∈ wq_c_X2_serviceIn, q_g w := by
  unfold wq_c_X2_serviceIn ow_c_X2_serviceIn
  exact q_cons tw_177 (q_app (q_cons tw_176 (q_cons tw_175 (q_cons tw_174 (q_cons tw_147 q_nil)))) (q_app tb_c_X2_runner q_nil))
set_option maxHeartbeats 4000000 in
set_option maxRecDepth 100000 in
theorem c_X2_serviceIn (l : Launch) (dC : Nat → ClassId) (dI : Nat → Nat → Nat) (g : kG) (A : Nat → Prop) (hG : kWf g) (f : Nat → va_E) (h0 : Nat) (p1 : Int32) (p2 : Int32) (p3 : Int32) (i_h0 : ik g 2 h0) : Met l yX2_serviceIn wq_c_X2_serviceIn ({ frames := 1, cells := 0, slots := 0, locals := 21 } : Room) (va_Pc [.ref h0, .int p1, .int p2, .int p3] (fun U => kIn dC dI g A f U)) (va_Qi (fun (r : Int32) (_ : Unit) => True) (fun (_ : Unit) t => Iv dC dI g A f t.heap) A) 0 0 A := by
  refine Met.ofW (cc := cX2_serviceIn) (maxL := 6) (ret := (some .int)) (by decide) rfl ?_
  intro p e s m args below meth c s₁ B hml hv
  obtain ⟨rfl, hI, hK, hE⟩ := hv
  have hx := B.exec
  have hb := B.bytes
  have hr := B.returns
  have hts := atoms_spec (ws := wq_c_X2_serviceIn) B.pre
  have hown : s.vm.findClass RX2 = some m.cls := findClass_of_methodNamed B.named
  have hlocks := B.notSynchronized
  have hS : va_S A s.heap s.heap [] := va_S.rf
  have hl := lv_entry ([.ref h0, .int p1, .int p2, .int p3]) (n := 6) (Nat.le_of_ble_eq_true rfl)
  rw [lg_entry_eq]
  generalize (lg_sl ([.ref h0, .int p1, .int p2, .int p3]) ++ List.replicate (6 - (lg_sl ([.ref h0, .int p1, .int p2, .int p3])).length) Slot.unset).toArray = ls at hl ⊢
  have hl : lv_has ls 6 [(0, .ref h0), (1, .int p1), (2, .int p2), (3, .int p3)] := hl
  refine lv_iconst (v := 0) hx hb dX2_serviceIn_0 (by decide) ?_
  refine lv_istore (lv' := [(4, .int 0), (0, .ref h0), (1, .int p1), (2, .int p2), (3, .int p3)]) hx hb dX2_serviceIn_1 hl (by decide) rfl (fun ls hl => ?_)
  refine lv_iload_n hx hb dX2_serviceIn_3 rfl (lv_at hl 3 rfl) ?_
  refine lv_istore (lv' := [(5, .int p2), (4, .int 0), (0, .ref h0), (1, .int p1), (2, .int p2), (3, .int p3)]) hx hb dX2_serviceIn_4 hl (by decide) rfl (fun ls hl => ?_)
  have K_6 : ∀ (nn : Nat) (y_1 : Int32) (y_2 : Int32) (H : Heap) (locs : List Loc) (ls : Array Slot), (p3.toInt - y_1.toInt).toNat < nn → Iv dC dI g A f H → va_S A s.heap H locs → lv_has ls 6 [(5, .int y_1), (4, .int y_2), (0, .ref h0), (1, .int p1), (2, .int p2), (3, .int p3)] → W p l e (headSpec wq_c_X2_serviceIn ({ frames := 1, cells := 0, slots := 0, locals := 21 } : Room)).room s m ([.ref h0, .int p1, .int p2, .int p3].toArray) below meth c H locs 0 0 (MQ below (va_Qi (fun (r : Int32) (_ : Unit) => True) (fun (_ : Unit) t => Iv dC dI g A f t.heap) A) ([.ref h0, .int p1, .int p2, .int p3].toArray) s 0 0 A) (F0 m 6 ls []) := by
    intro nn
    induction nn with
    | zero => intro y_1 y_2 H locs ls m_3; exact absurd m_3 (Nat.not_lt_zero _)
    | succ nn ih =>
      intro y_1 y_2 H locs ls m_3 hI hS  hl
      have g_4 := Int32.toInt_lt p3
      have g_5 := Int32.le_toInt p3
      have g_6 := Int32.toInt_lt y_1
      have g_7 := Int32.le_toInt y_1
      refine lv_iload hx hb dX2_serviceIn_6 (lv_at hl 0 rfl) ?_
      refine lv_iload_n hx hb dX2_serviceIn_8 rfl (lv_at hl 5 rfl) ?_
      refine lv_icmp_ge (tgt := 31) hx hb dX2_serviceIn_9 (by decide) (fun c_8 => ?_) (fun c_8 => ?_)
      · have c_8 := kc_le rfl rfl c_8
        refine lv_iload hx hb dX2_serviceIn_31 (lv_at hl 1 rfl) ?_
        exact W.iret (v := y_2) hx hb hr (fun t ht hW => ⟨⟨y_2, (), rfl, trivial, k_ret ht hI⟩, hS.F ht⟩) hS.2.2 dX2_serviceIn_33
      · have c_8 := kn_le rfl rfl c_8
        refine lv_aload_n hx hb dX2_serviceIn_12 rfl (lv_at hl 2 rfl) ?_
        refine lv_iload hx hb dX2_serviceIn_13 (lv_at hl 0 rfl) ?_
        have k_9 := op_2 hI i_h0
        refine va_calli (va_runV (As := [.int y_1]) (rest := []) ⟨hx, hb, hml, hown, hts⟩ (c_X2_runner l dC dI g A hG f h0 y_1 i_h0) (cwV 1 hts (gi_V (fun w_ h0_ => ⟨List.mem_cons_of_mem _ (List.mem_append_right _ (List.mem_append_left _ h0_)), (tb_c_X2_runner w_ h0_).2⟩) (List.mem_cons_of_mem _ (List.mem_append_left _ (List.mem_of_getElem? (i := 0) rfl))) (List.mem_cons_of_mem _ (List.mem_append_left _ (List.mem_of_getElem? (i := 1) rfl))) (List.mem_cons_of_mem _ (List.mem_append_left _ (List.mem_of_getElem? (i := 2) rfl))) (List.mem_cons_of_mem _ (List.mem_append_left _ (List.mem_of_getElem? (i := 3) rfl)))) rfl rfl rfl (by decide +kernel) ⟨Nat.le_of_ble_eq_true rfl, Nat.le_of_ble_eq_true rfl⟩) ⟨fun a U g mk q => ⟨q.1, q.2.calling rfl rfl⟩, k_recv hK hI i_h0.1 k_9 (ci := 2) rfl, fun U hU hW => ⟨rfl, kIn.of hI hK hE hS hU hW⟩⟩ rfl rfl hl.1 rfl (lv_room (Nat.le_of_ble_eq_true rfl)) dX2_serviceIn_15 ⟨Nat.le_of_ble_eq_true rfl, Nat.le_of_ble_eq_true rfl⟩) hS (fun q _ h => h) (fun q h => h) (fun r_11 u t H1 locs ht hvm w_10 hB hz1 hk1 hS => ?_)
        have hI : Iv dC dI g A f t.heap := hB
        rw [ht] at hI
        generalize H1 = H at hI hS ⊢
        refine W.widen (k := 0) (n := 0) (Nat.le_of_ble_eq_true rfl) (Nat.le_of_ble_eq_true rfl) ?_
        refine lv_iload_n hx hb dX2_serviceIn_18 rfl (lv_at hl 3 rfl) ?_
        have J_25 : ∀ (y_12 : Int32) (H : Heap) (locs : List Loc) (ls : Array Slot), Iv dC dI g A f H → va_S A s.heap H locs → lv_has ls 6 [(5, .int y_1), (4, .int y_12), (0, .ref h0), (1, .int p1), (2, .int p2), (3, .int p3)] → W p l e (headSpec wq_c_X2_serviceIn ({ frames := 1, cells := 0, slots := 0, locals := 21 } : Room)).room s m ([.ref h0, .int p1, .int p2, .int p3].toArray) below meth c H locs 0 0 (MQ below (va_Qi (fun (r : Int32) (_ : Unit) => True) (fun (_ : Unit) t => Iv dC dI g A f t.heap) A) ([.ref h0, .int p1, .int p2, .int p3].toArray) s 0 0 A) (F0 m 25 ls []) := by
          intro y_12 H locs ls hI hS  hl
          obtain ⟨v_13, ev_13⟩ : ∃ y : Int32, y = y_1 + Int32.ofInt 1 := ⟨_, rfl⟩
          refine lv_iinc (v := v_13) (lv' := [(5, .int v_13), (4, .int y_12), (0, .ref h0), (1, .int p1), (2, .int p2), (3, .int p3)]) hx hb dX2_serviceIn_25 hl (k := 0) rfl ev_13.symm (by decide) rfl (fun ls hl => ?_)
          have tv_13 := k_inc y_1
          rw [← ev_13] at tv_13
          refine lv_goto (tgt := 6) hx hb dX2_serviceIn_28 (by decide) ?_
          exact ih v_13 y_12 _ _ _ (by omega) hI hS  (lv_sub hl [0, 1, 2, 3, 4, 5] rfl)
        refine lv_icmp_ne (tgt := 25) hx hb dX2_serviceIn_19 (by decide) (fun c_14 => ?_) (fun c_14 => ?_)
        · have c_14 := kn_eq rfl rfl c_14
          exact J_25 y_2 _ _ _ hI hS  (lv_sub hl [0, 1, 2, 3, 4, 5] rfl)
        · have c_14 := kc_eq rfl rfl c_14
          obtain ⟨v_15, ev_15⟩ : ∃ y : Int32, y = y_2 + Int32.ofInt 1 := ⟨_, rfl⟩
          refine lv_iinc (v := v_15) (lv' := [(4, .int v_15), (5, .int y_1), (0, .ref h0), (1, .int p1), (2, .int p2), (3, .int p3)]) hx hb dX2_serviceIn_22 hl (k := 1) rfl ev_15.symm (by decide) rfl (fun ls hl => ?_)
          have tv_15 := k_inc y_2
          rw [← ev_15] at tv_15
          exact J_25 v_15 _ _ _ hI hS  (lv_sub hl [1, 0, 2, 3, 4, 5] rfl)
  exact K_6 _ p2 0 _ _ _ (Nat.lt_succ_self _) hI hS  (lv_sub hl [0, 1, 2, 3, 4, 5] rfl)
theorem tw_178 : q_g (.selects RX2 yX2_shareThen yX2_shareThen) := ⟨(List.mem_append_left _ (List.mem_of_getElem? (i := 17) (by decide +kernel))), good_of_word (by decide +kernel)⟩
theorem tw_179 : q_g (.instanceMethod yX2_shareThen) := ⟨(List.mem_append_right _ (List.mem_of_getElem? (i := 1001) (by decide +kernel))), good_of_word (by decide +kernel)⟩
theorem tw_180 : q_g (.methodLink RX2 33 yX2_shareThen) := ⟨(List.mem_append_right _ (List.mem_of_getElem? (i := 999) (by decide +kernel))), good_of_word (by decide +kernel)⟩
theorem tw_181 : q_g (.code yX2_shareIn cX2_shareIn 7 (some .long)) := ⟨(List.mem_append_right _ (List.mem_of_getElem? (i := 998) (by decide +kernel))), good_of_word (by decide +kernel)⟩
def ow_c_X2_shareIn : List Cond := [.methodLink RX2 33 yX2_shareThen, .instanceMethod yX2_shareThen, .selects RX2 yX2_shareThen yX2_shareThen, .initialized RX2]
def wq_c_X2_shareIn : List Cond := .code yX2_shareIn cX2_shareIn 7 (some .long) :: (ow_c_X2_shareIn ++ (wq_c_X2_shareThen ++ ([] : List Cond)))
theorem tb_c_X2_shareIn : ∀ w ∈ wq_c_X2_shareIn, q_g w := by
  unfold wq_c_X2_shareIn ow_c_X2_shareIn
  exact q_cons tw_181 (q_app (q_cons tw_180 (q_cons tw_179 (q_cons tw_178 (q_cons tw_147 q_nil)))) (q_app tb_c_X2_shareThen q_nil))
set_option maxHeartbeats 4000000 in
set_option maxRecDepth 100000 in
theorem c_X2_shareIn (l : Launch) (dC : Nat → ClassId) (dI : Nat → Nat → Nat) (g : kG) (A : Nat → Prop) (hG : kWf g) (f : Nat → va_E) (h0 : Nat) (p1 : Int32) (p2 : Int32) (p3 : Int32) (i_h0 : ik g 2 h0) : Met l yX2_shareIn wq_c_X2_shareIn ({ frames := 2, cells := 0, slots := 0, locals := 45 } : Room) (va_Pc [.ref h0, .int p1, .int p2, .int p3] (fun U => kIn dC dI g A f U)) (va_Ql (fun (r : Int64) (_ : Unit) => True) (fun (_ : Unit) t => Iv dC dI g A f t.heap) A) 0 0 A := by
  refine Met.ofW (cc := cX2_shareIn) (maxL := 7) (ret := (some .long)) (by decide) rfl ?_
  intro p e s m args below meth c s₁ B hml hv
  obtain ⟨rfl, hI, hK, hE⟩ := hv
  have hx := B.exec
  have hb := B.bytes
  have hr := B.returns
  have hts := atoms_spec (ws := wq_c_X2_shareIn) B.pre
  have hown : s.vm.findClass RX2 = some m.cls := findClass_of_methodNamed B.named
  have hlocks := B.notSynchronized
  have hS : va_S A s.heap s.heap [] := va_S.rf
  have hl := lv_entry ([.ref h0, .int p1, .int p2, .int p3]) (n := 7) (Nat.le_of_ble_eq_true rfl)
  rw [lg_entry_eq]
  generalize (lg_sl ([.ref h0, .int p1, .int p2, .int p3]) ++ List.replicate (7 - (lg_sl ([.ref h0, .int p1, .int p2, .int p3])).length) Slot.unset).toArray = ls at hl ⊢
  have hl : lv_has ls 7 [(0, .ref h0), (1, .int p1), (2, .int p2), (3, .int p3)] := hl
  refine lv_lconst (v := 0) hx hb dX2_shareIn_0 (by decide) ?_
  refine lv_lstore (lv' := [(4, .long 0), (0, .ref h0), (1, .int p1), (2, .int p2), (3, .int p3)]) hx hb dX2_shareIn_1 hl (by decide) rfl (fun ls hl => ?_)
  refine lv_iload_n hx hb dX2_shareIn_3 rfl (lv_at hl 3 rfl) ?_
  refine lv_istore (lv' := [(6, .int p2), (4, .long 0), (0, .ref h0), (1, .int p1), (2, .int p2), (3, .int p3)]) hx hb dX2_shareIn_4 hl (by decide) rfl (fun ls hl => ?_)
  have K_6 : ∀ (nn : Nat) (y_1 : Int32) (y_2 : Int64) (H : Heap) (locs : List Loc) (ls : Array Slot), (p3.toInt - y_1.toInt).toNat < nn → Iv dC dI g A f H → va_S A s.heap H locs → lv_has ls 7 [(6, .int y_1), (4, .long y_2), (0, .ref h0), (1, .int p1), (2, .int p2), (3, .int p3)] → W p l e (headSpec wq_c_X2_shareIn ({ frames := 2, cells := 0, slots := 0, locals := 45 } : Room)).room s m ([.ref h0, .int p1, .int p2, .int p3].toArray) below meth c H locs 0 0 (MQ below (va_Ql (fun (r : Int64) (_ : Unit) => True) (fun (_ : Unit) t => Iv dC dI g A f t.heap) A) ([.ref h0, .int p1, .int p2, .int p3].toArray) s 0 0 A) (F0 m 6 ls []) := by
    intro nn
    induction nn with
    | zero => intro y_1 y_2 H locs ls m_3; exact absurd m_3 (Nat.not_lt_zero _)
    | succ nn ih =>
      intro y_1 y_2 H locs ls m_3 hI hS  hl
      have g_4 := Int32.toInt_lt p3
      have g_5 := Int32.le_toInt p3
      have g_6 := Int32.toInt_lt y_1
      have g_7 := Int32.le_toInt y_1
      refine lv_iload hx hb dX2_shareIn_6 (lv_at hl 0 rfl) ?_
      refine lv_iload_n hx hb dX2_shareIn_8 rfl (lv_at hl 5 rfl) ?_
      refine lv_icmp_ge (tgt := 30) hx hb dX2_shareIn_9 (by decide) (fun c_8 => ?_) (fun c_8 => ?_)
      · have c_8 := kc_le rfl rfl c_8
        refine lv_lload hx hb dX2_shareIn_30 (lv_at hl 1 rfl) ?_
        exact W.lret (v := y_2) hx hb hr (fun t ht hW => ⟨⟨y_2, (), rfl, trivial, k_ret ht hI⟩, hS.F ht⟩) hS.2.2 dX2_shareIn_32
      · have c_8 := kn_le rfl rfl c_8
        refine lv_lload hx hb dX2_shareIn_12 (lv_at hl 1 rfl) ?_
        refine lv_aload_n hx hb dX2_shareIn_14 rfl (lv_at hl 2 rfl) ?_
        refine lv_iload hx hb dX2_shareIn_15 (lv_at hl 0 rfl) ?_
        refine lv_iload_n hx hb dX2_shareIn_17 rfl (lv_at hl 3 rfl) ?_
        have k_9 := op_2 hI i_h0
        refine va_calll (va_runV (As := [.int y_1, .int p1]) (rest := [.long y_2]) ⟨hx, hb, hml, hown, hts⟩ (c_X2_shareThen l dC dI g A hG f h0 y_1 p1 i_h0) (cwV 2 hts (gi_V (fun w_ h0_ => ⟨List.mem_cons_of_mem _ (List.mem_append_right _ (List.mem_append_left _ h0_)), (tb_c_X2_shareThen w_ h0_).2⟩) (List.mem_cons_of_mem _ (List.mem_append_left _ (List.mem_of_getElem? (i := 0) rfl))) (List.mem_cons_of_mem _ (List.mem_append_left _ (List.mem_of_getElem? (i := 1) rfl))) (List.mem_cons_of_mem _ (List.mem_append_left _ (List.mem_of_getElem? (i := 2) rfl))) (List.mem_cons_of_mem _ (List.mem_append_left _ (List.mem_of_getElem? (i := 3) rfl)))) rfl rfl rfl (by decide +kernel) ⟨Nat.le_of_ble_eq_true rfl, Nat.le_of_ble_eq_true rfl⟩) ⟨fun a U g mk q => ⟨q.1, q.2.calling rfl rfl⟩, k_recv hK hI i_h0.1 k_9 (ci := 2) rfl, fun U hU hW => ⟨rfl, kIn.of hI hK hE hS hU hW⟩⟩ rfl rfl hl.1 rfl (lv_room (Nat.le_of_ble_eq_true rfl)) dX2_shareIn_18 ⟨Nat.le_of_ble_eq_true rfl, Nat.le_of_ble_eq_true rfl⟩) hS (fun q _ h => h) (fun q h => h) (fun r_11 u t H1 locs ht hvm w_10 hB hz1 hk1 hS => ?_)
        have hI : Iv dC dI g A f t.heap := hB
        rw [ht] at hI
        generalize H1 = H at hI hS ⊢
        refine W.widen (k := 0) (n := 0) (Nat.le_of_ble_eq_true rfl) (Nat.le_of_ble_eq_true rfl) ?_
        refine lv_ladd hx hb dX2_shareIn_21 ?_
        refine lv_topl (fun v_12 ev_12 => ?_)
        refine lv_lstore (lv' := [(4, .long v_12), (6, .int y_1), (0, .ref h0), (1, .int p1), (2, .int p2), (3, .int p3)]) hx hb dX2_shareIn_22 hl (by decide) rfl (fun ls hl => ?_)
        obtain ⟨v_13, ev_13⟩ : ∃ y : Int32, y = y_1 + Int32.ofInt 1 := ⟨_, rfl⟩
        refine lv_iinc (v := v_13) (lv' := [(6, .int v_13), (4, .long v_12), (0, .ref h0), (1, .int p1), (2, .int p2), (3, .int p3)]) hx hb dX2_shareIn_24 hl (k := 1) rfl ev_13.symm (by decide) rfl (fun ls hl => ?_)
        have tv_13 := k_inc y_1
        rw [← ev_13] at tv_13
        refine lv_goto (tgt := 6) hx hb dX2_shareIn_27 (by decide) ?_
        exact ih v_13 v_12 _ _ _ (by omega) hI hS  (lv_sub hl [0, 1, 2, 3, 4, 5] rfl)
  exact K_6 _ p2 0 _ _ _ (Nat.lt_succ_self _) hI hS  (lv_sub hl [0, 1, 2, 3, 4, 5] rfl)
theorem tw_182 : q_g (.constantLong RX2 37 (5354228880)) := ⟨(List.mem_append_right _ (List.mem_of_getElem? (i := 1017) (by decide +kernel))), good_of_word (by decide +kernel)⟩
theorem tw_183 : q_g (.code Lib.MathLoose.max_long.x Lib.MathLoose.max_long.code 4 (some .long)) := ⟨(List.mem_append_right _ (List.mem_of_getElem? (i := 1020) (by decide +kernel))), good_of_word (by decide +kernel)⟩
theorem tw_184 : q_g (.static Lib.MathLoose.max_long.x) := ⟨(List.mem_append_right _ (List.mem_of_getElem? (i := 1019) (by decide +kernel))), good_of_word (by decide +kernel)⟩
theorem tw_185 : q_g (.methodLink RX2 39 Lib.MathLoose.max_long.x) := ⟨(List.mem_append_right _ (List.mem_of_getElem? (i := 1018) (by decide +kernel))), good_of_word (by decide +kernel)⟩
theorem tw_186 : q_g (.constantLong RX2 45 (-9223372036854775808)) := ⟨(List.mem_append_right _ (List.mem_of_getElem? (i := 1021) (by decide +kernel))), good_of_word (by decide +kernel)⟩
theorem tw_187 : q_g (.code yX2_edge cX2_edge 16 (some .long)) := ⟨(List.mem_append_right _ (List.mem_of_getElem? (i := 1016) (by decide +kernel))), good_of_word (by decide +kernel)⟩
def ow_c_X2_edge : List Cond := [.constantLong RX2 45 (-9223372036854775808), .methodLink RX2 21 yX2_weightThen, .instanceMethod yX2_weightThen, .selects RX2 yX2_weightThen yX2_weightThen, .initialized RX2, .methodLink RX2 29 yX2_runner, .instanceMethod yX2_runner, .selects RX2 yX2_runner yX2_runner, .methodLink RX2 33 yX2_shareThen, .instanceMethod yX2_shareThen, .selects RX2 yX2_shareThen yX2_shareThen, .methodLink RX2 39 Lib.MathLoose.max_long.x, .static Lib.MathLoose.max_long.x, .initialized "java/lang/Math", .code Lib.MathLoose.max_long.x Lib.MathLoose.max_long.code 4 (some .long), .constantLong RX2 37 (5354228880)]
def wq_c_X2_edge : List Cond := .code yX2_edge cX2_edge 16 (some .long) :: (ow_c_X2_edge ++ (wq_c_X2_weightThen ++ (wq_c_X2_runner ++ (wq_c_X2_shareThen ++ ([] : List Cond)))))
theorem tb_c_X2_edge : ∀ w ∈ wq_c_X2_edge, q_g w := by
  unfold wq_c_X2_edge ow_c_X2_edge
  exact q_cons tw_187 (q_app (q_cons tw_186 (q_cons tw_172 (q_cons tw_171 (q_cons tw_170 (q_cons tw_147 (q_cons tw_176 (q_cons tw_175 (q_cons tw_174 (q_cons tw_180 (q_cons tw_179 (q_cons tw_178 (q_cons tw_185 (q_cons tw_184 (q_cons tw_154 (q_cons tw_183 (q_cons tw_182 q_nil)))))))))))))))) (q_app tb_c_X2_weightThen (q_app tb_c_X2_runner (q_app tb_c_X2_shareThen q_nil))))
set_option maxHeartbeats 4000000 in
set_option maxRecDepth 100000 in
theorem c_X2_edge (l : Launch) (dC : Nat → ClassId) (dI : Nat → Nat → Nat) (g : kG) (A : Nat → Prop) (hG : kWf g) (f : Nat → va_E) (h0 : Nat) (p1 : Int32) (p2 : Int32) (p3 : Int32) (p4 : Int32) (i_h0 : ik g 2 h0) : Met l yX2_edge wq_c_X2_edge ({ frames := 2, cells := 0, slots := 0, locals := 45 } : Room) (va_Pc [.ref h0, .int p1, .int p2, .int p3, .int p4] (fun U => kIn dC dI g A f U)) (va_Ql (fun (r : Int64) (_ : Unit) => True) (fun (_ : Unit) t => Iv dC dI g A f t.heap) A) 0 0 A := by
  refine Met.ofW (cc := cX2_edge) (maxL := 16) (ret := (some .long)) (by decide) rfl ?_
  intro p e s m args below meth c s₁ B hml hv
  obtain ⟨rfl, hI, hK, hE⟩ := hv
  have hx := B.exec
  have hb := B.bytes
  have hr := B.returns
  have hts := atoms_spec (ws := wq_c_X2_edge) B.pre
  have hown : s.vm.findClass RX2 = some m.cls := findClass_of_methodNamed B.named
  have hlocks := B.notSynchronized
  have hS : va_S A s.heap s.heap [] := va_S.rf
  have hl := lv_entry ([.ref h0, .int p1, .int p2, .int p3, .int p4]) (n := 16) (Nat.le_of_ble_eq_true rfl)
  rw [lg_entry_eq]
  generalize (lg_sl ([.ref h0, .int p1, .int p2, .int p3, .int p4]) ++ List.replicate (16 - (lg_sl ([.ref h0, .int p1, .int p2, .int p3, .int p4])).length) Slot.unset).toArray = ls at hl ⊢
  have hl : lv_has ls 16 [(0, .ref h0), (1, .int p1), (2, .int p2), (3, .int p3), (4, .int p4)] := hl
  refine lv_iconst (v := 0) hx hb dX2_edge_0 (by decide) ?_
  refine lv_istore (lv' := [(5, .int 0), (0, .ref h0), (1, .int p1), (2, .int p2), (3, .int p3), (4, .int p4)]) hx hb dX2_edge_1 hl (by decide) rfl (fun ls hl => ?_)
  refine lv_iconst (v := 0) hx hb dX2_edge_3 (by decide) ?_
  refine lv_istore (lv' := [(6, .int 0), (5, .int 0), (0, .ref h0), (1, .int p1), (2, .int p2), (3, .int p3), (4, .int p4)]) hx hb dX2_edge_4 hl (by decide) rfl (fun ls hl => ?_)
  refine lv_lconst (v := 0) hx hb dX2_edge_6 (by decide) ?_
  refine lv_lstore (lv' := [(7, .long 0), (6, .int 0), (5, .int 0), (0, .ref h0), (1, .int p1), (2, .int p2), (3, .int p3), (4, .int p4)]) hx hb dX2_edge_7 hl (by decide) rfl (fun ls hl => ?_)
  refine lv_lconst (v := 0) hx hb dX2_edge_9 (by decide) ?_
  refine lv_lstore (lv' := [(9, .long 0), (7, .long 0), (6, .int 0), (5, .int 0), (0, .ref h0), (1, .int p1), (2, .int p2), (3, .int p3), (4, .int p4)]) hx hb dX2_edge_10 hl (by decide) rfl (fun ls hl => ?_)
  refine lv_iload_n hx hb dX2_edge_12 rfl (lv_at hl 6 rfl) ?_
  refine lv_istore (lv' := [(11, .int p2), (9, .long 0), (7, .long 0), (6, .int 0), (5, .int 0), (0, .ref h0), (1, .int p1), (2, .int p2), (3, .int p3), (4, .int p4)]) hx hb dX2_edge_13 hl (by decide) rfl (fun ls hl => ?_)
  have K_15 : ∀ (nn : Nat) (y_1 : Int32) (y_2 : Int64) (y_3 : Int64) (y_4 : Int32) (y_5 : Int32) (H : Heap) (locs : List Loc) (ls : Array Slot), (p3.toInt - y_1.toInt).toNat < nn → Iv dC dI g A f H → va_S A s.heap H locs → lv_has ls 16 [(11, .int y_1), (9, .long y_2), (7, .long y_3), (6, .int y_4), (5, .int y_5), (0, .ref h0), (1, .int p1), (2, .int p2), (3, .int p3), (4, .int p4)] → W p l e (headSpec wq_c_X2_edge ({ frames := 2, cells := 0, slots := 0, locals := 45 } : Room)).room s m ([.ref h0, .int p1, .int p2, .int p3, .int p4].toArray) below meth c H locs 0 0 (MQ below (va_Ql (fun (r : Int64) (_ : Unit) => True) (fun (_ : Unit) t => Iv dC dI g A f t.heap) A) ([.ref h0, .int p1, .int p2, .int p3, .int p4].toArray) s 0 0 A) (F0 m 15 ls []) := by
    intro nn
    induction nn with
    | zero => intro y_1 y_2 y_3 y_4 y_5 H locs ls m_6; exact absurd m_6 (Nat.not_lt_zero _)
    | succ nn ih =>
      intro y_1 y_2 y_3 y_4 y_5 H locs ls m_6 hI hS  hl
      have g_7 := Int32.toInt_lt p3
      have g_8 := Int32.le_toInt p3
      have g_9 := Int32.toInt_lt y_1
      have g_10 := Int32.le_toInt y_1
      refine lv_iload hx hb dX2_edge_15 (lv_at hl 0 rfl) ?_
      refine lv_iload_n hx hb dX2_edge_17 rfl (lv_at hl 8 rfl) ?_
      refine lv_icmp_ge (tgt := 131) hx hb dX2_edge_18 (by decide) (fun c_11 => ?_) (fun c_11 => ?_)
      · have c_11 := kc_le rfl rfl c_11
        refine lv_iload hx hb dX2_edge_131 (lv_at hl 4 rfl) ?_
        refine lv_if_ne (tgt := 140) hx hb dX2_edge_133 (by decide) (fun c_12 => ?_) (fun c_12 => ?_)
        · have c_12 := kn_eq rfl (by decide : Int32.toInt 0 = 0) c_12
          refine lv_iload hx hb dX2_edge_140 (lv_at hl 9 rfl) ?_
          refine lv_if_eq (tgt := 150) hx hb dX2_edge_142 (by decide) (fun c_13 => ?_) (fun c_13 => ?_)
          · have c_13 := kc_eq rfl (by decide : Int32.toInt 0 = 0) c_13
            refine lv_lload hx hb dX2_edge_150 (lv_at hl 2 rfl) ?_
            refine lv_lneg hx hb dX2_edge_152 ?_
            refine lv_topl (fun v_14 ev_14 => ?_)
            exact W.lret (v := v_14) hx hb hr (fun t ht hW => ⟨⟨v_14, (), rfl, trivial, k_ret ht hI⟩, hS.F ht⟩) hS.2.2 dX2_edge_153
          · have c_13 := kn_eq rfl (by decide : Int32.toInt 0 = 0) c_13
            refine lv_lload hx hb dX2_edge_145 (lv_at hl 2 rfl) ?_
            refine lv_goto (tgt := 153) hx hb dX2_edge_147 (by decide) ?_
            exact W.lret (v := y_3) hx hb hr (fun t ht hW => ⟨⟨y_3, (), rfl, trivial, k_ret ht hI⟩, hS.F ht⟩) hS.2.2 dX2_edge_153
        · have c_12 := kc_eq rfl (by decide : Int32.toInt 0 = 0) c_12
          refine lv_ldc2 hx hb hown (hts (.constantLong RX2 45 (-9223372036854775808)) (List.mem_cons_of_mem _ (List.mem_append_left _ (List.mem_of_getElem? (i := 0) rfl)))) dX2_edge_136 ?_
          exact W.lret (v := (-9223372036854775808)) hx hb hr (fun t ht hW => ⟨⟨(-9223372036854775808), (), rfl, trivial, k_ret ht hI⟩, hS.F ht⟩) hS.2.2 dX2_edge_139
      · have c_11 := kn_le rfl rfl c_11
        refine lv_aload_n hx hb dX2_edge_21 rfl (lv_at hl 5 rfl) ?_
        refine lv_iload hx hb dX2_edge_22 (lv_at hl 0 rfl) ?_
        refine lv_iload_n hx hb dX2_edge_24 rfl (lv_at hl 6 rfl) ?_
        have k_15 := op_2 hI i_h0
        refine va_calli (va_runV (As := [.int y_1, .int p1]) (rest := []) ⟨hx, hb, hml, hown, hts⟩ (c_X2_weightThen l dC dI g A hG f h0 y_1 p1 i_h0) (cwV 2 hts (gi_V (fun w_ h0_ => ⟨List.mem_cons_of_mem _ (List.mem_append_right _ (List.mem_append_left _ h0_)), (tb_c_X2_weightThen w_ h0_).2⟩) (List.mem_cons_of_mem _ (List.mem_append_left _ (List.mem_of_getElem? (i := 1) rfl))) (List.mem_cons_of_mem _ (List.mem_append_left _ (List.mem_of_getElem? (i := 2) rfl))) (List.mem_cons_of_mem _ (List.mem_append_left _ (List.mem_of_getElem? (i := 3) rfl))) (List.mem_cons_of_mem _ (List.mem_append_left _ (List.mem_of_getElem? (i := 4) rfl)))) rfl rfl rfl (by decide +kernel) ⟨Nat.le_of_ble_eq_true rfl, Nat.le_of_ble_eq_true rfl⟩) ⟨fun a U g mk q => ⟨q.1, q.2.calling rfl rfl⟩, k_recv hK hI i_h0.1 k_15 (ci := 2) rfl, fun U hU hW => ⟨rfl, kIn.of hI hK hE hS hU hW⟩⟩ rfl rfl hl.1 rfl (lv_room (Nat.le_of_ble_eq_true rfl)) dX2_edge_25 ⟨Nat.le_of_ble_eq_true rfl, Nat.le_of_ble_eq_true rfl⟩) hS (fun q _ h => h) (fun q h => h) (fun r_17 u t H1 locs ht hvm w_16 hB hz1 hk1 hS => ?_)
        have hI : Iv dC dI g A f t.heap := hB
        rw [ht] at hI
        generalize H1 = H at hI hS ⊢
        refine W.widen (k := 0) (n := 0) (Nat.le_of_ble_eq_true rfl) (Nat.le_of_ble_eq_true rfl) ?_
        have J_125 : ∀ (y_18 : Int64) (y_19 : Int64) (y_20 : Int32) (y_21 : Int32) (H : Heap) (locs : List Loc) (ls : Array Slot), Iv dC dI g A f H → va_S A s.heap H locs → lv_has ls 16 [(11, .int y_1), (9, .long y_18), (7, .long y_19), (6, .int y_20), (5, .int y_21), (0, .ref h0), (1, .int p1), (2, .int p2), (3, .int p3), (4, .int p4)] → W p l e (headSpec wq_c_X2_edge ({ frames := 2, cells := 0, slots := 0, locals := 45 } : Room)).room s m ([.ref h0, .int p1, .int p2, .int p3, .int p4].toArray) below meth c H locs 0 0 (MQ below (va_Ql (fun (r : Int64) (_ : Unit) => True) (fun (_ : Unit) t => Iv dC dI g A f t.heap) A) ([.ref h0, .int p1, .int p2, .int p3, .int p4].toArray) s 0 0 A) (F0 m 125 ls []) := by
          intro y_18 y_19 y_20 y_21 H locs ls hI hS  hl
          obtain ⟨v_22, ev_22⟩ : ∃ y : Int32, y = y_1 + Int32.ofInt 1 := ⟨_, rfl⟩
          refine lv_iinc (v := v_22) (lv' := [(11, .int v_22), (9, .long y_18), (7, .long y_19), (6, .int y_20), (5, .int y_21), (0, .ref h0), (1, .int p1), (2, .int p2), (3, .int p3), (4, .int p4)]) hx hb dX2_edge_125 hl (k := 0) rfl ev_22.symm (by decide) rfl (fun ls hl => ?_)
          have tv_22 := k_inc y_1
          rw [← ev_22] at tv_22
          refine lv_goto (tgt := 15) hx hb dX2_edge_128 (by decide) ?_
          exact ih v_22 y_18 y_19 y_20 y_21 _ _ _ (by omega) hI hS  (lv_sub hl [0, 1, 2, 3, 4, 5, 6, 7, 8, 9] rfl)
        refine lv_if_ne (tgt := 37) hx hb dX2_edge_28 (by decide) (fun c_23 => ?_) (fun c_23 => ?_)
        · have c_23 := kn_eq rfl (by decide : Int32.toInt 0 = 0) c_23
          refine lv_aload_n hx hb dX2_edge_37 rfl (lv_at hl 5 rfl) ?_
          refine lv_iload hx hb dX2_edge_38 (lv_at hl 0 rfl) ?_
          refine va_calli (va_runV (As := [.int y_1]) (rest := []) ⟨hx, hb, hml, hown, hts⟩ (c_X2_runner l dC dI g A hG f h0 y_1 i_h0) (cwV 1 hts (gi_V (fun w_ h0_ => ⟨List.mem_cons_of_mem _ (List.mem_append_right _ (List.mem_append_right _ (List.mem_append_left _ h0_))), (tb_c_X2_runner w_ h0_).2⟩) (List.mem_cons_of_mem _ (List.mem_append_left _ (List.mem_of_getElem? (i := 5) rfl))) (List.mem_cons_of_mem _ (List.mem_append_left _ (List.mem_of_getElem? (i := 6) rfl))) (List.mem_cons_of_mem _ (List.mem_append_left _ (List.mem_of_getElem? (i := 7) rfl))) (List.mem_cons_of_mem _ (List.mem_append_left _ (List.mem_of_getElem? (i := 4) rfl)))) rfl rfl rfl (by decide +kernel) ⟨Nat.le_of_ble_eq_true rfl, Nat.le_of_ble_eq_true rfl⟩) ⟨fun a U g mk q => ⟨q.1, q.2.calling rfl rfl⟩, k_recv hK hI i_h0.1 k_15 (ci := 2) rfl, fun U hU hW => ⟨rfl, kIn.of hI hK hE hS hU hW⟩⟩ rfl rfl hl.1 rfl (lv_room (Nat.le_of_ble_eq_true rfl)) dX2_edge_40 ⟨Nat.le_of_ble_eq_true rfl, Nat.le_of_ble_eq_true rfl⟩) hS (fun q _ h => h) (fun q h => h) (fun r_25 u t H1 locs ht hvm w_24 hB hz1 hk1 hS => ?_)
          have hI : Iv dC dI g A f t.heap := hB
          rw [ht] at hI
          generalize H1 = H at hI hS ⊢
          refine W.widen (k := 0) (n := 0) (Nat.le_of_ble_eq_true rfl) (Nat.le_of_ble_eq_true rfl) ?_
          refine lv_iload_n hx hb dX2_edge_43 rfl (lv_at hl 6 rfl) ?_
          have J_54 : ∀ (y_26 : Int64) (H : Heap) (locs : List Loc) (ls : Array Slot), Iv dC dI g A f H → va_S A s.heap H locs → lv_has ls 16 [(11, .int y_1), (9, .long y_2), (7, .long y_3), (6, .int y_4), (5, .int y_5), (0, .ref h0), (1, .int p1), (2, .int p2), (3, .int p3), (4, .int p4)] → W p l e (headSpec wq_c_X2_edge ({ frames := 2, cells := 0, slots := 0, locals := 45 } : Room)).room s m ([.ref h0, .int p1, .int p2, .int p3, .int p4].toArray) below meth c H locs 0 0 (MQ below (va_Ql (fun (r : Int64) (_ : Unit) => True) (fun (_ : Unit) t => Iv dC dI g A f t.heap) A) ([.ref h0, .int p1, .int p2, .int p3, .int p4].toArray) s 0 0 A) (F0 m 54 ls [.long y_26]) := by
            intro y_26 H locs ls hI hS  hl
            refine lv_aload_n hx hb dX2_edge_54 rfl (lv_at hl 5 rfl) ?_
            refine lv_iload hx hb dX2_edge_55 (lv_at hl 0 rfl) ?_
            refine lv_iload_n hx hb dX2_edge_57 rfl (lv_at hl 6 rfl) ?_
            refine va_calll (va_runV (As := [.int y_1, .int p1]) (rest := [.long y_26]) ⟨hx, hb, hml, hown, hts⟩ (c_X2_shareThen l dC dI g A hG f h0 y_1 p1 i_h0) (cwV 2 hts (gi_V (fun w_ h0_ => ⟨List.mem_cons_of_mem _ (List.mem_append_right _ (List.mem_append_right _ (List.mem_append_right _ (List.mem_append_left _ h0_)))), (tb_c_X2_shareThen w_ h0_).2⟩) (List.mem_cons_of_mem _ (List.mem_append_left _ (List.mem_of_getElem? (i := 8) rfl))) (List.mem_cons_of_mem _ (List.mem_append_left _ (List.mem_of_getElem? (i := 9) rfl))) (List.mem_cons_of_mem _ (List.mem_append_left _ (List.mem_of_getElem? (i := 10) rfl))) (List.mem_cons_of_mem _ (List.mem_append_left _ (List.mem_of_getElem? (i := 4) rfl)))) rfl rfl rfl (by decide +kernel) ⟨Nat.le_of_ble_eq_true rfl, Nat.le_of_ble_eq_true rfl⟩) ⟨fun a U g mk q => ⟨q.1, q.2.calling rfl rfl⟩, k_recv hK hI i_h0.1 k_15 (ci := 2) rfl, fun U hU hW => ⟨rfl, kIn.of hI hK hE hS hU hW⟩⟩ rfl rfl hl.1 rfl (lv_room (Nat.le_of_ble_eq_true rfl)) dX2_edge_58 ⟨Nat.le_of_ble_eq_true rfl, Nat.le_of_ble_eq_true rfl⟩) hS (fun q _ h => h) (fun q h => h) (fun r_28 u t H1 locs ht hvm w_27 hB hz1 hk1 hS => ?_)
            have hI : Iv dC dI g A f t.heap := hB
            rw [ht] at hI
            generalize H1 = H at hI hS ⊢
            refine W.widen (k := 0) (n := 0) (Nat.le_of_ble_eq_true rfl) (Nat.le_of_ble_eq_true rfl) ?_
            refine lv_lsub hx hb dX2_edge_61 ?_
            refine lv_topl (fun v_29 ev_29 => ?_)
            refine lv_lstore (lv' := [(12, .long v_29), (11, .int y_1), (9, .long y_2), (7, .long y_3), (6, .int y_4), (5, .int y_5), (0, .ref h0), (1, .int p1), (2, .int p2), (3, .int p3), (4, .int p4)]) hx hb dX2_edge_62 hl (by decide) rfl (fun ls hl => ?_)
            refine lv_iload hx hb dX2_edge_64 (lv_at hl 10 rfl) ?_
            have J_77 : ∀ (y_30 : Int64) (H : Heap) (locs : List Loc) (ls : Array Slot), Iv dC dI g A f H → va_S A s.heap H locs → lv_has ls 16 [(12, .long v_29), (11, .int y_1), (9, .long y_2), (7, .long y_3), (6, .int y_4), (5, .int y_5), (0, .ref h0), (1, .int p1), (2, .int p2), (3, .int p3), (4, .int p4)] → W p l e (headSpec wq_c_X2_edge ({ frames := 2, cells := 0, slots := 0, locals := 45 } : Room)).room s m ([.ref h0, .int p1, .int p2, .int p3, .int p4].toArray) below meth c H locs 0 0 (MQ below (va_Ql (fun (r : Int64) (_ : Unit) => True) (fun (_ : Unit) t => Iv dC dI g A f t.heap) A) ([.ref h0, .int p1, .int p2, .int p3, .int p4].toArray) s 0 0 A) (F0 m 77 ls [.long y_30]) := by
              intro y_30 H locs ls hI hS  hl
              refine lv_lstore (lv' := [(14, .long y_30), (12, .long v_29), (11, .int y_1), (9, .long y_2), (7, .long y_3), (6, .int y_4), (5, .int y_5), (0, .ref h0), (1, .int p1), (2, .int p2), (3, .int p3), (4, .int p4)]) hx hb dX2_edge_77 hl (by decide) rfl (fun ls hl => ?_)
              refine lv_iload hx hb dX2_edge_79 (lv_at hl 5 rfl) ?_
              have J_98 : ∀ (y_31 : Int64) (H : Heap) (locs : List Loc) (ls : Array Slot), Iv dC dI g A f H → va_S A s.heap H locs → lv_has ls 16 [(14, .long y_30), (12, .long v_29), (11, .int y_1), (9, .long y_2), (7, .long y_3), (6, .int y_4), (5, .int y_5), (0, .ref h0), (1, .int p1), (2, .int p2), (3, .int p3), (4, .int p4)] → W p l e (headSpec wq_c_X2_edge ({ frames := 2, cells := 0, slots := 0, locals := 45 } : Room)).room s m ([.ref h0, .int p1, .int p2, .int p3, .int p4].toArray) below meth c H locs 0 0 (MQ below (va_Ql (fun (r : Int64) (_ : Unit) => True) (fun (_ : Unit) t => Iv dC dI g A f t.heap) A) ([.ref h0, .int p1, .int p2, .int p3, .int p4].toArray) s 0 0 A) (F0 m 98 ls [.long y_31]) := by
                intro y_31 H locs ls hI hS  hl
                refine lv_lstore (lv' := [(9, .long y_31), (14, .long y_30), (12, .long v_29), (11, .int y_1), (7, .long y_3), (6, .int y_4), (5, .int y_5), (0, .ref h0), (1, .int p1), (2, .int p2), (3, .int p3), (4, .int p4)]) hx hb dX2_edge_98 hl (by decide) rfl (fun ls hl => ?_)
                refine lv_iconst (v := 1) hx hb dX2_edge_100 (by decide) ?_
                refine lv_istore (lv' := [(6, .int 1), (9, .long y_31), (14, .long y_30), (12, .long v_29), (11, .int y_1), (7, .long y_3), (5, .int y_5), (0, .ref h0), (1, .int p1), (2, .int p2), (3, .int p3), (4, .int p4)]) hx hb dX2_edge_101 hl (by decide) rfl (fun ls hl => ?_)
                refine lv_iload hx hb dX2_edge_103 (lv_at hl 6 rfl) ?_
                have J_120 : ∀ (y_32 : Int64) (H : Heap) (locs : List Loc) (ls : Array Slot), Iv dC dI g A f H → va_S A s.heap H locs → lv_has ls 16 [(6, .int 1), (9, .long y_31), (14, .long y_30), (12, .long v_29), (11, .int y_1), (7, .long y_3), (5, .int y_5), (0, .ref h0), (1, .int p1), (2, .int p2), (3, .int p3), (4, .int p4)] → W p l e (headSpec wq_c_X2_edge ({ frames := 2, cells := 0, slots := 0, locals := 45 } : Room)).room s m ([.ref h0, .int p1, .int p2, .int p3, .int p4].toArray) below meth c H locs 0 0 (MQ below (va_Ql (fun (r : Int64) (_ : Unit) => True) (fun (_ : Unit) t => Iv dC dI g A f t.heap) A) ([.ref h0, .int p1, .int p2, .int p3, .int p4].toArray) s 0 0 A) (F0 m 120 ls [.long y_32]) := by
                  intro y_32 H locs ls hI hS  hl
                  refine lv_lstore (lv' := [(7, .long y_32), (6, .int 1), (9, .long y_31), (14, .long y_30), (12, .long v_29), (11, .int y_1), (5, .int y_5), (0, .ref h0), (1, .int p1), (2, .int p2), (3, .int p3), (4, .int p4)]) hx hb dX2_edge_120 hl (by decide) rfl (fun ls hl => ?_)
                  refine lv_iconst (v := 1) hx hb dX2_edge_122 (by decide) ?_
                  refine lv_istore (lv' := [(5, .int 1), (7, .long y_32), (6, .int 1), (9, .long y_31), (14, .long y_30), (12, .long v_29), (11, .int y_1), (0, .ref h0), (1, .int p1), (2, .int p2), (3, .int p3), (4, .int p4)]) hx hb dX2_edge_123 hl (by decide) rfl (fun ls hl => ?_)
                  exact J_125 y_31 y_32 1 1 _ _ _ hI hS  (lv_sub hl [6, 3, 1, 2, 0, 7, 8, 9, 10, 11] rfl)
                refine lv_if_eq (tgt := 118) hx hb dX2_edge_105 (by decide) (fun c_33 => ?_) (fun c_33 => ?_)
                · have c_33 := kc_eq rfl (by decide : Int32.toInt 0 = 0) c_33
                  refine lv_lload hx hb dX2_edge_118 (lv_at hl 1 rfl) ?_
                  exact J_120 y_31 _ _ _ hI hS  (lv_sub hl [0, 1, 2, 3, 4, 5, 6, 7, 8, 9, 10, 11] rfl)
                · have c_33 := kn_eq rfl (by decide : Int32.toInt 0 = 0) c_33
                  refine lv_lload hx hb dX2_edge_108 (lv_at hl 5 rfl) ?_
                  refine lv_lload hx hb dX2_edge_110 (lv_at hl 1 rfl) ?_
                  refine va_mmax_long hx hb (by rw [hml]; exact hl.1.symm) hown (hts (.methodLink RX2 39 Lib.MathLoose.max_long.x) (List.mem_cons_of_mem _ (List.mem_append_left _ (List.mem_of_getElem? (i := 11) rfl)))) (hts (.static Lib.MathLoose.max_long.x) (List.mem_cons_of_mem _ (List.mem_append_left _ (List.mem_of_getElem? (i := 12) rfl)))) (hts (.initialized "java/lang/Math") (List.mem_cons_of_mem _ (List.mem_append_left _ (List.mem_of_getElem? (i := 13) rfl)))) (hts (.code Lib.MathLoose.max_long.x Lib.MathLoose.max_long.code 4 (some .long)) (List.mem_cons_of_mem _ (List.mem_append_left _ (List.mem_of_getElem? (i := 14) rfl)))) (Nat.le_of_ble_eq_true rfl) (Nat.le_of_ble_eq_true rfl) (Nat.le_of_ble_eq_true rfl) (Nat.le_of_ble_eq_true rfl) dX2_edge_112 ?_
                  refine lv_topl (fun v_34 ev_34 => ?_)
                  refine lv_goto (tgt := 120) hx hb dX2_edge_115 (by decide) ?_
                  exact J_120 v_34 _ _ _ hI hS  (lv_sub hl [0, 1, 2, 3, 4, 5, 6, 7, 8, 9, 10, 11] rfl)
              refine lv_if_eq (tgt := 96) hx hb dX2_edge_81 (by decide) (fun c_35 => ?_) (fun c_35 => ?_)
              · have c_35 := kc_eq rfl (by decide : Int32.toInt 0 = 0) c_35
                refine lv_lload hx hb dX2_edge_96 (lv_at hl 0 rfl) ?_
                exact J_98 y_30 _ _ _ hI hS  (lv_sub hl [0, 1, 2, 3, 4, 5, 6, 7, 8, 9, 10, 11] rfl)
              · have c_35 := kn_eq rfl (by decide : Int32.toInt 0 = 0) c_35
                refine lv_lload hx hb dX2_edge_84 (lv_at hl 0 rfl) ?_
                refine lv_lconst (v := 0) hx hb dX2_edge_86 (by decide) ?_
                refine lv_lload hx hb dX2_edge_87 (lv_at hl 3 rfl) ?_
                refine va_mmax_long hx hb (by rw [hml]; exact hl.1.symm) hown (hts (.methodLink RX2 39 Lib.MathLoose.max_long.x) (List.mem_cons_of_mem _ (List.mem_append_left _ (List.mem_of_getElem? (i := 11) rfl)))) (hts (.static Lib.MathLoose.max_long.x) (List.mem_cons_of_mem _ (List.mem_append_left _ (List.mem_of_getElem? (i := 12) rfl)))) (hts (.initialized "java/lang/Math") (List.mem_cons_of_mem _ (List.mem_append_left _ (List.mem_of_getElem? (i := 13) rfl)))) (hts (.code Lib.MathLoose.max_long.x Lib.MathLoose.max_long.code 4 (some .long)) (List.mem_cons_of_mem _ (List.mem_append_left _ (List.mem_of_getElem? (i := 14) rfl)))) (Nat.le_of_ble_eq_true rfl) (Nat.le_of_ble_eq_true rfl) (Nat.le_of_ble_eq_true rfl) (Nat.le_of_ble_eq_true rfl) dX2_edge_89 ?_
                refine lv_topl (fun v_36 ev_36 => ?_)
                refine lv_ladd hx hb dX2_edge_92 ?_
                refine lv_topl (fun v_37 ev_37 => ?_)
                refine lv_goto (tgt := 98) hx hb dX2_edge_93 (by decide) ?_
                exact J_98 v_37 _ _ _ hI hS  (lv_sub hl [0, 1, 2, 3, 4, 5, 6, 7, 8, 9, 10, 11] rfl)
            refine lv_if_eq (tgt := 74) hx hb dX2_edge_66 (by decide) (fun c_38 => ?_) (fun c_38 => ?_)
            · have c_38 := kc_eq rfl (by decide : Int32.toInt 0 = 0) c_38
              refine lv_lload hx hb dX2_edge_74 (lv_at hl 0 rfl) ?_
              refine lv_lneg hx hb dX2_edge_76 ?_
              refine lv_topl (fun v_39 ev_39 => ?_)
              exact J_77 v_39 _ _ _ hI hS  (lv_sub hl [0, 1, 2, 3, 4, 5, 6, 7, 8, 9, 10] rfl)
            · have c_38 := kn_eq rfl (by decide : Int32.toInt 0 = 0) c_38
              refine lv_lload hx hb dX2_edge_69 (lv_at hl 0 rfl) ?_
              refine lv_goto (tgt := 77) hx hb dX2_edge_71 (by decide) ?_
              exact J_77 v_29 _ _ _ hI hS  (lv_sub hl [0, 1, 2, 3, 4, 5, 6, 7, 8, 9, 10] rfl)
          refine lv_icmp_ne (tgt := 53) hx hb dX2_edge_44 (by decide) (fun c_40 => ?_) (fun c_40 => ?_)
          · have c_40 := kn_eq rfl rfl c_40
            refine lv_lconst (v := 0) hx hb dX2_edge_53 (by decide) ?_
            exact J_54 0 _ _ _ hI hS  (lv_sub hl [0, 1, 2, 3, 4, 5, 6, 7, 8, 9] rfl)
          · have c_40 := kc_eq rfl rfl c_40
            refine lv_ldc2 hx hb hown (hts (.constantLong RX2 37 (5354228880)) (List.mem_cons_of_mem _ (List.mem_append_left _ (List.mem_of_getElem? (i := 15) rfl)))) dX2_edge_47 ?_
            refine lv_goto (tgt := 54) hx hb dX2_edge_50 (by decide) ?_
            exact J_54 5354228880 _ _ _ hI hS  (lv_sub hl [0, 1, 2, 3, 4, 5, 6, 7, 8, 9] rfl)
        · have c_23 := kc_eq rfl (by decide : Int32.toInt 0 = 0) c_23
          refine lv_iconst (v := 0) hx hb dX2_edge_31 (by decide) ?_
          refine lv_istore (lv' := [(6, .int 0), (11, .int y_1), (9, .long y_2), (7, .long y_3), (5, .int y_5), (0, .ref h0), (1, .int p1), (2, .int p2), (3, .int p3), (4, .int p4)]) hx hb dX2_edge_32 hl (by decide) rfl (fun ls hl => ?_)
          refine lv_goto (tgt := 125) hx hb dX2_edge_34 (by decide) ?_
          exact J_125 y_2 y_3 0 y_5 _ _ _ hI hS  (lv_sub hl [1, 2, 3, 0, 4, 5, 6, 7, 8, 9] rfl)
  exact K_15 _ p2 0 0 0 0 _ _ _ (Nat.lt_succ_self _) hI hS  (lv_sub hl [0, 1, 2, 3, 4, 5, 6, 7, 8, 9] rfl)
theorem tw_188 : q_g (.code yX5_drop cX5_drop 1 none) := ⟨(List.mem_append_right _ (List.mem_of_getElem? (i := 465) (by decide +kernel))), good_of_word (by decide +kernel)⟩
def ow_c_X5_drop : List Cond := [.fieldLink RX5 28 "DeadlineShare$Script" "size" "I", .fieldLink RX5 32 "DeadlineShare$Script" "at" "I", .fieldLink RX5 35 "DeadlineShare$Script" "toRun" "I", .fieldLink RX5 38 "DeadlineShare$Script" "timesBack" "I"]
def wq_c_X5_drop : List Cond := .code yX5_drop cX5_drop 1 none :: (ow_c_X5_drop ++ (u_ws RX5 TX5 5 ++ ([] : List Cond)))
theorem tb_c_X5_drop : ∀ w ∈ wq_c_X5_drop, q_g w := by
  unfold wq_c_X5_drop ow_c_X5_drop
  exact q_cons tw_188 (q_app (q_cons tw_110 (q_cons tw_109 (q_cons tw_108 (q_cons tw_107 q_nil)))) (q_app tu_X5 q_nil))
set_option maxHeartbeats 4000000 in
set_option maxRecDepth 100000 in
theorem c_X5_drop (l : Launch) (dC : Nat → ClassId) (dI : Nat → Nat → Nat) (g : kG) (A : Nat → Prop) (hG : kWf g) (f : Nat → va_E) (h0 : Nat) (i_h0 : ik g 5 h0) : Met l yX5_drop wq_c_X5_drop ({ frames := 0, cells := 0, slots := 0, locals := 0 } : Room) (va_Pc [.ref h0] (fun U => kIn dC dI g A f U)) (va_Qv (fun (_ : Unit) => True) (fun (_ : Unit) t => ∃ f1 : Nat → va_E, Iv dC dI g A f1 t.heap ∧ Kp g [5] f f1) A) 0 0 A := by
  refine Met.ofW (cc := cX5_drop) (maxL := 1) (ret := none) (by decide) rfl ?_
  intro p e s m args below meth c s₁ B hml hv
  obtain ⟨rfl, hI, hK, hE⟩ := hv
  have hx := B.exec
  have hb := B.bytes
  have hr := B.returns
  have hts := atoms_spec (ws := wq_c_X5_drop) B.pre
  have hown : s.vm.findClass RX5 = some m.cls := findClass_of_methodNamed B.named
  have hlocks := B.notSynchronized
  have hS : va_S A s.heap s.heap [] := va_S.rf
  have hk0 : Kp g [5] f f := Kp.rf
  have hl := lv_entry ([.ref h0]) (n := 1) (Nat.le_of_ble_eq_true rfl)
  rw [lg_entry_eq]
  generalize (lg_sl ([.ref h0]) ++ List.replicate (1 - (lg_sl ([.ref h0])).length) Slot.unset).toArray = ls at hl ⊢
  have hl : lv_has ls 1 [(0, .ref h0)] := hl
  refine lv_aload_n hx hb dX5_drop_0 rfl (lv_at hl 0 rfl) ?_
  refine lv_iconst (v := 0) hx hb dX5_drop_1 (by decide) ?_
  obtain ⟨x_2, x_3, x_4, x_5, k_1, b_6, b_7⟩ := op_5 hI i_h0
  have b_8 : 0 ≤ Int32.toInt 0 ∧ Int32.toInt 0 ≤ 8 := (by decide)
  refine k_put (ci := 5) (v := .int 0) (ty := .int) (C := RX5) (T := TX5) (N := 5) hx hb hts (fun _ h0_ => List.mem_cons_of_mem _ (List.mem_append_right _ (List.mem_append_left _ h0_))) tyX5 tyX5_ok nmX5 hown hK hI hS i_h0.1 k_1 rfl 1 (by decide) (hts (.fieldLink RX5 28 "DeadlineShare$Script" "size" "I") (List.mem_cons_of_mem _ (List.mem_append_left _ (List.mem_of_getElem? (i := 0) rfl)))) (fun _ h9 => h9) rfl (by decide +kernel) rfl rfl (Nat.le_of_ble_eq_true rfl) rfl (cl_5 i_h0 b_8) dX5_drop_2 (fun f_9 H locs e_10 hI hS => ?_)
  have k_12 : f_9 h0 = .inr (5, [.ref (gr g h0 0), .int 0, .int x_3, .int x_4, .int x_5]) := by rw [e_10]; exact va_up_self _ _ _
  have kp_11 := Kp.put hk0 i_h0 (by decide) e_10
  refine lv_aload_n hx hb dX5_drop_5 rfl (lv_at hl 0 rfl) ?_
  refine lv_iconst (v := 0) hx hb dX5_drop_6 (by decide) ?_
  refine k_put (ci := 5) (v := .int 0) (ty := .int) (C := RX5) (T := TX5) (N := 5) hx hb hts (fun _ h0_ => List.mem_cons_of_mem _ (List.mem_append_right _ (List.mem_append_left _ h0_))) tyX5 tyX5_ok nmX5 hown hK hI hS i_h0.1 k_12 rfl 2 (by decide) (hts (.fieldLink RX5 32 "DeadlineShare$Script" "at" "I") (List.mem_cons_of_mem _ (List.mem_append_left _ (List.mem_of_getElem? (i := 1) rfl)))) (fun _ h9 => h9) rfl (by decide +kernel) rfl rfl (Nat.le_of_ble_eq_true rfl) rfl (cl_5 i_h0 (by omega)) dX5_drop_7 (fun f_13 H locs e_14 hI hS => ?_)
  have k_16 : f_13 h0 = .inr (5, [.ref (gr g h0 0), .int 0, .int 0, .int x_4, .int x_5]) := by rw [e_14]; exact va_up_self _ _ _
  have kp_15 := Kp.put kp_11 i_h0 (by decide) e_14
  refine lv_aload_n hx hb dX5_drop_10 rfl (lv_at hl 0 rfl) ?_
  refine lv_iconst (v := 0) hx hb dX5_drop_11 (by decide) ?_
  refine k_put (ci := 5) (v := .int 0) (ty := .int) (C := RX5) (T := TX5) (N := 5) hx hb hts (fun _ h0_ => List.mem_cons_of_mem _ (List.mem_append_right _ (List.mem_append_left _ h0_))) tyX5 tyX5_ok nmX5 hown hK hI hS i_h0.1 k_16 rfl 3 (by decide) (hts (.fieldLink RX5 35 "DeadlineShare$Script" "toRun" "I") (List.mem_cons_of_mem _ (List.mem_append_left _ (List.mem_of_getElem? (i := 2) rfl)))) (fun _ h9 => h9) rfl (by decide +kernel) rfl rfl (Nat.le_of_ble_eq_true rfl) rfl (cl_5 i_h0 (by omega)) dX5_drop_12 (fun f_17 H locs e_18 hI hS => ?_)
  have k_20 : f_17 h0 = .inr (5, [.ref (gr g h0 0), .int 0, .int 0, .int 0, .int x_5]) := by rw [e_18]; exact va_up_self _ _ _
  have kp_19 := Kp.put kp_15 i_h0 (by decide) e_18
  refine lv_aload_n hx hb dX5_drop_15 rfl (lv_at hl 0 rfl) ?_
  refine lv_iconst (v := 0) hx hb dX5_drop_16 (by decide) ?_
  refine k_put (ci := 5) (v := .int 0) (ty := .int) (C := RX5) (T := TX5) (N := 5) hx hb hts (fun _ h0_ => List.mem_cons_of_mem _ (List.mem_append_right _ (List.mem_append_left _ h0_))) tyX5 tyX5_ok nmX5 hown hK hI hS i_h0.1 k_20 rfl 4 (by decide) (hts (.fieldLink RX5 38 "DeadlineShare$Script" "timesBack" "I") (List.mem_cons_of_mem _ (List.mem_append_left _ (List.mem_of_getElem? (i := 3) rfl)))) (fun _ h9 => h9) rfl (by decide +kernel) rfl rfl (Nat.le_of_ble_eq_true rfl) rfl (cl_5 i_h0 (by omega)) dX5_drop_17 (fun f_21 H locs e_22 hI hS => ?_)
  have k_24 : f_21 h0 = .inr (5, [.ref (gr g h0 0), .int 0, .int 0, .int 0, .int 0]) := by rw [e_22]; exact va_up_self _ _ _
  have kp_23 := Kp.put kp_19 i_h0 (by decide) e_22
  exact W.vret hx hb hr (fun t ht hW => ⟨⟨(), rfl, trivial, ⟨f_21, k_ret ht hI, kp_23⟩⟩, hS.F ht⟩) hS.2.2 dX5_drop_20
theorem tu_X7 : ∀ w ∈ u_ws RX7 TX7 2, q_g w := by
  intro w h
  unfold u_ws at h
  obtain ⟨j, hj, rfl⟩ := List.mem_map.mp h
  have hj := List.mem_range.mp hj
  match j, hj with
  | 0, _ => exact ⟨(List.mem_append_right _ (List.mem_of_getElem? (i := 60) (by decide +kernel))), good_of_word (by decide +kernel)⟩
  | 1, _ => exact ⟨(List.mem_append_right _ (List.mem_of_getElem? (i := 62) (by decide +kernel))), good_of_word (by decide +kernel)⟩
  | (j9 + 2), h9 => exact absurd h9 (by omega)
theorem tw_189 : q_g (.fieldLink RX7 11 "DeadlineShare$Tape" "bytes" "[B") := ⟨(List.mem_append_right _ (List.mem_of_getElem? (i := 56) (by decide +kernel))), good_of_word (by decide +kernel)⟩
theorem tw_190 : q_g (.fieldLink RX7 15 "DeadlineShare$Tape" "length" "I") := ⟨(List.mem_append_right _ (List.mem_of_getElem? (i := 57) (by decide +kernel))), good_of_word (by decide +kernel)⟩
theorem tw_191 : q_g (.code yX7_byteAt cX7_byteAt 2 (some .int)) := ⟨(List.mem_append_right _ (List.mem_of_getElem? (i := 412) (by decide +kernel))), good_of_word (by decide +kernel)⟩
def ow_c_X7_byteAt : List Cond := [.fieldLink RX7 15 "DeadlineShare$Tape" "length" "I", .fieldLink RX7 11 "DeadlineShare$Tape" "bytes" "[B"]
def wq_c_X7_byteAt : List Cond := .code yX7_byteAt cX7_byteAt 2 (some .int) :: (ow_c_X7_byteAt ++ (u_ws RX7 TX7 2 ++ ([] : List Cond)))
theorem tb_c_X7_byteAt : ∀ w ∈ wq_c_X7_byteAt, q_g w := by
  unfold wq_c_X7_byteAt ow_c_X7_byteAt
  exact q_cons tw_191 (q_app (q_cons tw_190 (q_cons tw_189 q_nil)) (q_app tu_X7 q_nil))
set_option maxHeartbeats 4000000 in
set_option maxRecDepth 100000 in
theorem c_X7_byteAt (l : Launch) (dC : Nat → ClassId) (dI : Nat → Nat → Nat) (g : kG) (A : Nat → Prop) (hG : kWf g) (f : Nat → va_E) (h0 : Nat) (p1 : Int32) (i_h0 : ik g 7 h0) : Met l yX7_byteAt wq_c_X7_byteAt ({ frames := 0, cells := 0, slots := 0, locals := 0 } : Room) (va_Pc [.ref h0, .int p1] (fun U => kIn dC dI g A f U)) (va_Qi (fun (r : Int32) (_ : Unit) => True) (fun (_ : Unit) t => Iv dC dI g A f t.heap) A) 0 0 A := by
  refine Met.ofW (cc := cX7_byteAt) (maxL := 2) (ret := (some .int)) (by decide) rfl ?_
  intro p e s m args below meth c s₁ B hml hv
  obtain ⟨rfl, hI, hK, hE⟩ := hv
  have hx := B.exec
  have hb := B.bytes
  have hr := B.returns
  have hts := atoms_spec (ws := wq_c_X7_byteAt) B.pre
  have hown : s.vm.findClass RX7 = some m.cls := findClass_of_methodNamed B.named
  have hlocks := B.notSynchronized
  have hS : va_S A s.heap s.heap [] := va_S.rf
  have hl := lv_entry ([.ref h0, .int p1]) (n := 2) (Nat.le_of_ble_eq_true rfl)
  rw [lg_entry_eq]
  generalize (lg_sl ([.ref h0, .int p1]) ++ List.replicate (2 - (lg_sl ([.ref h0, .int p1])).length) Slot.unset).toArray = ls at hl ⊢
  have hl : lv_has ls 2 [(0, .ref h0), (1, .int p1)] := hl
  refine lv_iload_n hx hb dX7_byteAt_0 rfl (lv_at hl 1 rfl) ?_
  refine lv_if_lt (tgt := 32) hx hb dX7_byteAt_1 (by decide) (fun c_1 => ?_) (fun c_1 => ?_)
  · have c_1 := kc_lt rfl (by decide : Int32.toInt 0 = 0) c_1
    refine lv_iconst (v := (-1)) hx hb dX7_byteAt_32 (by decide) ?_
    exact W.iret (v := (-1)) hx hb hr (fun t ht hW => ⟨⟨(-1), (), rfl, trivial, k_ret ht hI⟩, hS.F ht⟩) hS.2.2 dX7_byteAt_33
  · have c_1 := kn_lt rfl (by decide : Int32.toInt 0 = 0) c_1
    refine lv_iload_n hx hb dX7_byteAt_4 rfl (lv_at hl 1 rfl) ?_
    refine lv_aload_n hx hb dX7_byteAt_5 rfl (lv_at hl 0 rfl) ?_
    obtain ⟨x_3, k_2⟩ := op_7 hI i_h0
    refine k_get (ci := 7) (v := .int x_3) (C := RX7) (T := TX7) (N := 2) hx hb hts (fun _ h0_ => List.mem_cons_of_mem _ (List.mem_append_right _ (List.mem_append_left _ h0_))) hown hK hI i_h0.1 k_2 rfl 1 (by decide) (hts (.fieldLink RX7 15 "DeadlineShare$Tape" "length" "I") (List.mem_cons_of_mem _ (List.mem_append_left _ (List.mem_of_getElem? (i := 0) rfl)))) (fun _ h9 => h9) rfl dX7_byteAt_6 ?_
    refine lv_icmp_ge (tgt := 32) hx hb dX7_byteAt_9 (by decide) (fun c_4 => ?_) (fun c_4 => ?_)
    · have c_4 := kc_le rfl rfl c_4
      refine lv_iconst (v := (-1)) hx hb dX7_byteAt_32 (by decide) ?_
      exact W.iret (v := (-1)) hx hb hr (fun t ht hW => ⟨⟨(-1), (), rfl, trivial, k_ret ht hI⟩, hS.F ht⟩) hS.2.2 dX7_byteAt_33
    · have c_4 := kn_le rfl rfl c_4
      refine lv_iload_n hx hb dX7_byteAt_12 rfl (lv_at hl 1 rfl) ?_
      refine lv_sipush (v := 200) hx hb dX7_byteAt_13 (by decide) ?_
      refine lv_icmp_ge (tgt := 32) hx hb dX7_byteAt_16 (by decide) (fun c_5 => ?_) (fun c_5 => ?_)
      · have c_5 := kc_le (by decide : Int32.toInt 200 = 200) rfl c_5
        refine lv_iconst (v := (-1)) hx hb dX7_byteAt_32 (by decide) ?_
        exact W.iret (v := (-1)) hx hb hr (fun t ht hW => ⟨⟨(-1), (), rfl, trivial, k_ret ht hI⟩, hS.F ht⟩) hS.2.2 dX7_byteAt_33
      · have c_5 := kn_le (by decide : Int32.toInt 200 = 200) rfl c_5
        refine lv_aload_n hx hb dX7_byteAt_19 rfl (lv_at hl 0 rfl) ?_
        refine k_get (ci := 7) (v := .ref (gr g h0 0)) (C := RX7) (T := TX7) (N := 2) hx hb hts (fun _ h0_ => List.mem_cons_of_mem _ (List.mem_append_right _ (List.mem_append_left _ h0_))) hown hK hI i_h0.1 k_2 rfl 0 (by decide) (hts (.fieldLink RX7 11 "DeadlineShare$Tape" "bytes" "[B") (List.mem_cons_of_mem _ (List.mem_append_left _ (List.mem_of_getElem? (i := 1) rfl)))) (fun _ h9 => h9) rfl dX7_byteAt_20 ?_
        have i_7 := kw_7_0 hG i_h0
        refine lv_iload_n hx hb dX7_byteAt_23 rfl (lv_at hl 1 rfl) ?_
        obtain ⟨q_9, k_8⟩ := op_25 hI i_7
        refine k_bald hx hb hK hI i_7.1 2 k_8 rfl (vp_in_iff.mpr (by omega)) dX7_byteAt_24 ?_
        refine lv_topi (fun v_10 ev_10 => ?_)
        refine lv_sipush (v := 255) hx hb dX7_byteAt_25 (by decide) ?_
        refine lv_iand hx hb dX7_byteAt_28 ?_
        refine lv_topi (fun v_11 ev_11 => ?_)
        refine lv_goto (tgt := 33) hx hb dX7_byteAt_29 (by decide) ?_
        exact W.iret (v := v_11) hx hb hr (fun t ht hW => ⟨⟨v_11, (), rfl, trivial, k_ret ht hI⟩, hS.F ht⟩) hS.2.2 dX7_byteAt_33
theorem tu_X3 : ∀ w ∈ u_ws RX3 TX3 2, q_g w := by
  intro w h
  unfold u_ws at h
  obtain ⟨j, hj, rfl⟩ := List.mem_map.mp h
  have hj := List.mem_range.mp hj
  match j, hj with
  | 0, _ => exact ⟨(List.mem_append_right _ (List.mem_of_getElem? (i := 103) (by decide +kernel))), good_of_word (by decide +kernel)⟩
  | 1, _ => exact ⟨(List.mem_append_right _ (List.mem_of_getElem? (i := 105) (by decide +kernel))), good_of_word (by decide +kernel)⟩
  | (j9 + 2), h9 => exact absurd h9 (by omega)
theorem tw_192 : q_g (.initialized RX7) := ⟨(List.mem_append_right _ (List.mem_of_getElem? (i := 3) (by decide +kernel))), good_of_word (by decide +kernel)⟩
theorem tw_193 : q_g (.selects RX7 yX7_byteAt yX7_byteAt) := ⟨(List.mem_append_right _ (List.mem_of_getElem? (i := 411) (by decide +kernel))), good_of_word (by decide +kernel)⟩
theorem tw_194 : q_g (.instanceMethod yX7_byteAt) := ⟨(List.mem_append_right _ (List.mem_of_getElem? (i := 410) (by decide +kernel))), good_of_word (by decide +kernel)⟩
theorem tw_195 : q_g (.methodLink RX3 38 yX7_byteAt) := ⟨(List.mem_append_right _ (List.mem_of_getElem? (i := 635) (by decide +kernel))), good_of_word (by decide +kernel)⟩
theorem tw_196 : q_g (.fieldLink RX3 33 "DeadlineShare$Tape" "length" "I") := ⟨(List.mem_append_right _ (List.mem_of_getElem? (i := 58) (by decide +kernel))), good_of_word (by decide +kernel)⟩
theorem tw_197 : q_g (.fieldLink RX3 21 "DeadlineShare$Reader" "place" "I") := ⟨(List.mem_append_right _ (List.mem_of_getElem? (i := 102) (by decide +kernel))), good_of_word (by decide +kernel)⟩
theorem tw_198 : q_g (.code yX3_skipBlanks cX3_skipBlanks 2 none) := ⟨(List.mem_append_right _ (List.mem_of_getElem? (i := 634) (by decide +kernel))), good_of_word (by decide +kernel)⟩
def ow_c_X3_skipBlanks : List Cond := [.fieldLink RX3 21 "DeadlineShare$Reader" "place" "I", .fieldLink RX3 33 "DeadlineShare$Tape" "length" "I", .methodLink RX3 38 yX7_byteAt, .instanceMethod yX7_byteAt, .selects RX7 yX7_byteAt yX7_byteAt, .initialized RX7]
def wq_c_X3_skipBlanks : List Cond := .code yX3_skipBlanks cX3_skipBlanks 2 none :: (ow_c_X3_skipBlanks ++ (u_ws RX3 TX3 2 ++ (u_ws RX7 TX7 2 ++ (wq_c_X7_byteAt ++ ([] : List Cond)))))
theorem tb_c_X3_skipBlanks : ∀ w ∈ wq_c_X3_skipBlanks, q_g w := by
  unfold wq_c_X3_skipBlanks ow_c_X3_skipBlanks
  exact q_cons tw_198 (q_app (q_cons tw_197 (q_cons tw_196 (q_cons tw_195 (q_cons tw_194 (q_cons tw_193 (q_cons tw_192 q_nil)))))) (q_app tu_X3 (q_app tu_X7 (q_app tb_c_X7_byteAt q_nil))))
set_option maxHeartbeats 4000000 in
set_option maxRecDepth 100000 in
theorem c_X3_skipBlanks (l : Launch) (dC : Nat → ClassId) (dI : Nat → Nat → Nat) (g : kG) (A : Nat → Prop) (hG : kWf g) (f : Nat → va_E) (h0 : Nat) (p1 : Nat) (i_h0 : ik g 3 h0) (i_p1 : ik g 7 p1) : Met l yX3_skipBlanks wq_c_X3_skipBlanks ({ frames := 1, cells := 0, slots := 0, locals := 21 } : Room) (va_Pc [.ref h0, .ref p1] (fun U => kIn dC dI g A f U)) (va_Qv (fun (_ : Unit) => True) (fun (_ : Unit) t => ∃ f1 : Nat → va_E, Iv dC dI g A f1 t.heap ∧ Kp g [3] f f1) A) 0 0 A := by
  refine Met.ofW (cc := cX3_skipBlanks) (maxL := 2) (ret := none) (by decide) rfl ?_
  intro p e s m args below meth c s₁ B hml hv
  obtain ⟨rfl, hI, hK, hE⟩ := hv
  have hx := B.exec
  have hb := B.bytes
  have hr := B.returns
  have hts := atoms_spec (ws := wq_c_X3_skipBlanks) B.pre
  have hown : s.vm.findClass RX3 = some m.cls := findClass_of_methodNamed B.named
  have hlocks := B.notSynchronized
  have hS : va_S A s.heap s.heap [] := va_S.rf
  have hk0 : Kp g [3] f f := Kp.rf
  have hl := lv_entry ([.ref h0, .ref p1]) (n := 2) (Nat.le_of_ble_eq_true rfl)
  rw [lg_entry_eq]
  generalize (lg_sl ([.ref h0, .ref p1]) ++ List.replicate (2 - (lg_sl ([.ref h0, .ref p1])).length) Slot.unset).toArray = ls at hl ⊢
  have hl : lv_has ls 2 [(0, .ref h0), (1, .ref p1)] := hl
  obtain ⟨x_2, k_1⟩ := op_7 hI i_p1
  obtain ⟨x_4, k_3⟩ := op_3 hI i_h0
  have K_0 : ∀ (nn : Nat) (y_6 : Int32) (f_5 : Nat → va_E) (H : Heap) (locs : List Loc) (ls : Array Slot), (x_2.toInt - y_6.toInt).toNat < nn → Iv dC dI g A f_5 H → va_S A s.heap H locs → f_5 h0 = .inr (3, [.ref (gr g h0 0), .int y_6]) → f_5 p1 = .inr (7, [.ref (gr g p1 0), .int x_2]) → Kp g [3] f f_5 → lv_has ls 2 [(0, .ref h0), (1, .ref p1)] → W p l e (headSpec wq_c_X3_skipBlanks ({ frames := 1, cells := 0, slots := 0, locals := 21 } : Room)).room s m ([.ref h0, .ref p1].toArray) below meth c H locs 0 0 (MQ below (va_Qv (fun (_ : Unit) => True) (fun (_ : Unit) t => ∃ f1 : Nat → va_E, Iv dC dI g A f1 t.heap ∧ Kp g [3] f f1) A) ([.ref h0, .ref p1].toArray) s 0 0 A) (F0 m 0 ls []) := by
    intro nn
    induction nn with
    | zero => intro y_6 f_5 H locs ls m_10; exact absurd m_10 (Nat.not_lt_zero _)
    | succ nn ih =>
      intro y_6 f_5 H locs ls m_10 hI hS k_7 k_8 kp_9 hl
      have g_11 := Int32.toInt_lt x_2
      have g_12 := Int32.le_toInt x_2
      have g_13 := Int32.toInt_lt y_6
      have g_14 := Int32.le_toInt y_6
      refine lv_aload_n hx hb dX3_skipBlanks_0 rfl (lv_at hl 0 rfl) ?_
      refine k_get (ci := 3) (v := .int y_6) (C := RX3) (T := TX3) (N := 2) hx hb hts (fun _ h0_ => List.mem_cons_of_mem _ (List.mem_append_right _ (List.mem_append_left _ h0_))) hown hK hI i_h0.1 k_7 rfl 1 (by decide) (hts (.fieldLink RX3 21 "DeadlineShare$Reader" "place" "I") (List.mem_cons_of_mem _ (List.mem_append_left _ (List.mem_of_getElem? (i := 0) rfl)))) (fun _ h9 => h9) rfl dX3_skipBlanks_1 ?_
      refine lv_aload_n hx hb dX3_skipBlanks_4 rfl (lv_at hl 1 rfl) ?_
      refine k_get (ci := 7) (v := .int x_2) (C := RX7) (T := TX7) (N := 2) hx hb hts (fun _ h0_ => List.mem_cons_of_mem _ (List.mem_append_right _ (List.mem_append_right _ (List.mem_append_left _ h0_)))) hown hK hI i_p1.1 k_8 rfl 1 (by decide) (hts (.fieldLink RX3 33 "DeadlineShare$Tape" "length" "I") (List.mem_cons_of_mem _ (List.mem_append_left _ (List.mem_of_getElem? (i := 1) rfl)))) (fun _ h9 => h9) rfl dX3_skipBlanks_5 ?_
      refine lv_icmp_ge (tgt := 37) hx hb dX3_skipBlanks_8 (by decide) (fun c_15 => ?_) (fun c_15 => ?_)
      · have c_15 := kc_le rfl rfl c_15
        exact W.vret hx hb hr (fun t ht hW => ⟨⟨(), rfl, trivial, ⟨f_5, k_ret ht hI, kp_9⟩⟩, hS.F ht⟩) hS.2.2 dX3_skipBlanks_37
      · have c_15 := kn_le rfl rfl c_15
        refine lv_aload_n hx hb dX3_skipBlanks_11 rfl (lv_at hl 1 rfl) ?_
        refine lv_aload_n hx hb dX3_skipBlanks_12 rfl (lv_at hl 0 rfl) ?_
        refine k_get (ci := 3) (v := .int y_6) (C := RX3) (T := TX3) (N := 2) hx hb hts (fun _ h0_ => List.mem_cons_of_mem _ (List.mem_append_right _ (List.mem_append_left _ h0_))) hown hK hI i_h0.1 k_7 rfl 1 (by decide) (hts (.fieldLink RX3 21 "DeadlineShare$Reader" "place" "I") (List.mem_cons_of_mem _ (List.mem_append_left _ (List.mem_of_getElem? (i := 0) rfl)))) (fun _ h9 => h9) rfl dX3_skipBlanks_13 ?_
        refine va_calli (va_runV (As := [.int y_6]) (rest := []) ⟨hx, hb, hml, hown, hts⟩ (c_X7_byteAt l dC dI g A hG f_5 p1 y_6 i_p1) (cwV 1 hts (gi_V (fun w_ h0_ => ⟨List.mem_cons_of_mem _ (List.mem_append_right _ (List.mem_append_right _ (List.mem_append_right _ (List.mem_append_left _ h0_)))), (tb_c_X7_byteAt w_ h0_).2⟩) (List.mem_cons_of_mem _ (List.mem_append_left _ (List.mem_of_getElem? (i := 2) rfl))) (List.mem_cons_of_mem _ (List.mem_append_left _ (List.mem_of_getElem? (i := 3) rfl))) (List.mem_cons_of_mem _ (List.mem_append_left _ (List.mem_of_getElem? (i := 4) rfl))) (List.mem_cons_of_mem _ (List.mem_append_left _ (List.mem_of_getElem? (i := 5) rfl)))) rfl rfl rfl (by decide +kernel) ⟨Nat.le_of_ble_eq_true rfl, Nat.le_of_ble_eq_true rfl⟩) ⟨fun a U g mk q => ⟨q.1, q.2.calling rfl rfl⟩, k_recv hK hI i_p1.1 k_8 (ci := 7) rfl, fun U hU hW => ⟨rfl, kIn.of hI hK hE hS hU hW⟩⟩ rfl rfl hl.1 rfl (lv_room (Nat.le_of_ble_eq_true rfl)) dX3_skipBlanks_16 ⟨Nat.le_of_ble_eq_true rfl, Nat.le_of_ble_eq_true rfl⟩) hS (fun q _ h => h) (fun q h => h) (fun r_17 u t H1 locs ht hvm w_16 hB hz1 hk1 hS => ?_)
        have hI : Iv dC dI g A f_5 t.heap := hB
        rw [ht] at hI
        generalize H1 = H at hI hS ⊢
        refine W.widen (k := 0) (n := 0) (Nat.le_of_ble_eq_true rfl) (Nat.le_of_ble_eq_true rfl) ?_
        refine lv_bipush (v := 32) hx hb dX3_skipBlanks_19 (by decide) ?_
        refine lv_icmp_ne (tgt := 37) hx hb dX3_skipBlanks_21 (by decide) (fun c_18 => ?_) (fun c_18 => ?_)
        · have c_18 := kn_eq rfl (by decide : Int32.toInt 32 = 32) c_18
          exact W.vret hx hb hr (fun t ht hW => ⟨⟨(), rfl, trivial, ⟨f_5, k_ret ht hI, kp_9⟩⟩, hS.F ht⟩) hS.2.2 dX3_skipBlanks_37
        · have c_18 := kc_eq rfl (by decide : Int32.toInt 32 = 32) c_18
          refine lv_aload_n hx hb dX3_skipBlanks_24 rfl (lv_at hl 0 rfl) ?_
          refine lv_dup hx hb dX3_skipBlanks_25 rfl ?_
          refine k_get (ci := 3) (v := .int y_6) (C := RX3) (T := TX3) (N := 2) hx hb hts (fun _ h0_ => List.mem_cons_of_mem _ (List.mem_append_right _ (List.mem_append_left _ h0_))) hown hK hI i_h0.1 k_7 rfl 1 (by decide) (hts (.fieldLink RX3 21 "DeadlineShare$Reader" "place" "I") (List.mem_cons_of_mem _ (List.mem_append_left _ (List.mem_of_getElem? (i := 0) rfl)))) (fun _ h9 => h9) rfl dX3_skipBlanks_26 ?_
          refine lv_iconst (v := 1) hx hb dX3_skipBlanks_29 (by decide) ?_
          refine lv_iadd hx hb dX3_skipBlanks_30 ?_
          refine lv_topi (fun v_19 ev_19 => ?_)
          have tv_19 := k_ad y_6 1
          rw [← ev_19, show Int32.toInt 1 = 1 from by decide] at tv_19
          refine k_put (ci := 3) (v := .int v_19) (ty := .int) (C := RX3) (T := TX3) (N := 2) hx hb hts (fun _ h0_ => List.mem_cons_of_mem _ (List.mem_append_right _ (List.mem_append_left _ h0_))) tyX3 tyX3_ok nmX3 hown hK hI hS i_h0.1 k_7 rfl 1 (by decide) (hts (.fieldLink RX3 21 "DeadlineShare$Reader" "place" "I") (List.mem_cons_of_mem _ (List.mem_append_left _ (List.mem_of_getElem? (i := 0) rfl)))) (fun _ h9 => h9) rfl (by decide +kernel) rfl rfl (Nat.le_of_ble_eq_true rfl) rfl (cl_3 i_h0) dX3_skipBlanks_31 (fun f_20 H locs e_21 hI hS => ?_)
          have k_23 : f_20 h0 = .inr (3, [.ref (gr g h0 0), .int v_19]) := by rw [e_21]; exact va_up_self _ _ _
          have k_24 : f_20 p1 = .inr (7, [.ref (gr g p1 0), .int x_2]) := by rw [e_21, va_up_ne _ _ (ik_ne i_p1 i_h0 (by decide))]; exact k_8
          have kp_22 := Kp.put kp_9 i_h0 (by decide) e_21
          refine lv_goto (tgt := 0) hx hb dX3_skipBlanks_34 (by decide) ?_
          exact ih v_19 f_20 _ _ _ (by omega) hI hS k_23 k_24 kp_22 (lv_sub hl [0, 1] rfl)
  exact K_0 _ x_4 f _ _ _ (Nat.lt_succ_self _) hI hS k_3 k_1 hk0 (lv_sub hl [0, 1] rfl)
theorem tw_199 : q_g (.code yX3_endOfRow cX3_endOfRow 5 (some .int)) := ⟨(List.mem_append_right _ (List.mem_of_getElem? (i := 639) (by decide +kernel))), good_of_word (by decide +kernel)⟩
def ow_c_X3_endOfRow : List Cond := [.fieldLink RX3 21 "DeadlineShare$Reader" "place" "I", .fieldLink RX3 33 "DeadlineShare$Tape" "length" "I", .methodLink RX3 38 yX7_byteAt, .instanceMethod yX7_byteAt, .selects RX7 yX7_byteAt yX7_byteAt, .initialized RX7]
def wq_c_X3_endOfRow : List Cond := .code yX3_endOfRow cX3_endOfRow 5 (some .int) :: (ow_c_X3_endOfRow ++ (u_ws RX3 TX3 2 ++ (u_ws RX7 TX7 2 ++ (wq_c_X7_byteAt ++ ([] : List Cond)))))
theorem tb_c_X3_endOfRow : ∀ w ∈ wq_c_X3_endOfRow, q_g w := by
  unfold wq_c_X3_endOfRow ow_c_X3_endOfRow
  exact q_cons tw_199 (q_app (q_cons tw_197 (q_cons tw_196 (q_cons tw_195 (q_cons tw_194 (q_cons tw_193 (q_cons tw_192 q_nil)))))) (q_app tu_X3 (q_app tu_X7 (q_app tb_c_X7_byteAt q_nil))))
set_option maxHeartbeats 4000000 in
set_option maxRecDepth 100000 in
theorem c_X3_endOfRow (l : Launch) (dC : Nat → ClassId) (dI : Nat → Nat → Nat) (g : kG) (A : Nat → Prop) (hG : kWf g) (f : Nat → va_E) (h0 : Nat) (p1 : Nat) (p2 : Int32) (p3 : Int32) (i_h0 : ik g 3 h0) (i_p1 : ik g 7 p1) : Met l yX3_endOfRow wq_c_X3_endOfRow ({ frames := 1, cells := 0, slots := 0, locals := 21 } : Room) (va_Pc [.ref h0, .ref p1, .int p2, .int p3] (fun U => kIn dC dI g A f U)) (va_Qi (fun (r : Int32) (_ : Unit) => True) (fun (_ : Unit) t => Iv dC dI g A f t.heap) A) 0 0 A := by
  refine Met.ofW (cc := cX3_endOfRow) (maxL := 5) (ret := (some .int)) (by decide) rfl ?_
  intro p e s m args below meth c s₁ B hml hv
  obtain ⟨rfl, hI, hK, hE⟩ := hv
  have hx := B.exec
  have hb := B.bytes
  have hr := B.returns
  have hts := atoms_spec (ws := wq_c_X3_endOfRow) B.pre
  have hown : s.vm.findClass RX3 = some m.cls := findClass_of_methodNamed B.named
  have hlocks := B.notSynchronized
  have hS : va_S A s.heap s.heap [] := va_S.rf
  have hl := lv_entry ([.ref h0, .ref p1, .int p2, .int p3]) (n := 5) (Nat.le_of_ble_eq_true rfl)
  rw [lg_entry_eq]
  generalize (lg_sl ([.ref h0, .ref p1, .int p2, .int p3]) ++ List.replicate (5 - (lg_sl ([.ref h0, .ref p1, .int p2, .int p3])).length) Slot.unset).toArray = ls at hl ⊢
  have hl : lv_has ls 5 [(0, .ref h0), (1, .ref p1), (2, .int p2), (3, .int p3)] := hl
  refine lv_aload_n hx hb dX3_endOfRow_0 rfl (lv_at hl 0 rfl) ?_
  obtain ⟨x_2, k_1⟩ := op_3 hI i_h0
  refine k_get (ci := 3) (v := .int x_2) (C := RX3) (T := TX3) (N := 2) hx hb hts (fun _ h0_ => List.mem_cons_of_mem _ (List.mem_append_right _ (List.mem_append_left _ h0_))) hown hK hI i_h0.1 k_1 rfl 1 (by decide) (hts (.fieldLink RX3 21 "DeadlineShare$Reader" "place" "I") (List.mem_cons_of_mem _ (List.mem_append_left _ (List.mem_of_getElem? (i := 0) rfl)))) (fun _ h9 => h9) rfl dX3_endOfRow_1 ?_
  refine lv_istore (lv' := [(4, .int x_2), (0, .ref h0), (1, .ref p1), (2, .int p2), (3, .int p3)]) hx hb dX3_endOfRow_4 hl (by decide) rfl (fun ls hl => ?_)
  obtain ⟨x_4, k_3⟩ := op_7 hI i_p1
  have K_6 : ∀ (nn : Nat) (y_5 : Int32) (H : Heap) (locs : List Loc) (ls : Array Slot), (x_4.toInt - y_5.toInt).toNat < nn → Iv dC dI g A f H → va_S A s.heap H locs → lv_has ls 5 [(4, .int y_5), (0, .ref h0), (1, .ref p1), (2, .int p2), (3, .int p3)] → W p l e (headSpec wq_c_X3_endOfRow ({ frames := 1, cells := 0, slots := 0, locals := 21 } : Room)).room s m ([.ref h0, .ref p1, .int p2, .int p3].toArray) below meth c H locs 0 0 (MQ below (va_Qi (fun (r : Int32) (_ : Unit) => True) (fun (_ : Unit) t => Iv dC dI g A f t.heap) A) ([.ref h0, .ref p1, .int p2, .int p3].toArray) s 0 0 A) (F0 m 6 ls []) := by
    intro nn
    induction nn with
    | zero => intro y_5 H locs ls m_6; exact absurd m_6 (Nat.not_lt_zero _)
    | succ nn ih =>
      intro y_5 H locs ls m_6 hI hS  hl
      have g_7 := Int32.toInt_lt x_4
      have g_8 := Int32.le_toInt x_4
      have g_9 := Int32.toInt_lt y_5
      have g_10 := Int32.le_toInt y_5
      refine lv_iload hx hb dX3_endOfRow_6 (lv_at hl 0 rfl) ?_
      refine lv_aload_n hx hb dX3_endOfRow_8 rfl (lv_at hl 2 rfl) ?_
      refine k_get (ci := 7) (v := .int x_4) (C := RX7) (T := TX7) (N := 2) hx hb hts (fun _ h0_ => List.mem_cons_of_mem _ (List.mem_append_right _ (List.mem_append_right _ (List.mem_append_left _ h0_)))) hown hK hI i_p1.1 k_3 rfl 1 (by decide) (hts (.fieldLink RX3 33 "DeadlineShare$Tape" "length" "I") (List.mem_cons_of_mem _ (List.mem_append_left _ (List.mem_of_getElem? (i := 1) rfl)))) (fun _ h9 => h9) rfl dX3_endOfRow_9 ?_
      refine lv_icmp_ge (tgt := 41) hx hb dX3_endOfRow_12 (by decide) (fun c_11 => ?_) (fun c_11 => ?_)
      · have c_11 := kc_le rfl rfl c_11
        refine lv_iload hx hb dX3_endOfRow_41 (lv_at hl 0 rfl) ?_
        exact W.iret (v := y_5) hx hb hr (fun t ht hW => ⟨⟨y_5, (), rfl, trivial, k_ret ht hI⟩, hS.F ht⟩) hS.2.2 dX3_endOfRow_43
      · have c_11 := kn_le rfl rfl c_11
        refine lv_aload_n hx hb dX3_endOfRow_15 rfl (lv_at hl 2 rfl) ?_
        refine lv_iload hx hb dX3_endOfRow_16 (lv_at hl 0 rfl) ?_
        refine va_calli (va_runV (As := [.int y_5]) (rest := []) ⟨hx, hb, hml, hown, hts⟩ (c_X7_byteAt l dC dI g A hG f p1 y_5 i_p1) (cwV 1 hts (gi_V (fun w_ h0_ => ⟨List.mem_cons_of_mem _ (List.mem_append_right _ (List.mem_append_right _ (List.mem_append_right _ (List.mem_append_left _ h0_)))), (tb_c_X7_byteAt w_ h0_).2⟩) (List.mem_cons_of_mem _ (List.mem_append_left _ (List.mem_of_getElem? (i := 2) rfl))) (List.mem_cons_of_mem _ (List.mem_append_left _ (List.mem_of_getElem? (i := 3) rfl))) (List.mem_cons_of_mem _ (List.mem_append_left _ (List.mem_of_getElem? (i := 4) rfl))) (List.mem_cons_of_mem _ (List.mem_append_left _ (List.mem_of_getElem? (i := 5) rfl)))) rfl rfl rfl (by decide +kernel) ⟨Nat.le_of_ble_eq_true rfl, Nat.le_of_ble_eq_true rfl⟩) ⟨fun a U g mk q => ⟨q.1, q.2.calling rfl rfl⟩, k_recv hK hI i_p1.1 k_3 (ci := 7) rfl, fun U hU hW => ⟨rfl, kIn.of hI hK hE hS hU hW⟩⟩ rfl rfl hl.1 rfl (lv_room (Nat.le_of_ble_eq_true rfl)) dX3_endOfRow_18 ⟨Nat.le_of_ble_eq_true rfl, Nat.le_of_ble_eq_true rfl⟩) hS (fun q _ h => h) (fun q h => h) (fun r_13 u t H1 locs ht hvm w_12 hB hz1 hk1 hS => ?_)
        have hI : Iv dC dI g A f t.heap := hB
        rw [ht] at hI
        generalize H1 = H at hI hS ⊢
        refine W.widen (k := 0) (n := 0) (Nat.le_of_ble_eq_true rfl) (Nat.le_of_ble_eq_true rfl) ?_
        refine lv_iload_n hx hb dX3_endOfRow_21 rfl (lv_at hl 3 rfl) ?_
        refine lv_icmp_lt (tgt := 41) hx hb dX3_endOfRow_22 (by decide) (fun c_14 => ?_) (fun c_14 => ?_)
        · have c_14 := kc_lt rfl rfl c_14
          refine lv_iload hx hb dX3_endOfRow_41 (lv_at hl 0 rfl) ?_
          exact W.iret (v := y_5) hx hb hr (fun t ht hW => ⟨⟨y_5, (), rfl, trivial, k_ret ht hI⟩, hS.F ht⟩) hS.2.2 dX3_endOfRow_43
        · have c_14 := kn_lt rfl rfl c_14
          refine lv_aload_n hx hb dX3_endOfRow_25 rfl (lv_at hl 2 rfl) ?_
          refine lv_iload hx hb dX3_endOfRow_26 (lv_at hl 0 rfl) ?_
          refine va_calli (va_runV (As := [.int y_5]) (rest := []) ⟨hx, hb, hml, hown, hts⟩ (c_X7_byteAt l dC dI g A hG f p1 y_5 i_p1) (cwV 1 hts (gi_V (fun w_ h0_ => ⟨List.mem_cons_of_mem _ (List.mem_append_right _ (List.mem_append_right _ (List.mem_append_right _ (List.mem_append_left _ h0_)))), (tb_c_X7_byteAt w_ h0_).2⟩) (List.mem_cons_of_mem _ (List.mem_append_left _ (List.mem_of_getElem? (i := 2) rfl))) (List.mem_cons_of_mem _ (List.mem_append_left _ (List.mem_of_getElem? (i := 3) rfl))) (List.mem_cons_of_mem _ (List.mem_append_left _ (List.mem_of_getElem? (i := 4) rfl))) (List.mem_cons_of_mem _ (List.mem_append_left _ (List.mem_of_getElem? (i := 5) rfl)))) rfl rfl rfl (by decide +kernel) ⟨Nat.le_of_ble_eq_true rfl, Nat.le_of_ble_eq_true rfl⟩) ⟨fun a U g mk q => ⟨q.1, q.2.calling rfl rfl⟩, k_recv hK hI i_p1.1 k_3 (ci := 7) rfl, fun U hU hW => ⟨rfl, kIn.of hI hK hE hS hU hW⟩⟩ rfl rfl hl.1 rfl (lv_room (Nat.le_of_ble_eq_true rfl)) dX3_endOfRow_28 ⟨Nat.le_of_ble_eq_true rfl, Nat.le_of_ble_eq_true rfl⟩) hS (fun q _ h => h) (fun q h => h) (fun r_16 u t H1 locs ht hvm w_15 hB hz1 hk1 hS => ?_)
          have hI : Iv dC dI g A f t.heap := hB
          rw [ht] at hI
          generalize H1 = H at hI hS ⊢
          refine W.widen (k := 0) (n := 0) (Nat.le_of_ble_eq_true rfl) (Nat.le_of_ble_eq_true rfl) ?_
          refine lv_iload_n hx hb dX3_endOfRow_31 rfl (lv_at hl 4 rfl) ?_
          refine lv_icmp_gt (tgt := 41) hx hb dX3_endOfRow_32 (by decide) (fun c_17 => ?_) (fun c_17 => ?_)
          · have c_17 := kc_lt rfl rfl c_17
            refine lv_iload hx hb dX3_endOfRow_41 (lv_at hl 0 rfl) ?_
            exact W.iret (v := y_5) hx hb hr (fun t ht hW => ⟨⟨y_5, (), rfl, trivial, k_ret ht hI⟩, hS.F ht⟩) hS.2.2 dX3_endOfRow_43
          · have c_17 := kn_lt rfl rfl c_17
            obtain ⟨v_18, ev_18⟩ : ∃ y : Int32, y = y_5 + Int32.ofInt 1 := ⟨_, rfl⟩
            refine lv_iinc (v := v_18) (lv' := [(4, .int v_18), (0, .ref h0), (1, .ref p1), (2, .int p2), (3, .int p3)]) hx hb dX3_endOfRow_35 hl (k := 0) rfl ev_18.symm (by decide) rfl (fun ls hl => ?_)
            have tv_18 := k_inc y_5
            rw [← ev_18] at tv_18
            refine lv_goto (tgt := 6) hx hb dX3_endOfRow_38 (by decide) ?_
            exact ih v_18 _ _ _ (by omega) hI hS  (lv_sub hl [0, 1, 2, 3, 4] rfl)
  exact K_6 _ x_2 _ _ _ (Nat.lt_succ_self _) hI hS  (lv_sub hl [0, 1, 2, 3, 4] rfl)
theorem tw_200 : q_g (.code yX5_wordOf cX5_wordOf 1 (some (.object "java/lang/String"))) := ⟨(List.mem_append_right _ (List.mem_of_getElem? (i := 646) (by decide +kernel))), good_of_word (by decide +kernel)⟩
def ow_c_X5_wordOf : List Cond := []
def wq_c_X5_wordOf : List Cond := .code yX5_wordOf cX5_wordOf 1 (some (.object "java/lang/String")) :: (ow_c_X5_wordOf ++ ([] : List Cond))
theorem tb_c_X5_wordOf : ∀ w ∈ wq_c_X5_wordOf, q_g w := by
  unfold wq_c_X5_wordOf ow_c_X5_wordOf
  exact q_cons tw_200 (q_app q_nil q_nil)
set_option maxHeartbeats 4000000 in
set_option maxRecDepth 100000 in
theorem c_X5_wordOf (l : Launch) (dC : Nat → ClassId) (dI : Nat → Nat → Nat) (g : kG) (A : Nat → Prop) (hG : kWf g) (f : Nat → va_E) (p1 : Int32) : Met l yX5_wordOf wq_c_X5_wordOf ({ frames := 0, cells := 0, slots := 0, locals := 0 } : Room) (va_Pc [.int p1] (fun U => kIn dC dI g A f U)) (va_Qr (fun (_ : Unit) => True) (fun (_ : Unit) r t => (∃ i : Nat, i < 5 ∧ r = gK g i) ∧ Iv dC dI g A f t.heap) A) 0 0 A := by
  refine Met.ofW (cc := cX5_wordOf) (maxL := 1) (ret := (some (.object "java/lang/String"))) (by decide) rfl ?_
  intro p e s m args below meth c s₁ B hml hv
  obtain ⟨rfl, hI, hK, hE⟩ := hv
  have hx := B.exec
  have hb := B.bytes
  have hr := B.returns
  have hts := atoms_spec (ws := wq_c_X5_wordOf) B.pre
  have hown : s.vm.findClass RX5 = some m.cls := findClass_of_methodNamed B.named
  have hlocks := B.notSynchronized
  have hS : va_S A s.heap s.heap [] := va_S.rf
  have hl := lv_entry ([.int p1]) (n := 1) (Nat.le_of_ble_eq_true rfl)
  rw [lg_entry_eq]
  generalize (lg_sl ([.int p1]) ++ List.replicate (1 - (lg_sl ([.int p1])).length) Slot.unset).toArray = ls at hl ⊢
  have hl : lv_has ls 1 [(0, .int p1)] := hl
  refine lv_iload_n hx hb dX5_wordOf_0 rfl (lv_at hl 0 rfl) ?_
  by_cases h_1 : p1 = 0
  · refine k_topi (y := 0) h_1 ?_
    refine lv_tableIn (tgt := 32) hx hb dX5_wordOf_1 (by decide) (by decide) rfl (by decide) ?_
    have h_1 := kc_eq rfl (by decide : Int32.toInt 0 = 0) h_1
    refine va_ldcS hx hb hown hE.2.2.2.2.2.2.2.1 dX5_wordOf_32 ?_
    exact W.aret hx hb hr (Or.inl ⟨_, rfl⟩) (Or.inr ⟨_, rfl⟩) (fun t ht hW => ⟨⟨(), (gK g 0), rfl, trivial, ⟨0, (by decide : 0 < 5), rfl⟩, k_ret ht hI⟩, hS.F ht⟩) hS.2.2 dX5_wordOf_34
  by_cases h_2 : p1 = 1
  · refine k_topi (y := 1) h_2 ?_
    refine lv_tableIn (tgt := 35) hx hb dX5_wordOf_1 (by decide) (by decide) rfl (by decide) ?_
    have h_2 := kc_eq rfl (by decide : Int32.toInt 1 = 1) h_2
    refine va_ldcS hx hb hown hE.2.2.2.2.2.2.2.2.1 dX5_wordOf_35 ?_
    exact W.aret hx hb hr (Or.inl ⟨_, rfl⟩) (Or.inr ⟨_, rfl⟩) (fun t ht hW => ⟨⟨(), (gK g 1), rfl, trivial, ⟨1, (by decide : 1 < 5), rfl⟩, k_ret ht hI⟩, hS.F ht⟩) hS.2.2 dX5_wordOf_37
  by_cases h_3 : p1 = 2
  · refine k_topi (y := 2) h_3 ?_
    refine lv_tableIn (tgt := 38) hx hb dX5_wordOf_1 (by decide) (by decide) rfl (by decide) ?_
    have h_3 := kc_eq rfl (by decide : Int32.toInt 2 = 2) h_3
    refine va_ldcS hx hb hown hE.2.2.2.2.2.2.2.2.2.1 dX5_wordOf_38 ?_
    exact W.aret hx hb hr (Or.inl ⟨_, rfl⟩) (Or.inr ⟨_, rfl⟩) (fun t ht hW => ⟨⟨(), (gK g 2), rfl, trivial, ⟨2, (by decide : 2 < 5), rfl⟩, k_ret ht hI⟩, hS.F ht⟩) hS.2.2 dX5_wordOf_40
  by_cases h_4 : p1 = 3
  · refine k_topi (y := 3) h_4 ?_
    refine lv_tableIn (tgt := 41) hx hb dX5_wordOf_1 (by decide) (by decide) rfl (by decide) ?_
    have h_4 := kc_eq rfl (by decide : Int32.toInt 3 = 3) h_4
    refine va_ldcS hx hb hown hE.2.2.2.2.2.2.2.2.2.2.1 dX5_wordOf_41 ?_
    exact W.aret hx hb hr (Or.inl ⟨_, rfl⟩) (Or.inr ⟨_, rfl⟩) (fun t ht hW => ⟨⟨(), (gK g 3), rfl, trivial, ⟨3, (by decide : 3 < 5), rfl⟩, k_ret ht hI⟩, hS.F ht⟩) hS.2.2 dX5_wordOf_43
  have h_1 := kn_eq rfl (by decide : Int32.toInt 0 = 0) h_1
  have h_2 := kn_eq rfl (by decide : Int32.toInt 1 = 1) h_2
  have h_3 := kn_eq rfl (by decide : Int32.toInt 2 = 2) h_3
  have h_4 := kn_eq rfl (by decide : Int32.toInt 3 = 3) h_4
  refine lv_tableOut (tgt := 44) hx hb dX5_wordOf_1 (by omega) (by decide) ?_
  refine va_ldcS hx hb hown hE.2.2.2.2.2.2.2.2.2.2.2 dX5_wordOf_44 ?_
  exact W.aret hx hb hr (Or.inl ⟨_, rfl⟩) (Or.inr ⟨_, rfl⟩) (fun t ht hW => ⟨⟨(), (gK g 4), rfl, trivial, ⟨4, (by decide : 4 < 5), rfl⟩, k_ret ht hI⟩, hS.F ht⟩) hS.2.2 dX5_wordOf_46
theorem tw_201 : q_g (.fieldLink RJ0 15 "java/lang/String" "coder" "B") := ⟨(List.mem_append_right _ (List.mem_of_getElem? (i := 1556) (by decide +kernel))), good_of_word (by decide +kernel)⟩
theorem tw_202 : q_g (.fieldLink RJ0 38 "java/lang/String" "COMPACT_STRINGS" "Z") := ⟨(List.mem_append_right _ (List.mem_of_getElem? (i := 664) (by decide +kernel))), good_of_word (by decide +kernel)⟩
theorem tw_203 : q_g (.code yJ0_coder_7d493 cJ0_coder_7d493 1 (some .byte)) := ⟨(List.mem_append_right _ (List.mem_of_getElem? (i := 663) (by decide +kernel))), good_of_word (by decide +kernel)⟩
def ow_c_J0_coder_7d493 : List Cond := [.fieldLink RJ0 38 "java/lang/String" "COMPACT_STRINGS" "Z", .fieldLink RJ0 15 "java/lang/String" "coder" "B"]
def wq_c_J0_coder_7d493 : List Cond := .code yJ0_coder_7d493 cJ0_coder_7d493 1 (some .byte) :: (ow_c_J0_coder_7d493 ++ ([] : List Cond))
theorem tb_c_J0_coder_7d493 : ∀ w ∈ wq_c_J0_coder_7d493, q_g w := by
  unfold wq_c_J0_coder_7d493 ow_c_J0_coder_7d493
  exact q_cons tw_203 (q_app (q_cons tw_202 (q_cons tw_201 q_nil)) q_nil)
set_option maxHeartbeats 4000000 in
set_option maxRecDepth 100000 in
theorem c_J0_coder_7d493 (l : Launch) (dC : Nat → ClassId) (dI : Nat → Nat → Nat) (g : kG) (A : Nat → Prop) (hG : kWf g) (f : Nat → va_E) (s_h0 : Nat) (i_h0 : s_h0 < 5) : Met l yJ0_coder_7d493 wq_c_J0_coder_7d493 ({ frames := 0, cells := 0, slots := 0, locals := 0 } : Room) (va_Pc [.ref (gK g s_h0)] (fun U => kIn dC dI g A f U)) (va_Qi (fun (r : Int32) (_ : Unit) => r = 0) (fun (_ : Unit) t => Iv dC dI g A f t.heap) A) 0 0 A := by
  refine va_MetF (cc := cJ0_coder_7d493) (maxL := 1) (ret := (some .byte)) (by decide +kernel) rfl ?_
  intro p e s m args below meth c s₁ B hml hv
  obtain ⟨rfl, hI, hK, hE⟩ := hv
  have hx := B.exec
  have hb := B.bytes
  have hr := B.returns
  have hts := atoms_spec (ws := wq_c_J0_coder_7d493) B.pre
  have hown : s.vm.findClass RJ0 = some m.cls := findClass_of_methodNamed B.named
  have hlocks := B.notSynchronized
  have hS : va_S A s.heap s.heap [] := va_S.rf
  have hl := lv_entry ([.ref (gK g s_h0)]) (n := 1) (Nat.le_of_ble_eq_true rfl)
  rw [lg_entry_eq]
  generalize (lg_sl ([.ref (gK g s_h0)]) ++ List.replicate (1 - (lg_sl ([.ref (gK g s_h0)])).length) Slot.unset).toArray = ls at hl ⊢
  have hl : lv_has ls 1 [(0, .ref (gK g s_h0))] := hl
  refine va_gets hx hb hE.2.2.2.1 hS hown (hts (.fieldLink RJ0 38 "java/lang/String" "COMPACT_STRINGS" "Z") (List.mem_cons_of_mem _ (List.mem_append_left _ (List.mem_of_getElem? (i := 0) rfl)))) (fun _ h9 => h9) dJ0_coder_7d493_0 ?_
  refine lv_if_eq (tgt := 13) hx hb dJ0_coder_7d493_3 (by decide) (fun c => absurd c (by decide)) (fun _ => ?_)
  refine lv_aload_n hx hb dJ0_coder_7d493_6 rfl (lv_at hl 0 rfl) ?_
  refine vk_getf hx hb (hE.2.2.2.2.2.2.1.1 s_h0 i_h0).2.1 hS hown (hts (.fieldLink RJ0 15 "java/lang/String" "coder" "B") (List.mem_cons_of_mem _ (List.mem_append_left _ (List.mem_of_getElem? (i := 1) rfl)))) (fun _ h9 => h9) dJ0_coder_7d493_7 ?_
  refine lv_goto (tgt := 14) hx hb dJ0_coder_7d493_10 (by decide) ?_
  have w_1 : (0 : Int32) = 0 := rfl
  exact W.zret (v := 0) hx hb hr rfl (fun t ht hW => ⟨⟨0, (), rfl, w_1, k_ret ht hI⟩, hS.F ht⟩) hS.2.2 dJ0_coder_7d493_14
theorem tw_204 : q_g (.initialized RJ0) := ⟨(List.mem_append_right _ (List.mem_of_getElem? (i := 16) (by decide +kernel))), good_of_word (by decide +kernel)⟩
theorem tw_205 : q_g (.selects RJ0 yJ0_coder_7d493 yJ0_coder_7d493) := ⟨(List.mem_append_right _ (List.mem_of_getElem? (i := 662) (by decide +kernel))), good_of_word (by decide +kernel)⟩
theorem tw_206 : q_g (.instanceMethod yJ0_coder_7d493) := ⟨(List.mem_append_right _ (List.mem_of_getElem? (i := 661) (by decide +kernel))), good_of_word (by decide +kernel)⟩
theorem tw_207 : q_g (.methodLink RJ0 335 yJ0_coder_7d493) := ⟨(List.mem_append_right _ (List.mem_of_getElem? (i := 660) (by decide +kernel))), good_of_word (by decide +kernel)⟩
theorem tw_208 : q_g (.fieldLink RJ0 9 "java/lang/String" "value" "[B") := ⟨(List.mem_append_right _ (List.mem_of_getElem? (i := 1555) (by decide +kernel))), good_of_word (by decide +kernel)⟩
theorem tw_209 : q_g (.code yJ0_length_8abf5 cJ0_length_8abf5 1 (some .int)) := ⟨(List.mem_append_right _ (List.mem_of_getElem? (i := 659) (by decide +kernel))), good_of_word (by decide +kernel)⟩
def ow_c_J0_length_8abf5 : List Cond := [.fieldLink RJ0 9 "java/lang/String" "value" "[B", .methodLink RJ0 335 yJ0_coder_7d493, .instanceMethod yJ0_coder_7d493, .selects RJ0 yJ0_coder_7d493 yJ0_coder_7d493, .initialized RJ0]
def wq_c_J0_length_8abf5 : List Cond := .code yJ0_length_8abf5 cJ0_length_8abf5 1 (some .int) :: (ow_c_J0_length_8abf5 ++ (wq_c_J0_coder_7d493 ++ ([] : List Cond)))
theorem tb_c_J0_length_8abf5 : ∀ w ∈ wq_c_J0_length_8abf5, q_g w := by
  unfold wq_c_J0_length_8abf5 ow_c_J0_length_8abf5
  exact q_cons tw_209 (q_app (q_cons tw_208 (q_cons tw_207 (q_cons tw_206 (q_cons tw_205 (q_cons tw_204 q_nil))))) (q_app tb_c_J0_coder_7d493 q_nil))
set_option maxHeartbeats 4000000 in
set_option maxRecDepth 100000 in
theorem c_J0_length_8abf5 (l : Launch) (dC : Nat → ClassId) (dI : Nat → Nat → Nat) (g : kG) (A : Nat → Prop) (hG : kWf g) (f : Nat → va_E) (s_h0 : Nat) (i_h0 : s_h0 < 5) : Met l yJ0_length_8abf5 wq_c_J0_length_8abf5 ({ frames := 1, cells := 0, slots := 0, locals := 20 } : Room) (va_Pc [.ref (gK g s_h0)] (fun U => kIn dC dI g A f U)) (va_Qi (fun (r : Int32) (_ : Unit) => r.toInt = (kl s_h0 : Int)) (fun (_ : Unit) t => Iv dC dI g A f t.heap) A) 0 0 A := by
  refine va_MetF (cc := cJ0_length_8abf5) (maxL := 1) (ret := (some .int)) (by decide +kernel) rfl ?_
  intro p e s m args below meth c s₁ B hml hv
  obtain ⟨rfl, hI, hK, hE⟩ := hv
  have hx := B.exec
  have hb := B.bytes
  have hr := B.returns
  have hts := atoms_spec (ws := wq_c_J0_length_8abf5) B.pre
  have hown : s.vm.findClass RJ0 = some m.cls := findClass_of_methodNamed B.named
  have hlocks := B.notSynchronized
  have hS : va_S A s.heap s.heap [] := va_S.rf
  have hl := lv_entry ([.ref (gK g s_h0)]) (n := 1) (Nat.le_of_ble_eq_true rfl)
  rw [lg_entry_eq]
  generalize (lg_sl ([.ref (gK g s_h0)]) ++ List.replicate (1 - (lg_sl ([.ref (gK g s_h0)])).length) Slot.unset).toArray = ls at hl ⊢
  have hl : lv_has ls 1 [(0, .ref (gK g s_h0))] := hl
  refine lv_aload_n hx hb dJ0_length_8abf5_0 rfl (lv_at hl 0 rfl) ?_
  refine vk_getf hx hb (hE.2.2.2.2.2.2.1.1 s_h0 i_h0).2.2.1 hS hown (hts (.fieldLink RJ0 9 "java/lang/String" "value" "[B") (List.mem_cons_of_mem _ (List.mem_append_left _ (List.mem_of_getElem? (i := 0) rfl)))) (fun _ h9 => h9) dJ0_length_8abf5_1 ?_
  refine va_tlen hx hb (hE.2.2.2.2.2.2.1.1 s_h0 i_h0).2.2.2 hS rfl dJ0_length_8abf5_4 ?_
  refine lv_topi (fun v_1 ev_1 => ?_)
  have tv_1 : v_1.toInt = (kl s_h0 : Int) := by rw [ev_1]; exact nI_toInt (kl_lt _)
  refine lv_aload_n hx hb dJ0_length_8abf5_5 rfl (lv_at hl 0 rfl) ?_
  refine va_calli (va_runV (As := []) (rest := [.int v_1]) ⟨hx, hb, hml, hown, hts⟩ (c_J0_coder_7d493 l dC dI g A hG f s_h0 i_h0) (cwV 0 hts (gi_V (fun w_ h0_ => ⟨List.mem_cons_of_mem _ (List.mem_append_right _ (List.mem_append_left _ h0_)), (tb_c_J0_coder_7d493 w_ h0_).2⟩) (List.mem_cons_of_mem _ (List.mem_append_left _ (List.mem_of_getElem? (i := 1) rfl))) (List.mem_cons_of_mem _ (List.mem_append_left _ (List.mem_of_getElem? (i := 2) rfl))) (List.mem_cons_of_mem _ (List.mem_append_left _ (List.mem_of_getElem? (i := 3) rfl))) (List.mem_cons_of_mem _ (List.mem_append_left _ (List.mem_of_getElem? (i := 4) rfl)))) rfl rfl rfl (by decide +kernel) ⟨Nat.le_of_ble_eq_true rfl, Nat.le_of_ble_eq_true rfl⟩) ⟨fun a U g mk q => ⟨q.1, q.2.calling rfl rfl⟩, vk_recv hE.2.2.2.2.2.2.1 i_h0 hS, fun U hU hW => ⟨rfl, kIn.of hI hK hE hS hU hW⟩⟩ rfl rfl hl.1 rfl (lv_room (Nat.le_of_ble_eq_true rfl)) dJ0_length_8abf5_6 ⟨Nat.le_of_ble_eq_true rfl, Nat.le_of_ble_eq_true rfl⟩) hS (fun q _ h => h) (fun q h => h) (fun r_3 u t H1 locs ht hvm w_2 hB hz1 hk1 hS => ?_)
  have hI : Iv dC dI g A f t.heap := hB
  rw [ht] at hI
  generalize H1 = H at hI hS ⊢
  refine W.widen (k := 0) (n := 0) (Nat.le_of_ble_eq_true rfl) (Nat.le_of_ble_eq_true rfl) ?_
  have w_2 : r_3 = 0 := w_2
  refine k_topi (y := 0) w_2 ?_
  refine lv_ishr hx hb dJ0_length_8abf5_9 ?_
  refine lv_topi (fun v_4 ev_4 => ?_)
  have tv_4 : v_4.toInt = v_1.toInt := by rw [ev_4]; exact congrArg Int32.toInt (sb_shr0 _)
  have w_5 : v_4.toInt = (kl s_h0 : Int) := by omega
  exact W.iret (v := v_4) hx hb hr (fun t ht hW => ⟨⟨v_4, (), rfl, w_5, k_ret ht hI⟩, hS.F ht⟩) hS.2.2 dJ0_length_8abf5_10
theorem tw_210 : q_g (.code yJ0_isLatin1_aae02 cJ0_isLatin1_aae02 1 (some .boolean)) := ⟨(List.mem_append_right _ (List.mem_of_getElem? (i := 673) (by decide +kernel))), good_of_word (by decide +kernel)⟩
def ow_c_J0_isLatin1_aae02 : List Cond := [.fieldLink RJ0 38 "java/lang/String" "COMPACT_STRINGS" "Z", .fieldLink RJ0 15 "java/lang/String" "coder" "B"]
def wq_c_J0_isLatin1_aae02 : List Cond := .code yJ0_isLatin1_aae02 cJ0_isLatin1_aae02 1 (some .boolean) :: (ow_c_J0_isLatin1_aae02 ++ ([] : List Cond))
theorem tb_c_J0_isLatin1_aae02 : ∀ w ∈ wq_c_J0_isLatin1_aae02, q_g w := by
  unfold wq_c_J0_isLatin1_aae02 ow_c_J0_isLatin1_aae02
  exact q_cons tw_210 (q_app (q_cons tw_202 (q_cons tw_201 q_nil)) q_nil)
set_option maxHeartbeats 4000000 in
set_option maxRecDepth 100000 in
theorem c_J0_isLatin1_aae02 (l : Launch) (dC : Nat → ClassId) (dI : Nat → Nat → Nat) (g : kG) (A : Nat → Prop) (hG : kWf g) (f : Nat → va_E) (s_h0 : Nat) (i_h0 : s_h0 < 5) : Met l yJ0_isLatin1_aae02 wq_c_J0_isLatin1_aae02 ({ frames := 0, cells := 0, slots := 0, locals := 0 } : Room) (va_Pc [.ref (gK g s_h0)] (fun U => kIn dC dI g A f U)) (va_Qi (fun (r : Int32) (_ : Unit) => r = 1) (fun (_ : Unit) t => Iv dC dI g A f t.heap) A) 0 0 A := by
  refine va_MetF (cc := cJ0_isLatin1_aae02) (maxL := 1) (ret := (some .boolean)) (by decide +kernel) rfl ?_
  intro p e s m args below meth c s₁ B hml hv
  obtain ⟨rfl, hI, hK, hE⟩ := hv
  have hx := B.exec
  have hb := B.bytes
  have hr := B.returns
  have hts := atoms_spec (ws := wq_c_J0_isLatin1_aae02) B.pre
  have hown : s.vm.findClass RJ0 = some m.cls := findClass_of_methodNamed B.named
  have hlocks := B.notSynchronized
  have hS : va_S A s.heap s.heap [] := va_S.rf
  have hl := lv_entry ([.ref (gK g s_h0)]) (n := 1) (Nat.le_of_ble_eq_true rfl)
  rw [lg_entry_eq]
  generalize (lg_sl ([.ref (gK g s_h0)]) ++ List.replicate (1 - (lg_sl ([.ref (gK g s_h0)])).length) Slot.unset).toArray = ls at hl ⊢
  have hl : lv_has ls 1 [(0, .ref (gK g s_h0))] := hl
  refine va_gets hx hb hE.2.2.2.1 hS hown (hts (.fieldLink RJ0 38 "java/lang/String" "COMPACT_STRINGS" "Z") (List.mem_cons_of_mem _ (List.mem_append_left _ (List.mem_of_getElem? (i := 0) rfl)))) (fun _ h9 => h9) dJ0_isLatin1_aae02_0 ?_
  refine lv_if_eq (tgt := 17) hx hb dJ0_isLatin1_aae02_3 (by decide) (fun c => absurd c (by decide)) (fun _ => ?_)
  refine lv_aload_n hx hb dJ0_isLatin1_aae02_6 rfl (lv_at hl 0 rfl) ?_
  refine vk_getf hx hb (hE.2.2.2.2.2.2.1.1 s_h0 i_h0).2.1 hS hown (hts (.fieldLink RJ0 15 "java/lang/String" "coder" "B") (List.mem_cons_of_mem _ (List.mem_append_left _ (List.mem_of_getElem? (i := 1) rfl)))) (fun _ h9 => h9) dJ0_isLatin1_aae02_7 ?_
  refine lv_if_ne (tgt := 17) hx hb dJ0_isLatin1_aae02_10 (by decide) (fun c => absurd c (by decide)) (fun _ => ?_)
  refine lv_iconst (v := 1) hx hb dJ0_isLatin1_aae02_13 (by decide) ?_
  refine lv_goto (tgt := 18) hx hb dJ0_isLatin1_aae02_14 (by decide) ?_
  have w_1 : (1 : Int32) = 1 := rfl
  exact W.zret (v := 1) hx hb hr rfl (fun t ht hW => ⟨⟨1, (), rfl, w_1, k_ret ht hI⟩, hS.F ht⟩) hS.2.2 dJ0_isLatin1_aae02_18
theorem tw_211 : q_g (.code yJ3_checkIndex_8e157 cJ3_checkIndex_8e157 3 (some .int)) := ⟨(List.mem_append_right _ (List.mem_of_getElem? (i := 684) (by decide +kernel))), good_of_word (by decide +kernel)⟩
def ow_c_J3_checkIndex_8e157_n : List Cond := []
def wq_c_J3_checkIndex_8e157_n : List Cond := .code yJ3_checkIndex_8e157 cJ3_checkIndex_8e157 3 (some .int) :: (ow_c_J3_checkIndex_8e157_n ++ ([] : List Cond))
theorem tb_c_J3_checkIndex_8e157_n : ∀ w ∈ wq_c_J3_checkIndex_8e157_n, q_g w := by
  unfold wq_c_J3_checkIndex_8e157_n ow_c_J3_checkIndex_8e157_n
  exact q_cons tw_211 (q_app q_nil q_nil)
set_option maxHeartbeats 4000000 in
set_option maxRecDepth 100000 in
theorem c_J3_checkIndex_8e157_n (l : Launch) (dC : Nat → ClassId) (dI : Nat → Nat → Nat) (g : kG) (A : Nat → Prop) (hG : kWf g) (f : Nat → va_E) (p1 : Int32) (p2 : Int32) (hp : 0 ≤ p1.toInt ∧ p1.toInt < p2.toInt) : Met l yJ3_checkIndex_8e157 wq_c_J3_checkIndex_8e157_n ({ frames := 0, cells := 0, slots := 0, locals := 0 } : Room) (va_Pc [.int p1, .int p2, .null] (fun U => kIn dC dI g A f U)) (va_Qi (fun (r : Int32) (_ : Unit) => True) (fun (_ : Unit) t => Iv dC dI g A f t.heap) A) 0 0 A := by
  refine va_MetF (cc := cJ3_checkIndex_8e157) (maxL := 3) (ret := (some .int)) (by decide +kernel) rfl ?_
  intro p e s m args below meth c s₁ B hml hv
  obtain ⟨rfl, hI, hK, hE⟩ := hv
  have hx := B.exec
  have hb := B.bytes
  have hr := B.returns
  have hts := atoms_spec (ws := wq_c_J3_checkIndex_8e157_n) B.pre
  have hown : s.vm.findClass RJ3 = some m.cls := findClass_of_methodNamed B.named
  have hlocks := B.notSynchronized
  have hS : va_S A s.heap s.heap [] := va_S.rf
  have hl := lv_entry ([.int p1, .int p2, .null]) (n := 3) (Nat.le_of_ble_eq_true rfl)
  rw [lg_entry_eq]
  generalize (lg_sl ([.int p1, .int p2, .null]) ++ List.replicate (3 - (lg_sl ([.int p1, .int p2, .null])).length) Slot.unset).toArray = ls at hl ⊢
  have hl : lv_has ls 3 [(0, .int p1), (1, .int p2), (2, .null)] := hl
  refine lv_iload_n hx hb dJ3_checkIndex_8e157_0 rfl (lv_at hl 0 rfl) ?_
  refine lv_if_lt (tgt := 9) hx hb dJ3_checkIndex_8e157_1 (by decide) (fun c_1 => ?_) (fun c_1 => ?_)
  · have c_1 := kc_lt rfl (by decide : Int32.toInt 0 = 0) c_1
    exact absurd (show False by omega) id
  · have c_1 := kn_lt rfl (by decide : Int32.toInt 0 = 0) c_1
    refine lv_iload_n hx hb dJ3_checkIndex_8e157_4 rfl (lv_at hl 0 rfl) ?_
    refine lv_iload_n hx hb dJ3_checkIndex_8e157_5 rfl (lv_at hl 1 rfl) ?_
    refine lv_icmp_lt (tgt := 16) hx hb dJ3_checkIndex_8e157_6 (by decide) (fun c_2 => ?_) (fun c_2 => ?_)
    · have c_2 := kc_lt rfl rfl c_2
      refine lv_iload_n hx hb dJ3_checkIndex_8e157_16 rfl (lv_at hl 0 rfl) ?_
      exact W.iret (v := p1) hx hb hr (fun t ht hW => ⟨⟨p1, (), rfl, trivial, k_ret ht hI⟩, hS.F ht⟩) hS.2.2 dJ3_checkIndex_8e157_17
    · have c_2 := kn_lt rfl rfl c_2
      exact absurd (show False by omega) id
def ow_c_J3_checkIndex_8e157_r : List Cond := []
def wq_c_J3_checkIndex_8e157_r : List Cond := .code yJ3_checkIndex_8e157 cJ3_checkIndex_8e157 3 (some .int) :: (ow_c_J3_checkIndex_8e157_r ++ ([] : List Cond))
theorem tb_c_J3_checkIndex_8e157_r : ∀ w ∈ wq_c_J3_checkIndex_8e157_r, q_g w := by
  unfold wq_c_J3_checkIndex_8e157_r ow_c_J3_checkIndex_8e157_r
  exact q_cons tw_211 (q_app q_nil q_nil)
set_option maxHeartbeats 4000000 in
set_option maxRecDepth 100000 in
theorem c_J3_checkIndex_8e157_r (l : Launch) (dC : Nat → ClassId) (dI : Nat → Nat → Nat) (g : kG) (A : Nat → Prop) (hG : kWf g) (f : Nat → va_E) (p1 : Int32) (p2 : Int32) (p3 : Nat) (i_p3 : True) (hp : 0 ≤ p1.toInt ∧ p1.toInt < p2.toInt) : Met l yJ3_checkIndex_8e157 wq_c_J3_checkIndex_8e157_r ({ frames := 0, cells := 0, slots := 0, locals := 0 } : Room) (va_Pc [.int p1, .int p2, .ref p3] (fun U => kIn dC dI g A f U)) (va_Qi (fun (r : Int32) (_ : Unit) => True) (fun (_ : Unit) t => Iv dC dI g A f t.heap) A) 0 0 A := by
  refine va_MetF (cc := cJ3_checkIndex_8e157) (maxL := 3) (ret := (some .int)) (by decide +kernel) rfl ?_
  intro p e s m args below meth c s₁ B hml hv
  obtain ⟨rfl, hI, hK, hE⟩ := hv
  have hx := B.exec
  have hb := B.bytes
  have hr := B.returns
  have hts := atoms_spec (ws := wq_c_J3_checkIndex_8e157_r) B.pre
  have hown : s.vm.findClass RJ3 = some m.cls := findClass_of_methodNamed B.named
  have hlocks := B.notSynchronized
  have hS : va_S A s.heap s.heap [] := va_S.rf
  have hl := lv_entry ([.int p1, .int p2, .ref p3]) (n := 3) (Nat.le_of_ble_eq_true rfl)
  rw [lg_entry_eq]
  generalize (lg_sl ([.int p1, .int p2, .ref p3]) ++ List.replicate (3 - (lg_sl ([.int p1, .int p2, .ref p3])).length) Slot.unset).toArray = ls at hl ⊢
  have hl : lv_has ls 3 [(0, .int p1), (1, .int p2), (2, .ref p3)] := hl
  refine lv_iload_n hx hb dJ3_checkIndex_8e157_0 rfl (lv_at hl 0 rfl) ?_
  refine lv_if_lt (tgt := 9) hx hb dJ3_checkIndex_8e157_1 (by decide) (fun c_1 => ?_) (fun c_1 => ?_)
  · have c_1 := kc_lt rfl (by decide : Int32.toInt 0 = 0) c_1
    exact absurd (show False by omega) id
  · have c_1 := kn_lt rfl (by decide : Int32.toInt 0 = 0) c_1
    refine lv_iload_n hx hb dJ3_checkIndex_8e157_4 rfl (lv_at hl 0 rfl) ?_
    refine lv_iload_n hx hb dJ3_checkIndex_8e157_5 rfl (lv_at hl 1 rfl) ?_
    refine lv_icmp_lt (tgt := 16) hx hb dJ3_checkIndex_8e157_6 (by decide) (fun c_2 => ?_) (fun c_2 => ?_)
    · have c_2 := kc_lt rfl rfl c_2
      refine lv_iload_n hx hb dJ3_checkIndex_8e157_16 rfl (lv_at hl 0 rfl) ?_
      exact W.iret (v := p1) hx hb hr (fun t ht hW => ⟨⟨p1, (), rfl, trivial, k_ret ht hI⟩, hS.F ht⟩) hS.2.2 dJ3_checkIndex_8e157_17
    · have c_2 := kn_lt rfl rfl c_2
      exact absurd (show False by omega) id
theorem tw_212 : q_g (.initialized RJ3) := ⟨(List.mem_append_right _ (List.mem_of_getElem? (i := 18) (by decide +kernel))), good_of_word (by decide +kernel)⟩
theorem tw_213 : q_g (.static yJ3_checkIndex_8e157) := ⟨(List.mem_append_right _ (List.mem_of_getElem? (i := 683) (by decide +kernel))), good_of_word (by decide +kernel)⟩
theorem tw_214 : q_g (.methodLink RJ0 1059 yJ3_checkIndex_8e157) := ⟨(List.mem_append_right _ (List.mem_of_getElem? (i := 682) (by decide +kernel))), good_of_word (by decide +kernel)⟩
theorem tw_215 : q_g (.fieldLink RJ0 1053 "jdk/internal/util/Preconditions" "SIOOBE_FORMATTER" "Ljava/util/function/BiFunction;") := ⟨(List.mem_append_right _ (List.mem_of_getElem? (i := 680) (by decide +kernel))), good_of_word (by decide +kernel)⟩
theorem tw_216 : q_g (.code yJ0_checkIndex_df160 cJ0_checkIndex_df160 2 none) := ⟨(List.mem_append_right _ (List.mem_of_getElem? (i := 679) (by decide +kernel))), good_of_word (by decide +kernel)⟩
def ow_c_J0_checkIndex_df160 : List Cond := [.fieldLink RJ0 1053 "jdk/internal/util/Preconditions" "SIOOBE_FORMATTER" "Ljava/util/function/BiFunction;", .methodLink RJ0 1059 yJ3_checkIndex_8e157, .static yJ3_checkIndex_8e157, .initialized RJ3]
def wq_c_J0_checkIndex_df160 : List Cond := .code yJ0_checkIndex_df160 cJ0_checkIndex_df160 2 none :: (ow_c_J0_checkIndex_df160 ++ (wq_c_J3_checkIndex_8e157_n ++ (wq_c_J3_checkIndex_8e157_r ++ ([] : List Cond))))
theorem tb_c_J0_checkIndex_df160 : ∀ w ∈ wq_c_J0_checkIndex_df160, q_g w := by
  unfold wq_c_J0_checkIndex_df160 ow_c_J0_checkIndex_df160
  exact q_cons tw_216 (q_app (q_cons tw_215 (q_cons tw_214 (q_cons tw_213 (q_cons tw_212 q_nil)))) (q_app tb_c_J3_checkIndex_8e157_n (q_app tb_c_J3_checkIndex_8e157_r q_nil)))
set_option maxHeartbeats 4000000 in
set_option maxRecDepth 100000 in
theorem c_J0_checkIndex_df160 (l : Launch) (dC : Nat → ClassId) (dI : Nat → Nat → Nat) (g : kG) (A : Nat → Prop) (hG : kWf g) (f : Nat → va_E) (p1 : Int32) (p2 : Int32) (hp : 0 ≤ p1.toInt ∧ p1.toInt < p2.toInt) : Met l yJ0_checkIndex_df160 wq_c_J0_checkIndex_df160 ({ frames := 1, cells := 0, slots := 0, locals := 22 } : Room) (va_Pc [.int p1, .int p2] (fun U => kIn dC dI g A f U)) (va_Qv (fun (_ : Unit) => True) (fun (_ : Unit) t => Iv dC dI g A f t.heap) A) 0 0 A := by
  refine va_MetF (cc := cJ0_checkIndex_df160) (maxL := 2) (ret := none) (by decide +kernel) rfl ?_
  intro p e s m args below meth c s₁ B hml hv
  obtain ⟨rfl, hI, hK, hE⟩ := hv
  have hx := B.exec
  have hb := B.bytes
  have hr := B.returns
  have hts := atoms_spec (ws := wq_c_J0_checkIndex_df160) B.pre
  have hown : s.vm.findClass RJ0 = some m.cls := findClass_of_methodNamed B.named
  have hlocks := B.notSynchronized
  have hS : va_S A s.heap s.heap [] := va_S.rf
  have hl := lv_entry ([.int p1, .int p2]) (n := 2) (Nat.le_of_ble_eq_true rfl)
  rw [lg_entry_eq]
  generalize (lg_sl ([.int p1, .int p2]) ++ List.replicate (2 - (lg_sl ([.int p1, .int p2])).length) Slot.unset).toArray = ls at hl ⊢
  have hl : lv_has ls 2 [(0, .int p1), (1, .int p2)] := hl
  refine lv_iload_n hx hb dJ0_checkIndex_df160_0 rfl (lv_at hl 0 rfl) ?_
  refine lv_iload_n hx hb dJ0_checkIndex_df160_1 rfl (lv_at hl 1 rfl) ?_
  rcases hE.2.2.2.2.1 with hZ | ⟨t9, hZ⟩
  · refine va_gets hx hb hZ hS hown (hts (.fieldLink RJ0 1053 "jdk/internal/util/Preconditions" "SIOOBE_FORMATTER" "Ljava/util/function/BiFunction;") (List.mem_cons_of_mem _ (List.mem_append_left _ (List.mem_of_getElem? (i := 0) rfl)))) (fun _ h9 => h9) dJ0_checkIndex_df160_2 ?_
    refine va_calli (va_runS (As := [.int p1, .int p2, .null]) (rest := []) ⟨hx, hb, hml, hown, hts⟩ (c_J3_checkIndex_8e157_n l dC dI g A hG f p1 p2 (by omega)) (va_cwS 3 hts (gi_S (fun w_ h0_ => ⟨List.mem_cons_of_mem _ (List.mem_append_right _ (List.mem_append_left _ h0_)), (tb_c_J3_checkIndex_8e157_n w_ h0_).2⟩) (List.mem_cons_of_mem _ (List.mem_append_left _ (List.mem_of_getElem? (i := 1) rfl))) (List.mem_cons_of_mem _ (List.mem_append_left _ (List.mem_of_getElem? (i := 2) rfl))) (List.mem_cons_of_mem _ (List.mem_append_left _ (List.mem_of_getElem? (i := 3) rfl)))) rfl rfl rfl (by decide +kernel) ⟨Nat.le_of_ble_eq_true rfl, Nat.le_of_ble_eq_true rfl⟩) ⟨fun a U g mk q => ⟨q.1, q.2.calling rfl rfl⟩, fun U hU hW => ⟨rfl, kIn.of hI hK hE hS hU hW⟩⟩ rfl rfl hl.1 rfl (lv_room (Nat.le_of_ble_eq_true rfl)) dJ0_checkIndex_df160_5 ⟨Nat.le_of_ble_eq_true rfl, Nat.le_of_ble_eq_true rfl⟩) hS (fun q _ h => h) (fun q h => h) (fun r_2 u t H1 locs ht hvm w_1 hB hz1 hk1 hS => ?_)
    have hI : Iv dC dI g A f t.heap := hB
    rw [ht] at hI
    generalize H1 = H at hI hS ⊢
    refine W.widen (k := 0) (n := 0) (Nat.le_of_ble_eq_true rfl) (Nat.le_of_ble_eq_true rfl) ?_
    refine lv_pop hx hb dJ0_checkIndex_df160_8 rfl ?_
    exact W.vret hx hb hr (fun t ht hW => ⟨⟨(), rfl, trivial, k_ret ht hI⟩, hS.F ht⟩) hS.2.2 dJ0_checkIndex_df160_9
  · refine va_gets hx hb hZ hS hown (hts (.fieldLink RJ0 1053 "jdk/internal/util/Preconditions" "SIOOBE_FORMATTER" "Ljava/util/function/BiFunction;") (List.mem_cons_of_mem _ (List.mem_append_left _ (List.mem_of_getElem? (i := 0) rfl)))) (fun _ h9 => h9) dJ0_checkIndex_df160_2 ?_
    refine va_calli (va_runS (As := [.int p1, .int p2, .ref t9]) (rest := []) ⟨hx, hb, hml, hown, hts⟩ (c_J3_checkIndex_8e157_r l dC dI g A hG f p1 p2 t9 trivial (by omega)) (va_cwS 3 hts (gi_S (fun w_ h0_ => ⟨List.mem_cons_of_mem _ (List.mem_append_right _ (List.mem_append_right _ (List.mem_append_left _ h0_))), (tb_c_J3_checkIndex_8e157_r w_ h0_).2⟩) (List.mem_cons_of_mem _ (List.mem_append_left _ (List.mem_of_getElem? (i := 1) rfl))) (List.mem_cons_of_mem _ (List.mem_append_left _ (List.mem_of_getElem? (i := 2) rfl))) (List.mem_cons_of_mem _ (List.mem_append_left _ (List.mem_of_getElem? (i := 3) rfl)))) rfl rfl rfl (by decide +kernel) ⟨Nat.le_of_ble_eq_true rfl, Nat.le_of_ble_eq_true rfl⟩) ⟨fun a U g mk q => ⟨q.1, q.2.calling rfl rfl⟩, fun U hU hW => ⟨rfl, kIn.of hI hK hE hS hU hW⟩⟩ rfl rfl hl.1 rfl (lv_room (Nat.le_of_ble_eq_true rfl)) dJ0_checkIndex_df160_5 ⟨Nat.le_of_ble_eq_true rfl, Nat.le_of_ble_eq_true rfl⟩) hS (fun q _ h => h) (fun q h => h) (fun r_4 u t H1 locs ht hvm w_3 hB hz1 hk1 hS => ?_)
    have hI : Iv dC dI g A f t.heap := hB
    rw [ht] at hI
    generalize H1 = H at hI hS ⊢
    refine W.widen (k := 0) (n := 0) (Nat.le_of_ble_eq_true rfl) (Nat.le_of_ble_eq_true rfl) ?_
    refine lv_pop hx hb dJ0_checkIndex_df160_8 rfl ?_
    exact W.vret hx hb hr (fun t ht hW => ⟨⟨(), rfl, trivial, k_ret ht hI⟩, hS.F ht⟩) hS.2.2 dJ0_checkIndex_df160_9
theorem tw_217 : q_g (.static yJ0_checkIndex_df160) := ⟨(List.mem_append_right _ (List.mem_of_getElem? (i := 678) (by decide +kernel))), good_of_word (by decide +kernel)⟩
theorem tw_218 : q_g (.methodLink RJ1 9 yJ0_checkIndex_df160) := ⟨(List.mem_append_right _ (List.mem_of_getElem? (i := 677) (by decide +kernel))), good_of_word (by decide +kernel)⟩
theorem tw_219 : q_g (.code yJ1_charAt_3b067 cJ1_charAt_3b067 2 (some .char)) := ⟨(List.mem_append_right _ (List.mem_of_getElem? (i := 676) (by decide +kernel))), good_of_word (by decide +kernel)⟩
def ow_c_J1_charAt_3b067 : List Cond := [.methodLink RJ1 9 yJ0_checkIndex_df160, .static yJ0_checkIndex_df160, .initialized RJ0]
def wq_c_J1_charAt_3b067 : List Cond := .code yJ1_charAt_3b067 cJ1_charAt_3b067 2 (some .char) :: (ow_c_J1_charAt_3b067 ++ (wq_c_J0_checkIndex_df160 ++ ([] : List Cond)))
theorem tb_c_J1_charAt_3b067 : ∀ w ∈ wq_c_J1_charAt_3b067, q_g w := by
  unfold wq_c_J1_charAt_3b067 ow_c_J1_charAt_3b067
  exact q_cons tw_219 (q_app (q_cons tw_218 (q_cons tw_217 (q_cons tw_204 q_nil))) (q_app tb_c_J0_checkIndex_df160 q_nil))
set_option maxHeartbeats 4000000 in
set_option maxRecDepth 100000 in
theorem c_J1_charAt_3b067 (l : Launch) (dC : Nat → ClassId) (dI : Nat → Nat → Nat) (g : kG) (A : Nat → Prop) (hG : kWf g) (f : Nat → va_E) (s_p1 : Nat) (p2 : Int32) (i_p1 : s_p1 < 5) (hp : 0 ≤ p2.toInt ∧ p2.toInt < (kl s_p1 : Int)) : Met l yJ1_charAt_3b067 wq_c_J1_charAt_3b067 ({ frames := 2, cells := 0, slots := 0, locals := 43 } : Room) (va_Pc [.ref (gV g s_p1), .int p2] (fun U => kIn dC dI g A f U)) (va_Qi (fun (r : Int32) (_ : Unit) => narrow .char (.int r) = .int r) (fun (_ : Unit) t => Iv dC dI g A f t.heap) A) 0 0 A := by
  refine va_MetF (cc := cJ1_charAt_3b067) (maxL := 2) (ret := (some .char)) (by decide +kernel) rfl ?_
  intro p e s m args below meth c s₁ B hml hv
  obtain ⟨rfl, hI, hK, hE⟩ := hv
  have hx := B.exec
  have hb := B.bytes
  have hr := B.returns
  have hts := atoms_spec (ws := wq_c_J1_charAt_3b067) B.pre
  have hown : s.vm.findClass RJ1 = some m.cls := findClass_of_methodNamed B.named
  have hlocks := B.notSynchronized
  have hS : va_S A s.heap s.heap [] := va_S.rf
  have hl := lv_entry ([.ref (gV g s_p1), .int p2]) (n := 2) (Nat.le_of_ble_eq_true rfl)
  rw [lg_entry_eq]
  generalize (lg_sl ([.ref (gV g s_p1), .int p2]) ++ List.replicate (2 - (lg_sl ([.ref (gV g s_p1), .int p2])).length) Slot.unset).toArray = ls at hl ⊢
  have hl : lv_has ls 2 [(0, .ref (gV g s_p1)), (1, .int p2)] := hl
  refine lv_iload_n hx hb dJ1_charAt_3b067_0 rfl (lv_at hl 1 rfl) ?_
  refine lv_aload_n hx hb dJ1_charAt_3b067_1 rfl (lv_at hl 0 rfl) ?_
  refine va_tlen hx hb (hE.2.2.2.2.2.2.1.1 s_p1 i_p1).2.2.2 hS rfl dJ1_charAt_3b067_2 ?_
  refine lv_topi (fun v_1 ev_1 => ?_)
  have tv_1 : v_1.toInt = (kl s_p1 : Int) := by rw [ev_1]; exact nI_toInt (kl_lt _)
  refine va_callv (va_runS (As := [.int p2, .int v_1]) (rest := []) ⟨hx, hb, hml, hown, hts⟩ (c_J0_checkIndex_df160 l dC dI g A hG f p2 v_1 (by omega)) (va_cwS 2 hts (gi_S (fun w_ h0_ => ⟨List.mem_cons_of_mem _ (List.mem_append_right _ (List.mem_append_left _ h0_)), (tb_c_J0_checkIndex_df160 w_ h0_).2⟩) (List.mem_cons_of_mem _ (List.mem_append_left _ (List.mem_of_getElem? (i := 0) rfl))) (List.mem_cons_of_mem _ (List.mem_append_left _ (List.mem_of_getElem? (i := 1) rfl))) (List.mem_cons_of_mem _ (List.mem_append_left _ (List.mem_of_getElem? (i := 2) rfl)))) rfl rfl rfl (by decide +kernel) ⟨Nat.le_of_ble_eq_true rfl, Nat.le_of_ble_eq_true rfl⟩) ⟨fun a U g mk q => ⟨q.1, q.2.calling rfl rfl⟩, fun U hU hW => ⟨rfl, kIn.of hI hK hE hS hU hW⟩⟩ rfl rfl hl.1 rfl (lv_room (Nat.le_of_ble_eq_true rfl)) dJ1_charAt_3b067_3 ⟨Nat.le_of_ble_eq_true rfl, Nat.le_of_ble_eq_true rfl⟩) hS (fun q _ h => h) (fun q h => h) (fun u t H1 locs ht hvm _ hB hz1 hk1 hS => ?_)
  have hI : Iv dC dI g A f t.heap := hB
  rw [ht] at hI
  generalize H1 = H at hI hS ⊢
  refine W.widen (k := 0) (n := 0) (Nat.le_of_ble_eq_true rfl) (Nat.le_of_ble_eq_true rfl) ?_
  refine lv_aload_n hx hb dJ1_charAt_3b067_6 rfl (lv_at hl 0 rfl) ?_
  refine lv_iload_n hx hb dJ1_charAt_3b067_7 rfl (lv_at hl 1 rfl) ?_
  refine va_tb (N := kl s_p1) hx hb (hE.2.2.2.2.2.2.1.1 s_p1 i_p1).2.2.2 hS (vp_in_iff.mpr (by omega)) rfl dJ1_charAt_3b067_8 ?_
  refine lv_topi (fun v_3 ev_3 => ?_)
  refine lv_sipush (v := 255) hx hb dJ1_charAt_3b067_9 (by decide) ?_
  refine lv_iand hx hb dJ1_charAt_3b067_12 ?_
  refine lv_topi (fun v_4 ev_4 => ?_)
  refine lv_i2c hx hb dJ1_charAt_3b067_13 rfl ?_
  exact W.zret (v := ((v_4.toUInt32 % 65536).toInt32)) hx hb hr (pk_nc _) (fun t ht hW => ⟨⟨(v_4.toUInt32 % 65536).toInt32, (), rfl, pk_nc _, k_ret ht hI⟩, hS.F ht⟩) hS.2.2 dJ1_charAt_3b067_14
theorem tw_220 : q_g (.initialized RJ1) := ⟨(List.mem_append_right _ (List.mem_of_getElem? (i := 17) (by decide +kernel))), good_of_word (by decide +kernel)⟩
theorem tw_221 : q_g (.static yJ1_charAt_3b067) := ⟨(List.mem_append_right _ (List.mem_of_getElem? (i := 675) (by decide +kernel))), good_of_word (by decide +kernel)⟩
theorem tw_222 : q_g (.methodLink RJ0 495 yJ1_charAt_3b067) := ⟨(List.mem_append_right _ (List.mem_of_getElem? (i := 674) (by decide +kernel))), good_of_word (by decide +kernel)⟩
theorem tw_223 : q_g (.selects RJ0 yJ0_isLatin1_aae02 yJ0_isLatin1_aae02) := ⟨(List.mem_append_right _ (List.mem_of_getElem? (i := 672) (by decide +kernel))), good_of_word (by decide +kernel)⟩
theorem tw_224 : q_g (.instanceMethod yJ0_isLatin1_aae02) := ⟨(List.mem_append_right _ (List.mem_of_getElem? (i := 671) (by decide +kernel))), good_of_word (by decide +kernel)⟩
theorem tw_225 : q_g (.methodLink RJ0 492 yJ0_isLatin1_aae02) := ⟨(List.mem_append_right _ (List.mem_of_getElem? (i := 670) (by decide +kernel))), good_of_word (by decide +kernel)⟩
theorem tw_226 : q_g (.code yJ0_charAt_5068e cJ0_charAt_5068e 2 (some .char)) := ⟨(List.mem_append_right _ (List.mem_of_getElem? (i := 669) (by decide +kernel))), good_of_word (by decide +kernel)⟩
def ow_c_J0_charAt_5068e : List Cond := [.methodLink RJ0 492 yJ0_isLatin1_aae02, .instanceMethod yJ0_isLatin1_aae02, .selects RJ0 yJ0_isLatin1_aae02 yJ0_isLatin1_aae02, .initialized RJ0, .fieldLink RJ0 9 "java/lang/String" "value" "[B", .methodLink RJ0 495 yJ1_charAt_3b067, .static yJ1_charAt_3b067, .initialized RJ1]
def wq_c_J0_charAt_5068e : List Cond := .code yJ0_charAt_5068e cJ0_charAt_5068e 2 (some .char) :: (ow_c_J0_charAt_5068e ++ (wq_c_J0_isLatin1_aae02 ++ (wq_c_J1_charAt_3b067 ++ ([] : List Cond))))
theorem tb_c_J0_charAt_5068e : ∀ w ∈ wq_c_J0_charAt_5068e, q_g w := by
  unfold wq_c_J0_charAt_5068e ow_c_J0_charAt_5068e
  exact q_cons tw_226 (q_app (q_cons tw_225 (q_cons tw_224 (q_cons tw_223 (q_cons tw_204 (q_cons tw_208 (q_cons tw_222 (q_cons tw_221 (q_cons tw_220 q_nil)))))))) (q_app tb_c_J0_isLatin1_aae02 (q_app tb_c_J1_charAt_3b067 q_nil)))
set_option maxHeartbeats 4000000 in
set_option maxRecDepth 100000 in
theorem c_J0_charAt_5068e (l : Launch) (dC : Nat → ClassId) (dI : Nat → Nat → Nat) (g : kG) (A : Nat → Prop) (hG : kWf g) (f : Nat → va_E) (s_h0 : Nat) (p1 : Int32) (i_h0 : s_h0 < 5) (hp : 0 ≤ p1.toInt ∧ p1.toInt < (kl s_h0 : Int)) : Met l yJ0_charAt_5068e wq_c_J0_charAt_5068e ({ frames := 3, cells := 0, slots := 0, locals := 64 } : Room) (va_Pc [.ref (gK g s_h0), .int p1] (fun U => kIn dC dI g A f U)) (va_Qi (fun (r : Int32) (_ : Unit) => True) (fun (_ : Unit) t => Iv dC dI g A f t.heap) A) 0 0 A := by
  refine va_MetF (cc := cJ0_charAt_5068e) (maxL := 2) (ret := (some .char)) (by decide +kernel) rfl ?_
  intro p e s m args below meth c s₁ B hml hv
  obtain ⟨rfl, hI, hK, hE⟩ := hv
  have hx := B.exec
  have hb := B.bytes
  have hr := B.returns
  have hts := atoms_spec (ws := wq_c_J0_charAt_5068e) B.pre
  have hown : s.vm.findClass RJ0 = some m.cls := findClass_of_methodNamed B.named
  have hlocks := B.notSynchronized
  have hS : va_S A s.heap s.heap [] := va_S.rf
  have hl := lv_entry ([.ref (gK g s_h0), .int p1]) (n := 2) (Nat.le_of_ble_eq_true rfl)
  rw [lg_entry_eq]
  generalize (lg_sl ([.ref (gK g s_h0), .int p1]) ++ List.replicate (2 - (lg_sl ([.ref (gK g s_h0), .int p1])).length) Slot.unset).toArray = ls at hl ⊢
  have hl : lv_has ls 2 [(0, .ref (gK g s_h0)), (1, .int p1)] := hl
  refine lv_aload_n hx hb dJ0_charAt_5068e_0 rfl (lv_at hl 0 rfl) ?_
  refine va_calli (va_runV (As := []) (rest := []) ⟨hx, hb, hml, hown, hts⟩ (c_J0_isLatin1_aae02 l dC dI g A hG f s_h0 i_h0) (cwV 0 hts (gi_V (fun w_ h0_ => ⟨List.mem_cons_of_mem _ (List.mem_append_right _ (List.mem_append_left _ h0_)), (tb_c_J0_isLatin1_aae02 w_ h0_).2⟩) (List.mem_cons_of_mem _ (List.mem_append_left _ (List.mem_of_getElem? (i := 0) rfl))) (List.mem_cons_of_mem _ (List.mem_append_left _ (List.mem_of_getElem? (i := 1) rfl))) (List.mem_cons_of_mem _ (List.mem_append_left _ (List.mem_of_getElem? (i := 2) rfl))) (List.mem_cons_of_mem _ (List.mem_append_left _ (List.mem_of_getElem? (i := 3) rfl)))) rfl rfl rfl (by decide +kernel) ⟨Nat.le_of_ble_eq_true rfl, Nat.le_of_ble_eq_true rfl⟩) ⟨fun a U g mk q => ⟨q.1, q.2.calling rfl rfl⟩, vk_recv hE.2.2.2.2.2.2.1 i_h0 hS, fun U hU hW => ⟨rfl, kIn.of hI hK hE hS hU hW⟩⟩ rfl rfl hl.1 rfl (lv_room (Nat.le_of_ble_eq_true rfl)) dJ0_charAt_5068e_1 ⟨Nat.le_of_ble_eq_true rfl, Nat.le_of_ble_eq_true rfl⟩) hS (fun q _ h => h) (fun q h => h) (fun r_2 u t H1 locs ht hvm w_1 hB hz1 hk1 hS => ?_)
  have hI : Iv dC dI g A f t.heap := hB
  rw [ht] at hI
  generalize H1 = H at hI hS ⊢
  refine W.widen (k := 0) (n := 0) (Nat.le_of_ble_eq_true rfl) (Nat.le_of_ble_eq_true rfl) ?_
  have w_1 : r_2 = 1 := w_1
  refine k_topi (y := 1) w_1 ?_
  refine lv_if_eq (tgt := 16) hx hb dJ0_charAt_5068e_4 (by decide) (fun c => absurd c (by decide)) (fun _ => ?_)
  refine lv_aload_n hx hb dJ0_charAt_5068e_7 rfl (lv_at hl 0 rfl) ?_
  refine vk_getf hx hb (hE.2.2.2.2.2.2.1.1 s_h0 i_h0).2.2.1 hS hown (hts (.fieldLink RJ0 9 "java/lang/String" "value" "[B") (List.mem_cons_of_mem _ (List.mem_append_left _ (List.mem_of_getElem? (i := 4) rfl)))) (fun _ h9 => h9) dJ0_charAt_5068e_8 ?_
  refine lv_iload_n hx hb dJ0_charAt_5068e_11 rfl (lv_at hl 1 rfl) ?_
  refine va_calli (va_runS (As := [.ref (gV g s_h0), .int p1]) (rest := []) ⟨hx, hb, hml, hown, hts⟩ (c_J1_charAt_3b067 l dC dI g A hG f s_h0 p1 i_h0 (by omega)) (va_cwS 2 hts (gi_S (fun w_ h0_ => ⟨List.mem_cons_of_mem _ (List.mem_append_right _ (List.mem_append_right _ (List.mem_append_left _ h0_))), (tb_c_J1_charAt_3b067 w_ h0_).2⟩) (List.mem_cons_of_mem _ (List.mem_append_left _ (List.mem_of_getElem? (i := 5) rfl))) (List.mem_cons_of_mem _ (List.mem_append_left _ (List.mem_of_getElem? (i := 6) rfl))) (List.mem_cons_of_mem _ (List.mem_append_left _ (List.mem_of_getElem? (i := 7) rfl)))) rfl rfl rfl (by decide +kernel) ⟨Nat.le_of_ble_eq_true rfl, Nat.le_of_ble_eq_true rfl⟩) ⟨fun a U g mk q => ⟨q.1, q.2.calling rfl rfl⟩, fun U hU hW => ⟨rfl, kIn.of hI hK hE hS hU hW⟩⟩ rfl rfl hl.1 rfl (lv_room (Nat.le_of_ble_eq_true rfl)) dJ0_charAt_5068e_12 ⟨Nat.le_of_ble_eq_true rfl, Nat.le_of_ble_eq_true rfl⟩) hS (fun q _ h => h) (fun q h => h) (fun r_4 u t H1 locs ht hvm w_3 hB hz1 hk1 hS => ?_)
  have hI : Iv dC dI g A f t.heap := hB
  rw [ht] at hI
  generalize H1 = H at hI hS ⊢
  refine W.widen (k := 0) (n := 0) (Nat.le_of_ble_eq_true rfl) (Nat.le_of_ble_eq_true rfl) ?_
  have w_3 : narrow .char (.int r_4) = .int r_4 := w_3
  exact W.zret (v := r_4) hx hb hr w_3 (fun t ht hW => ⟨⟨r_4, (), rfl, trivial, k_ret ht hI⟩, hS.F ht⟩) hS.2.2 dJ0_charAt_5068e_15
theorem tw_227 : q_g (.selects RJ0 yJ0_charAt_5068e yJ0_charAt_5068e) := ⟨(List.mem_append_right _ (List.mem_of_getElem? (i := 668) (by decide +kernel))), good_of_word (by decide +kernel)⟩
theorem tw_228 : q_g (.instanceMethod yJ0_charAt_5068e) := ⟨(List.mem_append_right _ (List.mem_of_getElem? (i := 667) (by decide +kernel))), good_of_word (by decide +kernel)⟩
theorem tw_229 : q_g (.methodLink RX3 73 yJ0_charAt_5068e) := ⟨(List.mem_append_right _ (List.mem_of_getElem? (i := 666) (by decide +kernel))), good_of_word (by decide +kernel)⟩
theorem tw_230 : q_g (.selects RJ0 yJ0_length_8abf5 yJ0_length_8abf5) := ⟨(List.mem_append_right _ (List.mem_of_getElem? (i := 658) (by decide +kernel))), good_of_word (by decide +kernel)⟩
theorem tw_231 : q_g (.instanceMethod yJ0_length_8abf5) := ⟨(List.mem_append_right _ (List.mem_of_getElem? (i := 657) (by decide +kernel))), good_of_word (by decide +kernel)⟩
theorem tw_232 : q_g (.methodLink RX3 68 yJ0_length_8abf5) := ⟨(List.mem_append_right _ (List.mem_of_getElem? (i := 656) (by decide +kernel))), good_of_word (by decide +kernel)⟩
theorem tw_233 : q_g (.code yX3_isWord cX3_isWord 5 (some .boolean)) := ⟨(List.mem_append_right _ (List.mem_of_getElem? (i := 655) (by decide +kernel))), good_of_word (by decide +kernel)⟩
def ow_c_X3_isWord : List Cond := [.fieldLink RX3 21 "DeadlineShare$Reader" "place" "I", .methodLink RX3 68 yJ0_length_8abf5, .instanceMethod yJ0_length_8abf5, .selects RJ0 yJ0_length_8abf5 yJ0_length_8abf5, .initialized RJ0, .methodLink RX3 38 yX7_byteAt, .instanceMethod yX7_byteAt, .selects RX7 yX7_byteAt yX7_byteAt, .initialized RX7, .methodLink RX3 73 yJ0_charAt_5068e, .instanceMethod yJ0_charAt_5068e, .selects RJ0 yJ0_charAt_5068e yJ0_charAt_5068e]
def wq_c_X3_isWord : List Cond := .code yX3_isWord cX3_isWord 5 (some .boolean) :: (ow_c_X3_isWord ++ (u_ws RX3 TX3 2 ++ (wq_c_J0_length_8abf5 ++ (wq_c_X7_byteAt ++ (wq_c_J0_charAt_5068e ++ ([] : List Cond))))))
theorem tb_c_X3_isWord : ∀ w ∈ wq_c_X3_isWord, q_g w := by
  unfold wq_c_X3_isWord ow_c_X3_isWord
  exact q_cons tw_233 (q_app (q_cons tw_197 (q_cons tw_232 (q_cons tw_231 (q_cons tw_230 (q_cons tw_204 (q_cons tw_195 (q_cons tw_194 (q_cons tw_193 (q_cons tw_192 (q_cons tw_229 (q_cons tw_228 (q_cons tw_227 q_nil)))))))))))) (q_app tu_X3 (q_app tb_c_J0_length_8abf5 (q_app tb_c_X7_byteAt (q_app tb_c_J0_charAt_5068e q_nil)))))
set_option maxHeartbeats 4000000 in
set_option maxRecDepth 100000 in
theorem c_X3_isWord (l : Launch) (dC : Nat → ClassId) (dI : Nat → Nat → Nat) (g : kG) (A : Nat → Prop) (hG : kWf g) (f : Nat → va_E) (h0 : Nat) (p1 : Nat) (p2 : Int32) (s_p3 : Nat) (i_h0 : ik g 3 h0) (i_p1 : ik g 7 p1) (i_p3 : s_p3 < 5) : Met l yX3_isWord wq_c_X3_isWord ({ frames := 4, cells := 0, slots := 0, locals := 85 } : Room) (va_Pc [.ref h0, .ref p1, .int p2, .ref (gK g s_p3)] (fun U => kIn dC dI g A f U)) (va_Qi (fun (r : Int32) (_ : Unit) => True) (fun (_ : Unit) t => Iv dC dI g A f t.heap) A) 0 0 A := by
  refine Met.ofW (cc := cX3_isWord) (maxL := 5) (ret := (some .boolean)) (by decide) rfl ?_
  intro p e s m args below meth c s₁ B hml hv
  obtain ⟨rfl, hI, hK, hE⟩ := hv
  have hx := B.exec
  have hb := B.bytes
  have hr := B.returns
  have hts := atoms_spec (ws := wq_c_X3_isWord) B.pre
  have hown : s.vm.findClass RX3 = some m.cls := findClass_of_methodNamed B.named
  have hlocks := B.notSynchronized
  have hS : va_S A s.heap s.heap [] := va_S.rf
  have hl := lv_entry ([.ref h0, .ref p1, .int p2, .ref (gK g s_p3)]) (n := 5) (Nat.le_of_ble_eq_true rfl)
  rw [lg_entry_eq]
  generalize (lg_sl ([.ref h0, .ref p1, .int p2, .ref (gK g s_p3)]) ++ List.replicate (5 - (lg_sl ([.ref h0, .ref p1, .int p2, .ref (gK g s_p3)])).length) Slot.unset).toArray = ls at hl ⊢
  have hl : lv_has ls 5 [(0, .ref h0), (1, .ref p1), (2, .int p2), (3, .ref (gK g s_p3))] := hl
  refine lv_iload_n hx hb dX3_isWord_0 rfl (lv_at hl 2 rfl) ?_
  refine lv_aload_n hx hb dX3_isWord_1 rfl (lv_at hl 0 rfl) ?_
  obtain ⟨x_2, k_1⟩ := op_3 hI i_h0
  refine k_get (ci := 3) (v := .int x_2) (C := RX3) (T := TX3) (N := 2) hx hb hts (fun _ h0_ => List.mem_cons_of_mem _ (List.mem_append_right _ (List.mem_append_left _ h0_))) hown hK hI i_h0.1 k_1 rfl 1 (by decide) (hts (.fieldLink RX3 21 "DeadlineShare$Reader" "place" "I") (List.mem_cons_of_mem _ (List.mem_append_left _ (List.mem_of_getElem? (i := 0) rfl)))) (fun _ h9 => h9) rfl dX3_isWord_2 ?_
  refine lv_isub hx hb dX3_isWord_5 ?_
  refine lv_topi (fun v_3 ev_3 => ?_)
  have tv_3 := k_sb p2 x_2
  rw [← ev_3] at tv_3
  refine lv_aload_n hx hb dX3_isWord_6 rfl (lv_at hl 3 rfl) ?_
  refine va_calli (va_runV (As := []) (rest := [.int v_3]) ⟨hx, hb, hml, hown, hts⟩ (c_J0_length_8abf5 l dC dI g A hG f s_p3 i_p3) (cwV 0 hts (gi_V (fun w_ h0_ => ⟨List.mem_cons_of_mem _ (List.mem_append_right _ (List.mem_append_right _ (List.mem_append_left _ h0_))), (tb_c_J0_length_8abf5 w_ h0_).2⟩) (List.mem_cons_of_mem _ (List.mem_append_left _ (List.mem_of_getElem? (i := 1) rfl))) (List.mem_cons_of_mem _ (List.mem_append_left _ (List.mem_of_getElem? (i := 2) rfl))) (List.mem_cons_of_mem _ (List.mem_append_left _ (List.mem_of_getElem? (i := 3) rfl))) (List.mem_cons_of_mem _ (List.mem_append_left _ (List.mem_of_getElem? (i := 4) rfl)))) rfl rfl rfl (by decide +kernel) ⟨Nat.le_of_ble_eq_true rfl, Nat.le_of_ble_eq_true rfl⟩) ⟨fun a U g mk q => ⟨q.1, q.2.calling rfl rfl⟩, vk_recv hE.2.2.2.2.2.2.1 i_p3 hS, fun U hU hW => ⟨rfl, kIn.of hI hK hE hS hU hW⟩⟩ rfl rfl hl.1 rfl (lv_room (Nat.le_of_ble_eq_true rfl)) dX3_isWord_7 ⟨Nat.le_of_ble_eq_true rfl, Nat.le_of_ble_eq_true rfl⟩) hS (fun q _ h => h) (fun q h => h) (fun r_5 u t H1 locs ht hvm w_4 hB hz1 hk1 hS => ?_)
  have hI : Iv dC dI g A f t.heap := hB
  rw [ht] at hI
  generalize H1 = H at hI hS ⊢
  refine W.widen (k := 0) (n := 0) (Nat.le_of_ble_eq_true rfl) (Nat.le_of_ble_eq_true rfl) ?_
  have w_4 : r_5.toInt = (kl s_p3 : Int) := w_4
  refine lv_icmp_eq (tgt := 15) hx hb dX3_isWord_10 (by decide) (fun c_6 => ?_) (fun c_6 => ?_)
  · have c_6 := kc_eq rfl rfl c_6
    refine lv_iconst (v := 0) hx hb dX3_isWord_15 (by decide) ?_
    refine lv_istore (lv' := [(4, .int 0), (0, .ref h0), (1, .ref p1), (2, .int p2), (3, .ref (gK g s_p3))]) hx hb dX3_isWord_16 hl (by decide) rfl (fun ls hl => ?_)
    have K_18 : ∀ (nn : Nat) (y_7 : Int32) (H : Heap) (locs : List Loc) (ls : Array Slot), ((kl s_p3 : Int) - y_7.toInt).toNat < nn → Iv dC dI g A f H → va_S A s.heap H locs → (0 ≤ y_7.toInt) → lv_has ls 5 [(4, .int y_7), (0, .ref h0), (1, .ref p1), (2, .int p2), (3, .ref (gK g s_p3))] → W p l e (headSpec wq_c_X3_isWord ({ frames := 4, cells := 0, slots := 0, locals := 85 } : Room)).room s m ([.ref h0, .ref p1, .int p2, .ref (gK g s_p3)].toArray) below meth c H locs 0 0 (MQ below (va_Qi (fun (r : Int32) (_ : Unit) => True) (fun (_ : Unit) t => Iv dC dI g A f t.heap) A) ([.ref h0, .ref p1, .int p2, .ref (gK g s_p3)].toArray) s 0 0 A) (F0 m 18 ls []) := by
      intro nn
      induction nn with
      | zero => intro y_7 H locs ls m_9; exact absurd m_9 (Nat.not_lt_zero _)
      | succ nn ih =>
        intro y_7 H locs ls m_9 hI hS t_8 hl
        have g_10 := Int32.toInt_lt y_7
        have g_11 := Int32.le_toInt y_7
        have g_12 := kl_lt s_p3
        refine lv_iload hx hb dX3_isWord_18 (lv_at hl 0 rfl) ?_
        refine lv_aload_n hx hb dX3_isWord_20 rfl (lv_at hl 4 rfl) ?_
        refine va_calli (va_runV (As := []) (rest := [.int y_7]) ⟨hx, hb, hml, hown, hts⟩ (c_J0_length_8abf5 l dC dI g A hG f s_p3 i_p3) (cwV 0 hts (gi_V (fun w_ h0_ => ⟨List.mem_cons_of_mem _ (List.mem_append_right _ (List.mem_append_right _ (List.mem_append_left _ h0_))), (tb_c_J0_length_8abf5 w_ h0_).2⟩) (List.mem_cons_of_mem _ (List.mem_append_left _ (List.mem_of_getElem? (i := 1) rfl))) (List.mem_cons_of_mem _ (List.mem_append_left _ (List.mem_of_getElem? (i := 2) rfl))) (List.mem_cons_of_mem _ (List.mem_append_left _ (List.mem_of_getElem? (i := 3) rfl))) (List.mem_cons_of_mem _ (List.mem_append_left _ (List.mem_of_getElem? (i := 4) rfl)))) rfl rfl rfl (by decide +kernel) ⟨Nat.le_of_ble_eq_true rfl, Nat.le_of_ble_eq_true rfl⟩) ⟨fun a U g mk q => ⟨q.1, q.2.calling rfl rfl⟩, vk_recv hE.2.2.2.2.2.2.1 i_p3 hS, fun U hU hW => ⟨rfl, kIn.of hI hK hE hS hU hW⟩⟩ rfl rfl hl.1 rfl (lv_room (Nat.le_of_ble_eq_true rfl)) dX3_isWord_21 ⟨Nat.le_of_ble_eq_true rfl, Nat.le_of_ble_eq_true rfl⟩) hS (fun q _ h => h) (fun q h => h) (fun r_14 u t H1 locs ht hvm w_13 hB hz1 hk1 hS => ?_)
        have hI : Iv dC dI g A f t.heap := hB
        rw [ht] at hI
        generalize H1 = H at hI hS ⊢
        refine W.widen (k := 0) (n := 0) (Nat.le_of_ble_eq_true rfl) (Nat.le_of_ble_eq_true rfl) ?_
        have w_13 : r_14.toInt = (kl s_p3 : Int) := w_13
        refine lv_icmp_ge (tgt := 55) hx hb dX3_isWord_24 (by decide) (fun c_15 => ?_) (fun c_15 => ?_)
        · have c_15 := kc_le rfl rfl c_15
          refine lv_iconst (v := 1) hx hb dX3_isWord_55 (by decide) ?_
          exact W.zret (v := 1) hx hb hr rfl (fun t ht hW => ⟨⟨1, (), rfl, trivial, k_ret ht hI⟩, hS.F ht⟩) hS.2.2 dX3_isWord_56
        · have c_15 := kn_le rfl rfl c_15
          refine lv_aload_n hx hb dX3_isWord_27 rfl (lv_at hl 2 rfl) ?_
          refine lv_aload_n hx hb dX3_isWord_28 rfl (lv_at hl 1 rfl) ?_
          refine k_get (ci := 3) (v := .int x_2) (C := RX3) (T := TX3) (N := 2) hx hb hts (fun _ h0_ => List.mem_cons_of_mem _ (List.mem_append_right _ (List.mem_append_left _ h0_))) hown hK hI i_h0.1 k_1 rfl 1 (by decide) (hts (.fieldLink RX3 21 "DeadlineShare$Reader" "place" "I") (List.mem_cons_of_mem _ (List.mem_append_left _ (List.mem_of_getElem? (i := 0) rfl)))) (fun _ h9 => h9) rfl dX3_isWord_29 ?_
          refine lv_iload hx hb dX3_isWord_32 (lv_at hl 0 rfl) ?_
          refine lv_iadd hx hb dX3_isWord_34 ?_
          refine lv_topi (fun v_16 ev_16 => ?_)
          have tv_16 := k_ad x_2 y_7
          rw [← ev_16] at tv_16
          obtain ⟨x_18, k_17⟩ := op_7 hI i_p1
          refine va_calli (va_runV (As := [.int v_16]) (rest := []) ⟨hx, hb, hml, hown, hts⟩ (c_X7_byteAt l dC dI g A hG f p1 v_16 i_p1) (cwV 1 hts (gi_V (fun w_ h0_ => ⟨List.mem_cons_of_mem _ (List.mem_append_right _ (List.mem_append_right _ (List.mem_append_right _ (List.mem_append_left _ h0_)))), (tb_c_X7_byteAt w_ h0_).2⟩) (List.mem_cons_of_mem _ (List.mem_append_left _ (List.mem_of_getElem? (i := 5) rfl))) (List.mem_cons_of_mem _ (List.mem_append_left _ (List.mem_of_getElem? (i := 6) rfl))) (List.mem_cons_of_mem _ (List.mem_append_left _ (List.mem_of_getElem? (i := 7) rfl))) (List.mem_cons_of_mem _ (List.mem_append_left _ (List.mem_of_getElem? (i := 8) rfl)))) rfl rfl rfl (by decide +kernel) ⟨Nat.le_of_ble_eq_true rfl, Nat.le_of_ble_eq_true rfl⟩) ⟨fun a U g mk q => ⟨q.1, q.2.calling rfl rfl⟩, k_recv hK hI i_p1.1 k_17 (ci := 7) rfl, fun U hU hW => ⟨rfl, kIn.of hI hK hE hS hU hW⟩⟩ rfl rfl hl.1 rfl (lv_room (Nat.le_of_ble_eq_true rfl)) dX3_isWord_35 ⟨Nat.le_of_ble_eq_true rfl, Nat.le_of_ble_eq_true rfl⟩) hS (fun q _ h => h) (fun q h => h) (fun r_20 u t H1 locs ht hvm w_19 hB hz1 hk1 hS => ?_)
          have hI : Iv dC dI g A f t.heap := hB
          rw [ht] at hI
          generalize H1 = H at hI hS ⊢
          refine W.widen (k := 0) (n := 0) (Nat.le_of_ble_eq_true rfl) (Nat.le_of_ble_eq_true rfl) ?_
          refine lv_aload_n hx hb dX3_isWord_38 rfl (lv_at hl 4 rfl) ?_
          refine lv_iload hx hb dX3_isWord_39 (lv_at hl 0 rfl) ?_
          refine va_calli (va_runV (As := [.int y_7]) (rest := [.int r_20]) ⟨hx, hb, hml, hown, hts⟩ (c_J0_charAt_5068e l dC dI g A hG f s_p3 y_7 i_p3 (by omega)) (cwV 1 hts (gi_V (fun w_ h0_ => ⟨List.mem_cons_of_mem _ (List.mem_append_right _ (List.mem_append_right _ (List.mem_append_right _ (List.mem_append_right _ (List.mem_append_left _ h0_))))), (tb_c_J0_charAt_5068e w_ h0_).2⟩) (List.mem_cons_of_mem _ (List.mem_append_left _ (List.mem_of_getElem? (i := 9) rfl))) (List.mem_cons_of_mem _ (List.mem_append_left _ (List.mem_of_getElem? (i := 10) rfl))) (List.mem_cons_of_mem _ (List.mem_append_left _ (List.mem_of_getElem? (i := 11) rfl))) (List.mem_cons_of_mem _ (List.mem_append_left _ (List.mem_of_getElem? (i := 4) rfl)))) rfl rfl rfl (by decide +kernel) ⟨Nat.le_of_ble_eq_true rfl, Nat.le_of_ble_eq_true rfl⟩) ⟨fun a U g mk q => ⟨q.1, q.2.calling rfl rfl⟩, vk_recv hE.2.2.2.2.2.2.1 i_p3 hS, fun U hU hW => ⟨rfl, kIn.of hI hK hE hS hU hW⟩⟩ rfl rfl hl.1 rfl (lv_room (Nat.le_of_ble_eq_true rfl)) dX3_isWord_41 ⟨Nat.le_of_ble_eq_true rfl, Nat.le_of_ble_eq_true rfl⟩) hS (fun q _ h => h) (fun q h => h) (fun r_22 u t H1 locs ht hvm w_21 hB hz1 hk1 hS => ?_)
          have hI : Iv dC dI g A f t.heap := hB
          rw [ht] at hI
          generalize H1 = H at hI hS ⊢
          refine W.widen (k := 0) (n := 0) (Nat.le_of_ble_eq_true rfl) (Nat.le_of_ble_eq_true rfl) ?_
          refine lv_icmp_eq (tgt := 49) hx hb dX3_isWord_44 (by decide) (fun c_23 => ?_) (fun c_23 => ?_)
          · have c_23 := kc_eq rfl rfl c_23
            obtain ⟨v_24, ev_24⟩ : ∃ y : Int32, y = y_7 + Int32.ofInt 1 := ⟨_, rfl⟩
            refine lv_iinc (v := v_24) (lv' := [(4, .int v_24), (0, .ref h0), (1, .ref p1), (2, .int p2), (3, .ref (gK g s_p3))]) hx hb dX3_isWord_49 hl (k := 0) rfl ev_24.symm (by decide) rfl (fun ls hl => ?_)
            have tv_24 := k_inc y_7
            rw [← ev_24] at tv_24
            refine lv_goto (tgt := 18) hx hb dX3_isWord_52 (by decide) ?_
            exact ih v_24 _ _ _ (by omega) hI hS (by first | omega | decide) (lv_sub hl [0, 1, 2, 3, 4] rfl)
          · have c_23 := kn_eq rfl rfl c_23
            refine lv_iconst (v := 0) hx hb dX3_isWord_47 (by decide) ?_
            exact W.zret (v := 0) hx hb hr rfl (fun t ht hW => ⟨⟨0, (), rfl, trivial, k_ret ht hI⟩, hS.F ht⟩) hS.2.2 dX3_isWord_48
    exact K_18 _ 0 _ _ _ (Nat.lt_succ_self _) hI hS (by first | omega | decide | (simp only [show Int32.toInt 0 = 0 from by decide]; omega)) (lv_sub hl [0, 1, 2, 3, 4] rfl)
  · have c_6 := kn_eq rfl rfl c_6
    refine lv_iconst (v := 0) hx hb dX3_isWord_13 (by decide) ?_
    exact W.zret (v := 0) hx hb hr rfl (fun t ht hW => ⟨⟨0, (), rfl, trivial, k_ret ht hI⟩, hS.F ht⟩) hS.2.2 dX3_isWord_14
theorem tw_234 : q_g (.initialized RX3) := ⟨(List.mem_append_right _ (List.mem_of_getElem? (i := 4) (by decide +kernel))), good_of_word (by decide +kernel)⟩
theorem tw_235 : q_g (.selects RX3 yX3_isWord yX3_isWord) := ⟨(List.mem_append_left _ (List.mem_of_getElem? (i := 6) (by decide +kernel))), good_of_word (by decide +kernel)⟩
theorem tw_236 : q_g (.instanceMethod yX3_isWord) := ⟨(List.mem_append_right _ (List.mem_of_getElem? (i := 654) (by decide +kernel))), good_of_word (by decide +kernel)⟩
theorem tw_237 : q_g (.methodLink RX3 64 yX3_isWord) := ⟨(List.mem_append_right _ (List.mem_of_getElem? (i := 652) (by decide +kernel))), good_of_word (by decide +kernel)⟩
theorem tw_238 : q_g (.static yX5_wordOf) := ⟨(List.mem_append_right _ (List.mem_of_getElem? (i := 645) (by decide +kernel))), good_of_word (by decide +kernel)⟩
theorem tw_239 : q_g (.methodLink RX3 60 yX5_wordOf) := ⟨(List.mem_append_right _ (List.mem_of_getElem? (i := 644) (by decide +kernel))), good_of_word (by decide +kernel)⟩
theorem tw_240 : q_g (.code yX3_kindOfWord cX3_kindOfWord 4 (some .int)) := ⟨(List.mem_append_right _ (List.mem_of_getElem? (i := 643) (by decide +kernel))), good_of_word (by decide +kernel)⟩
def ow_c_X3_kindOfWord : List Cond := [.methodLink RX3 60 yX5_wordOf, .static yX5_wordOf, .initialized RX5, .methodLink RX3 64 yX3_isWord, .instanceMethod yX3_isWord, .selects RX3 yX3_isWord yX3_isWord, .initialized RX3]
def wq_c_X3_kindOfWord : List Cond := .code yX3_kindOfWord cX3_kindOfWord 4 (some .int) :: (ow_c_X3_kindOfWord ++ (wq_c_X5_wordOf ++ (wq_c_X3_isWord ++ ([] : List Cond))))
theorem tb_c_X3_kindOfWord : ∀ w ∈ wq_c_X3_kindOfWord, q_g w := by
  unfold wq_c_X3_kindOfWord ow_c_X3_kindOfWord
  exact q_cons tw_240 (q_app (q_cons tw_239 (q_cons tw_238 (q_cons tw_133 (q_cons tw_237 (q_cons tw_236 (q_cons tw_235 (q_cons tw_234 q_nil))))))) (q_app tb_c_X5_wordOf (q_app tb_c_X3_isWord q_nil)))
set_option maxHeartbeats 4000000 in
set_option maxRecDepth 100000 in
theorem c_X3_kindOfWord (l : Launch) (dC : Nat → ClassId) (dI : Nat → Nat → Nat) (g : kG) (A : Nat → Prop) (hG : kWf g) (f : Nat → va_E) (h0 : Nat) (p1 : Nat) (p2 : Int32) (i_h0 : ik g 3 h0) (i_p1 : ik g 7 p1) : Met l yX3_kindOfWord wq_c_X3_kindOfWord ({ frames := 5, cells := 0, slots := 0, locals := 109 } : Room) (va_Pc [.ref h0, .ref p1, .int p2] (fun U => kIn dC dI g A f U)) (va_Qi (fun (r : Int32) (_ : Unit) => True) (fun (_ : Unit) t => Iv dC dI g A f t.heap) A) 0 0 A := by
  refine Met.ofW (cc := cX3_kindOfWord) (maxL := 4) (ret := (some .int)) (by decide) rfl ?_
  intro p e s m args below meth c s₁ B hml hv
  obtain ⟨rfl, hI, hK, hE⟩ := hv
  have hx := B.exec
  have hb := B.bytes
  have hr := B.returns
  have hts := atoms_spec (ws := wq_c_X3_kindOfWord) B.pre
  have hown : s.vm.findClass RX3 = some m.cls := findClass_of_methodNamed B.named
  have hlocks := B.notSynchronized
  have hS : va_S A s.heap s.heap [] := va_S.rf
  have hl := lv_entry ([.ref h0, .ref p1, .int p2]) (n := 4) (Nat.le_of_ble_eq_true rfl)
  rw [lg_entry_eq]
  generalize (lg_sl ([.ref h0, .ref p1, .int p2]) ++ List.replicate (4 - (lg_sl ([.ref h0, .ref p1, .int p2])).length) Slot.unset).toArray = ls at hl ⊢
  have hl : lv_has ls 4 [(0, .ref h0), (1, .ref p1), (2, .int p2)] := hl
  refine lv_iconst (v := 0) hx hb dX3_kindOfWord_0 (by decide) ?_
  refine lv_istore_n (lv' := [(3, .int 0), (0, .ref h0), (1, .ref p1), (2, .int p2)]) hx hb dX3_kindOfWord_1 rfl hl (by decide) rfl (fun ls hl => ?_)
  have K_2 : ∀ (nn : Nat) (y_1 : Int32) (H : Heap) (locs : List Loc) (ls : Array Slot), (6 - y_1.toInt).toNat < nn → Iv dC dI g A f H → va_S A s.heap H locs → (0 ≤ y_1.toInt) → lv_has ls 4 [(3, .int y_1), (0, .ref h0), (1, .ref p1), (2, .int p2)] → W p l e (headSpec wq_c_X3_kindOfWord ({ frames := 5, cells := 0, slots := 0, locals := 109 } : Room)).room s m ([.ref h0, .ref p1, .int p2].toArray) below meth c H locs 0 0 (MQ below (va_Qi (fun (r : Int32) (_ : Unit) => True) (fun (_ : Unit) t => Iv dC dI g A f t.heap) A) ([.ref h0, .ref p1, .int p2].toArray) s 0 0 A) (F0 m 2 ls []) := by
    intro nn
    induction nn with
    | zero => intro y_1 H locs ls m_3; exact absurd m_3 (Nat.not_lt_zero _)
    | succ nn ih =>
      intro y_1 H locs ls m_3 hI hS t_2 hl
      have g_4 := Int32.toInt_lt y_1
      have g_5 := Int32.le_toInt y_1
      refine lv_iload_n hx hb dX3_kindOfWord_2 rfl (lv_at hl 0 rfl) ?_
      refine lv_iconst (v := 5) hx hb dX3_kindOfWord_3 (by decide) ?_
      refine lv_icmp_ge (tgt := 28) hx hb dX3_kindOfWord_4 (by decide) (fun c_6 => ?_) (fun c_6 => ?_)
      · have c_6 := kc_le (by decide : Int32.toInt 5 = 5) rfl c_6
        refine lv_iconst (v := (-1)) hx hb dX3_kindOfWord_28 (by decide) ?_
        exact W.iret (v := (-1)) hx hb hr (fun t ht hW => ⟨⟨(-1), (), rfl, trivial, k_ret ht hI⟩, hS.F ht⟩) hS.2.2 dX3_kindOfWord_29
      · have c_6 := kn_le (by decide : Int32.toInt 5 = 5) rfl c_6
        refine lv_aload_n hx hb dX3_kindOfWord_7 rfl (lv_at hl 1 rfl) ?_
        refine lv_aload_n hx hb dX3_kindOfWord_8 rfl (lv_at hl 2 rfl) ?_
        refine lv_iload_n hx hb dX3_kindOfWord_9 rfl (lv_at hl 3 rfl) ?_
        refine lv_iload_n hx hb dX3_kindOfWord_10 rfl (lv_at hl 0 rfl) ?_
        refine va_callr (va_runS (As := [.int y_1]) (rest := [.int p2, .ref p1, .ref h0]) ⟨hx, hb, hml, hown, hts⟩ (c_X5_wordOf l dC dI g A hG f y_1) (va_cwS 1 hts (gi_S (fun w_ h0_ => ⟨List.mem_cons_of_mem _ (List.mem_append_right _ (List.mem_append_left _ h0_)), (tb_c_X5_wordOf w_ h0_).2⟩) (List.mem_cons_of_mem _ (List.mem_append_left _ (List.mem_of_getElem? (i := 0) rfl))) (List.mem_cons_of_mem _ (List.mem_append_left _ (List.mem_of_getElem? (i := 1) rfl))) (List.mem_cons_of_mem _ (List.mem_append_left _ (List.mem_of_getElem? (i := 2) rfl)))) rfl rfl rfl (by decide +kernel) ⟨Nat.le_of_ble_eq_true rfl, Nat.le_of_ble_eq_true rfl⟩) ⟨fun a U g mk q => ⟨q.1, q.2.calling rfl rfl⟩, fun U hU hW => ⟨rfl, kIn.of hI hK hE hS hU hW⟩⟩ rfl rfl hl.1 rfl (lv_room (Nat.le_of_ble_eq_true rfl)) dX3_kindOfWord_11 ⟨Nat.le_of_ble_eq_true rfl, Nat.le_of_ble_eq_true rfl⟩) hS (fun q _ h => h) (fun q h => h) (fun u a_8 t H1 locs ht hvm _ hB hz1 hk1 hS => ?_)
        obtain ⟨⟨si_9, w_7, esi_9⟩, hI⟩ := hB
        subst esi_9
        rw [ht] at hI
        generalize H1 = H at hI hS ⊢
        refine W.widen (k := 0) (n := 0) (Nat.le_of_ble_eq_true rfl) (Nat.le_of_ble_eq_true rfl) ?_
        obtain ⟨x_11, k_10⟩ := op_3 hI i_h0
        refine va_calli (va_runV (As := [.ref p1, .int p2, .ref (gK g si_9)]) (rest := []) ⟨hx, hb, hml, hown, hts⟩ (c_X3_isWord l dC dI g A hG f h0 p1 p2 si_9 i_h0 i_p1 w_7) (cwV 3 hts (gi_V (fun w_ h0_ => ⟨List.mem_cons_of_mem _ (List.mem_append_right _ (List.mem_append_right _ (List.mem_append_left _ h0_))), (tb_c_X3_isWord w_ h0_).2⟩) (List.mem_cons_of_mem _ (List.mem_append_left _ (List.mem_of_getElem? (i := 3) rfl))) (List.mem_cons_of_mem _ (List.mem_append_left _ (List.mem_of_getElem? (i := 4) rfl))) (List.mem_cons_of_mem _ (List.mem_append_left _ (List.mem_of_getElem? (i := 5) rfl))) (List.mem_cons_of_mem _ (List.mem_append_left _ (List.mem_of_getElem? (i := 6) rfl)))) rfl rfl rfl (by decide +kernel) ⟨Nat.le_of_ble_eq_true rfl, Nat.le_of_ble_eq_true rfl⟩) ⟨fun a U g mk q => ⟨q.1, q.2.calling rfl rfl⟩, k_recv hK hI i_h0.1 k_10 (ci := 3) rfl, fun U hU hW => ⟨rfl, kIn.of hI hK hE hS hU hW⟩⟩ rfl rfl hl.1 rfl (lv_room (Nat.le_of_ble_eq_true rfl)) dX3_kindOfWord_14 ⟨Nat.le_of_ble_eq_true rfl, Nat.le_of_ble_eq_true rfl⟩) hS (fun q _ h => h) (fun q h => h) (fun r_13 u t H1 locs ht hvm w_12 hB hz1 hk1 hS => ?_)
        have hI : Iv dC dI g A f t.heap := hB
        rw [ht] at hI
        generalize H1 = H at hI hS ⊢
        refine W.widen (k := 0) (n := 0) (Nat.le_of_ble_eq_true rfl) (Nat.le_of_ble_eq_true rfl) ?_
        refine lv_if_eq (tgt := 22) hx hb dX3_kindOfWord_17 (by decide) (fun c_14 => ?_) (fun c_14 => ?_)
        · have c_14 := kc_eq rfl (by decide : Int32.toInt 0 = 0) c_14
          obtain ⟨v_15, ev_15⟩ : ∃ y : Int32, y = y_1 + Int32.ofInt 1 := ⟨_, rfl⟩
          refine lv_iinc (v := v_15) (lv' := [(3, .int v_15), (0, .ref h0), (1, .ref p1), (2, .int p2)]) hx hb dX3_kindOfWord_22 hl (k := 0) rfl ev_15.symm (by decide) rfl (fun ls hl => ?_)
          have tv_15 := k_inc y_1
          rw [← ev_15] at tv_15
          refine lv_goto (tgt := 2) hx hb dX3_kindOfWord_25 (by decide) ?_
          exact ih v_15 _ _ _ (by omega) hI hS (by first | omega | decide) (lv_sub hl [0, 1, 2, 3] rfl)
        · have c_14 := kn_eq rfl (by decide : Int32.toInt 0 = 0) c_14
          refine lv_iload_n hx hb dX3_kindOfWord_20 rfl (lv_at hl 0 rfl) ?_
          exact W.iret (v := y_1) hx hb hr (fun t ht hW => ⟨⟨y_1, (), rfl, trivial, k_ret ht hI⟩, hS.F ht⟩) hS.2.2 dX3_kindOfWord_21
  exact K_2 _ 0 _ _ _ (Nat.lt_succ_self _) hI hS (by first | omega | decide | (simp only [show Int32.toInt 0 = 0 from by decide]; omega)) (lv_sub hl [0, 1, 2, 3] rfl)
