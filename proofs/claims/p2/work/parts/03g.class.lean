theorem tw_682 : q_g (.code yX11_canTick cX11_canTick 2 (some .boolean)) := ⟨(List.mem_append_right _ (List.mem_of_getElem? (i := 1029) (by decide +kernel))), good_of_word (by decide +kernel)⟩
def ow_c_X11_canTick : List Cond := [.fieldLink RX11 37 "DeadlineShare" "now" "LDeadlineShare$State;", .fieldLink RX11 223 "DeadlineShare$State" "time" "I"]
def wq_c_X11_canTick : List Cond := .code yX11_canTick cX11_canTick 2 (some .boolean) :: (ow_c_X11_canTick ++ (u_ws RX11 TX11 12 ++ (u_ws RX6 TX6 10 ++ ([] : List Cond))))
theorem tb_c_X11_canTick : ∀ w ∈ wq_c_X11_canTick, q_g w := by
  unfold wq_c_X11_canTick ow_c_X11_canTick
  exact q_cons tw_682 (q_app (q_cons tw_558 (q_cons tw_617 q_nil)) (q_app tu_X11 (q_app tu_X6 q_nil)))
set_option maxHeartbeats 4000000 in
set_option maxRecDepth 100000 in
theorem c_X11_canTick (l : Launch) (dC : Nat → ClassId) (dI : Nat → Nat → Nat) (g : kG) (A : Nat → Prop) (hG : kWf g) (f : Nat → va_E) (h0 : Nat) (p1 : Int32) (i_h0 : ik g 11 h0) : Met l yX11_canTick wq_c_X11_canTick ({ frames := 0, cells := 0, slots := 0, locals := 0 } : Room) (va_Pc [.ref h0, .int p1] (fun U => kIn dC dI g A f U)) (va_Qi (fun (r : Int32) (_ : Unit) => True) (fun (_ : Unit) t => Iv dC dI g A f t.heap) A) 0 0 A := by
  refine Met.ofW (cc := cX11_canTick) (maxL := 2) (ret := (some .boolean)) (by decide) rfl ?_
  intro p e s m args below meth c s₁ B hml hv
  obtain ⟨rfl, hI, hK, hE⟩ := hv
  have hx := B.exec
  have hb := B.bytes
  have hr := B.returns
  have hts := atoms_spec (ws := wq_c_X11_canTick) B.pre
  have hown : s.vm.findClass RX11 = some m.cls := findClass_of_methodNamed B.named
  have hlocks := B.notSynchronized
  have hS : va_S A s.heap s.heap [] := va_S.rf
  have hl := lv_entry ([.ref h0, .int p1]) (n := 2) (Nat.le_of_ble_eq_true rfl)
  rw [lg_entry_eq]
  generalize (lg_sl ([.ref h0, .int p1]) ++ List.replicate (2 - (lg_sl ([.ref h0, .int p1])).length) Slot.unset).toArray = ls at hl ⊢
  have hl : lv_has ls 2 [(0, .ref h0), (1, .int p1)] := hl
  refine lv_iload_n hx hb dX11_canTick_0 rfl (lv_at hl 1 rfl) ?_
  refine lv_iconst (v := 1) hx hb dX11_canTick_1 (by decide) ?_
  refine lv_icmp_lt (tgt := 30) hx hb dX11_canTick_2 (by decide) (fun c_1 => ?_) (fun c_1 => ?_)
  · have c_1 := kc_lt rfl (by decide : Int32.toInt 1 = 1) c_1
    refine lv_iconst (v := 0) hx hb dX11_canTick_30 (by decide) ?_
    exact W.zret (v := 0) hx hb hr rfl (fun t ht hW => ⟨⟨0, (), rfl, trivial, k_ret ht hI⟩, hS.F ht⟩) hS.2.2 dX11_canTick_31
  · have c_1 := kn_lt rfl (by decide : Int32.toInt 1 = 1) c_1
    refine lv_iload_n hx hb dX11_canTick_5 rfl (lv_at hl 1 rfl) ?_
    refine lv_bipush (v := 60) hx hb dX11_canTick_6 (by decide) ?_
    refine lv_icmp_gt (tgt := 30) hx hb dX11_canTick_8 (by decide) (fun c_2 => ?_) (fun c_2 => ?_)
    · have c_2 := kc_lt (by decide : Int32.toInt 60 = 60) rfl c_2
      refine lv_iconst (v := 0) hx hb dX11_canTick_30 (by decide) ?_
      exact W.zret (v := 0) hx hb hr rfl (fun t ht hW => ⟨⟨0, (), rfl, trivial, k_ret ht hI⟩, hS.F ht⟩) hS.2.2 dX11_canTick_31
    · have c_2 := kn_lt (by decide : Int32.toInt 60 = 60) rfl c_2
      refine lv_aload_n hx hb dX11_canTick_11 rfl (lv_at hl 0 rfl) ?_
      obtain ⟨x_4, k_3⟩ := op_11 hI i_h0
      refine k_get (ci := 11) (v := .ref (gr g h0 3)) (C := RX11) (T := TX11) (N := 12) hx hb hts (fun _ h0_ => List.mem_cons_of_mem _ (List.mem_append_right _ (List.mem_append_left _ h0_))) hown hK hI i_h0.1 k_3 rfl 3 (by decide) (hts (.fieldLink RX11 37 "DeadlineShare" "now" "LDeadlineShare$State;") (List.mem_cons_of_mem _ (List.mem_append_left _ (List.mem_of_getElem? (i := 0) rfl)))) (fun _ h9 => h9) rfl dX11_canTick_12 ?_
      have i_6 := kw_11_3 hG i_h0
      obtain ⟨x_8, x_9, x_10, x_11, x_12, k_7, b_13, b_14⟩ := op_6 hI i_6
      refine k_get (ci := 6) (v := .int x_9) (C := RX6) (T := TX6) (N := 10) hx hb hts (fun _ h0_ => List.mem_cons_of_mem _ (List.mem_append_right _ (List.mem_append_right _ (List.mem_append_left _ h0_)))) hown hK hI i_6.1 k_7 rfl 6 (by decide) (hts (.fieldLink RX11 223 "DeadlineShare$State" "time" "I") (List.mem_cons_of_mem _ (List.mem_append_left _ (List.mem_of_getElem? (i := 1) rfl)))) (fun _ h9 => h9) rfl dX11_canTick_15 ?_
      refine lv_iload_n hx hb dX11_canTick_18 rfl (lv_at hl 1 rfl) ?_
      refine lv_iadd hx hb dX11_canTick_19 ?_
      refine lv_topi (fun v_15 ev_15 => ?_)
      have tv_15 := k_ad x_9 p1
      rw [← ev_15] at tv_15
      refine lv_sipush (v := 9999) hx hb dX11_canTick_20 (by decide) ?_
      refine lv_icmp_gt (tgt := 30) hx hb dX11_canTick_23 (by decide) (fun c_16 => ?_) (fun c_16 => ?_)
      · have c_16 := kc_lt (by decide : Int32.toInt 9999 = 9999) rfl c_16
        refine lv_iconst (v := 0) hx hb dX11_canTick_30 (by decide) ?_
        exact W.zret (v := 0) hx hb hr rfl (fun t ht hW => ⟨⟨0, (), rfl, trivial, k_ret ht hI⟩, hS.F ht⟩) hS.2.2 dX11_canTick_31
      · have c_16 := kn_lt (by decide : Int32.toInt 9999 = 9999) rfl c_16
        refine lv_iconst (v := 1) hx hb dX11_canTick_26 (by decide) ?_
        refine lv_goto (tgt := 31) hx hb dX11_canTick_27 (by decide) ?_
        exact W.zret (v := 1) hx hb hr rfl (fun t ht hW => ⟨⟨1, (), rfl, trivial, k_ret ht hI⟩, hS.F ht⟩) hS.2.2 dX11_canTick_31
theorem tw_683 : q_g (.fieldLink RX11 41 "DeadlineShare" "paper" "LDeadlineShare$State;") := ⟨(List.mem_append_right _ (List.mem_of_getElem? (i := 324) (by decide +kernel))), good_of_word (by decide +kernel)⟩
theorem tw_684 : q_g (.selects RX11 yX11_canTick yX11_canTick) := ⟨(List.mem_append_left _ (List.mem_of_getElem? (i := 19) (by decide +kernel))), good_of_word (by decide +kernel)⟩
theorem tw_685 : q_g (.instanceMethod yX11_canTick) := ⟨(List.mem_append_right _ (List.mem_of_getElem? (i := 1028) (by decide +kernel))), good_of_word (by decide +kernel)⟩
theorem tw_686 : q_g (.methodLink RX11 314 yX11_canTick) := ⟨(List.mem_append_right _ (List.mem_of_getElem? (i := 1026) (by decide +kernel))), good_of_word (by decide +kernel)⟩
theorem tw_687 : q_g (.code yX11_ahead cX11_ahead 4 (some .int)) := ⟨(List.mem_append_right _ (List.mem_of_getElem? (i := 1025) (by decide +kernel))), good_of_word (by decide +kernel)⟩
def ow_c_X11_ahead : List Cond := [.methodLink RX11 314 yX11_canTick, .instanceMethod yX11_canTick, .selects RX11 yX11_canTick yX11_canTick, .initialized RX11, .fieldLink RX11 41 "DeadlineShare" "paper" "LDeadlineShare$State;", .fieldLink RX11 37 "DeadlineShare" "now" "LDeadlineShare$State;", .methodLink RX11 238 yX6_copy, .instanceMethod yX6_copy, .selects RX6 yX6_copy yX6_copy, .initialized RX6, .fieldLink RX11 47 "DeadlineShare" "asTold" "LDeadlineShare$Chooser;", .methodLink RX11 226 yX6_tick, .instanceMethod yX6_tick, .selects RX6 yX6_tick yX6_tick]
def wq_c_X11_ahead : List Cond := .code yX11_ahead cX11_ahead 4 (some .int) :: (ow_c_X11_ahead ++ (wq_c_X11_canTick ++ (u_ws RX11 TX11 12 ++ (wq_c_X6_copy ++ (wq_c_X6_tick ++ ([] : List Cond))))))
theorem tb_c_X11_ahead : ∀ w ∈ wq_c_X11_ahead, q_g w := by
  unfold wq_c_X11_ahead ow_c_X11_ahead
  exact q_cons tw_687 (q_app (q_cons tw_686 (q_cons tw_685 (q_cons tw_684 (q_cons tw_56 (q_cons tw_683 (q_cons tw_558 (q_cons tw_626 (q_cons tw_160 (q_cons tw_159 (q_cons tw_47 (q_cons tw_616 (q_cons tw_615 (q_cons tw_614 (q_cons tw_613 q_nil)))))))))))))) (q_app tb_c_X11_canTick (q_app tu_X11 (q_app tb_c_X6_copy (q_app tb_c_X6_tick q_nil)))))
set_option maxHeartbeats 4000000 in
set_option maxRecDepth 100000 in
theorem c_X11_ahead (l : Launch) (dC : Nat → ClassId) (dI : Nat → Nat → Nat) (g : kG) (A : Nat → Prop) (hG : kWf g) (f : Nat → va_E) (h0 : Nat) (p1 : Int32) (i_h0 : ik g 11 h0) : Met l yX11_ahead wq_c_X11_ahead ({ frames := 6, cells := 0, slots := 0, locals := 139 } : Room) (va_Pc [.ref h0, .int p1] (fun U => kIn dC dI g A f U)) (va_Qi (fun (r : Int32) (_ : Unit) => True) (fun (_ : Unit) t => ∃ f1 : Nat → va_E, Iv dC dI g A f1 t.heap ∧ Kp g [0, 5, 6, 8, 10, 23, 24] f f1) A) 0 0 A := by
  refine Met.ofW (cc := cX11_ahead) (maxL := 4) (ret := (some .int)) (by decide) rfl ?_
  intro p e s m args below meth c s₁ B hml hv
  obtain ⟨rfl, hI, hK, hE⟩ := hv
  have hx := B.exec
  have hb := B.bytes
  have hr := B.returns
  have hts := atoms_spec (ws := wq_c_X11_ahead) B.pre
  have hown : s.vm.findClass RX11 = some m.cls := findClass_of_methodNamed B.named
  have hlocks := B.notSynchronized
  have hS : va_S A s.heap s.heap [] := va_S.rf
  have hk0 : Kp g [0, 5, 6, 8, 10, 23, 24] f f := Kp.rf
  have hl := lv_entry ([.ref h0, .int p1]) (n := 4) (Nat.le_of_ble_eq_true rfl)
  rw [lg_entry_eq]
  generalize (lg_sl ([.ref h0, .int p1]) ++ List.replicate (4 - (lg_sl ([.ref h0, .int p1])).length) Slot.unset).toArray = ls at hl ⊢
  have hl : lv_has ls 4 [(0, .ref h0), (1, .int p1)] := hl
  refine lv_aload_n hx hb dX11_ahead_0 rfl (lv_at hl 0 rfl) ?_
  refine lv_iload_n hx hb dX11_ahead_1 rfl (lv_at hl 1 rfl) ?_
  obtain ⟨x_2, k_1⟩ := op_11 hI i_h0
  refine va_calli (va_runV (As := [.int p1]) (rest := []) ⟨hx, hb, hml, hown, hts⟩ (c_X11_canTick l dC dI g A hG f h0 p1 i_h0) (cwV 1 hts (gi_V (fun w_ h0_ => ⟨List.mem_cons_of_mem _ (List.mem_append_right _ (List.mem_append_left _ h0_)), (tb_c_X11_canTick w_ h0_).2⟩) (List.mem_cons_of_mem _ (List.mem_append_left _ (List.mem_of_getElem? (i := 0) rfl))) (List.mem_cons_of_mem _ (List.mem_append_left _ (List.mem_of_getElem? (i := 1) rfl))) (List.mem_cons_of_mem _ (List.mem_append_left _ (List.mem_of_getElem? (i := 2) rfl))) (List.mem_cons_of_mem _ (List.mem_append_left _ (List.mem_of_getElem? (i := 3) rfl)))) rfl rfl rfl (by decide +kernel) ⟨Nat.le_of_ble_eq_true rfl, Nat.le_of_ble_eq_true rfl⟩) ⟨fun a U g mk q => ⟨q.1, q.2.calling rfl rfl⟩, k_recv hK hI i_h0.1 k_1 (ci := 11) rfl, fun U hU hW => ⟨rfl, kIn.of hI hK hE hS hU hW⟩⟩ rfl rfl hl.1 rfl (lv_room (Nat.le_of_ble_eq_true rfl)) dX11_ahead_2 ⟨Nat.le_of_ble_eq_true rfl, Nat.le_of_ble_eq_true rfl⟩) hS (fun q _ h => h) (fun q h => h) (fun r_4 u t H1 locs ht hvm w_3 hB hz1 hk1 hS => ?_)
  have hI : Iv dC dI g A f t.heap := hB
  rw [ht] at hI
  generalize H1 = H at hI hS ⊢
  refine W.widen (k := 0) (n := 0) (Nat.le_of_ble_eq_true rfl) (Nat.le_of_ble_eq_true rfl) ?_
  refine lv_if_ne (tgt := 10) hx hb dX11_ahead_5 (by decide) (fun c_5 => ?_) (fun c_5 => ?_)
  · have c_5 := kn_eq rfl (by decide : Int32.toInt 0 = 0) c_5
    refine lv_aload_n hx hb dX11_ahead_10 rfl (lv_at hl 0 rfl) ?_
    refine k_get (ci := 11) (v := .ref (gr g h0 4)) (C := RX11) (T := TX11) (N := 12) hx hb hts (fun _ h0_ => List.mem_cons_of_mem _ (List.mem_append_right _ (List.mem_append_right _ (List.mem_append_left _ h0_)))) hown hK hI i_h0.1 k_1 rfl 4 (by decide) (hts (.fieldLink RX11 41 "DeadlineShare" "paper" "LDeadlineShare$State;") (List.mem_cons_of_mem _ (List.mem_append_left _ (List.mem_of_getElem? (i := 4) rfl)))) (fun _ h9 => h9) rfl dX11_ahead_11 ?_
    have i_7 := kw_11_4 hG i_h0
    refine lv_aload_n hx hb dX11_ahead_14 rfl (lv_at hl 0 rfl) ?_
    refine k_get (ci := 11) (v := .ref (gr g h0 3)) (C := RX11) (T := TX11) (N := 12) hx hb hts (fun _ h0_ => List.mem_cons_of_mem _ (List.mem_append_right _ (List.mem_append_right _ (List.mem_append_left _ h0_)))) hown hK hI i_h0.1 k_1 rfl 3 (by decide) (hts (.fieldLink RX11 37 "DeadlineShare" "now" "LDeadlineShare$State;") (List.mem_cons_of_mem _ (List.mem_append_left _ (List.mem_of_getElem? (i := 5) rfl)))) (fun _ h9 => h9) rfl dX11_ahead_15 ?_
    have i_9 := kw_11_3 hG i_h0
    obtain ⟨x_11, x_12, x_13, x_14, x_15, k_10, b_16, b_17⟩ := op_6 hI i_7
    refine va_callv (va_runV (As := [.ref (gr g h0 3)]) (rest := []) ⟨hx, hb, hml, hown, hts⟩ (c_X6_copy l dC dI g A hG f (gr g h0 4) (gr g h0 3) i_7 i_9) (cwV 1 hts (gi_V (fun w_ h0_ => ⟨List.mem_cons_of_mem _ (List.mem_append_right _ (List.mem_append_right _ (List.mem_append_right _ (List.mem_append_left _ h0_)))), (tb_c_X6_copy w_ h0_).2⟩) (List.mem_cons_of_mem _ (List.mem_append_left _ (List.mem_of_getElem? (i := 6) rfl))) (List.mem_cons_of_mem _ (List.mem_append_left _ (List.mem_of_getElem? (i := 7) rfl))) (List.mem_cons_of_mem _ (List.mem_append_left _ (List.mem_of_getElem? (i := 8) rfl))) (List.mem_cons_of_mem _ (List.mem_append_left _ (List.mem_of_getElem? (i := 9) rfl)))) rfl rfl rfl (by decide +kernel) ⟨Nat.le_of_ble_eq_true rfl, Nat.le_of_ble_eq_true rfl⟩) ⟨fun a U g mk q => ⟨q.1, q.2.calling rfl rfl⟩, k_recv hK hI i_7.1 k_10 (ci := 6) rfl, fun U hU hW => ⟨rfl, kIn.of hI hK hE hS hU hW⟩⟩ rfl rfl hl.1 rfl (lv_room (Nat.le_of_ble_eq_true rfl)) dX11_ahead_18 ⟨Nat.le_of_ble_eq_true rfl, Nat.le_of_ble_eq_true rfl⟩) hS (fun q _ h => h) (fun q h => h) (fun u t H1 locs ht hvm _ hB hz1 hk1 hS => ?_)
    obtain ⟨f_18, hI, kc_20⟩ := hB
    rw [ht] at hI
    have k_21 : f_18 h0 = .inr (11, [.ref (gr g h0 0), .ref (gr g h0 1), .ref (gr g h0 2), .ref (gr g h0 3), .ref (gr g h0 4), .ref (gr g h0 5), .ref (gr g h0 6), .ref (gr g h0 7), .ref (gr g h0 8), .ref (gr g h0 9), .ref (gr g h0 10), .int x_2]) := Kp.at kc_20 i_h0 (by decide) k_1
    have kp_22 := Kp.call hk0 kc_20 (by decide)
    generalize H1 = H at hI hS ⊢
    refine W.widen (k := 0) (n := 0) (Nat.le_of_ble_eq_true rfl) (Nat.le_of_ble_eq_true rfl) ?_
    refine lv_iconst (v := (-1)) hx hb dX11_ahead_21 (by decide) ?_
    refine lv_istore_n (lv' := [(2, .int (-1)), (0, .ref h0), (1, .int p1)]) hx hb dX11_ahead_22 rfl hl (by decide) rfl (fun ls hl => ?_)
    refine lv_iconst (v := 0) hx hb dX11_ahead_23 (by decide) ?_
    refine lv_istore_n (lv' := [(3, .int 0), (2, .int (-1)), (0, .ref h0), (1, .int p1)]) hx hb dX11_ahead_24 rfl hl (by decide) rfl (fun ls hl => ?_)
    have K_25 : ∀ (nn : Nat) (y_23 : Int32) (y_24 : Int32) (f_25 : Nat → va_E) (H : Heap) (locs : List Loc) (ls : Array Slot), (p1.toInt - y_23.toInt).toNat < nn → Iv dC dI g A f_25 H → va_S A s.heap H locs → f_25 h0 = .inr (11, [.ref (gr g h0 0), .ref (gr g h0 1), .ref (gr g h0 2), .ref (gr g h0 3), .ref (gr g h0 4), .ref (gr g h0 5), .ref (gr g h0 6), .ref (gr g h0 7), .ref (gr g h0 8), .ref (gr g h0 9), .ref (gr g h0 10), .int x_2]) → Kp g [0, 5, 6, 8, 10, 23, 24] f f_25 → lv_has ls 4 [(3, .int y_23), (2, .int y_24), (0, .ref h0), (1, .int p1)] → W p l e (headSpec wq_c_X11_ahead ({ frames := 6, cells := 0, slots := 0, locals := 139 } : Room)).room s m ([.ref h0, .int p1].toArray) below meth c H locs 0 0 (MQ below (va_Qi (fun (r : Int32) (_ : Unit) => True) (fun (_ : Unit) t => ∃ f1 : Nat → va_E, Iv dC dI g A f1 t.heap ∧ Kp g [0, 5, 6, 8, 10, 23, 24] f f1) A) ([.ref h0, .int p1].toArray) s 0 0 A) (F0 m 25 ls []) := by
      intro nn
      induction nn with
      | zero => intro y_23 y_24 f_25 H locs ls m_28; exact absurd m_28 (Nat.not_lt_zero _)
      | succ nn ih =>
        intro y_23 y_24 f_25 H locs ls m_28 hI hS k_26 kp_27 hl
        have g_29 := Int32.toInt_lt p1
        have g_30 := Int32.le_toInt p1
        have g_31 := Int32.toInt_lt y_23
        have g_32 := Int32.le_toInt y_23
        refine lv_iload_n hx hb dX11_ahead_25 rfl (lv_at hl 0 rfl) ?_
        refine lv_iload_n hx hb dX11_ahead_26 rfl (lv_at hl 3 rfl) ?_
        refine lv_icmp_ge (tgt := 48) hx hb dX11_ahead_27 (by decide) (fun c_33 => ?_) (fun c_33 => ?_)
        · have c_33 := kc_le rfl rfl c_33
          refine lv_iload_n hx hb dX11_ahead_48 rfl (lv_at hl 1 rfl) ?_
          exact W.iret (v := y_24) hx hb hr (fun t ht hW => ⟨⟨y_24, (), rfl, trivial, ⟨f_25, k_ret ht hI, kp_27⟩⟩, hS.F ht⟩) hS.2.2 dX11_ahead_49
        · have c_33 := kn_le rfl rfl c_33
          refine lv_aload_n hx hb dX11_ahead_30 rfl (lv_at hl 2 rfl) ?_
          refine k_get (ci := 11) (v := .ref (gr g h0 4)) (C := RX11) (T := TX11) (N := 12) hx hb hts (fun _ h0_ => List.mem_cons_of_mem _ (List.mem_append_right _ (List.mem_append_right _ (List.mem_append_left _ h0_)))) hown hK hI i_h0.1 k_26 rfl 4 (by decide) (hts (.fieldLink RX11 41 "DeadlineShare" "paper" "LDeadlineShare$State;") (List.mem_cons_of_mem _ (List.mem_append_left _ (List.mem_of_getElem? (i := 4) rfl)))) (fun _ h9 => h9) rfl dX11_ahead_31 ?_
          refine lv_aload_n hx hb dX11_ahead_34 rfl (lv_at hl 2 rfl) ?_
          refine k_get (ci := 11) (v := .ref (gr g h0 5)) (C := RX11) (T := TX11) (N := 12) hx hb hts (fun _ h0_ => List.mem_cons_of_mem _ (List.mem_append_right _ (List.mem_append_right _ (List.mem_append_left _ h0_)))) hown hK hI i_h0.1 k_26 rfl 5 (by decide) (hts (.fieldLink RX11 47 "DeadlineShare" "asTold" "LDeadlineShare$Chooser;") (List.mem_cons_of_mem _ (List.mem_append_left _ (List.mem_of_getElem? (i := 10) rfl)))) (fun _ h9 => h9) rfl dX11_ahead_35 ?_
          have i_37 := kw_11_5 hG i_h0
          obtain ⟨x_39, x_40, x_41, x_42, x_43, k_38, b_44, b_45⟩ := op_6 hI i_7
          refine va_calli (va_runV (As := [.ref (gr g h0 5)]) (rest := []) ⟨hx, hb, hml, hown, hts⟩ (c_X6_tick l dC dI g A hG f_25 (gr g h0 4) (gr g h0 5) i_7 i_37) (cwV 1 hts (gi_V (fun w_ h0_ => ⟨List.mem_cons_of_mem _ (List.mem_append_right _ (List.mem_append_right _ (List.mem_append_right _ (List.mem_append_right _ (List.mem_append_left _ h0_))))), (tb_c_X6_tick w_ h0_).2⟩) (List.mem_cons_of_mem _ (List.mem_append_left _ (List.mem_of_getElem? (i := 11) rfl))) (List.mem_cons_of_mem _ (List.mem_append_left _ (List.mem_of_getElem? (i := 12) rfl))) (List.mem_cons_of_mem _ (List.mem_append_left _ (List.mem_of_getElem? (i := 13) rfl))) (List.mem_cons_of_mem _ (List.mem_append_left _ (List.mem_of_getElem? (i := 9) rfl)))) rfl rfl rfl (by decide +kernel) ⟨Nat.le_of_ble_eq_true rfl, Nat.le_of_ble_eq_true rfl⟩) ⟨fun a U g mk q => ⟨q.1, q.2.calling rfl rfl⟩, k_recv hK hI i_7.1 k_38 (ci := 6) rfl, fun U hU hW => ⟨rfl, kIn.of hI hK hE hS hU hW⟩⟩ rfl rfl hl.1 rfl (lv_room (Nat.le_of_ble_eq_true rfl)) dX11_ahead_38 ⟨Nat.le_of_ble_eq_true rfl, Nat.le_of_ble_eq_true rfl⟩) hS (fun q _ h => h) (fun q h => h) (fun r_48 u t H1 locs ht hvm w_47 hB hz1 hk1 hS => ?_)
          obtain ⟨f_46, hI, kc_49⟩ := hB
          rw [ht] at hI
          have k_50 : f_46 h0 = .inr (11, [.ref (gr g h0 0), .ref (gr g h0 1), .ref (gr g h0 2), .ref (gr g h0 3), .ref (gr g h0 4), .ref (gr g h0 5), .ref (gr g h0 6), .ref (gr g h0 7), .ref (gr g h0 8), .ref (gr g h0 9), .ref (gr g h0 10), .int x_2]) := Kp.at kc_49 i_h0 (by decide) k_26
          have kp_51 := Kp.call kp_27 kc_49 (by decide)
          generalize H1 = H at hI hS ⊢
          refine W.widen (k := 0) (n := 0) (Nat.le_of_ble_eq_true rfl) (Nat.le_of_ble_eq_true rfl) ?_
          refine lv_istore_n (lv' := [(2, .int r_48), (3, .int y_23), (0, .ref h0), (1, .int p1)]) hx hb dX11_ahead_41 rfl hl (by decide) rfl (fun ls hl => ?_)
          obtain ⟨v_52, ev_52⟩ : ∃ y : Int32, y = y_23 + Int32.ofInt 1 := ⟨_, rfl⟩
          refine lv_iinc (v := v_52) (lv' := [(3, .int v_52), (2, .int r_48), (0, .ref h0), (1, .int p1)]) hx hb dX11_ahead_42 hl (k := 1) rfl ev_52.symm (by decide) rfl (fun ls hl => ?_)
          have tv_52 := k_inc y_23
          rw [← ev_52] at tv_52
          refine lv_goto (tgt := 25) hx hb dX11_ahead_45 (by decide) ?_
          exact ih v_52 r_48 f_46 _ _ _ (by omega) hI hS k_50 kp_51 (lv_sub hl [0, 1, 2, 3] rfl)
    exact K_25 _ 0 (-1) f_18 _ _ _ (Nat.lt_succ_self _) hI hS k_21 kp_22 (lv_sub hl [0, 1, 2, 3] rfl)
  · have c_5 := kc_eq rfl (by decide : Int32.toInt 0 = 0) c_5
    refine lv_iconst (v := (-1)) hx hb dX11_ahead_8 (by decide) ?_
    exact W.iret (v := (-1)) hx hb hr (fun t ht hW => ⟨⟨(-1), (), rfl, trivial, ⟨f, k_ret ht hI, hk0⟩⟩, hS.F ht⟩) hS.2.2 dX11_ahead_9
theorem tw_688 : q_g (.code yX11_finish cX11_finish 4 (some .int)) := ⟨(List.mem_append_right _ (List.mem_of_getElem? (i := 1033) (by decide +kernel))), good_of_word (by decide +kernel)⟩
def ow_c_X11_finish : List Cond := [.fieldLink RX11 37 "DeadlineShare" "now" "LDeadlineShare$State;", .methodLink RX11 130 yX6_has, .instanceMethod yX6_has, .selects RX6 yX6_has yX6_has, .initialized RX6, .fieldLink RX11 133 "DeadlineShare$State" "tasks" "[LDeadlineShare$Task;", .fieldLink RX11 166 "DeadlineShare$Task" "script" "LDeadlineShare$Script;", .methodLink RX11 216 yX5_isThere, .instanceMethod yX5_isThere, .selects RX5 yX5_isThere yX5_isThere, .initialized RX5, .fieldLink RX11 41 "DeadlineShare" "paper" "LDeadlineShare$State;", .methodLink RX11 238 yX6_copy, .instanceMethod yX6_copy, .selects RX6 yX6_copy yX6_copy, .fieldLink RX11 223 "DeadlineShare$State" "time" "I", .fieldLink RX11 47 "DeadlineShare" "asTold" "LDeadlineShare$Chooser;", .methodLink RX11 226 yX6_tick, .instanceMethod yX6_tick, .selects RX6 yX6_tick yX6_tick]
def wq_c_X11_finish : List Cond := .code yX11_finish cX11_finish 4 (some .int) :: (ow_c_X11_finish ++ (u_ws RX11 TX11 12 ++ (wq_c_X6_has ++ (u_ws RX6 TX6 10 ++ (u_ws RX8 TX8 18 ++ (wq_c_X5_isThere ++ (wq_c_X6_copy ++ (wq_c_X6_tick ++ ([] : List Cond)))))))))
theorem tb_c_X11_finish : ∀ w ∈ wq_c_X11_finish, q_g w := by
  unfold wq_c_X11_finish ow_c_X11_finish
  exact q_cons tw_688 (q_app (q_cons tw_558 (q_cons tw_571 (q_cons tw_74 (q_cons tw_73 (q_cons tw_47 (q_cons tw_570 (q_cons tw_575 (q_cons tw_610 (q_cons tw_347 (q_cons tw_346 (q_cons tw_133 (q_cons tw_683 (q_cons tw_626 (q_cons tw_160 (q_cons tw_159 (q_cons tw_617 (q_cons tw_616 (q_cons tw_615 (q_cons tw_614 (q_cons tw_613 q_nil)))))))))))))))))))) (q_app tu_X11 (q_app tb_c_X6_has (q_app tu_X6 (q_app tu_X8 (q_app tb_c_X5_isThere (q_app tb_c_X6_copy (q_app tb_c_X6_tick q_nil))))))))
set_option maxHeartbeats 4000000 in
set_option maxRecDepth 100000 in
theorem c_X11_finish (l : Launch) (dC : Nat → ClassId) (dI : Nat → Nat → Nat) (g : kG) (A : Nat → Prop) (hG : kWf g) (f : Nat → va_E) (h0 : Nat) (p1 : Int32) (i_h0 : ik g 11 h0) : Met l yX11_finish wq_c_X11_finish ({ frames := 6, cells := 0, slots := 0, locals := 139 } : Room) (va_Pc [.ref h0, .int p1] (fun U => kIn dC dI g A f U)) (va_Qi (fun (r : Int32) (_ : Unit) => True) (fun (_ : Unit) t => ∃ f1 : Nat → va_E, Iv dC dI g A f1 t.heap ∧ Kp g [0, 5, 6, 8, 10, 23, 24] f f1) A) 0 0 A := by
  refine Met.ofW (cc := cX11_finish) (maxL := 4) (ret := (some .int)) (by decide) rfl ?_
  intro p e s m args below meth c s₁ B hml hv
  obtain ⟨rfl, hI, hK, hE⟩ := hv
  have hx := B.exec
  have hb := B.bytes
  have hr := B.returns
  have hts := atoms_spec (ws := wq_c_X11_finish) B.pre
  have hown : s.vm.findClass RX11 = some m.cls := findClass_of_methodNamed B.named
  have hlocks := B.notSynchronized
  have hS : va_S A s.heap s.heap [] := va_S.rf
  have hk0 : Kp g [0, 5, 6, 8, 10, 23, 24] f f := Kp.rf
  have hl := lv_entry ([.ref h0, .int p1]) (n := 4) (Nat.le_of_ble_eq_true rfl)
  rw [lg_entry_eq]
  generalize (lg_sl ([.ref h0, .int p1]) ++ List.replicate (4 - (lg_sl ([.ref h0, .int p1])).length) Slot.unset).toArray = ls at hl ⊢
  have hl : lv_has ls 4 [(0, .ref h0), (1, .int p1)] := hl
  refine lv_aload_n hx hb dX11_finish_0 rfl (lv_at hl 0 rfl) ?_
  obtain ⟨x_2, k_1⟩ := op_11 hI i_h0
  refine k_get (ci := 11) (v := .ref (gr g h0 3)) (C := RX11) (T := TX11) (N := 12) hx hb hts (fun _ h0_ => List.mem_cons_of_mem _ (List.mem_append_right _ (List.mem_append_left _ h0_))) hown hK hI i_h0.1 k_1 rfl 3 (by decide) (hts (.fieldLink RX11 37 "DeadlineShare" "now" "LDeadlineShare$State;") (List.mem_cons_of_mem _ (List.mem_append_left _ (List.mem_of_getElem? (i := 0) rfl)))) (fun _ h9 => h9) rfl dX11_finish_1 ?_
  have i_4 := kw_11_3 hG i_h0
  refine lv_iload_n hx hb dX11_finish_4 rfl (lv_at hl 1 rfl) ?_
  obtain ⟨x_6, x_7, x_8, x_9, x_10, k_5, b_11, b_12⟩ := op_6 hI i_4
  refine va_calli (va_runV (As := [.int p1]) (rest := []) ⟨hx, hb, hml, hown, hts⟩ (c_X6_has l dC dI g A hG f (gr g h0 3) p1 i_4) (cwV 1 hts (gi_V (fun w_ h0_ => ⟨List.mem_cons_of_mem _ (List.mem_append_right _ (List.mem_append_right _ (List.mem_append_left _ h0_))), (tb_c_X6_has w_ h0_).2⟩) (List.mem_cons_of_mem _ (List.mem_append_left _ (List.mem_of_getElem? (i := 1) rfl))) (List.mem_cons_of_mem _ (List.mem_append_left _ (List.mem_of_getElem? (i := 2) rfl))) (List.mem_cons_of_mem _ (List.mem_append_left _ (List.mem_of_getElem? (i := 3) rfl))) (List.mem_cons_of_mem _ (List.mem_append_left _ (List.mem_of_getElem? (i := 4) rfl)))) rfl rfl rfl (by decide +kernel) ⟨Nat.le_of_ble_eq_true rfl, Nat.le_of_ble_eq_true rfl⟩) ⟨fun a U g mk q => ⟨q.1, q.2.calling rfl rfl⟩, k_recv hK hI i_4.1 k_5 (ci := 6) rfl, fun U hU hW => ⟨rfl, kIn.of hI hK hE hS hU hW⟩⟩ rfl rfl hl.1 rfl (lv_room (Nat.le_of_ble_eq_true rfl)) dX11_finish_5 ⟨Nat.le_of_ble_eq_true rfl, Nat.le_of_ble_eq_true rfl⟩) hS (fun q _ h => h) (fun q h => h) (fun r_14 u t H1 locs ht hvm w_13 hB hz1 hk1 hS => ?_)
  have hI : Iv dC dI g A f t.heap := hB
  rw [ht] at hI
  generalize H1 = H at hI hS ⊢
  refine W.widen (k := 0) (n := 0) (Nat.le_of_ble_eq_true rfl) (Nat.le_of_ble_eq_true rfl) ?_
  have w_13 : r_14.toInt = 0 ∨ (0 ≤ p1.toInt ∧ p1.toInt < 12) := w_13
  refine lv_if_eq (tgt := 29) hx hb dX11_finish_8 (by decide) (fun c_15 => ?_) (fun c_15 => ?_)
  · have c_15 := kc_eq rfl (by decide : Int32.toInt 0 = 0) c_15
    refine lv_iconst (v := (-1)) hx hb dX11_finish_29 (by decide) ?_
    exact W.iret (v := (-1)) hx hb hr (fun t ht hW => ⟨⟨(-1), (), rfl, trivial, ⟨f, k_ret ht hI, hk0⟩⟩, hS.F ht⟩) hS.2.2 dX11_finish_30
  · have c_15 := kn_eq rfl (by decide : Int32.toInt 0 = 0) c_15
    refine lv_aload_n hx hb dX11_finish_11 rfl (lv_at hl 0 rfl) ?_
    refine k_get (ci := 11) (v := .ref (gr g h0 3)) (C := RX11) (T := TX11) (N := 12) hx hb hts (fun _ h0_ => List.mem_cons_of_mem _ (List.mem_append_right _ (List.mem_append_left _ h0_))) hown hK hI i_h0.1 k_1 rfl 3 (by decide) (hts (.fieldLink RX11 37 "DeadlineShare" "now" "LDeadlineShare$State;") (List.mem_cons_of_mem _ (List.mem_append_left _ (List.mem_of_getElem? (i := 0) rfl)))) (fun _ h9 => h9) rfl dX11_finish_12 ?_
    refine k_get (ci := 6) (v := .ref (gr g (gr g h0 3) 1)) (C := RX6) (T := TX6) (N := 10) hx hb hts (fun _ h0_ => List.mem_cons_of_mem _ (List.mem_append_right _ (List.mem_append_right _ (List.mem_append_right _ (List.mem_append_left _ h0_))))) hown hK hI i_4.1 k_5 rfl 1 (by decide) (hts (.fieldLink RX11 133 "DeadlineShare$State" "tasks" "[LDeadlineShare$Task;") (List.mem_cons_of_mem _ (List.mem_append_left _ (List.mem_of_getElem? (i := 5) rfl)))) (fun _ h9 => h9) rfl dX11_finish_15 ?_
    have i_19 := kw_6_1 hG i_4
    refine lv_iload_n hx hb dX11_finish_18 rfl (lv_at hl 1 rfl) ?_
    obtain ⟨q_21, k_20, b_22⟩ := op_20 hI i_19
    refine k_aald hx hb hK hI i_19.1 4 k_20 rfl (vp_in_iff.mpr (by omega)) b_22 (fun _ hj => kw_20 hG i_19 hj) dX11_finish_19 (fun a_23 i_24 => ?_)
    obtain ⟨x_26, x_27, x_28, x_29, x_30, x_31, x_32, x_33, x_34, x_35, x_36, x_37, x_38, x_39, x_40, x_41, k_25⟩ := op_8 hI i_24
    refine k_get (ci := 8) (v := .ref (gr g a_23 1)) (C := RX8) (T := TX8) (N := 18) hx hb hts (fun _ h0_ => List.mem_cons_of_mem _ (List.mem_append_right _ (List.mem_append_right _ (List.mem_append_right _ (List.mem_append_right _ (List.mem_append_left _ h0_)))))) hown hK hI i_24.1 k_25 rfl 1 (by decide) (hts (.fieldLink RX11 166 "DeadlineShare$Task" "script" "LDeadlineShare$Script;") (List.mem_cons_of_mem _ (List.mem_append_left _ (List.mem_of_getElem? (i := 6) rfl)))) (fun _ h9 => h9) rfl dX11_finish_20 ?_
    have i_43 := kw_8_1 hG i_24
    obtain ⟨x_45, x_46, x_47, x_48, k_44, b_49, b_50⟩ := op_5 hI i_43
    refine va_calli (va_runV (As := []) (rest := []) ⟨hx, hb, hml, hown, hts⟩ (c_X5_isThere l dC dI g A hG f (gr g a_23 1) i_43) (cwV 0 hts (gi_V (fun w_ h0_ => ⟨List.mem_cons_of_mem _ (List.mem_append_right _ (List.mem_append_right _ (List.mem_append_right _ (List.mem_append_right _ (List.mem_append_right _ (List.mem_append_left _ h0_)))))), (tb_c_X5_isThere w_ h0_).2⟩) (List.mem_cons_of_mem _ (List.mem_append_left _ (List.mem_of_getElem? (i := 7) rfl))) (List.mem_cons_of_mem _ (List.mem_append_left _ (List.mem_of_getElem? (i := 8) rfl))) (List.mem_cons_of_mem _ (List.mem_append_left _ (List.mem_of_getElem? (i := 9) rfl))) (List.mem_cons_of_mem _ (List.mem_append_left _ (List.mem_of_getElem? (i := 10) rfl)))) rfl rfl rfl (by decide +kernel) ⟨Nat.le_of_ble_eq_true rfl, Nat.le_of_ble_eq_true rfl⟩) ⟨fun a U g mk q => ⟨q.1, q.2.calling rfl rfl⟩, k_recv hK hI i_43.1 k_44 (ci := 5) rfl, fun U hU hW => ⟨rfl, kIn.of hI hK hE hS hU hW⟩⟩ rfl rfl hl.1 rfl (lv_room (Nat.le_of_ble_eq_true rfl)) dX11_finish_23 ⟨Nat.le_of_ble_eq_true rfl, Nat.le_of_ble_eq_true rfl⟩) hS (fun q _ h => h) (fun q h => h) (fun r_52 u t H1 locs ht hvm w_51 hB hz1 hk1 hS => ?_)
    have hI : Iv dC dI g A f t.heap := hB
    rw [ht] at hI
    generalize H1 = H at hI hS ⊢
    refine W.widen (k := 0) (n := 0) (Nat.le_of_ble_eq_true rfl) (Nat.le_of_ble_eq_true rfl) ?_
    refine lv_if_ne (tgt := 31) hx hb dX11_finish_26 (by decide) (fun c_53 => ?_) (fun c_53 => ?_)
    · have c_53 := kn_eq rfl (by decide : Int32.toInt 0 = 0) c_53
      refine lv_aload_n hx hb dX11_finish_31 rfl (lv_at hl 0 rfl) ?_
      refine k_get (ci := 11) (v := .ref (gr g h0 4)) (C := RX11) (T := TX11) (N := 12) hx hb hts (fun _ h0_ => List.mem_cons_of_mem _ (List.mem_append_right _ (List.mem_append_left _ h0_))) hown hK hI i_h0.1 k_1 rfl 4 (by decide) (hts (.fieldLink RX11 41 "DeadlineShare" "paper" "LDeadlineShare$State;") (List.mem_cons_of_mem _ (List.mem_append_left _ (List.mem_of_getElem? (i := 11) rfl)))) (fun _ h9 => h9) rfl dX11_finish_32 ?_
      have i_55 := kw_11_4 hG i_h0
      refine lv_aload_n hx hb dX11_finish_35 rfl (lv_at hl 0 rfl) ?_
      refine k_get (ci := 11) (v := .ref (gr g h0 3)) (C := RX11) (T := TX11) (N := 12) hx hb hts (fun _ h0_ => List.mem_cons_of_mem _ (List.mem_append_right _ (List.mem_append_left _ h0_))) hown hK hI i_h0.1 k_1 rfl 3 (by decide) (hts (.fieldLink RX11 37 "DeadlineShare" "now" "LDeadlineShare$State;") (List.mem_cons_of_mem _ (List.mem_append_left _ (List.mem_of_getElem? (i := 0) rfl)))) (fun _ h9 => h9) rfl dX11_finish_36 ?_
      obtain ⟨x_59, x_60, x_61, x_62, x_63, k_58, b_64, b_65⟩ := op_6 hI i_55
      refine va_callv (va_runV (As := [.ref (gr g h0 3)]) (rest := []) ⟨hx, hb, hml, hown, hts⟩ (c_X6_copy l dC dI g A hG f (gr g h0 4) (gr g h0 3) i_55 i_4) (cwV 1 hts (gi_V (fun w_ h0_ => ⟨List.mem_cons_of_mem _ (List.mem_append_right _ (List.mem_append_right _ (List.mem_append_right _ (List.mem_append_right _ (List.mem_append_right _ (List.mem_append_right _ (List.mem_append_left _ h0_))))))), (tb_c_X6_copy w_ h0_).2⟩) (List.mem_cons_of_mem _ (List.mem_append_left _ (List.mem_of_getElem? (i := 12) rfl))) (List.mem_cons_of_mem _ (List.mem_append_left _ (List.mem_of_getElem? (i := 13) rfl))) (List.mem_cons_of_mem _ (List.mem_append_left _ (List.mem_of_getElem? (i := 14) rfl))) (List.mem_cons_of_mem _ (List.mem_append_left _ (List.mem_of_getElem? (i := 4) rfl)))) rfl rfl rfl (by decide +kernel) ⟨Nat.le_of_ble_eq_true rfl, Nat.le_of_ble_eq_true rfl⟩) ⟨fun a U g mk q => ⟨q.1, q.2.calling rfl rfl⟩, k_recv hK hI i_55.1 k_58 (ci := 6) rfl, fun U hU hW => ⟨rfl, kIn.of hI hK hE hS hU hW⟩⟩ rfl rfl hl.1 rfl (lv_room (Nat.le_of_ble_eq_true rfl)) dX11_finish_39 ⟨Nat.le_of_ble_eq_true rfl, Nat.le_of_ble_eq_true rfl⟩) hS (fun q _ h => h) (fun q h => h) (fun u t H1 locs ht hvm _ hB hz1 hk1 hS => ?_)
      obtain ⟨f_66, hI, kc_68⟩ := hB
      rw [ht] at hI
      have k_69 : f_66 h0 = .inr (11, [.ref (gr g h0 0), .ref (gr g h0 1), .ref (gr g h0 2), .ref (gr g h0 3), .ref (gr g h0 4), .ref (gr g h0 5), .ref (gr g h0 6), .ref (gr g h0 7), .ref (gr g h0 8), .ref (gr g h0 9), .ref (gr g h0 10), .int x_2]) := Kp.at kc_68 i_h0 (by decide) k_1
      have k_70 : f_66 (gr g (gr g h0 3) 1) = .inl (gc g 4, 12, .inr (.inr (.inr (.inr q_21)))) := Kp.at kc_68 i_19 (by decide) k_20
      have kp_71 := Kp.call hk0 kc_68 (by decide)
      generalize H1 = H at hI hS ⊢
      refine W.widen (k := 0) (n := 0) (Nat.le_of_ble_eq_true rfl) (Nat.le_of_ble_eq_true rfl) ?_
      refine lv_aload_n hx hb dX11_finish_42 rfl (lv_at hl 0 rfl) ?_
      refine k_get (ci := 11) (v := .ref (gr g h0 4)) (C := RX11) (T := TX11) (N := 12) hx hb hts (fun _ h0_ => List.mem_cons_of_mem _ (List.mem_append_right _ (List.mem_append_left _ h0_))) hown hK hI i_h0.1 k_69 rfl 4 (by decide) (hts (.fieldLink RX11 41 "DeadlineShare" "paper" "LDeadlineShare$State;") (List.mem_cons_of_mem _ (List.mem_append_left _ (List.mem_of_getElem? (i := 11) rfl)))) (fun _ h9 => h9) rfl dX11_finish_43 ?_
      obtain ⟨x_75, x_76, x_77, x_78, x_79, k_74, b_80, b_81⟩ := op_6 hI i_55
      refine k_get (ci := 6) (v := .ref (gr g (gr g h0 4) 1)) (C := RX6) (T := TX6) (N := 10) hx hb hts (fun _ h0_ => List.mem_cons_of_mem _ (List.mem_append_right _ (List.mem_append_right _ (List.mem_append_right _ (List.mem_append_left _ h0_))))) hown hK hI i_55.1 k_74 rfl 1 (by decide) (hts (.fieldLink RX11 133 "DeadlineShare$State" "tasks" "[LDeadlineShare$Task;") (List.mem_cons_of_mem _ (List.mem_append_left _ (List.mem_of_getElem? (i := 5) rfl)))) (fun _ h9 => h9) rfl dX11_finish_46 ?_
      have i_83 := kw_6_1 hG i_55
      refine lv_iload_n hx hb dX11_finish_49 rfl (lv_at hl 1 rfl) ?_
      obtain ⟨q_85, k_84, b_86⟩ := op_20 hI i_83
      refine k_aald hx hb hK hI i_83.1 4 k_84 rfl (vp_in_iff.mpr (by omega)) b_86 (fun _ hj => kw_20 hG i_83 hj) dX11_finish_50 (fun a_87 i_88 => ?_)
      obtain ⟨x_90, x_91, x_92, x_93, x_94, x_95, x_96, x_97, x_98, x_99, x_100, x_101, x_102, x_103, x_104, x_105, k_89⟩ := op_8 hI i_88
      refine k_get (ci := 8) (v := .ref (gr g a_87 1)) (C := RX8) (T := TX8) (N := 18) hx hb hts (fun _ h0_ => List.mem_cons_of_mem _ (List.mem_append_right _ (List.mem_append_right _ (List.mem_append_right _ (List.mem_append_right _ (List.mem_append_left _ h0_)))))) hown hK hI i_88.1 k_89 rfl 1 (by decide) (hts (.fieldLink RX11 166 "DeadlineShare$Task" "script" "LDeadlineShare$Script;") (List.mem_cons_of_mem _ (List.mem_append_left _ (List.mem_of_getElem? (i := 6) rfl)))) (fun _ h9 => h9) rfl dX11_finish_51 ?_
      have i_107 := kw_8_1 hG i_88
      refine lv_astore_n (lv' := [(2, .ref (gr g a_87 1)), (0, .ref h0), (1, .int p1)]) hx hb dX11_finish_54 rfl hl (by decide) rfl (fun ls hl => ?_)
      refine lv_iconst (v := 1) hx hb dX11_finish_55 (by decide) ?_
      refine lv_istore_n (lv' := [(3, .int 1), (2, .ref (gr g a_87 1)), (0, .ref h0), (1, .int p1)]) hx hb dX11_finish_56 rfl hl (by decide) rfl (fun ls hl => ?_)
      have K_57 : ∀ (nn : Nat) (y_108 : Int32) (f_109 : Nat → va_E) (H : Heap) (locs : List Loc) (ls : Array Slot), (501 - y_108.toInt).toNat < nn → Iv dC dI g A f_109 H → va_S A s.heap H locs → f_109 h0 = .inr (11, [.ref (gr g h0 0), .ref (gr g h0 1), .ref (gr g h0 2), .ref (gr g h0 3), .ref (gr g h0 4), .ref (gr g h0 5), .ref (gr g h0 6), .ref (gr g h0 7), .ref (gr g h0 8), .ref (gr g h0 9), .ref (gr g h0 10), .int x_2]) → f_109 (gr g (gr g h0 3) 1) = .inl (gc g 4, 12, .inr (.inr (.inr (.inr q_21)))) → f_109 (gr g (gr g h0 4) 1) = .inl (gc g 4, 12, .inr (.inr (.inr (.inr q_85)))) → Kp g [0, 5, 6, 8, 10, 23, 24] f f_109 → (0 ≤ y_108.toInt) → lv_has ls 4 [(3, .int y_108), (2, .ref (gr g a_87 1)), (0, .ref h0), (1, .int p1)] → W p l e (headSpec wq_c_X11_finish ({ frames := 6, cells := 0, slots := 0, locals := 139 } : Room)).room s m ([.ref h0, .int p1].toArray) below meth c H locs 0 0 (MQ below (va_Qi (fun (r : Int32) (_ : Unit) => True) (fun (_ : Unit) t => ∃ f1 : Nat → va_E, Iv dC dI g A f1 t.heap ∧ Kp g [0, 5, 6, 8, 10, 23, 24] f f1) A) ([.ref h0, .int p1].toArray) s 0 0 A) (F0 m 57 ls []) := by
        intro nn
        induction nn with
        | zero => intro y_108 f_109 H locs ls m_115; exact absurd m_115 (Nat.not_lt_zero _)
        | succ nn ih =>
          intro y_108 f_109 H locs ls m_115 hI hS k_110 k_111 k_112 kp_113 t_114 hl
          have g_116 := Int32.toInt_lt y_108
          have g_117 := Int32.le_toInt y_108
          refine lv_iload_n hx hb dX11_finish_57 rfl (lv_at hl 0 rfl) ?_
          refine lv_sipush (v := 500) hx hb dX11_finish_58 (by decide) ?_
          refine lv_icmp_gt (tgt := 104) hx hb dX11_finish_61 (by decide) (fun c_118 => ?_) (fun c_118 => ?_)
          · have c_118 := kc_lt (by decide : Int32.toInt 500 = 500) rfl c_118
            refine lv_iconst (v := (-1)) hx hb dX11_finish_104 (by decide) ?_
            exact W.iret (v := (-1)) hx hb hr (fun t ht hW => ⟨⟨(-1), (), rfl, trivial, ⟨f_109, k_ret ht hI, kp_113⟩⟩, hS.F ht⟩) hS.2.2 dX11_finish_105
          · have c_118 := kn_lt (by decide : Int32.toInt 500 = 500) rfl c_118
            refine lv_aload_n hx hb dX11_finish_64 rfl (lv_at hl 2 rfl) ?_
            refine k_get (ci := 11) (v := .ref (gr g h0 4)) (C := RX11) (T := TX11) (N := 12) hx hb hts (fun _ h0_ => List.mem_cons_of_mem _ (List.mem_append_right _ (List.mem_append_left _ h0_))) hown hK hI i_h0.1 k_110 rfl 4 (by decide) (hts (.fieldLink RX11 41 "DeadlineShare" "paper" "LDeadlineShare$State;") (List.mem_cons_of_mem _ (List.mem_append_left _ (List.mem_of_getElem? (i := 11) rfl)))) (fun _ h9 => h9) rfl dX11_finish_65 ?_
            obtain ⟨x_122, x_123, x_124, x_125, x_126, k_121, b_127, b_128⟩ := op_6 hI i_55
            refine k_get (ci := 6) (v := .int x_123) (C := RX6) (T := TX6) (N := 10) hx hb hts (fun _ h0_ => List.mem_cons_of_mem _ (List.mem_append_right _ (List.mem_append_right _ (List.mem_append_right _ (List.mem_append_left _ h0_))))) hown hK hI i_55.1 k_121 rfl 6 (by decide) (hts (.fieldLink RX11 223 "DeadlineShare$State" "time" "I") (List.mem_cons_of_mem _ (List.mem_append_left _ (List.mem_of_getElem? (i := 15) rfl)))) (fun _ h9 => h9) rfl dX11_finish_68 ?_
            refine lv_sipush (v := 9999) hx hb dX11_finish_71 (by decide) ?_
            refine lv_icmp_ge (tgt := 104) hx hb dX11_finish_74 (by decide) (fun c_129 => ?_) (fun c_129 => ?_)
            · have c_129 := kc_le (by decide : Int32.toInt 9999 = 9999) rfl c_129
              refine lv_iconst (v := (-1)) hx hb dX11_finish_104 (by decide) ?_
              exact W.iret (v := (-1)) hx hb hr (fun t ht hW => ⟨⟨(-1), (), rfl, trivial, ⟨f_109, k_ret ht hI, kp_113⟩⟩, hS.F ht⟩) hS.2.2 dX11_finish_105
            · have c_129 := kn_le (by decide : Int32.toInt 9999 = 9999) rfl c_129
              refine lv_aload_n hx hb dX11_finish_77 rfl (lv_at hl 2 rfl) ?_
              refine k_get (ci := 11) (v := .ref (gr g h0 4)) (C := RX11) (T := TX11) (N := 12) hx hb hts (fun _ h0_ => List.mem_cons_of_mem _ (List.mem_append_right _ (List.mem_append_left _ h0_))) hown hK hI i_h0.1 k_110 rfl 4 (by decide) (hts (.fieldLink RX11 41 "DeadlineShare" "paper" "LDeadlineShare$State;") (List.mem_cons_of_mem _ (List.mem_append_left _ (List.mem_of_getElem? (i := 11) rfl)))) (fun _ h9 => h9) rfl dX11_finish_78 ?_
              refine lv_aload_n hx hb dX11_finish_81 rfl (lv_at hl 2 rfl) ?_
              refine k_get (ci := 11) (v := .ref (gr g h0 5)) (C := RX11) (T := TX11) (N := 12) hx hb hts (fun _ h0_ => List.mem_cons_of_mem _ (List.mem_append_right _ (List.mem_append_left _ h0_))) hown hK hI i_h0.1 k_110 rfl 5 (by decide) (hts (.fieldLink RX11 47 "DeadlineShare" "asTold" "LDeadlineShare$Chooser;") (List.mem_cons_of_mem _ (List.mem_append_left _ (List.mem_of_getElem? (i := 16) rfl)))) (fun _ h9 => h9) rfl dX11_finish_82 ?_
              have i_133 := kw_11_5 hG i_h0
              refine va_calli (va_runV (As := [.ref (gr g h0 5)]) (rest := []) ⟨hx, hb, hml, hown, hts⟩ (c_X6_tick l dC dI g A hG f_109 (gr g h0 4) (gr g h0 5) i_55 i_133) (cwV 1 hts (gi_V (fun w_ h0_ => ⟨List.mem_cons_of_mem _ (List.mem_append_right _ (List.mem_append_right _ (List.mem_append_right _ (List.mem_append_right _ (List.mem_append_right _ (List.mem_append_right _ (List.mem_append_right _ (List.mem_append_left _ h0_)))))))), (tb_c_X6_tick w_ h0_).2⟩) (List.mem_cons_of_mem _ (List.mem_append_left _ (List.mem_of_getElem? (i := 17) rfl))) (List.mem_cons_of_mem _ (List.mem_append_left _ (List.mem_of_getElem? (i := 18) rfl))) (List.mem_cons_of_mem _ (List.mem_append_left _ (List.mem_of_getElem? (i := 19) rfl))) (List.mem_cons_of_mem _ (List.mem_append_left _ (List.mem_of_getElem? (i := 4) rfl)))) rfl rfl rfl (by decide +kernel) ⟨Nat.le_of_ble_eq_true rfl, Nat.le_of_ble_eq_true rfl⟩) ⟨fun a U g mk q => ⟨q.1, q.2.calling rfl rfl⟩, k_recv hK hI i_55.1 k_121 (ci := 6) rfl, fun U hU hW => ⟨rfl, kIn.of hI hK hE hS hU hW⟩⟩ rfl rfl hl.1 rfl (lv_room (Nat.le_of_ble_eq_true rfl)) dX11_finish_85 ⟨Nat.le_of_ble_eq_true rfl, Nat.le_of_ble_eq_true rfl⟩) hS (fun q _ h => h) (fun q h => h) (fun r_136 u t H1 locs ht hvm w_135 hB hz1 hk1 hS => ?_)
              obtain ⟨f_134, hI, kc_137⟩ := hB
              rw [ht] at hI
              have k_138 : f_134 h0 = .inr (11, [.ref (gr g h0 0), .ref (gr g h0 1), .ref (gr g h0 2), .ref (gr g h0 3), .ref (gr g h0 4), .ref (gr g h0 5), .ref (gr g h0 6), .ref (gr g h0 7), .ref (gr g h0 8), .ref (gr g h0 9), .ref (gr g h0 10), .int x_2]) := Kp.at kc_137 i_h0 (by decide) k_110
              have k_139 : f_134 (gr g (gr g h0 3) 1) = .inl (gc g 4, 12, .inr (.inr (.inr (.inr q_21)))) := Kp.at kc_137 i_19 (by decide) k_111
              have k_140 : f_134 (gr g (gr g h0 4) 1) = .inl (gc g 4, 12, .inr (.inr (.inr (.inr q_85)))) := Kp.at kc_137 i_83 (by decide) k_112
              have kp_141 := Kp.call kp_113 kc_137 (by decide)
              generalize H1 = H at hI hS ⊢
              refine W.widen (k := 0) (n := 0) (Nat.le_of_ble_eq_true rfl) (Nat.le_of_ble_eq_true rfl) ?_
              refine lv_pop hx hb dX11_finish_88 rfl ?_
              refine lv_aload_n hx hb dX11_finish_89 rfl (lv_at hl 1 rfl) ?_
              obtain ⟨x_143, x_144, x_145, x_146, k_142, b_147, b_148⟩ := op_5 hI i_107
              refine va_calli (va_runV (As := []) (rest := []) ⟨hx, hb, hml, hown, hts⟩ (c_X5_isThere l dC dI g A hG f_134 (gr g a_87 1) i_107) (cwV 0 hts (gi_V (fun w_ h0_ => ⟨List.mem_cons_of_mem _ (List.mem_append_right _ (List.mem_append_right _ (List.mem_append_right _ (List.mem_append_right _ (List.mem_append_right _ (List.mem_append_left _ h0_)))))), (tb_c_X5_isThere w_ h0_).2⟩) (List.mem_cons_of_mem _ (List.mem_append_left _ (List.mem_of_getElem? (i := 7) rfl))) (List.mem_cons_of_mem _ (List.mem_append_left _ (List.mem_of_getElem? (i := 8) rfl))) (List.mem_cons_of_mem _ (List.mem_append_left _ (List.mem_of_getElem? (i := 9) rfl))) (List.mem_cons_of_mem _ (List.mem_append_left _ (List.mem_of_getElem? (i := 10) rfl)))) rfl rfl rfl (by decide +kernel) ⟨Nat.le_of_ble_eq_true rfl, Nat.le_of_ble_eq_true rfl⟩) ⟨fun a U g mk q => ⟨q.1, q.2.calling rfl rfl⟩, k_recv hK hI i_107.1 k_142 (ci := 5) rfl, fun U hU hW => ⟨rfl, kIn.of hI hK hE hS hU hW⟩⟩ rfl rfl hl.1 rfl (lv_room (Nat.le_of_ble_eq_true rfl)) dX11_finish_90 ⟨Nat.le_of_ble_eq_true rfl, Nat.le_of_ble_eq_true rfl⟩) hS (fun q _ h => h) (fun q h => h) (fun r_150 u t H1 locs ht hvm w_149 hB hz1 hk1 hS => ?_)
              have hI : Iv dC dI g A f_134 t.heap := hB
              rw [ht] at hI
              generalize H1 = H at hI hS ⊢
              refine W.widen (k := 0) (n := 0) (Nat.le_of_ble_eq_true rfl) (Nat.le_of_ble_eq_true rfl) ?_
              refine lv_if_ne (tgt := 98) hx hb dX11_finish_93 (by decide) (fun c_151 => ?_) (fun c_151 => ?_)
              · have c_151 := kn_eq rfl (by decide : Int32.toInt 0 = 0) c_151
                obtain ⟨v_152, ev_152⟩ : ∃ y : Int32, y = y_108 + Int32.ofInt 1 := ⟨_, rfl⟩
                refine lv_iinc (v := v_152) (lv' := [(3, .int v_152), (2, .ref (gr g a_87 1)), (0, .ref h0), (1, .int p1)]) hx hb dX11_finish_98 hl (k := 0) rfl ev_152.symm (by decide) rfl (fun ls hl => ?_)
                have tv_152 := k_inc y_108
                rw [← ev_152] at tv_152
                refine lv_goto (tgt := 57) hx hb dX11_finish_101 (by decide) ?_
                exact ih v_152 f_134 _ _ _ (by omega) hI hS k_138 k_139 k_140 kp_141 (by first | omega | decide) (lv_sub hl [0, 1, 2, 3] rfl)
              · have c_151 := kc_eq rfl (by decide : Int32.toInt 0 = 0) c_151
                refine lv_iload_n hx hb dX11_finish_96 rfl (lv_at hl 0 rfl) ?_
                exact W.iret (v := y_108) hx hb hr (fun t ht hW => ⟨⟨y_108, (), rfl, trivial, ⟨f_134, k_ret ht hI, kp_141⟩⟩, hS.F ht⟩) hS.2.2 dX11_finish_97
      exact K_57 _ 1 f_66 _ _ _ (Nat.lt_succ_self _) hI hS k_69 k_70 k_84 kp_71 (by first | omega | decide | (simp only [show Int32.toInt 1 = 1 from by decide]; omega)) (lv_sub hl [0, 1, 2, 3] rfl)
    · have c_53 := kc_eq rfl (by decide : Int32.toInt 0 = 0) c_53
      refine lv_iconst (v := (-1)) hx hb dX11_finish_29 (by decide) ?_
      exact W.iret (v := (-1)) hx hb hr (fun t ht hW => ⟨⟨(-1), (), rfl, trivial, ⟨f, k_ret ht hI, hk0⟩⟩, hS.F ht⟩) hS.2.2 dX11_finish_30
theorem tw_689 : q_g (.fieldLink RX11 317 "DeadlineShare$Task" "requests" "I") := ⟨(List.mem_append_right _ (List.mem_of_getElem? (i := 177) (by decide +kernel))), good_of_word (by decide +kernel)⟩
theorem tw_690 : q_g (.code yX11_due cX11_due 5 (some .int)) := ⟨(List.mem_append_right _ (List.mem_of_getElem? (i := 1037) (by decide +kernel))), good_of_word (by decide +kernel)⟩
def ow_c_X11_due : List Cond := [.fieldLink RX11 37 "DeadlineShare" "now" "LDeadlineShare$State;", .methodLink RX11 130 yX6_has, .instanceMethod yX6_has, .selects RX6 yX6_has yX6_has, .initialized RX6, .fieldLink RX11 41 "DeadlineShare" "paper" "LDeadlineShare$State;", .methodLink RX11 238 yX6_copy, .instanceMethod yX6_copy, .selects RX6 yX6_copy yX6_copy, .fieldLink RX11 133 "DeadlineShare$State" "tasks" "[LDeadlineShare$Task;", .fieldLink RX11 317 "DeadlineShare$Task" "requests" "I", .fieldLink RX11 223 "DeadlineShare$State" "time" "I", .fieldLink RX11 47 "DeadlineShare" "asTold" "LDeadlineShare$Chooser;", .methodLink RX11 226 yX6_tick, .instanceMethod yX6_tick, .selects RX6 yX6_tick yX6_tick]
def wq_c_X11_due : List Cond := .code yX11_due cX11_due 5 (some .int) :: (ow_c_X11_due ++ (u_ws RX11 TX11 12 ++ (wq_c_X6_has ++ (wq_c_X6_copy ++ (u_ws RX6 TX6 10 ++ (u_ws RX8 TX8 18 ++ (wq_c_X6_tick ++ ([] : List Cond))))))))
theorem tb_c_X11_due : ∀ w ∈ wq_c_X11_due, q_g w := by
  unfold wq_c_X11_due ow_c_X11_due
  exact q_cons tw_690 (q_app (q_cons tw_558 (q_cons tw_571 (q_cons tw_74 (q_cons tw_73 (q_cons tw_47 (q_cons tw_683 (q_cons tw_626 (q_cons tw_160 (q_cons tw_159 (q_cons tw_570 (q_cons tw_689 (q_cons tw_617 (q_cons tw_616 (q_cons tw_615 (q_cons tw_614 (q_cons tw_613 q_nil)))))))))))))))) (q_app tu_X11 (q_app tb_c_X6_has (q_app tb_c_X6_copy (q_app tu_X6 (q_app tu_X8 (q_app tb_c_X6_tick q_nil)))))))
set_option maxHeartbeats 4000000 in
set_option maxRecDepth 100000 in
theorem c_X11_due (l : Launch) (dC : Nat → ClassId) (dI : Nat → Nat → Nat) (g : kG) (A : Nat → Prop) (hG : kWf g) (f : Nat → va_E) (h0 : Nat) (p1 : Int32) (i_h0 : ik g 11 h0) : Met l yX11_due wq_c_X11_due ({ frames := 6, cells := 0, slots := 0, locals := 139 } : Room) (va_Pc [.ref h0, .int p1] (fun U => kIn dC dI g A f U)) (va_Qi (fun (r : Int32) (_ : Unit) => True) (fun (_ : Unit) t => ∃ f1 : Nat → va_E, Iv dC dI g A f1 t.heap ∧ Kp g [0, 5, 6, 8, 10, 23, 24] f f1) A) 0 0 A := by
  refine Met.ofW (cc := cX11_due) (maxL := 5) (ret := (some .int)) (by decide) rfl ?_
  intro p e s m args below meth c s₁ B hml hv
  obtain ⟨rfl, hI, hK, hE⟩ := hv
  have hx := B.exec
  have hb := B.bytes
  have hr := B.returns
  have hts := atoms_spec (ws := wq_c_X11_due) B.pre
  have hown : s.vm.findClass RX11 = some m.cls := findClass_of_methodNamed B.named
  have hlocks := B.notSynchronized
  have hS : va_S A s.heap s.heap [] := va_S.rf
  have hk0 : Kp g [0, 5, 6, 8, 10, 23, 24] f f := Kp.rf
  have hl := lv_entry ([.ref h0, .int p1]) (n := 5) (Nat.le_of_ble_eq_true rfl)
  rw [lg_entry_eq]
  generalize (lg_sl ([.ref h0, .int p1]) ++ List.replicate (5 - (lg_sl ([.ref h0, .int p1])).length) Slot.unset).toArray = ls at hl ⊢
  have hl : lv_has ls 5 [(0, .ref h0), (1, .int p1)] := hl
  refine lv_aload_n hx hb dX11_due_0 rfl (lv_at hl 0 rfl) ?_
  obtain ⟨x_2, k_1⟩ := op_11 hI i_h0
  refine k_get (ci := 11) (v := .ref (gr g h0 3)) (C := RX11) (T := TX11) (N := 12) hx hb hts (fun _ h0_ => List.mem_cons_of_mem _ (List.mem_append_right _ (List.mem_append_left _ h0_))) hown hK hI i_h0.1 k_1 rfl 3 (by decide) (hts (.fieldLink RX11 37 "DeadlineShare" "now" "LDeadlineShare$State;") (List.mem_cons_of_mem _ (List.mem_append_left _ (List.mem_of_getElem? (i := 0) rfl)))) (fun _ h9 => h9) rfl dX11_due_1 ?_
  have i_4 := kw_11_3 hG i_h0
  refine lv_iload_n hx hb dX11_due_4 rfl (lv_at hl 1 rfl) ?_
  obtain ⟨x_6, x_7, x_8, x_9, x_10, k_5, b_11, b_12⟩ := op_6 hI i_4
  refine va_calli (va_runV (As := [.int p1]) (rest := []) ⟨hx, hb, hml, hown, hts⟩ (c_X6_has l dC dI g A hG f (gr g h0 3) p1 i_4) (cwV 1 hts (gi_V (fun w_ h0_ => ⟨List.mem_cons_of_mem _ (List.mem_append_right _ (List.mem_append_right _ (List.mem_append_left _ h0_))), (tb_c_X6_has w_ h0_).2⟩) (List.mem_cons_of_mem _ (List.mem_append_left _ (List.mem_of_getElem? (i := 1) rfl))) (List.mem_cons_of_mem _ (List.mem_append_left _ (List.mem_of_getElem? (i := 2) rfl))) (List.mem_cons_of_mem _ (List.mem_append_left _ (List.mem_of_getElem? (i := 3) rfl))) (List.mem_cons_of_mem _ (List.mem_append_left _ (List.mem_of_getElem? (i := 4) rfl)))) rfl rfl rfl (by decide +kernel) ⟨Nat.le_of_ble_eq_true rfl, Nat.le_of_ble_eq_true rfl⟩) ⟨fun a U g mk q => ⟨q.1, q.2.calling rfl rfl⟩, k_recv hK hI i_4.1 k_5 (ci := 6) rfl, fun U hU hW => ⟨rfl, kIn.of hI hK hE hS hU hW⟩⟩ rfl rfl hl.1 rfl (lv_room (Nat.le_of_ble_eq_true rfl)) dX11_due_5 ⟨Nat.le_of_ble_eq_true rfl, Nat.le_of_ble_eq_true rfl⟩) hS (fun q _ h => h) (fun q h => h) (fun r_14 u t H1 locs ht hvm w_13 hB hz1 hk1 hS => ?_)
  have hI : Iv dC dI g A f t.heap := hB
  rw [ht] at hI
  generalize H1 = H at hI hS ⊢
  refine W.widen (k := 0) (n := 0) (Nat.le_of_ble_eq_true rfl) (Nat.le_of_ble_eq_true rfl) ?_
  have w_13 : r_14.toInt = 0 ∨ (0 ≤ p1.toInt ∧ p1.toInt < 12) := w_13
  refine lv_if_ne (tgt := 13) hx hb dX11_due_8 (by decide) (fun c_15 => ?_) (fun c_15 => ?_)
  · have c_15 := kn_eq rfl (by decide : Int32.toInt 0 = 0) c_15
    refine lv_aload_n hx hb dX11_due_13 rfl (lv_at hl 0 rfl) ?_
    refine k_get (ci := 11) (v := .ref (gr g h0 4)) (C := RX11) (T := TX11) (N := 12) hx hb hts (fun _ h0_ => List.mem_cons_of_mem _ (List.mem_append_right _ (List.mem_append_left _ h0_))) hown hK hI i_h0.1 k_1 rfl 4 (by decide) (hts (.fieldLink RX11 41 "DeadlineShare" "paper" "LDeadlineShare$State;") (List.mem_cons_of_mem _ (List.mem_append_left _ (List.mem_of_getElem? (i := 5) rfl)))) (fun _ h9 => h9) rfl dX11_due_14 ?_
    have i_17 := kw_11_4 hG i_h0
    refine lv_aload_n hx hb dX11_due_17 rfl (lv_at hl 0 rfl) ?_
    refine k_get (ci := 11) (v := .ref (gr g h0 3)) (C := RX11) (T := TX11) (N := 12) hx hb hts (fun _ h0_ => List.mem_cons_of_mem _ (List.mem_append_right _ (List.mem_append_left _ h0_))) hown hK hI i_h0.1 k_1 rfl 3 (by decide) (hts (.fieldLink RX11 37 "DeadlineShare" "now" "LDeadlineShare$State;") (List.mem_cons_of_mem _ (List.mem_append_left _ (List.mem_of_getElem? (i := 0) rfl)))) (fun _ h9 => h9) rfl dX11_due_18 ?_
    obtain ⟨x_21, x_22, x_23, x_24, x_25, k_20, b_26, b_27⟩ := op_6 hI i_17
    refine va_callv (va_runV (As := [.ref (gr g h0 3)]) (rest := []) ⟨hx, hb, hml, hown, hts⟩ (c_X6_copy l dC dI g A hG f (gr g h0 4) (gr g h0 3) i_17 i_4) (cwV 1 hts (gi_V (fun w_ h0_ => ⟨List.mem_cons_of_mem _ (List.mem_append_right _ (List.mem_append_right _ (List.mem_append_right _ (List.mem_append_left _ h0_)))), (tb_c_X6_copy w_ h0_).2⟩) (List.mem_cons_of_mem _ (List.mem_append_left _ (List.mem_of_getElem? (i := 6) rfl))) (List.mem_cons_of_mem _ (List.mem_append_left _ (List.mem_of_getElem? (i := 7) rfl))) (List.mem_cons_of_mem _ (List.mem_append_left _ (List.mem_of_getElem? (i := 8) rfl))) (List.mem_cons_of_mem _ (List.mem_append_left _ (List.mem_of_getElem? (i := 4) rfl)))) rfl rfl rfl (by decide +kernel) ⟨Nat.le_of_ble_eq_true rfl, Nat.le_of_ble_eq_true rfl⟩) ⟨fun a U g mk q => ⟨q.1, q.2.calling rfl rfl⟩, k_recv hK hI i_17.1 k_20 (ci := 6) rfl, fun U hU hW => ⟨rfl, kIn.of hI hK hE hS hU hW⟩⟩ rfl rfl hl.1 rfl (lv_room (Nat.le_of_ble_eq_true rfl)) dX11_due_21 ⟨Nat.le_of_ble_eq_true rfl, Nat.le_of_ble_eq_true rfl⟩) hS (fun q _ h => h) (fun q h => h) (fun u t H1 locs ht hvm _ hB hz1 hk1 hS => ?_)
    obtain ⟨f_28, hI, kc_30⟩ := hB
    rw [ht] at hI
    have k_31 : f_28 h0 = .inr (11, [.ref (gr g h0 0), .ref (gr g h0 1), .ref (gr g h0 2), .ref (gr g h0 3), .ref (gr g h0 4), .ref (gr g h0 5), .ref (gr g h0 6), .ref (gr g h0 7), .ref (gr g h0 8), .ref (gr g h0 9), .ref (gr g h0 10), .int x_2]) := Kp.at kc_30 i_h0 (by decide) k_1
    have kp_32 := Kp.call hk0 kc_30 (by decide)
    generalize H1 = H at hI hS ⊢
    refine W.widen (k := 0) (n := 0) (Nat.le_of_ble_eq_true rfl) (Nat.le_of_ble_eq_true rfl) ?_
    refine lv_aload_n hx hb dX11_due_24 rfl (lv_at hl 0 rfl) ?_
    refine k_get (ci := 11) (v := .ref (gr g h0 4)) (C := RX11) (T := TX11) (N := 12) hx hb hts (fun _ h0_ => List.mem_cons_of_mem _ (List.mem_append_right _ (List.mem_append_left _ h0_))) hown hK hI i_h0.1 k_31 rfl 4 (by decide) (hts (.fieldLink RX11 41 "DeadlineShare" "paper" "LDeadlineShare$State;") (List.mem_cons_of_mem _ (List.mem_append_left _ (List.mem_of_getElem? (i := 5) rfl)))) (fun _ h9 => h9) rfl dX11_due_25 ?_
    obtain ⟨x_36, x_37, x_38, x_39, x_40, k_35, b_41, b_42⟩ := op_6 hI i_17
    refine k_get (ci := 6) (v := .ref (gr g (gr g h0 4) 1)) (C := RX6) (T := TX6) (N := 10) hx hb hts (fun _ h0_ => List.mem_cons_of_mem _ (List.mem_append_right _ (List.mem_append_right _ (List.mem_append_right _ (List.mem_append_right _ (List.mem_append_left _ h0_)))))) hown hK hI i_17.1 k_35 rfl 1 (by decide) (hts (.fieldLink RX11 133 "DeadlineShare$State" "tasks" "[LDeadlineShare$Task;") (List.mem_cons_of_mem _ (List.mem_append_left _ (List.mem_of_getElem? (i := 9) rfl)))) (fun _ h9 => h9) rfl dX11_due_28 ?_
    have i_44 := kw_6_1 hG i_17
    refine lv_iload_n hx hb dX11_due_31 rfl (lv_at hl 1 rfl) ?_
    obtain ⟨q_46, k_45, b_47⟩ := op_20 hI i_44
    refine k_aald hx hb hK hI i_44.1 4 k_45 rfl (vp_in_iff.mpr (by omega)) b_47 (fun _ hj => kw_20 hG i_44 hj) dX11_due_32 (fun a_48 i_49 => ?_)
    refine lv_astore_n (lv' := [(2, .ref a_48), (0, .ref h0), (1, .int p1)]) hx hb dX11_due_33 rfl hl (by decide) rfl (fun ls hl => ?_)
    refine lv_aload_n hx hb dX11_due_34 rfl (lv_at hl 0 rfl) ?_
    obtain ⟨x_51, x_52, x_53, x_54, x_55, x_56, x_57, x_58, x_59, x_60, x_61, x_62, x_63, x_64, x_65, x_66, k_50⟩ := op_8 hI i_49
    refine k_get (ci := 8) (v := .int x_59) (C := RX8) (T := TX8) (N := 18) hx hb hts (fun _ h0_ => List.mem_cons_of_mem _ (List.mem_append_right _ (List.mem_append_right _ (List.mem_append_right _ (List.mem_append_right _ (List.mem_append_right _ (List.mem_append_left _ h0_))))))) hown hK hI i_49.1 k_50 rfl 10 (by decide) (hts (.fieldLink RX11 317 "DeadlineShare$Task" "requests" "I") (List.mem_cons_of_mem _ (List.mem_append_left _ (List.mem_of_getElem? (i := 10) rfl)))) (fun _ h9 => h9) rfl dX11_due_35 ?_
    refine lv_istore_n (lv' := [(3, .int x_59), (2, .ref a_48), (0, .ref h0), (1, .int p1)]) hx hb dX11_due_38 rfl hl (by decide) rfl (fun ls hl => ?_)
    refine lv_iconst (v := 1) hx hb dX11_due_39 (by decide) ?_
    refine lv_istore (lv' := [(4, .int 1), (3, .int x_59), (2, .ref a_48), (0, .ref h0), (1, .int p1)]) hx hb dX11_due_40 hl (by decide) rfl (fun ls hl => ?_)
    have K_42 : ∀ (nn : Nat) (y_67 : Int32) (f_68 : Nat → va_E) (H : Heap) (locs : List Loc) (ls : Array Slot), (501 - y_67.toInt).toNat < nn → Iv dC dI g A f_68 H → va_S A s.heap H locs → f_68 h0 = .inr (11, [.ref (gr g h0 0), .ref (gr g h0 1), .ref (gr g h0 2), .ref (gr g h0 3), .ref (gr g h0 4), .ref (gr g h0 5), .ref (gr g h0 6), .ref (gr g h0 7), .ref (gr g h0 8), .ref (gr g h0 9), .ref (gr g h0 10), .int x_2]) → f_68 (gr g (gr g h0 4) 1) = .inl (gc g 4, 12, .inr (.inr (.inr (.inr q_46)))) → Kp g [0, 5, 6, 8, 10, 23, 24] f f_68 → (0 ≤ y_67.toInt) → lv_has ls 5 [(4, .int y_67), (3, .int x_59), (2, .ref a_48), (0, .ref h0), (1, .int p1)] → W p l e (headSpec wq_c_X11_due ({ frames := 6, cells := 0, slots := 0, locals := 139 } : Room)).room s m ([.ref h0, .int p1].toArray) below meth c H locs 0 0 (MQ below (va_Qi (fun (r : Int32) (_ : Unit) => True) (fun (_ : Unit) t => ∃ f1 : Nat → va_E, Iv dC dI g A f1 t.heap ∧ Kp g [0, 5, 6, 8, 10, 23, 24] f f1) A) ([.ref h0, .int p1].toArray) s 0 0 A) (F0 m 42 ls []) := by
      intro nn
      induction nn with
      | zero => intro y_67 f_68 H locs ls m_73; exact absurd m_73 (Nat.not_lt_zero _)
      | succ nn ih =>
        intro y_67 f_68 H locs ls m_73 hI hS k_69 k_70 kp_71 t_72 hl
        have g_74 := Int32.toInt_lt y_67
        have g_75 := Int32.le_toInt y_67
        refine lv_iload hx hb dX11_due_42 (lv_at hl 0 rfl) ?_
        refine lv_sipush (v := 500) hx hb dX11_due_44 (by decide) ?_
        refine lv_icmp_gt (tgt := 92) hx hb dX11_due_47 (by decide) (fun c_76 => ?_) (fun c_76 => ?_)
        · have c_76 := kc_lt (by decide : Int32.toInt 500 = 500) rfl c_76
          refine lv_iconst (v := (-1)) hx hb dX11_due_92 (by decide) ?_
          exact W.iret (v := (-1)) hx hb hr (fun t ht hW => ⟨⟨(-1), (), rfl, trivial, ⟨f_68, k_ret ht hI, kp_71⟩⟩, hS.F ht⟩) hS.2.2 dX11_due_93
        · have c_76 := kn_lt (by decide : Int32.toInt 500 = 500) rfl c_76
          refine lv_aload_n hx hb dX11_due_50 rfl (lv_at hl 3 rfl) ?_
          refine k_get (ci := 11) (v := .ref (gr g h0 4)) (C := RX11) (T := TX11) (N := 12) hx hb hts (fun _ h0_ => List.mem_cons_of_mem _ (List.mem_append_right _ (List.mem_append_left _ h0_))) hown hK hI i_h0.1 k_69 rfl 4 (by decide) (hts (.fieldLink RX11 41 "DeadlineShare" "paper" "LDeadlineShare$State;") (List.mem_cons_of_mem _ (List.mem_append_left _ (List.mem_of_getElem? (i := 5) rfl)))) (fun _ h9 => h9) rfl dX11_due_51 ?_
          obtain ⟨x_80, x_81, x_82, x_83, x_84, k_79, b_85, b_86⟩ := op_6 hI i_17
          refine k_get (ci := 6) (v := .int x_81) (C := RX6) (T := TX6) (N := 10) hx hb hts (fun _ h0_ => List.mem_cons_of_mem _ (List.mem_append_right _ (List.mem_append_right _ (List.mem_append_right _ (List.mem_append_right _ (List.mem_append_left _ h0_)))))) hown hK hI i_17.1 k_79 rfl 6 (by decide) (hts (.fieldLink RX11 223 "DeadlineShare$State" "time" "I") (List.mem_cons_of_mem _ (List.mem_append_left _ (List.mem_of_getElem? (i := 11) rfl)))) (fun _ h9 => h9) rfl dX11_due_54 ?_
          refine lv_sipush (v := 9999) hx hb dX11_due_57 (by decide) ?_
          refine lv_icmp_ge (tgt := 92) hx hb dX11_due_60 (by decide) (fun c_87 => ?_) (fun c_87 => ?_)
          · have c_87 := kc_le (by decide : Int32.toInt 9999 = 9999) rfl c_87
            refine lv_iconst (v := (-1)) hx hb dX11_due_92 (by decide) ?_
            exact W.iret (v := (-1)) hx hb hr (fun t ht hW => ⟨⟨(-1), (), rfl, trivial, ⟨f_68, k_ret ht hI, kp_71⟩⟩, hS.F ht⟩) hS.2.2 dX11_due_93
          · have c_87 := kn_le (by decide : Int32.toInt 9999 = 9999) rfl c_87
            refine lv_aload_n hx hb dX11_due_63 rfl (lv_at hl 3 rfl) ?_
            refine k_get (ci := 11) (v := .ref (gr g h0 4)) (C := RX11) (T := TX11) (N := 12) hx hb hts (fun _ h0_ => List.mem_cons_of_mem _ (List.mem_append_right _ (List.mem_append_left _ h0_))) hown hK hI i_h0.1 k_69 rfl 4 (by decide) (hts (.fieldLink RX11 41 "DeadlineShare" "paper" "LDeadlineShare$State;") (List.mem_cons_of_mem _ (List.mem_append_left _ (List.mem_of_getElem? (i := 5) rfl)))) (fun _ h9 => h9) rfl dX11_due_64 ?_
            refine lv_aload_n hx hb dX11_due_67 rfl (lv_at hl 3 rfl) ?_
            refine k_get (ci := 11) (v := .ref (gr g h0 5)) (C := RX11) (T := TX11) (N := 12) hx hb hts (fun _ h0_ => List.mem_cons_of_mem _ (List.mem_append_right _ (List.mem_append_left _ h0_))) hown hK hI i_h0.1 k_69 rfl 5 (by decide) (hts (.fieldLink RX11 47 "DeadlineShare" "asTold" "LDeadlineShare$Chooser;") (List.mem_cons_of_mem _ (List.mem_append_left _ (List.mem_of_getElem? (i := 12) rfl)))) (fun _ h9 => h9) rfl dX11_due_68 ?_
            have i_91 := kw_11_5 hG i_h0
            refine va_calli (va_runV (As := [.ref (gr g h0 5)]) (rest := []) ⟨hx, hb, hml, hown, hts⟩ (c_X6_tick l dC dI g A hG f_68 (gr g h0 4) (gr g h0 5) i_17 i_91) (cwV 1 hts (gi_V (fun w_ h0_ => ⟨List.mem_cons_of_mem _ (List.mem_append_right _ (List.mem_append_right _ (List.mem_append_right _ (List.mem_append_right _ (List.mem_append_right _ (List.mem_append_right _ (List.mem_append_left _ h0_))))))), (tb_c_X6_tick w_ h0_).2⟩) (List.mem_cons_of_mem _ (List.mem_append_left _ (List.mem_of_getElem? (i := 13) rfl))) (List.mem_cons_of_mem _ (List.mem_append_left _ (List.mem_of_getElem? (i := 14) rfl))) (List.mem_cons_of_mem _ (List.mem_append_left _ (List.mem_of_getElem? (i := 15) rfl))) (List.mem_cons_of_mem _ (List.mem_append_left _ (List.mem_of_getElem? (i := 4) rfl)))) rfl rfl rfl (by decide +kernel) ⟨Nat.le_of_ble_eq_true rfl, Nat.le_of_ble_eq_true rfl⟩) ⟨fun a U g mk q => ⟨q.1, q.2.calling rfl rfl⟩, k_recv hK hI i_17.1 k_79 (ci := 6) rfl, fun U hU hW => ⟨rfl, kIn.of hI hK hE hS hU hW⟩⟩ rfl rfl hl.1 rfl (lv_room (Nat.le_of_ble_eq_true rfl)) dX11_due_71 ⟨Nat.le_of_ble_eq_true rfl, Nat.le_of_ble_eq_true rfl⟩) hS (fun q _ h => h) (fun q h => h) (fun r_94 u t H1 locs ht hvm w_93 hB hz1 hk1 hS => ?_)
            obtain ⟨f_92, hI, kc_95⟩ := hB
            rw [ht] at hI
            have k_96 : f_92 h0 = .inr (11, [.ref (gr g h0 0), .ref (gr g h0 1), .ref (gr g h0 2), .ref (gr g h0 3), .ref (gr g h0 4), .ref (gr g h0 5), .ref (gr g h0 6), .ref (gr g h0 7), .ref (gr g h0 8), .ref (gr g h0 9), .ref (gr g h0 10), .int x_2]) := Kp.at kc_95 i_h0 (by decide) k_69
            have k_97 : f_92 (gr g (gr g h0 4) 1) = .inl (gc g 4, 12, .inr (.inr (.inr (.inr q_46)))) := Kp.at kc_95 i_44 (by decide) k_70
            have kp_98 := Kp.call kp_71 kc_95 (by decide)
            generalize H1 = H at hI hS ⊢
            refine W.widen (k := 0) (n := 0) (Nat.le_of_ble_eq_true rfl) (Nat.le_of_ble_eq_true rfl) ?_
            refine lv_pop hx hb dX11_due_74 rfl ?_
            refine lv_aload_n hx hb dX11_due_75 rfl (lv_at hl 2 rfl) ?_
            obtain ⟨x_100, x_101, x_102, x_103, x_104, x_105, x_106, x_107, x_108, x_109, x_110, x_111, x_112, x_113, x_114, x_115, k_99⟩ := op_8 hI i_49
            refine k_get (ci := 8) (v := .int x_108) (C := RX8) (T := TX8) (N := 18) hx hb hts (fun _ h0_ => List.mem_cons_of_mem _ (List.mem_append_right _ (List.mem_append_right _ (List.mem_append_right _ (List.mem_append_right _ (List.mem_append_right _ (List.mem_append_left _ h0_))))))) hown hK hI i_49.1 k_99 rfl 10 (by decide) (hts (.fieldLink RX11 317 "DeadlineShare$Task" "requests" "I") (List.mem_cons_of_mem _ (List.mem_append_left _ (List.mem_of_getElem? (i := 10) rfl)))) (fun _ h9 => h9) rfl dX11_due_76 ?_
            refine lv_iload_n hx hb dX11_due_79 rfl (lv_at hl 1 rfl) ?_
            refine lv_icmp_le (tgt := 86) hx hb dX11_due_80 (by decide) (fun c_116 => ?_) (fun c_116 => ?_)
            · have c_116 := kc_le rfl rfl c_116
              obtain ⟨v_117, ev_117⟩ : ∃ y : Int32, y = y_67 + Int32.ofInt 1 := ⟨_, rfl⟩
              refine lv_iinc (v := v_117) (lv' := [(4, .int v_117), (3, .int x_59), (2, .ref a_48), (0, .ref h0), (1, .int p1)]) hx hb dX11_due_86 hl (k := 0) rfl ev_117.symm (by decide) rfl (fun ls hl => ?_)
              have tv_117 := k_inc y_67
              rw [← ev_117] at tv_117
              refine lv_goto (tgt := 42) hx hb dX11_due_89 (by decide) ?_
              exact ih v_117 f_92 _ _ _ (by omega) hI hS k_96 k_97 kp_98 (by first | omega | decide) (lv_sub hl [0, 1, 2, 3, 4] rfl)
            · have c_116 := kn_le rfl rfl c_116
              refine lv_iload hx hb dX11_due_83 (lv_at hl 0 rfl) ?_
              exact W.iret (v := y_67) hx hb hr (fun t ht hW => ⟨⟨y_67, (), rfl, trivial, ⟨f_92, k_ret ht hI, kp_98⟩⟩, hS.F ht⟩) hS.2.2 dX11_due_85
    exact K_42 _ 1 f_28 _ _ _ (Nat.lt_succ_self _) hI hS k_31 k_45 kp_32 (by first | omega | decide | (simp only [show Int32.toInt 1 = 1 from by decide]; omega)) (lv_sub hl [0, 1, 2, 3, 4] rfl)
  · have c_15 := kc_eq rfl (by decide : Int32.toInt 0 = 0) c_15
    refine lv_iconst (v := (-1)) hx hb dX11_due_11 (by decide) ?_
    exact W.iret (v := (-1)) hx hb hr (fun t ht hW => ⟨⟨(-1), (), rfl, trivial, ⟨f, k_ret ht hI, hk0⟩⟩, hS.F ht⟩) hS.2.2 dX11_due_12
theorem tw_691 : q_g (.code yX11_ticksWithWeight cX11_ticksWithWeight 7 (some .int)) := ⟨(List.mem_append_right _ (List.mem_of_getElem? (i := 1045) (by decide +kernel))), good_of_word (by decide +kernel)⟩
def ow_c_X11_ticksWithWeight : List Cond := [.fieldLink RX11 41 "DeadlineShare" "paper" "LDeadlineShare$State;", .fieldLink RX11 37 "DeadlineShare" "now" "LDeadlineShare$State;", .methodLink RX11 238 yX6_copy, .instanceMethod yX6_copy, .selects RX6 yX6_copy yX6_copy, .initialized RX6, .fieldLink RX11 133 "DeadlineShare$State" "tasks" "[LDeadlineShare$Task;", .fieldLink RX11 145 "DeadlineShare$Task" "weight" "I", .fieldLink RX11 47 "DeadlineShare" "asTold" "LDeadlineShare$Chooser;", .methodLink RX11 226 yX6_tick, .instanceMethod yX6_tick, .selects RX6 yX6_tick yX6_tick, .methodLink RX11 179 yX6_weighAnew, .instanceMethod yX6_weighAnew, .selects RX6 yX6_weighAnew yX6_weighAnew]
def wq_c_X11_ticksWithWeight : List Cond := .code yX11_ticksWithWeight cX11_ticksWithWeight 7 (some .int) :: (ow_c_X11_ticksWithWeight ++ (u_ws RX11 TX11 12 ++ (wq_c_X6_copy ++ (u_ws RX6 TX6 10 ++ (u_ws RX8 TX8 18 ++ (wq_c_X6_tick ++ (wq_c_X6_weighAnew ++ ([] : List Cond))))))))
theorem tb_c_X11_ticksWithWeight : ∀ w ∈ wq_c_X11_ticksWithWeight, q_g w := by
  unfold wq_c_X11_ticksWithWeight ow_c_X11_ticksWithWeight
  exact q_cons tw_691 (q_app (q_cons tw_683 (q_cons tw_558 (q_cons tw_626 (q_cons tw_160 (q_cons tw_159 (q_cons tw_47 (q_cons tw_570 (q_cons tw_567 (q_cons tw_616 (q_cons tw_615 (q_cons tw_614 (q_cons tw_613 (q_cons tw_578 (q_cons tw_411 (q_cons tw_410 q_nil))))))))))))))) (q_app tu_X11 (q_app tb_c_X6_copy (q_app tu_X6 (q_app tu_X8 (q_app tb_c_X6_tick (q_app tb_c_X6_weighAnew q_nil)))))))
set_option maxHeartbeats 4000000 in
set_option maxRecDepth 100000 in
theorem c_X11_ticksWithWeight (l : Launch) (dC : Nat → ClassId) (dI : Nat → Nat → Nat) (g : kG) (A : Nat → Prop) (hG : kWf g) (f : Nat → va_E) (h0 : Nat) (p1 : Int32) (p2 : Int32) (p3 : Int32) (i_h0 : ik g 11 h0) (hp1 : 0 ≤ p1.toInt ∧ p1.toInt < 12) : Met l yX11_ticksWithWeight wq_c_X11_ticksWithWeight ({ frames := 6, cells := 0, slots := 0, locals := 139 } : Room) (va_Pc [.ref h0, .int p1, .int p2, .int p3] (fun U => kIn dC dI g A f U)) (va_Qi (fun (r : Int32) (_ : Unit) => True) (fun (_ : Unit) t => ∃ f1 : Nat → va_E, Iv dC dI g A f1 t.heap ∧ Kp g [0, 5, 6, 8, 10, 23, 24] f f1) A) 0 0 A := by
  refine Met.ofW (cc := cX11_ticksWithWeight) (maxL := 7) (ret := (some .int)) (by decide) rfl ?_
  intro p e s m args below meth c s₁ B hml hv
  obtain ⟨rfl, hI, hK, hE⟩ := hv
  have hx := B.exec
  have hb := B.bytes
  have hr := B.returns
  have hts := atoms_spec (ws := wq_c_X11_ticksWithWeight) B.pre
  have hown : s.vm.findClass RX11 = some m.cls := findClass_of_methodNamed B.named
  have hlocks := B.notSynchronized
  have hS : va_S A s.heap s.heap [] := va_S.rf
  have hk0 : Kp g [0, 5, 6, 8, 10, 23, 24] f f := Kp.rf
  have hl := lv_entry ([.ref h0, .int p1, .int p2, .int p3]) (n := 7) (Nat.le_of_ble_eq_true rfl)
  rw [lg_entry_eq]
  generalize (lg_sl ([.ref h0, .int p1, .int p2, .int p3]) ++ List.replicate (7 - (lg_sl ([.ref h0, .int p1, .int p2, .int p3])).length) Slot.unset).toArray = ls at hl ⊢
  have hl : lv_has ls 7 [(0, .ref h0), (1, .int p1), (2, .int p2), (3, .int p3)] := hl
  refine lv_aload_n hx hb dX11_ticksWithWeight_0 rfl (lv_at hl 0 rfl) ?_
  obtain ⟨x_2, k_1⟩ := op_11 hI i_h0
  refine k_get (ci := 11) (v := .ref (gr g h0 4)) (C := RX11) (T := TX11) (N := 12) hx hb hts (fun _ h0_ => List.mem_cons_of_mem _ (List.mem_append_right _ (List.mem_append_left _ h0_))) hown hK hI i_h0.1 k_1 rfl 4 (by decide) (hts (.fieldLink RX11 41 "DeadlineShare" "paper" "LDeadlineShare$State;") (List.mem_cons_of_mem _ (List.mem_append_left _ (List.mem_of_getElem? (i := 0) rfl)))) (fun _ h9 => h9) rfl dX11_ticksWithWeight_1 ?_
  have i_4 := kw_11_4 hG i_h0
  refine lv_aload_n hx hb dX11_ticksWithWeight_4 rfl (lv_at hl 0 rfl) ?_
  refine k_get (ci := 11) (v := .ref (gr g h0 3)) (C := RX11) (T := TX11) (N := 12) hx hb hts (fun _ h0_ => List.mem_cons_of_mem _ (List.mem_append_right _ (List.mem_append_left _ h0_))) hown hK hI i_h0.1 k_1 rfl 3 (by decide) (hts (.fieldLink RX11 37 "DeadlineShare" "now" "LDeadlineShare$State;") (List.mem_cons_of_mem _ (List.mem_append_left _ (List.mem_of_getElem? (i := 1) rfl)))) (fun _ h9 => h9) rfl dX11_ticksWithWeight_5 ?_
  have i_6 := kw_11_3 hG i_h0
  obtain ⟨x_8, x_9, x_10, x_11, x_12, k_7, b_13, b_14⟩ := op_6 hI i_4
  refine va_callv (va_runV (As := [.ref (gr g h0 3)]) (rest := []) ⟨hx, hb, hml, hown, hts⟩ (c_X6_copy l dC dI g A hG f (gr g h0 4) (gr g h0 3) i_4 i_6) (cwV 1 hts (gi_V (fun w_ h0_ => ⟨List.mem_cons_of_mem _ (List.mem_append_right _ (List.mem_append_right _ (List.mem_append_left _ h0_))), (tb_c_X6_copy w_ h0_).2⟩) (List.mem_cons_of_mem _ (List.mem_append_left _ (List.mem_of_getElem? (i := 2) rfl))) (List.mem_cons_of_mem _ (List.mem_append_left _ (List.mem_of_getElem? (i := 3) rfl))) (List.mem_cons_of_mem _ (List.mem_append_left _ (List.mem_of_getElem? (i := 4) rfl))) (List.mem_cons_of_mem _ (List.mem_append_left _ (List.mem_of_getElem? (i := 5) rfl)))) rfl rfl rfl (by decide +kernel) ⟨Nat.le_of_ble_eq_true rfl, Nat.le_of_ble_eq_true rfl⟩) ⟨fun a U g mk q => ⟨q.1, q.2.calling rfl rfl⟩, k_recv hK hI i_4.1 k_7 (ci := 6) rfl, fun U hU hW => ⟨rfl, kIn.of hI hK hE hS hU hW⟩⟩ rfl rfl hl.1 rfl (lv_room (Nat.le_of_ble_eq_true rfl)) dX11_ticksWithWeight_8 ⟨Nat.le_of_ble_eq_true rfl, Nat.le_of_ble_eq_true rfl⟩) hS (fun q _ h => h) (fun q h => h) (fun u t H1 locs ht hvm _ hB hz1 hk1 hS => ?_)
  obtain ⟨f_15, hI, kc_17⟩ := hB
  rw [ht] at hI
  have k_18 : f_15 h0 = .inr (11, [.ref (gr g h0 0), .ref (gr g h0 1), .ref (gr g h0 2), .ref (gr g h0 3), .ref (gr g h0 4), .ref (gr g h0 5), .ref (gr g h0 6), .ref (gr g h0 7), .ref (gr g h0 8), .ref (gr g h0 9), .ref (gr g h0 10), .int x_2]) := Kp.at kc_17 i_h0 (by decide) k_1
  have kp_19 := Kp.call hk0 kc_17 (by decide)
  generalize H1 = H at hI hS ⊢
  refine W.widen (k := 0) (n := 0) (Nat.le_of_ble_eq_true rfl) (Nat.le_of_ble_eq_true rfl) ?_
  refine lv_aload_n hx hb dX11_ticksWithWeight_11 rfl (lv_at hl 0 rfl) ?_
  refine k_get (ci := 11) (v := .ref (gr g h0 4)) (C := RX11) (T := TX11) (N := 12) hx hb hts (fun _ h0_ => List.mem_cons_of_mem _ (List.mem_append_right _ (List.mem_append_left _ h0_))) hown hK hI i_h0.1 k_18 rfl 4 (by decide) (hts (.fieldLink RX11 41 "DeadlineShare" "paper" "LDeadlineShare$State;") (List.mem_cons_of_mem _ (List.mem_append_left _ (List.mem_of_getElem? (i := 0) rfl)))) (fun _ h9 => h9) rfl dX11_ticksWithWeight_12 ?_
  obtain ⟨x_23, x_24, x_25, x_26, x_27, k_22, b_28, b_29⟩ := op_6 hI i_4
  refine k_get (ci := 6) (v := .ref (gr g (gr g h0 4) 1)) (C := RX6) (T := TX6) (N := 10) hx hb hts (fun _ h0_ => List.mem_cons_of_mem _ (List.mem_append_right _ (List.mem_append_right _ (List.mem_append_right _ (List.mem_append_left _ h0_))))) hown hK hI i_4.1 k_22 rfl 1 (by decide) (hts (.fieldLink RX11 133 "DeadlineShare$State" "tasks" "[LDeadlineShare$Task;") (List.mem_cons_of_mem _ (List.mem_append_left _ (List.mem_of_getElem? (i := 6) rfl)))) (fun _ h9 => h9) rfl dX11_ticksWithWeight_15 ?_
  have i_31 := kw_6_1 hG i_4
  refine lv_iload_n hx hb dX11_ticksWithWeight_18 rfl (lv_at hl 1 rfl) ?_
  obtain ⟨q_33, k_32, b_34⟩ := op_20 hI i_31
  refine k_aald hx hb hK hI i_31.1 4 k_32 rfl (vp_in_iff.mpr (by omega)) b_34 (fun _ hj => kw_20 hG i_31 hj) dX11_ticksWithWeight_19 (fun a_35 i_36 => ?_)
  refine lv_astore (lv' := [(4, .ref a_35), (0, .ref h0), (1, .int p1), (2, .int p2), (3, .int p3)]) hx hb dX11_ticksWithWeight_20 hl (by decide) rfl (fun ls hl => ?_)
  refine lv_aload hx hb dX11_ticksWithWeight_22 (lv_at hl 0 rfl) ?_
  obtain ⟨x_38, x_39, x_40, x_41, x_42, x_43, x_44, x_45, x_46, x_47, x_48, x_49, x_50, x_51, x_52, x_53, k_37⟩ := op_8 hI i_36
  refine k_get (ci := 8) (v := .int x_39) (C := RX8) (T := TX8) (N := 18) hx hb hts (fun _ h0_ => List.mem_cons_of_mem _ (List.mem_append_right _ (List.mem_append_right _ (List.mem_append_right _ (List.mem_append_right _ (List.mem_append_left _ h0_)))))) hown hK hI i_36.1 k_37 rfl 2 (by decide) (hts (.fieldLink RX11 145 "DeadlineShare$Task" "weight" "I") (List.mem_cons_of_mem _ (List.mem_append_left _ (List.mem_of_getElem? (i := 7) rfl)))) (fun _ h9 => h9) rfl dX11_ticksWithWeight_24 ?_
  refine lv_iload_n hx hb dX11_ticksWithWeight_27 rfl (lv_at hl 3 rfl) ?_
  have J_41 : ∀ (f_54 : Nat → va_E) (H : Heap) (locs : List Loc) (ls : Array Slot), Iv dC dI g A f_54 H → va_S A s.heap H locs → f_54 h0 = .inr (11, [.ref (gr g h0 0), .ref (gr g h0 1), .ref (gr g h0 2), .ref (gr g h0 3), .ref (gr g h0 4), .ref (gr g h0 5), .ref (gr g h0 6), .ref (gr g h0 7), .ref (gr g h0 8), .ref (gr g h0 9), .ref (gr g h0 10), .int x_2]) → f_54 (gr g h0 4) = .inr (6, [.ref (gr g (gr g h0 4) 0), .ref (gr g (gr g h0 4) 1), .ref (gr g (gr g h0 4) 2), .ref (gr g (gr g h0 4) 3), .ref (gr g (gr g h0 4) 4), .int x_23, .int x_24, .long x_25, .int x_26, .int x_27]) → f_54 (gr g (gr g h0 4) 1) = .inl (gc g 4, 12, .inr (.inr (.inr (.inr q_33)))) → Kp g [0, 5, 6, 8, 10, 23, 24] f f_54 → lv_has ls 7 [(4, .ref a_35), (0, .ref h0), (1, .int p1), (2, .int p2), (3, .int p3)] → W p l e (headSpec wq_c_X11_ticksWithWeight ({ frames := 6, cells := 0, slots := 0, locals := 139 } : Room)).room s m ([.ref h0, .int p1, .int p2, .int p3].toArray) below meth c H locs 0 0 (MQ below (va_Qi (fun (r : Int32) (_ : Unit) => True) (fun (_ : Unit) t => ∃ f1 : Nat → va_E, Iv dC dI g A f1 t.heap ∧ Kp g [0, 5, 6, 8, 10, 23, 24] f f1) A) ([.ref h0, .int p1, .int p2, .int p3].toArray) s 0 0 A) (F0 m 41 ls []) := by
    intro f_54 H locs ls hI hS k_55 k_56 k_57 kp_58 hl
    refine lv_iconst (v := 0) hx hb dX11_ticksWithWeight_41 (by decide) ?_
    refine lv_istore (lv' := [(5, .int 0), (4, .ref a_35), (0, .ref h0), (1, .int p1), (2, .int p2), (3, .int p3)]) hx hb dX11_ticksWithWeight_42 hl (by decide) rfl (fun ls hl => ?_)
    refine lv_iconst (v := 0) hx hb dX11_ticksWithWeight_44 (by decide) ?_
    refine lv_istore (lv' := [(6, .int 0), (5, .int 0), (4, .ref a_35), (0, .ref h0), (1, .int p1), (2, .int p2), (3, .int p3)]) hx hb dX11_ticksWithWeight_45 hl (by decide) rfl (fun ls hl => ?_)
    have K_47 : ∀ (nn : Nat) (y_59 : Int32) (y_60 : Int32) (f_61 : Nat → va_E) (H : Heap) (locs : List Loc) (ls : Array Slot), (p3.toInt - y_59.toInt).toNat < nn → Iv dC dI g A f_61 H → va_S A s.heap H locs → f_61 h0 = .inr (11, [.ref (gr g h0 0), .ref (gr g h0 1), .ref (gr g h0 2), .ref (gr g h0 3), .ref (gr g h0 4), .ref (gr g h0 5), .ref (gr g h0 6), .ref (gr g h0 7), .ref (gr g h0 8), .ref (gr g h0 9), .ref (gr g h0 10), .int x_2]) → f_61 (gr g (gr g h0 4) 1) = .inl (gc g 4, 12, .inr (.inr (.inr (.inr q_33)))) → Kp g [0, 5, 6, 8, 10, 23, 24] f f_61 → lv_has ls 7 [(6, .int y_59), (5, .int y_60), (4, .ref a_35), (0, .ref h0), (1, .int p1), (2, .int p2), (3, .int p3)] → W p l e (headSpec wq_c_X11_ticksWithWeight ({ frames := 6, cells := 0, slots := 0, locals := 139 } : Room)).room s m ([.ref h0, .int p1, .int p2, .int p3].toArray) below meth c H locs 0 0 (MQ below (va_Qi (fun (r : Int32) (_ : Unit) => True) (fun (_ : Unit) t => ∃ f1 : Nat → va_E, Iv dC dI g A f1 t.heap ∧ Kp g [0, 5, 6, 8, 10, 23, 24] f f1) A) ([.ref h0, .int p1, .int p2, .int p3].toArray) s 0 0 A) (F0 m 47 ls []) := by
      intro nn
      induction nn with
      | zero => intro y_59 y_60 f_61 H locs ls m_65; exact absurd m_65 (Nat.not_lt_zero _)
      | succ nn ih =>
        intro y_59 y_60 f_61 H locs ls m_65 hI hS k_62 k_63 kp_64 hl
        have g_66 := Int32.toInt_lt p3
        have g_67 := Int32.le_toInt p3
        have g_68 := Int32.toInt_lt y_59
        have g_69 := Int32.le_toInt y_59
        refine lv_iload hx hb dX11_ticksWithWeight_47 (lv_at hl 0 rfl) ?_
        refine lv_iload_n hx hb dX11_ticksWithWeight_49 rfl (lv_at hl 6 rfl) ?_
        refine lv_icmp_ge (tgt := 77) hx hb dX11_ticksWithWeight_50 (by decide) (fun c_70 => ?_) (fun c_70 => ?_)
        · have c_70 := kc_le rfl rfl c_70
          refine lv_iload hx hb dX11_ticksWithWeight_77 (lv_at hl 1 rfl) ?_
          exact W.iret (v := y_60) hx hb hr (fun t ht hW => ⟨⟨y_60, (), rfl, trivial, ⟨f_61, k_ret ht hI, kp_64⟩⟩, hS.F ht⟩) hS.2.2 dX11_ticksWithWeight_79
        · have c_70 := kn_le rfl rfl c_70
          refine lv_aload_n hx hb dX11_ticksWithWeight_53 rfl (lv_at hl 3 rfl) ?_
          refine k_get (ci := 11) (v := .ref (gr g h0 4)) (C := RX11) (T := TX11) (N := 12) hx hb hts (fun _ h0_ => List.mem_cons_of_mem _ (List.mem_append_right _ (List.mem_append_left _ h0_))) hown hK hI i_h0.1 k_62 rfl 4 (by decide) (hts (.fieldLink RX11 41 "DeadlineShare" "paper" "LDeadlineShare$State;") (List.mem_cons_of_mem _ (List.mem_append_left _ (List.mem_of_getElem? (i := 0) rfl)))) (fun _ h9 => h9) rfl dX11_ticksWithWeight_54 ?_
          refine lv_aload_n hx hb dX11_ticksWithWeight_57 rfl (lv_at hl 3 rfl) ?_
          refine k_get (ci := 11) (v := .ref (gr g h0 5)) (C := RX11) (T := TX11) (N := 12) hx hb hts (fun _ h0_ => List.mem_cons_of_mem _ (List.mem_append_right _ (List.mem_append_left _ h0_))) hown hK hI i_h0.1 k_62 rfl 5 (by decide) (hts (.fieldLink RX11 47 "DeadlineShare" "asTold" "LDeadlineShare$Chooser;") (List.mem_cons_of_mem _ (List.mem_append_left _ (List.mem_of_getElem? (i := 8) rfl)))) (fun _ h9 => h9) rfl dX11_ticksWithWeight_58 ?_
          have i_74 := kw_11_5 hG i_h0
          obtain ⟨x_76, x_77, x_78, x_79, x_80, k_75, b_81, b_82⟩ := op_6 hI i_4
          refine va_calli (va_runV (As := [.ref (gr g h0 5)]) (rest := []) ⟨hx, hb, hml, hown, hts⟩ (c_X6_tick l dC dI g A hG f_61 (gr g h0 4) (gr g h0 5) i_4 i_74) (cwV 1 hts (gi_V (fun w_ h0_ => ⟨List.mem_cons_of_mem _ (List.mem_append_right _ (List.mem_append_right _ (List.mem_append_right _ (List.mem_append_right _ (List.mem_append_right _ (List.mem_append_left _ h0_)))))), (tb_c_X6_tick w_ h0_).2⟩) (List.mem_cons_of_mem _ (List.mem_append_left _ (List.mem_of_getElem? (i := 9) rfl))) (List.mem_cons_of_mem _ (List.mem_append_left _ (List.mem_of_getElem? (i := 10) rfl))) (List.mem_cons_of_mem _ (List.mem_append_left _ (List.mem_of_getElem? (i := 11) rfl))) (List.mem_cons_of_mem _ (List.mem_append_left _ (List.mem_of_getElem? (i := 5) rfl)))) rfl rfl rfl (by decide +kernel) ⟨Nat.le_of_ble_eq_true rfl, Nat.le_of_ble_eq_true rfl⟩) ⟨fun a U g mk q => ⟨q.1, q.2.calling rfl rfl⟩, k_recv hK hI i_4.1 k_75 (ci := 6) rfl, fun U hU hW => ⟨rfl, kIn.of hI hK hE hS hU hW⟩⟩ rfl rfl hl.1 rfl (lv_room (Nat.le_of_ble_eq_true rfl)) dX11_ticksWithWeight_61 ⟨Nat.le_of_ble_eq_true rfl, Nat.le_of_ble_eq_true rfl⟩) hS (fun q _ h => h) (fun q h => h) (fun r_85 u t H1 locs ht hvm w_84 hB hz1 hk1 hS => ?_)
          obtain ⟨f_83, hI, kc_86⟩ := hB
          rw [ht] at hI
          have k_87 : f_83 h0 = .inr (11, [.ref (gr g h0 0), .ref (gr g h0 1), .ref (gr g h0 2), .ref (gr g h0 3), .ref (gr g h0 4), .ref (gr g h0 5), .ref (gr g h0 6), .ref (gr g h0 7), .ref (gr g h0 8), .ref (gr g h0 9), .ref (gr g h0 10), .int x_2]) := Kp.at kc_86 i_h0 (by decide) k_62
          have k_88 : f_83 (gr g (gr g h0 4) 1) = .inl (gc g 4, 12, .inr (.inr (.inr (.inr q_33)))) := Kp.at kc_86 i_31 (by decide) k_63
          have kp_89 := Kp.call kp_64 kc_86 (by decide)
          generalize H1 = H at hI hS ⊢
          refine W.widen (k := 0) (n := 0) (Nat.le_of_ble_eq_true rfl) (Nat.le_of_ble_eq_true rfl) ?_
          refine lv_iload_n hx hb dX11_ticksWithWeight_64 rfl (lv_at hl 4 rfl) ?_
          have J_71 : ∀ (y_90 : Int32) (H : Heap) (locs : List Loc) (ls : Array Slot), Iv dC dI g A f_83 H → va_S A s.heap H locs → lv_has ls 7 [(6, .int y_59), (5, .int y_90), (4, .ref a_35), (0, .ref h0), (1, .int p1), (2, .int p2), (3, .int p3)] → W p l e (headSpec wq_c_X11_ticksWithWeight ({ frames := 6, cells := 0, slots := 0, locals := 139 } : Room)).room s m ([.ref h0, .int p1, .int p2, .int p3].toArray) below meth c H locs 0 0 (MQ below (va_Qi (fun (r : Int32) (_ : Unit) => True) (fun (_ : Unit) t => ∃ f1 : Nat → va_E, Iv dC dI g A f1 t.heap ∧ Kp g [0, 5, 6, 8, 10, 23, 24] f f1) A) ([.ref h0, .int p1, .int p2, .int p3].toArray) s 0 0 A) (F0 m 71 ls []) := by
            intro y_90 H locs ls hI hS  hl
            obtain ⟨v_91, ev_91⟩ : ∃ y : Int32, y = y_59 + Int32.ofInt 1 := ⟨_, rfl⟩
            refine lv_iinc (v := v_91) (lv' := [(6, .int v_91), (5, .int y_90), (4, .ref a_35), (0, .ref h0), (1, .int p1), (2, .int p2), (3, .int p3)]) hx hb dX11_ticksWithWeight_71 hl (k := 0) rfl ev_91.symm (by decide) rfl (fun ls hl => ?_)
            have tv_91 := k_inc y_59
            rw [← ev_91] at tv_91
            refine lv_goto (tgt := 47) hx hb dX11_ticksWithWeight_74 (by decide) ?_
            exact ih v_91 y_90 f_83 _ _ _ (by omega) hI hS k_87 k_88 kp_89 (lv_sub hl [0, 1, 2, 3, 4, 5, 6] rfl)
          refine lv_icmp_ne (tgt := 71) hx hb dX11_ticksWithWeight_65 (by decide) (fun c_92 => ?_) (fun c_92 => ?_)
          · have c_92 := kn_eq rfl rfl c_92
            exact J_71 y_60 _ _ _ hI hS  (lv_sub hl [0, 1, 2, 3, 4, 5, 6] rfl)
          · have c_92 := kc_eq rfl rfl c_92
            obtain ⟨v_93, ev_93⟩ : ∃ y : Int32, y = y_60 + Int32.ofInt 1 := ⟨_, rfl⟩
            refine lv_iinc (v := v_93) (lv' := [(5, .int v_93), (6, .int y_59), (4, .ref a_35), (0, .ref h0), (1, .int p1), (2, .int p2), (3, .int p3)]) hx hb dX11_ticksWithWeight_68 hl (k := 1) rfl ev_93.symm (by decide) rfl (fun ls hl => ?_)
            have tv_93 := k_inc y_60
            rw [← ev_93] at tv_93
            exact J_71 v_93 _ _ _ hI hS  (lv_sub hl [1, 0, 2, 3, 4, 5, 6] rfl)
    exact K_47 _ 0 0 f_54 _ _ _ (Nat.lt_succ_self _) hI hS k_55 k_57 kp_58 (lv_sub hl [0, 1, 2, 3, 4, 5, 6] rfl)
  refine lv_icmp_eq (tgt := 41) hx hb dX11_ticksWithWeight_28 (by decide) (fun c_94 => ?_) (fun c_94 => ?_)
  · have c_94 := kc_eq rfl rfl c_94
    exact J_41 f_15 _ _ _ hI hS k_18 k_22 k_32 kp_19 (lv_sub hl [0, 1, 2, 3, 4] rfl)
  · have c_94 := kn_eq rfl rfl c_94
    refine lv_aload_n hx hb dX11_ticksWithWeight_31 rfl (lv_at hl 1 rfl) ?_
    refine k_get (ci := 11) (v := .ref (gr g h0 4)) (C := RX11) (T := TX11) (N := 12) hx hb hts (fun _ h0_ => List.mem_cons_of_mem _ (List.mem_append_right _ (List.mem_append_left _ h0_))) hown hK hI i_h0.1 k_18 rfl 4 (by decide) (hts (.fieldLink RX11 41 "DeadlineShare" "paper" "LDeadlineShare$State;") (List.mem_cons_of_mem _ (List.mem_append_left _ (List.mem_of_getElem? (i := 0) rfl)))) (fun _ h9 => h9) rfl dX11_ticksWithWeight_32 ?_
    refine lv_aload hx hb dX11_ticksWithWeight_35 (lv_at hl 0 rfl) ?_
    refine lv_iload_n hx hb dX11_ticksWithWeight_37 rfl (lv_at hl 3 rfl) ?_
    refine va_callv (va_runV (As := [.ref a_35, .int p2]) (rest := []) ⟨hx, hb, hml, hown, hts⟩ (c_X6_weighAnew l dC dI g A hG f_15 (gr g h0 4) a_35 p2 i_4 i_36) (cwV 2 hts (gi_V (fun w_ h0_ => ⟨List.mem_cons_of_mem _ (List.mem_append_right _ (List.mem_append_right _ (List.mem_append_right _ (List.mem_append_right _ (List.mem_append_right _ (List.mem_append_right _ (List.mem_append_left _ h0_))))))), (tb_c_X6_weighAnew w_ h0_).2⟩) (List.mem_cons_of_mem _ (List.mem_append_left _ (List.mem_of_getElem? (i := 12) rfl))) (List.mem_cons_of_mem _ (List.mem_append_left _ (List.mem_of_getElem? (i := 13) rfl))) (List.mem_cons_of_mem _ (List.mem_append_left _ (List.mem_of_getElem? (i := 14) rfl))) (List.mem_cons_of_mem _ (List.mem_append_left _ (List.mem_of_getElem? (i := 5) rfl)))) rfl rfl rfl (by decide +kernel) ⟨Nat.le_of_ble_eq_true rfl, Nat.le_of_ble_eq_true rfl⟩) ⟨fun a U g mk q => ⟨q.1, q.2.calling rfl rfl⟩, k_recv hK hI i_4.1 k_22 (ci := 6) rfl, fun U hU hW => ⟨rfl, kIn.of hI hK hE hS hU hW⟩⟩ rfl rfl hl.1 rfl (lv_room (Nat.le_of_ble_eq_true rfl)) dX11_ticksWithWeight_38 ⟨Nat.le_of_ble_eq_true rfl, Nat.le_of_ble_eq_true rfl⟩) hS (fun q _ h => h) (fun q h => h) (fun u t H1 locs ht hvm _ hB hz1 hk1 hS => ?_)
    obtain ⟨f_97, hI, kc_99⟩ := hB
    rw [ht] at hI
    have k_100 : f_97 h0 = .inr (11, [.ref (gr g h0 0), .ref (gr g h0 1), .ref (gr g h0 2), .ref (gr g h0 3), .ref (gr g h0 4), .ref (gr g h0 5), .ref (gr g h0 6), .ref (gr g h0 7), .ref (gr g h0 8), .ref (gr g h0 9), .ref (gr g h0 10), .int x_2]) := Kp.at kc_99 i_h0 (by decide) k_18
    have k_101 : f_97 (gr g h0 4) = .inr (6, [.ref (gr g (gr g h0 4) 0), .ref (gr g (gr g h0 4) 1), .ref (gr g (gr g h0 4) 2), .ref (gr g (gr g h0 4) 3), .ref (gr g (gr g h0 4) 4), .int x_23, .int x_24, .long x_25, .int x_26, .int x_27]) := Kp.at kc_99 i_4 (by decide) k_22
    have k_102 : f_97 (gr g (gr g h0 4) 1) = .inl (gc g 4, 12, .inr (.inr (.inr (.inr q_33)))) := Kp.at kc_99 i_31 (by decide) k_32
    have kp_103 := Kp.call kp_19 kc_99 (by decide)
    generalize H1 = H at hI hS ⊢
    refine W.widen (k := 0) (n := 0) (Nat.le_of_ble_eq_true rfl) (Nat.le_of_ble_eq_true rfl) ?_
    exact J_41 f_97 _ _ _ hI hS k_100 k_101 k_102 kp_103 (lv_sub hl [0, 1, 2, 3, 4] rfl)
theorem tw_692 : q_g (.selects RX11 yX11_ticksWithWeight yX11_ticksWithWeight) := ⟨(List.mem_append_left _ (List.mem_of_getElem? (i := 20) (by decide +kernel))), good_of_word (by decide +kernel)⟩
theorem tw_693 : q_g (.instanceMethod yX11_ticksWithWeight) := ⟨(List.mem_append_right _ (List.mem_of_getElem? (i := 1044) (by decide +kernel))), good_of_word (by decide +kernel)⟩
theorem tw_694 : q_g (.methodLink RX11 320 yX11_ticksWithWeight) := ⟨(List.mem_append_right _ (List.mem_of_getElem? (i := 1042) (by decide +kernel))), good_of_word (by decide +kernel)⟩
theorem tw_695 : q_g (.code yX11_least cX11_least 5 (some .int)) := ⟨(List.mem_append_right _ (List.mem_of_getElem? (i := 1041) (by decide +kernel))), good_of_word (by decide +kernel)⟩
def ow_c_X11_least : List Cond := [.fieldLink RX11 37 "DeadlineShare" "now" "LDeadlineShare$State;", .methodLink RX11 130 yX6_has, .instanceMethod yX6_has, .selects RX6 yX6_has yX6_has, .initialized RX6, .methodLink RX11 314 yX11_canTick, .instanceMethod yX11_canTick, .selects RX11 yX11_canTick yX11_canTick, .initialized RX11, .fieldLink RX11 133 "DeadlineShare$State" "tasks" "[LDeadlineShare$Task;", .methodLink RX11 175 yX6_canWeigh, .instanceMethod yX6_canWeigh, .selects RX6 yX6_canWeigh yX6_canWeigh, .methodLink RX11 320 yX11_ticksWithWeight, .instanceMethod yX11_ticksWithWeight, .selects RX11 yX11_ticksWithWeight yX11_ticksWithWeight]
def wq_c_X11_least : List Cond := .code yX11_least cX11_least 5 (some .int) :: (ow_c_X11_least ++ (u_ws RX11 TX11 12 ++ (wq_c_X6_has ++ (wq_c_X11_canTick ++ (u_ws RX6 TX6 10 ++ (wq_c_X6_canWeigh ++ (wq_c_X11_ticksWithWeight ++ ([] : List Cond))))))))
theorem tb_c_X11_least : ∀ w ∈ wq_c_X11_least, q_g w := by
  unfold wq_c_X11_least ow_c_X11_least
  exact q_cons tw_695 (q_app (q_cons tw_558 (q_cons tw_571 (q_cons tw_74 (q_cons tw_73 (q_cons tw_47 (q_cons tw_686 (q_cons tw_685 (q_cons tw_684 (q_cons tw_56 (q_cons tw_570 (q_cons tw_579 (q_cons tw_414 (q_cons tw_413 (q_cons tw_694 (q_cons tw_693 (q_cons tw_692 q_nil)))))))))))))))) (q_app tu_X11 (q_app tb_c_X6_has (q_app tb_c_X11_canTick (q_app tu_X6 (q_app tb_c_X6_canWeigh (q_app tb_c_X11_ticksWithWeight q_nil)))))))
set_option maxHeartbeats 4000000 in
set_option maxRecDepth 100000 in
theorem c_X11_least (l : Launch) (dC : Nat → ClassId) (dI : Nat → Nat → Nat) (g : kG) (A : Nat → Prop) (hG : kWf g) (f : Nat → va_E) (h0 : Nat) (p1 : Int32) (p2 : Int32) (p3 : Int32) (i_h0 : ik g 11 h0) : Met l yX11_least wq_c_X11_least ({ frames := 7, cells := 0, slots := 0, locals := 165 } : Room) (va_Pc [.ref h0, .int p1, .int p2, .int p3] (fun U => kIn dC dI g A f U)) (va_Qi (fun (r : Int32) (_ : Unit) => True) (fun (_ : Unit) t => ∃ f1 : Nat → va_E, Iv dC dI g A f1 t.heap ∧ Kp g [0, 5, 6, 8, 10, 23, 24] f f1) A) 0 0 A := by
  refine Met.ofW (cc := cX11_least) (maxL := 5) (ret := (some .int)) (by decide) rfl ?_
  intro p e s m args below meth c s₁ B hml hv
  obtain ⟨rfl, hI, hK, hE⟩ := hv
  have hx := B.exec
  have hb := B.bytes
  have hr := B.returns
  have hts := atoms_spec (ws := wq_c_X11_least) B.pre
  have hown : s.vm.findClass RX11 = some m.cls := findClass_of_methodNamed B.named
  have hlocks := B.notSynchronized
  have hS : va_S A s.heap s.heap [] := va_S.rf
  have hk0 : Kp g [0, 5, 6, 8, 10, 23, 24] f f := Kp.rf
  have hl := lv_entry ([.ref h0, .int p1, .int p2, .int p3]) (n := 5) (Nat.le_of_ble_eq_true rfl)
  rw [lg_entry_eq]
  generalize (lg_sl ([.ref h0, .int p1, .int p2, .int p3]) ++ List.replicate (5 - (lg_sl ([.ref h0, .int p1, .int p2, .int p3])).length) Slot.unset).toArray = ls at hl ⊢
  have hl : lv_has ls 5 [(0, .ref h0), (1, .int p1), (2, .int p2), (3, .int p3)] := hl
  refine lv_aload_n hx hb dX11_least_0 rfl (lv_at hl 0 rfl) ?_
  obtain ⟨x_2, k_1⟩ := op_11 hI i_h0
  refine k_get (ci := 11) (v := .ref (gr g h0 3)) (C := RX11) (T := TX11) (N := 12) hx hb hts (fun _ h0_ => List.mem_cons_of_mem _ (List.mem_append_right _ (List.mem_append_left _ h0_))) hown hK hI i_h0.1 k_1 rfl 3 (by decide) (hts (.fieldLink RX11 37 "DeadlineShare" "now" "LDeadlineShare$State;") (List.mem_cons_of_mem _ (List.mem_append_left _ (List.mem_of_getElem? (i := 0) rfl)))) (fun _ h9 => h9) rfl dX11_least_1 ?_
  have i_4 := kw_11_3 hG i_h0
  refine lv_iload_n hx hb dX11_least_4 rfl (lv_at hl 1 rfl) ?_
  obtain ⟨x_6, x_7, x_8, x_9, x_10, k_5, b_11, b_12⟩ := op_6 hI i_4
  refine va_calli (va_runV (As := [.int p1]) (rest := []) ⟨hx, hb, hml, hown, hts⟩ (c_X6_has l dC dI g A hG f (gr g h0 3) p1 i_4) (cwV 1 hts (gi_V (fun w_ h0_ => ⟨List.mem_cons_of_mem _ (List.mem_append_right _ (List.mem_append_right _ (List.mem_append_left _ h0_))), (tb_c_X6_has w_ h0_).2⟩) (List.mem_cons_of_mem _ (List.mem_append_left _ (List.mem_of_getElem? (i := 1) rfl))) (List.mem_cons_of_mem _ (List.mem_append_left _ (List.mem_of_getElem? (i := 2) rfl))) (List.mem_cons_of_mem _ (List.mem_append_left _ (List.mem_of_getElem? (i := 3) rfl))) (List.mem_cons_of_mem _ (List.mem_append_left _ (List.mem_of_getElem? (i := 4) rfl)))) rfl rfl rfl (by decide +kernel) ⟨Nat.le_of_ble_eq_true rfl, Nat.le_of_ble_eq_true rfl⟩) ⟨fun a U g mk q => ⟨q.1, q.2.calling rfl rfl⟩, k_recv hK hI i_4.1 k_5 (ci := 6) rfl, fun U hU hW => ⟨rfl, kIn.of hI hK hE hS hU hW⟩⟩ rfl rfl hl.1 rfl (lv_room (Nat.le_of_ble_eq_true rfl)) dX11_least_5 ⟨Nat.le_of_ble_eq_true rfl, Nat.le_of_ble_eq_true rfl⟩) hS (fun q _ h => h) (fun q h => h) (fun r_14 u t H1 locs ht hvm w_13 hB hz1 hk1 hS => ?_)
  have hI : Iv dC dI g A f t.heap := hB
  rw [ht] at hI
  generalize H1 = H at hI hS ⊢
  refine W.widen (k := 0) (n := 0) (Nat.le_of_ble_eq_true rfl) (Nat.le_of_ble_eq_true rfl) ?_
  have w_13 : r_14.toInt = 0 ∨ (0 ≤ p1.toInt ∧ p1.toInt < 12) := w_13
  refine lv_if_eq (tgt := 28) hx hb dX11_least_8 (by decide) (fun c_15 => ?_) (fun c_15 => ?_)
  · have c_15 := kc_eq rfl (by decide : Int32.toInt 0 = 0) c_15
    refine lv_iconst (v := (-1)) hx hb dX11_least_28 (by decide) ?_
    exact W.iret (v := (-1)) hx hb hr (fun t ht hW => ⟨⟨(-1), (), rfl, trivial, ⟨f, k_ret ht hI, hk0⟩⟩, hS.F ht⟩) hS.2.2 dX11_least_29
  · have c_15 := kn_eq rfl (by decide : Int32.toInt 0 = 0) c_15
    refine lv_aload_n hx hb dX11_least_11 rfl (lv_at hl 0 rfl) ?_
    refine lv_iload_n hx hb dX11_least_12 rfl (lv_at hl 3 rfl) ?_
    refine va_calli (va_runV (As := [.int p3]) (rest := []) ⟨hx, hb, hml, hown, hts⟩ (c_X11_canTick l dC dI g A hG f h0 p3 i_h0) (cwV 1 hts (gi_V (fun w_ h0_ => ⟨List.mem_cons_of_mem _ (List.mem_append_right _ (List.mem_append_right _ (List.mem_append_right _ (List.mem_append_left _ h0_)))), (tb_c_X11_canTick w_ h0_).2⟩) (List.mem_cons_of_mem _ (List.mem_append_left _ (List.mem_of_getElem? (i := 5) rfl))) (List.mem_cons_of_mem _ (List.mem_append_left _ (List.mem_of_getElem? (i := 6) rfl))) (List.mem_cons_of_mem _ (List.mem_append_left _ (List.mem_of_getElem? (i := 7) rfl))) (List.mem_cons_of_mem _ (List.mem_append_left _ (List.mem_of_getElem? (i := 8) rfl)))) rfl rfl rfl (by decide +kernel) ⟨Nat.le_of_ble_eq_true rfl, Nat.le_of_ble_eq_true rfl⟩) ⟨fun a U g mk q => ⟨q.1, q.2.calling rfl rfl⟩, k_recv hK hI i_h0.1 k_1 (ci := 11) rfl, fun U hU hW => ⟨rfl, kIn.of hI hK hE hS hU hW⟩⟩ rfl rfl hl.1 rfl (lv_room (Nat.le_of_ble_eq_true rfl)) dX11_least_13 ⟨Nat.le_of_ble_eq_true rfl, Nat.le_of_ble_eq_true rfl⟩) hS (fun q _ h => h) (fun q h => h) (fun r_17 u t H1 locs ht hvm w_16 hB hz1 hk1 hS => ?_)
    have hI : Iv dC dI g A f t.heap := hB
    rw [ht] at hI
    generalize H1 = H at hI hS ⊢
    refine W.widen (k := 0) (n := 0) (Nat.le_of_ble_eq_true rfl) (Nat.le_of_ble_eq_true rfl) ?_
    refine lv_if_eq (tgt := 28) hx hb dX11_least_16 (by decide) (fun c_18 => ?_) (fun c_18 => ?_)
    · have c_18 := kc_eq rfl (by decide : Int32.toInt 0 = 0) c_18
      refine lv_iconst (v := (-1)) hx hb dX11_least_28 (by decide) ?_
      exact W.iret (v := (-1)) hx hb hr (fun t ht hW => ⟨⟨(-1), (), rfl, trivial, ⟨f, k_ret ht hI, hk0⟩⟩, hS.F ht⟩) hS.2.2 dX11_least_29
    · have c_18 := kn_eq rfl (by decide : Int32.toInt 0 = 0) c_18
      refine lv_iload_n hx hb dX11_least_19 rfl (lv_at hl 2 rfl) ?_
      refine lv_if_lt (tgt := 28) hx hb dX11_least_20 (by decide) (fun c_19 => ?_) (fun c_19 => ?_)
      · have c_19 := kc_lt rfl (by decide : Int32.toInt 0 = 0) c_19
        refine lv_iconst (v := (-1)) hx hb dX11_least_28 (by decide) ?_
        exact W.iret (v := (-1)) hx hb hr (fun t ht hW => ⟨⟨(-1), (), rfl, trivial, ⟨f, k_ret ht hI, hk0⟩⟩, hS.F ht⟩) hS.2.2 dX11_least_29
      · have c_19 := kn_lt rfl (by decide : Int32.toInt 0 = 0) c_19
        refine lv_iload_n hx hb dX11_least_23 rfl (lv_at hl 2 rfl) ?_
        refine lv_iload_n hx hb dX11_least_24 rfl (lv_at hl 3 rfl) ?_
        refine lv_icmp_le (tgt := 30) hx hb dX11_least_25 (by decide) (fun c_20 => ?_) (fun c_20 => ?_)
        · have c_20 := kc_le rfl rfl c_20
          refine lv_iconst (v := 1) hx hb dX11_least_30 (by decide) ?_
          refine lv_istore (lv' := [(4, .int 1), (0, .ref h0), (1, .int p1), (2, .int p2), (3, .int p3)]) hx hb dX11_least_31 hl (by decide) rfl (fun ls hl => ?_)
          have K_33 : ∀ (nn : Nat) (y_21 : Int32) (f_22 : Nat → va_E) (H : Heap) (locs : List Loc) (ls : Array Slot), (9 - y_21.toInt).toNat < nn → Iv dC dI g A f_22 H → va_S A s.heap H locs → f_22 h0 = .inr (11, [.ref (gr g h0 0), .ref (gr g h0 1), .ref (gr g h0 2), .ref (gr g h0 3), .ref (gr g h0 4), .ref (gr g h0 5), .ref (gr g h0 6), .ref (gr g h0 7), .ref (gr g h0 8), .ref (gr g h0 9), .ref (gr g h0 10), .int x_2]) → Kp g [0, 5, 6, 8, 10, 23, 24] f f_22 → (0 ≤ y_21.toInt) → lv_has ls 5 [(4, .int y_21), (0, .ref h0), (1, .int p1), (2, .int p2), (3, .int p3)] → W p l e (headSpec wq_c_X11_least ({ frames := 7, cells := 0, slots := 0, locals := 165 } : Room)).room s m ([.ref h0, .int p1, .int p2, .int p3].toArray) below meth c H locs 0 0 (MQ below (va_Qi (fun (r : Int32) (_ : Unit) => True) (fun (_ : Unit) t => ∃ f1 : Nat → va_E, Iv dC dI g A f1 t.heap ∧ Kp g [0, 5, 6, 8, 10, 23, 24] f f1) A) ([.ref h0, .int p1, .int p2, .int p3].toArray) s 0 0 A) (F0 m 33 ls []) := by
            intro nn
            induction nn with
            | zero => intro y_21 f_22 H locs ls m_26; exact absurd m_26 (Nat.not_lt_zero _)
            | succ nn ih =>
              intro y_21 f_22 H locs ls m_26 hI hS k_23 kp_24 t_25 hl
              have g_27 := Int32.toInt_lt y_21
              have g_28 := Int32.le_toInt y_21
              refine lv_iload hx hb dX11_least_33 (lv_at hl 0 rfl) ?_
              refine lv_bipush (v := 8) hx hb dX11_least_35 (by decide) ?_
              refine lv_icmp_gt (tgt := 82) hx hb dX11_least_37 (by decide) (fun c_29 => ?_) (fun c_29 => ?_)
              · have c_29 := kc_lt (by decide : Int32.toInt 8 = 8) rfl c_29
                refine lv_iconst (v := (-1)) hx hb dX11_least_82 (by decide) ?_
                exact W.iret (v := (-1)) hx hb hr (fun t ht hW => ⟨⟨(-1), (), rfl, trivial, ⟨f_22, k_ret ht hI, kp_24⟩⟩, hS.F ht⟩) hS.2.2 dX11_least_83
              · have c_29 := kn_lt (by decide : Int32.toInt 8 = 8) rfl c_29
                refine lv_aload_n hx hb dX11_least_40 rfl (lv_at hl 1 rfl) ?_
                refine k_get (ci := 11) (v := .ref (gr g h0 3)) (C := RX11) (T := TX11) (N := 12) hx hb hts (fun _ h0_ => List.mem_cons_of_mem _ (List.mem_append_right _ (List.mem_append_left _ h0_))) hown hK hI i_h0.1 k_23 rfl 3 (by decide) (hts (.fieldLink RX11 37 "DeadlineShare" "now" "LDeadlineShare$State;") (List.mem_cons_of_mem _ (List.mem_append_left _ (List.mem_of_getElem? (i := 0) rfl)))) (fun _ h9 => h9) rfl dX11_least_41 ?_
                refine lv_aload_n hx hb dX11_least_44 rfl (lv_at hl 1 rfl) ?_
                refine k_get (ci := 11) (v := .ref (gr g h0 3)) (C := RX11) (T := TX11) (N := 12) hx hb hts (fun _ h0_ => List.mem_cons_of_mem _ (List.mem_append_right _ (List.mem_append_left _ h0_))) hown hK hI i_h0.1 k_23 rfl 3 (by decide) (hts (.fieldLink RX11 37 "DeadlineShare" "now" "LDeadlineShare$State;") (List.mem_cons_of_mem _ (List.mem_append_left _ (List.mem_of_getElem? (i := 0) rfl)))) (fun _ h9 => h9) rfl dX11_least_45 ?_
                obtain ⟨x_35, x_36, x_37, x_38, x_39, k_34, b_40, b_41⟩ := op_6 hI i_4
                refine k_get (ci := 6) (v := .ref (gr g (gr g h0 3) 1)) (C := RX6) (T := TX6) (N := 10) hx hb hts (fun _ h0_ => List.mem_cons_of_mem _ (List.mem_append_right _ (List.mem_append_right _ (List.mem_append_right _ (List.mem_append_right _ (List.mem_append_left _ h0_)))))) hown hK hI i_4.1 k_34 rfl 1 (by decide) (hts (.fieldLink RX11 133 "DeadlineShare$State" "tasks" "[LDeadlineShare$Task;") (List.mem_cons_of_mem _ (List.mem_append_left _ (List.mem_of_getElem? (i := 9) rfl)))) (fun _ h9 => h9) rfl dX11_least_48 ?_
                have i_43 := kw_6_1 hG i_4
                refine lv_iload_n hx hb dX11_least_51 rfl (lv_at hl 2 rfl) ?_
                obtain ⟨q_45, k_44, b_46⟩ := op_20 hI i_43
                refine k_aald hx hb hK hI i_43.1 4 k_44 rfl (vp_in_iff.mpr (by omega)) b_46 (fun _ hj => kw_20 hG i_43 hj) dX11_least_52 (fun a_47 i_48 => ?_)
                refine lv_iload hx hb dX11_least_53 (lv_at hl 0 rfl) ?_
                refine va_calli (va_runV (As := [.ref a_47, .int y_21]) (rest := []) ⟨hx, hb, hml, hown, hts⟩ (c_X6_canWeigh l dC dI g A hG f_22 (gr g h0 3) a_47 y_21 i_4 i_48) (cwV 2 hts (gi_V (fun w_ h0_ => ⟨List.mem_cons_of_mem _ (List.mem_append_right _ (List.mem_append_right _ (List.mem_append_right _ (List.mem_append_right _ (List.mem_append_right _ (List.mem_append_left _ h0_)))))), (tb_c_X6_canWeigh w_ h0_).2⟩) (List.mem_cons_of_mem _ (List.mem_append_left _ (List.mem_of_getElem? (i := 10) rfl))) (List.mem_cons_of_mem _ (List.mem_append_left _ (List.mem_of_getElem? (i := 11) rfl))) (List.mem_cons_of_mem _ (List.mem_append_left _ (List.mem_of_getElem? (i := 12) rfl))) (List.mem_cons_of_mem _ (List.mem_append_left _ (List.mem_of_getElem? (i := 4) rfl)))) rfl rfl rfl (by decide +kernel) ⟨Nat.le_of_ble_eq_true rfl, Nat.le_of_ble_eq_true rfl⟩) ⟨fun a U g mk q => ⟨q.1, q.2.calling rfl rfl⟩, k_recv hK hI i_4.1 k_34 (ci := 6) rfl, fun U hU hW => ⟨rfl, kIn.of hI hK hE hS hU hW⟩⟩ rfl rfl hl.1 rfl (lv_room (Nat.le_of_ble_eq_true rfl)) dX11_least_55 ⟨Nat.le_of_ble_eq_true rfl, Nat.le_of_ble_eq_true rfl⟩) hS (fun q _ h => h) (fun q h => h) (fun r_50 u t H1 locs ht hvm w_49 hB hz1 hk1 hS => ?_)
                have hI : Iv dC dI g A f_22 t.heap := hB
                rw [ht] at hI
                generalize H1 = H at hI hS ⊢
                refine W.widen (k := 0) (n := 0) (Nat.le_of_ble_eq_true rfl) (Nat.le_of_ble_eq_true rfl) ?_
                have J_76 : ∀ (f_51 : Nat → va_E) (H : Heap) (locs : List Loc) (ls : Array Slot), Iv dC dI g A f_51 H → va_S A s.heap H locs → f_51 h0 = .inr (11, [.ref (gr g h0 0), .ref (gr g h0 1), .ref (gr g h0 2), .ref (gr g h0 3), .ref (gr g h0 4), .ref (gr g h0 5), .ref (gr g h0 6), .ref (gr g h0 7), .ref (gr g h0 8), .ref (gr g h0 9), .ref (gr g h0 10), .int x_2]) → f_51 (gr g (gr g h0 3) 1) = .inl (gc g 4, 12, .inr (.inr (.inr (.inr q_45)))) → Kp g [0, 5, 6, 8, 10, 23, 24] f f_51 → lv_has ls 5 [(4, .int y_21), (0, .ref h0), (1, .int p1), (2, .int p2), (3, .int p3)] → W p l e (headSpec wq_c_X11_least ({ frames := 7, cells := 0, slots := 0, locals := 165 } : Room)).room s m ([.ref h0, .int p1, .int p2, .int p3].toArray) below meth c H locs 0 0 (MQ below (va_Qi (fun (r : Int32) (_ : Unit) => True) (fun (_ : Unit) t => ∃ f1 : Nat → va_E, Iv dC dI g A f1 t.heap ∧ Kp g [0, 5, 6, 8, 10, 23, 24] f f1) A) ([.ref h0, .int p1, .int p2, .int p3].toArray) s 0 0 A) (F0 m 76 ls []) := by
                  intro f_51 H locs ls hI hS k_52 k_53 kp_54 hl
                  obtain ⟨v_55, ev_55⟩ : ∃ y : Int32, y = y_21 + Int32.ofInt 1 := ⟨_, rfl⟩
                  refine lv_iinc (v := v_55) (lv' := [(4, .int v_55), (0, .ref h0), (1, .int p1), (2, .int p2), (3, .int p3)]) hx hb dX11_least_76 hl (k := 0) rfl ev_55.symm (by decide) rfl (fun ls hl => ?_)
                  have tv_55 := k_inc y_21
                  rw [← ev_55] at tv_55
                  refine lv_goto (tgt := 33) hx hb dX11_least_79 (by decide) ?_
                  exact ih v_55 f_51 _ _ _ (by omega) hI hS k_52 kp_54 (by first | omega | decide) (lv_sub hl [0, 1, 2, 3, 4] rfl)
                refine lv_if_eq (tgt := 76) hx hb dX11_least_58 (by decide) (fun c_56 => ?_) (fun c_56 => ?_)
                · have c_56 := kc_eq rfl (by decide : Int32.toInt 0 = 0) c_56
                  exact J_76 f_22 _ _ _ hI hS k_23 k_44 kp_24 (lv_sub hl [0, 1, 2, 3, 4] rfl)
                · have c_56 := kn_eq rfl (by decide : Int32.toInt 0 = 0) c_56
                  refine lv_aload_n hx hb dX11_least_61 rfl (lv_at hl 1 rfl) ?_
                  refine lv_iload_n hx hb dX11_least_62 rfl (lv_at hl 2 rfl) ?_
                  refine lv_iload hx hb dX11_least_63 (lv_at hl 0 rfl) ?_
                  refine lv_iload_n hx hb dX11_least_65 rfl (lv_at hl 4 rfl) ?_
                  refine va_calli (va_runV (As := [.int p1, .int y_21, .int p3]) (rest := []) ⟨hx, hb, hml, hown, hts⟩ (c_X11_ticksWithWeight l dC dI g A hG f_22 h0 p1 y_21 p3 i_h0 (by omega)) (cwV 3 hts (gi_V (fun w_ h0_ => ⟨List.mem_cons_of_mem _ (List.mem_append_right _ (List.mem_append_right _ (List.mem_append_right _ (List.mem_append_right _ (List.mem_append_right _ (List.mem_append_right _ (List.mem_append_left _ h0_))))))), (tb_c_X11_ticksWithWeight w_ h0_).2⟩) (List.mem_cons_of_mem _ (List.mem_append_left _ (List.mem_of_getElem? (i := 13) rfl))) (List.mem_cons_of_mem _ (List.mem_append_left _ (List.mem_of_getElem? (i := 14) rfl))) (List.mem_cons_of_mem _ (List.mem_append_left _ (List.mem_of_getElem? (i := 15) rfl))) (List.mem_cons_of_mem _ (List.mem_append_left _ (List.mem_of_getElem? (i := 8) rfl)))) rfl rfl rfl (by decide +kernel) ⟨Nat.le_of_ble_eq_true rfl, Nat.le_of_ble_eq_true rfl⟩) ⟨fun a U g mk q => ⟨q.1, q.2.calling rfl rfl⟩, k_recv hK hI i_h0.1 k_23 (ci := 11) rfl, fun U hU hW => ⟨rfl, kIn.of hI hK hE hS hU hW⟩⟩ rfl rfl hl.1 rfl (lv_room (Nat.le_of_ble_eq_true rfl)) dX11_least_66 ⟨Nat.le_of_ble_eq_true rfl, Nat.le_of_ble_eq_true rfl⟩) hS (fun q _ h => h) (fun q h => h) (fun r_59 u t H1 locs ht hvm w_58 hB hz1 hk1 hS => ?_)
                  obtain ⟨f_57, hI, kc_60⟩ := hB
                  rw [ht] at hI
                  have k_61 : f_57 h0 = .inr (11, [.ref (gr g h0 0), .ref (gr g h0 1), .ref (gr g h0 2), .ref (gr g h0 3), .ref (gr g h0 4), .ref (gr g h0 5), .ref (gr g h0 6), .ref (gr g h0 7), .ref (gr g h0 8), .ref (gr g h0 9), .ref (gr g h0 10), .int x_2]) := Kp.at kc_60 i_h0 (by decide) k_23
                  have k_62 : f_57 (gr g (gr g h0 3) 1) = .inl (gc g 4, 12, .inr (.inr (.inr (.inr q_45)))) := Kp.at kc_60 i_43 (by decide) k_44
                  have kp_63 := Kp.call kp_24 kc_60 (by decide)
                  generalize H1 = H at hI hS ⊢
                  refine W.widen (k := 0) (n := 0) (Nat.le_of_ble_eq_true rfl) (Nat.le_of_ble_eq_true rfl) ?_
                  refine lv_iload_n hx hb dX11_least_69 rfl (lv_at hl 3 rfl) ?_
                  refine lv_icmp_lt (tgt := 76) hx hb dX11_least_70 (by decide) (fun c_64 => ?_) (fun c_64 => ?_)
                  · have c_64 := kc_lt rfl rfl c_64
                    exact J_76 f_57 _ _ _ hI hS k_61 k_62 kp_63 (lv_sub hl [0, 1, 2, 3, 4] rfl)
                  · have c_64 := kn_lt rfl rfl c_64
                    refine lv_iload hx hb dX11_least_73 (lv_at hl 0 rfl) ?_
                    exact W.iret (v := y_21) hx hb hr (fun t ht hW => ⟨⟨y_21, (), rfl, trivial, ⟨f_57, k_ret ht hI, kp_63⟩⟩, hS.F ht⟩) hS.2.2 dX11_least_75
          exact K_33 _ 1 f _ _ _ (Nat.lt_succ_self _) hI hS k_1 hk0 (by first | omega | decide | (simp only [show Int32.toInt 1 = 1 from by decide]; omega)) (lv_sub hl [0, 1, 2, 3, 4] rfl)
        · have c_20 := kn_le rfl rfl c_20
          refine lv_iconst (v := (-1)) hx hb dX11_least_28 (by decide) ?_
          exact W.iret (v := (-1)) hx hb hr (fun t ht hW => ⟨⟨(-1), (), rfl, trivial, ⟨f, k_ret ht hI, hk0⟩⟩, hS.F ht⟩) hS.2.2 dX11_least_29
theorem tw_696 : q_g (.selects RX6 yX6_lagEdge yX6_lagEdge) := ⟨(List.mem_append_right _ (List.mem_of_getElem? (i := 1057) (by decide +kernel))), good_of_word (by decide +kernel)⟩
theorem tw_697 : q_g (.instanceMethod yX6_lagEdge) := ⟨(List.mem_append_right _ (List.mem_of_getElem? (i := 1056) (by decide +kernel))), good_of_word (by decide +kernel)⟩
theorem tw_698 : q_g (.methodLink RX11 332 yX6_lagEdge) := ⟨(List.mem_append_right _ (List.mem_of_getElem? (i := 1055) (by decide +kernel))), good_of_word (by decide +kernel)⟩
theorem tw_699 : q_g (.fieldLink RX11 329 "DeadlineShare$State" "last" "I") := ⟨(List.mem_append_right _ (List.mem_of_getElem? (i := 242) (by decide +kernel))), good_of_word (by decide +kernel)⟩
theorem tw_700 : q_g (.selects RX0 yX0_start yX0_start) := ⟨(List.mem_append_right _ (List.mem_of_getElem? (i := 1053) (by decide +kernel))), good_of_word (by decide +kernel)⟩
theorem tw_701 : q_g (.instanceMethod yX0_start) := ⟨(List.mem_append_right _ (List.mem_of_getElem? (i := 1052) (by decide +kernel))), good_of_word (by decide +kernel)⟩
theorem tw_702 : q_g (.methodLink RX11 326 yX0_start) := ⟨(List.mem_append_right _ (List.mem_of_getElem? (i := 1051) (by decide +kernel))), good_of_word (by decide +kernel)⟩
theorem tw_703 : q_g (.fieldLink RX11 51 "DeadlineShare" "onPaper" "LDeadlineShare$Chooser;") := ⟨(List.mem_append_right _ (List.mem_of_getElem? (i := 326) (by decide +kernel))), good_of_word (by decide +kernel)⟩
theorem tw_704 : q_g (.constant RX11 325 (-2147483648)) := ⟨(List.mem_append_right _ (List.mem_of_getElem? (i := 1050) (by decide +kernel))), good_of_word (by decide +kernel)⟩
theorem tw_705 : q_g (.code yX11_would cX11_would 11 (some .int)) := ⟨(List.mem_append_right _ (List.mem_of_getElem? (i := 1049) (by decide +kernel))), good_of_word (by decide +kernel)⟩
def ow_c_X11_would : List Cond := [.constant RX11 325 (-2147483648), .methodLink RX11 314 yX11_canTick, .instanceMethod yX11_canTick, .selects RX11 yX11_canTick yX11_canTick, .initialized RX11, .fieldLink RX11 41 "DeadlineShare" "paper" "LDeadlineShare$State;", .fieldLink RX11 37 "DeadlineShare" "now" "LDeadlineShare$State;", .methodLink RX11 238 yX6_copy, .instanceMethod yX6_copy, .selects RX6 yX6_copy yX6_copy, .initialized RX6, .fieldLink RX11 51 "DeadlineShare" "onPaper" "LDeadlineShare$Chooser;", .methodLink RX11 326 yX0_start, .instanceMethod yX0_start, .selects RX0 yX0_start yX0_start, .initialized RX0, .fieldLink RX11 329 "DeadlineShare$State" "last" "I", .methodLink RX11 226 yX6_tick, .instanceMethod yX6_tick, .selects RX6 yX6_tick yX6_tick, .methodLink RX11 332 yX6_lagEdge, .instanceMethod yX6_lagEdge, .selects RX6 yX6_lagEdge yX6_lagEdge]
def wq_c_X11_would : List Cond := .code yX11_would cX11_would 11 (some .int) :: (ow_c_X11_would ++ (wq_c_X11_canTick ++ (u_ws RX11 TX11 12 ++ (wq_c_X6_copy ++ (wq_c_X0_start ++ (u_ws RX6 TX6 10 ++ (wq_c_X6_tick ++ (wq_c_X6_lagEdge ++ ([] : List Cond)))))))))
theorem tb_c_X11_would : ∀ w ∈ wq_c_X11_would, q_g w := by
  unfold wq_c_X11_would ow_c_X11_would
  exact q_cons tw_705 (q_app (q_cons tw_704 (q_cons tw_686 (q_cons tw_685 (q_cons tw_684 (q_cons tw_56 (q_cons tw_683 (q_cons tw_558 (q_cons tw_626 (q_cons tw_160 (q_cons tw_159 (q_cons tw_47 (q_cons tw_703 (q_cons tw_702 (q_cons tw_701 (q_cons tw_700 (q_cons tw_93 (q_cons tw_699 (q_cons tw_615 (q_cons tw_614 (q_cons tw_613 (q_cons tw_698 (q_cons tw_697 (q_cons tw_696 q_nil))))))))))))))))))))))) (q_app tb_c_X11_canTick (q_app tu_X11 (q_app tb_c_X6_copy (q_app tb_c_X0_start (q_app tu_X6 (q_app tb_c_X6_tick (q_app tb_c_X6_lagEdge q_nil))))))))
set_option maxHeartbeats 4000000 in
set_option maxRecDepth 100000 in
theorem c_X11_would (l : Launch) (dC : Nat → ClassId) (dI : Nat → Nat → Nat) (g : kG) (A : Nat → Prop) (hG : kWf g) (f : Nat → va_E) (h0 : Nat) (p1 : Int32) (p2 : Int32) (p3 : Int32) (i_h0 : ik g 11 h0) : Met l yX11_would wq_c_X11_would ({ frames := 6, cells := 0, slots := 0, locals := 139 } : Room) (va_Pc [.ref h0, .int p1, .int p2, .int p3] (fun U => kIn dC dI g A f U)) (va_Qi (fun (r : Int32) (_ : Unit) => True) (fun (_ : Unit) t => ∃ f1 : Nat → va_E, Iv dC dI g A f1 t.heap ∧ Kp g [0, 5, 6, 8, 10, 23, 24] f f1) A) 0 0 A := by
  refine Met.ofW (cc := cX11_would) (maxL := 11) (ret := (some .int)) (by decide) rfl ?_
  intro p e s m args below meth c s₁ B hml hv
  obtain ⟨rfl, hI, hK, hE⟩ := hv
  have hx := B.exec
  have hb := B.bytes
  have hr := B.returns
  have hts := atoms_spec (ws := wq_c_X11_would) B.pre
  have hown : s.vm.findClass RX11 = some m.cls := findClass_of_methodNamed B.named
  have hlocks := B.notSynchronized
  have hS : va_S A s.heap s.heap [] := va_S.rf
  have hk0 : Kp g [0, 5, 6, 8, 10, 23, 24] f f := Kp.rf
  have hl := lv_entry ([.ref h0, .int p1, .int p2, .int p3]) (n := 11) (Nat.le_of_ble_eq_true rfl)
  rw [lg_entry_eq]
  generalize (lg_sl ([.ref h0, .int p1, .int p2, .int p3]) ++ List.replicate (11 - (lg_sl ([.ref h0, .int p1, .int p2, .int p3])).length) Slot.unset).toArray = ls at hl ⊢
  have hl : lv_has ls 11 [(0, .ref h0), (1, .int p1), (2, .int p2), (3, .int p3)] := hl
  refine lv_iload_n hx hb dX11_would_0 rfl (lv_at hl 1 rfl) ?_
  refine lv_if_lt (tgt := 26) hx hb dX11_would_1 (by decide) (fun c_1 => ?_) (fun c_1 => ?_)
  · have c_1 := kc_lt rfl (by decide : Int32.toInt 0 = 0) c_1
    refine lv_ldcw hx hb hown (hts (.constant RX11 325 (-2147483648)) (List.mem_cons_of_mem _ (List.mem_append_left _ (List.mem_of_getElem? (i := 0) rfl)))) dX11_would_26 ?_
    exact W.iret (v := (-2147483648)) hx hb hr (fun t ht hW => ⟨⟨(-2147483648), (), rfl, trivial, ⟨f, k_ret ht hI, hk0⟩⟩, hS.F ht⟩) hS.2.2 dX11_would_29
  · have c_1 := kn_lt rfl (by decide : Int32.toInt 0 = 0) c_1
    refine lv_iload_n hx hb dX11_would_4 rfl (lv_at hl 1 rfl) ?_
    refine lv_iconst (v := 4) hx hb dX11_would_5 (by decide) ?_
    refine lv_icmp_gt (tgt := 26) hx hb dX11_would_6 (by decide) (fun c_2 => ?_) (fun c_2 => ?_)
    · have c_2 := kc_lt (by decide : Int32.toInt 4 = 4) rfl c_2
      refine lv_ldcw hx hb hown (hts (.constant RX11 325 (-2147483648)) (List.mem_cons_of_mem _ (List.mem_append_left _ (List.mem_of_getElem? (i := 0) rfl)))) dX11_would_26 ?_
      exact W.iret (v := (-2147483648)) hx hb hr (fun t ht hW => ⟨⟨(-2147483648), (), rfl, trivial, ⟨f, k_ret ht hI, hk0⟩⟩, hS.F ht⟩) hS.2.2 dX11_would_29
    · have c_2 := kn_lt (by decide : Int32.toInt 4 = 4) rfl c_2
      refine lv_aload_n hx hb dX11_would_9 rfl (lv_at hl 0 rfl) ?_
      refine lv_iload_n hx hb dX11_would_10 rfl (lv_at hl 2 rfl) ?_
      obtain ⟨x_4, k_3⟩ := op_11 hI i_h0
      refine va_calli (va_runV (As := [.int p2]) (rest := []) ⟨hx, hb, hml, hown, hts⟩ (c_X11_canTick l dC dI g A hG f h0 p2 i_h0) (cwV 1 hts (gi_V (fun w_ h0_ => ⟨List.mem_cons_of_mem _ (List.mem_append_right _ (List.mem_append_left _ h0_)), (tb_c_X11_canTick w_ h0_).2⟩) (List.mem_cons_of_mem _ (List.mem_append_left _ (List.mem_of_getElem? (i := 1) rfl))) (List.mem_cons_of_mem _ (List.mem_append_left _ (List.mem_of_getElem? (i := 2) rfl))) (List.mem_cons_of_mem _ (List.mem_append_left _ (List.mem_of_getElem? (i := 3) rfl))) (List.mem_cons_of_mem _ (List.mem_append_left _ (List.mem_of_getElem? (i := 4) rfl)))) rfl rfl rfl (by decide +kernel) ⟨Nat.le_of_ble_eq_true rfl, Nat.le_of_ble_eq_true rfl⟩) ⟨fun a U g mk q => ⟨q.1, q.2.calling rfl rfl⟩, k_recv hK hI i_h0.1 k_3 (ci := 11) rfl, fun U hU hW => ⟨rfl, kIn.of hI hK hE hS hU hW⟩⟩ rfl rfl hl.1 rfl (lv_room (Nat.le_of_ble_eq_true rfl)) dX11_would_11 ⟨Nat.le_of_ble_eq_true rfl, Nat.le_of_ble_eq_true rfl⟩) hS (fun q _ h => h) (fun q h => h) (fun r_6 u t H1 locs ht hvm w_5 hB hz1 hk1 hS => ?_)
      have hI : Iv dC dI g A f t.heap := hB
      rw [ht] at hI
      generalize H1 = H at hI hS ⊢
      refine W.widen (k := 0) (n := 0) (Nat.le_of_ble_eq_true rfl) (Nat.le_of_ble_eq_true rfl) ?_
      refine lv_if_eq (tgt := 26) hx hb dX11_would_14 (by decide) (fun c_7 => ?_) (fun c_7 => ?_)
      · have c_7 := kc_eq rfl (by decide : Int32.toInt 0 = 0) c_7
        refine lv_ldcw hx hb hown (hts (.constant RX11 325 (-2147483648)) (List.mem_cons_of_mem _ (List.mem_append_left _ (List.mem_of_getElem? (i := 0) rfl)))) dX11_would_26 ?_
        exact W.iret (v := (-2147483648)) hx hb hr (fun t ht hW => ⟨⟨(-2147483648), (), rfl, trivial, ⟨f, k_ret ht hI, hk0⟩⟩, hS.F ht⟩) hS.2.2 dX11_would_29
      · have c_7 := kn_eq rfl (by decide : Int32.toInt 0 = 0) c_7
        refine lv_iload_n hx hb dX11_would_17 rfl (lv_at hl 3 rfl) ?_
        refine lv_if_lt (tgt := 26) hx hb dX11_would_18 (by decide) (fun c_8 => ?_) (fun c_8 => ?_)
        · have c_8 := kc_lt rfl (by decide : Int32.toInt 0 = 0) c_8
          refine lv_ldcw hx hb hown (hts (.constant RX11 325 (-2147483648)) (List.mem_cons_of_mem _ (List.mem_append_left _ (List.mem_of_getElem? (i := 0) rfl)))) dX11_would_26 ?_
          exact W.iret (v := (-2147483648)) hx hb hr (fun t ht hW => ⟨⟨(-2147483648), (), rfl, trivial, ⟨f, k_ret ht hI, hk0⟩⟩, hS.F ht⟩) hS.2.2 dX11_would_29
        · have c_8 := kn_lt rfl (by decide : Int32.toInt 0 = 0) c_8
          refine lv_iload_n hx hb dX11_would_21 rfl (lv_at hl 3 rfl) ?_
          refine lv_iconst (v := 3) hx hb dX11_would_22 (by decide) ?_
          refine lv_icmp_le (tgt := 30) hx hb dX11_would_23 (by decide) (fun c_9 => ?_) (fun c_9 => ?_)
          · have c_9 := kc_le rfl (by decide : Int32.toInt 3 = 3) c_9
            refine lv_aload_n hx hb dX11_would_30 rfl (lv_at hl 0 rfl) ?_
            refine k_get (ci := 11) (v := .ref (gr g h0 4)) (C := RX11) (T := TX11) (N := 12) hx hb hts (fun _ h0_ => List.mem_cons_of_mem _ (List.mem_append_right _ (List.mem_append_right _ (List.mem_append_left _ h0_)))) hown hK hI i_h0.1 k_3 rfl 4 (by decide) (hts (.fieldLink RX11 41 "DeadlineShare" "paper" "LDeadlineShare$State;") (List.mem_cons_of_mem _ (List.mem_append_left _ (List.mem_of_getElem? (i := 5) rfl)))) (fun _ h9 => h9) rfl dX11_would_31 ?_
            have i_11 := kw_11_4 hG i_h0
            refine lv_aload_n hx hb dX11_would_34 rfl (lv_at hl 0 rfl) ?_
            refine k_get (ci := 11) (v := .ref (gr g h0 3)) (C := RX11) (T := TX11) (N := 12) hx hb hts (fun _ h0_ => List.mem_cons_of_mem _ (List.mem_append_right _ (List.mem_append_right _ (List.mem_append_left _ h0_)))) hown hK hI i_h0.1 k_3 rfl 3 (by decide) (hts (.fieldLink RX11 37 "DeadlineShare" "now" "LDeadlineShare$State;") (List.mem_cons_of_mem _ (List.mem_append_left _ (List.mem_of_getElem? (i := 6) rfl)))) (fun _ h9 => h9) rfl dX11_would_35 ?_
            have i_13 := kw_11_3 hG i_h0
            obtain ⟨x_15, x_16, x_17, x_18, x_19, k_14, b_20, b_21⟩ := op_6 hI i_11
            refine va_callv (va_runV (As := [.ref (gr g h0 3)]) (rest := []) ⟨hx, hb, hml, hown, hts⟩ (c_X6_copy l dC dI g A hG f (gr g h0 4) (gr g h0 3) i_11 i_13) (cwV 1 hts (gi_V (fun w_ h0_ => ⟨List.mem_cons_of_mem _ (List.mem_append_right _ (List.mem_append_right _ (List.mem_append_right _ (List.mem_append_left _ h0_)))), (tb_c_X6_copy w_ h0_).2⟩) (List.mem_cons_of_mem _ (List.mem_append_left _ (List.mem_of_getElem? (i := 7) rfl))) (List.mem_cons_of_mem _ (List.mem_append_left _ (List.mem_of_getElem? (i := 8) rfl))) (List.mem_cons_of_mem _ (List.mem_append_left _ (List.mem_of_getElem? (i := 9) rfl))) (List.mem_cons_of_mem _ (List.mem_append_left _ (List.mem_of_getElem? (i := 10) rfl)))) rfl rfl rfl (by decide +kernel) ⟨Nat.le_of_ble_eq_true rfl, Nat.le_of_ble_eq_true rfl⟩) ⟨fun a U g mk q => ⟨q.1, q.2.calling rfl rfl⟩, k_recv hK hI i_11.1 k_14 (ci := 6) rfl, fun U hU hW => ⟨rfl, kIn.of hI hK hE hS hU hW⟩⟩ rfl rfl hl.1 rfl (lv_room (Nat.le_of_ble_eq_true rfl)) dX11_would_38 ⟨Nat.le_of_ble_eq_true rfl, Nat.le_of_ble_eq_true rfl⟩) hS (fun q _ h => h) (fun q h => h) (fun u t H1 locs ht hvm _ hB hz1 hk1 hS => ?_)
            obtain ⟨f_22, hI, kc_24⟩ := hB
            rw [ht] at hI
            have k_25 : f_22 h0 = .inr (11, [.ref (gr g h0 0), .ref (gr g h0 1), .ref (gr g h0 2), .ref (gr g h0 3), .ref (gr g h0 4), .ref (gr g h0 5), .ref (gr g h0 6), .ref (gr g h0 7), .ref (gr g h0 8), .ref (gr g h0 9), .ref (gr g h0 10), .int x_4]) := Kp.at kc_24 i_h0 (by decide) k_3
            have kp_26 := Kp.call hk0 kc_24 (by decide)
            generalize H1 = H at hI hS ⊢
            refine W.widen (k := 0) (n := 0) (Nat.le_of_ble_eq_true rfl) (Nat.le_of_ble_eq_true rfl) ?_
            refine lv_aload_n hx hb dX11_would_41 rfl (lv_at hl 0 rfl) ?_
            refine k_get (ci := 11) (v := .ref (gr g h0 6)) (C := RX11) (T := TX11) (N := 12) hx hb hts (fun _ h0_ => List.mem_cons_of_mem _ (List.mem_append_right _ (List.mem_append_right _ (List.mem_append_left _ h0_)))) hown hK hI i_h0.1 k_25 rfl 6 (by decide) (hts (.fieldLink RX11 51 "DeadlineShare" "onPaper" "LDeadlineShare$Chooser;") (List.mem_cons_of_mem _ (List.mem_append_left _ (List.mem_of_getElem? (i := 11) rfl)))) (fun _ h9 => h9) rfl dX11_would_42 ?_
            have i_28 := kw_11_6 hG i_h0
            refine lv_iload_n hx hb dX11_would_45 rfl (lv_at hl 1 rfl) ?_
            obtain ⟨x_30, x_31, k_29⟩ := op_0 hI i_28
            refine va_callv (va_runV (As := [.int p1]) (rest := []) ⟨hx, hb, hml, hown, hts⟩ (c_X0_start l dC dI g A hG f_22 (gr g h0 6) p1 i_28) (cwV 1 hts (gi_V (fun w_ h0_ => ⟨List.mem_cons_of_mem _ (List.mem_append_right _ (List.mem_append_right _ (List.mem_append_right _ (List.mem_append_right _ (List.mem_append_left _ h0_))))), (tb_c_X0_start w_ h0_).2⟩) (List.mem_cons_of_mem _ (List.mem_append_left _ (List.mem_of_getElem? (i := 12) rfl))) (List.mem_cons_of_mem _ (List.mem_append_left _ (List.mem_of_getElem? (i := 13) rfl))) (List.mem_cons_of_mem _ (List.mem_append_left _ (List.mem_of_getElem? (i := 14) rfl))) (List.mem_cons_of_mem _ (List.mem_append_left _ (List.mem_of_getElem? (i := 15) rfl)))) rfl rfl rfl (by decide +kernel) ⟨Nat.le_of_ble_eq_true rfl, Nat.le_of_ble_eq_true rfl⟩) ⟨fun a U g mk q => ⟨q.1, q.2.calling rfl rfl⟩, k_recv hK hI i_28.1 k_29 (ci := 0) rfl, fun U hU hW => ⟨rfl, kIn.of hI hK hE hS hU hW⟩⟩ rfl rfl hl.1 rfl (lv_room (Nat.le_of_ble_eq_true rfl)) dX11_would_46 ⟨Nat.le_of_ble_eq_true rfl, Nat.le_of_ble_eq_true rfl⟩) hS (fun q _ h => h) (fun q h => h) (fun u t H1 locs ht hvm _ hB hz1 hk1 hS => ?_)
            obtain ⟨f_32, hI, kc_34⟩ := hB
            rw [ht] at hI
            have k_35 : f_32 h0 = .inr (11, [.ref (gr g h0 0), .ref (gr g h0 1), .ref (gr g h0 2), .ref (gr g h0 3), .ref (gr g h0 4), .ref (gr g h0 5), .ref (gr g h0 6), .ref (gr g h0 7), .ref (gr g h0 8), .ref (gr g h0 9), .ref (gr g h0 10), .int x_4]) := Kp.at kc_34 i_h0 (by decide) k_25
            have kp_36 := Kp.call kp_26 kc_34 (by decide)
            generalize H1 = H at hI hS ⊢
            refine W.widen (k := 0) (n := 0) (Nat.le_of_ble_eq_true rfl) (Nat.le_of_ble_eq_true rfl) ?_
            refine lv_lconst (v := 0) hx hb dX11_would_49 (by decide) ?_
            refine lv_lstore (lv' := [(4, .long 0), (0, .ref h0), (1, .int p1), (2, .int p2), (3, .int p3)]) hx hb dX11_would_50 hl (by decide) rfl (fun ls hl => ?_)
            refine lv_iconst (v := 0) hx hb dX11_would_52 (by decide) ?_
            refine lv_istore (lv' := [(6, .int 0), (4, .long 0), (0, .ref h0), (1, .int p1), (2, .int p2), (3, .int p3)]) hx hb dX11_would_53 hl (by decide) rfl (fun ls hl => ?_)
            refine lv_iconst (v := 0) hx hb dX11_would_55 (by decide) ?_
            refine lv_istore (lv' := [(7, .int 0), (6, .int 0), (4, .long 0), (0, .ref h0), (1, .int p1), (2, .int p2), (3, .int p3)]) hx hb dX11_would_56 hl (by decide) rfl (fun ls hl => ?_)
            refine lv_iconst (v := 0) hx hb dX11_would_58 (by decide) ?_
            refine lv_istore (lv' := [(8, .int 0), (7, .int 0), (6, .int 0), (4, .long 0), (0, .ref h0), (1, .int p1), (2, .int p2), (3, .int p3)]) hx hb dX11_would_59 hl (by decide) rfl (fun ls hl => ?_)
            have K_61 : ∀ (nn : Nat) (y_37 : Int32) (y_38 : Int32) (y_39 : Int32) (y_40 : Int64) (f_41 : Nat → va_E) (H : Heap) (locs : List Loc) (ls : Array Slot), (p2.toInt - y_37.toInt).toNat < nn → Iv dC dI g A f_41 H → va_S A s.heap H locs → f_41 h0 = .inr (11, [.ref (gr g h0 0), .ref (gr g h0 1), .ref (gr g h0 2), .ref (gr g h0 3), .ref (gr g h0 4), .ref (gr g h0 5), .ref (gr g h0 6), .ref (gr g h0 7), .ref (gr g h0 8), .ref (gr g h0 9), .ref (gr g h0 10), .int x_4]) → Kp g [0, 5, 6, 8, 10, 23, 24] f f_41 → lv_has ls 11 [(8, .int y_37), (7, .int y_38), (6, .int y_39), (4, .long y_40), (0, .ref h0), (1, .int p1), (2, .int p2), (3, .int p3)] → W p l e (headSpec wq_c_X11_would ({ frames := 6, cells := 0, slots := 0, locals := 139 } : Room)).room s m ([.ref h0, .int p1, .int p2, .int p3].toArray) below meth c H locs 0 0 (MQ below (va_Qi (fun (r : Int32) (_ : Unit) => True) (fun (_ : Unit) t => ∃ f1 : Nat → va_E, Iv dC dI g A f1 t.heap ∧ Kp g [0, 5, 6, 8, 10, 23, 24] f f1) A) ([.ref h0, .int p1, .int p2, .int p3].toArray) s 0 0 A) (F0 m 61 ls []) := by
              intro nn
              induction nn with
              | zero => intro y_37 y_38 y_39 y_40 f_41 H locs ls m_44; exact absurd m_44 (Nat.not_lt_zero _)
              | succ nn ih =>
                intro y_37 y_38 y_39 y_40 f_41 H locs ls m_44 hI hS k_42 kp_43 hl
                have g_45 := Int32.toInt_lt p2
                have g_46 := Int32.le_toInt p2
                have g_47 := Int32.toInt_lt y_37
                have g_48 := Int32.le_toInt y_37
                refine lv_iload hx hb dX11_would_61 (lv_at hl 0 rfl) ?_
                refine lv_iload_n hx hb dX11_would_63 rfl (lv_at hl 6 rfl) ?_
                refine lv_icmp_ge (tgt := 137) hx hb dX11_would_64 (by decide) (fun c_49 => ?_) (fun c_49 => ?_)
                · have c_49 := kc_le rfl rfl c_49
                  refine lv_iload_n hx hb dX11_would_137 rfl (lv_at hl 7 rfl) ?_
                  refine lv_iconst (v := 2) hx hb dX11_would_138 (by decide) ?_
                  refine lv_icmp_ne (tgt := 145) hx hb dX11_would_139 (by decide) (fun c_50 => ?_) (fun c_50 => ?_)
                  · have c_50 := kn_eq rfl (by decide : Int32.toInt 2 = 2) c_50
                    refine lv_iload_n hx hb dX11_would_145 rfl (lv_at hl 7 rfl) ?_
                    refine lv_iconst (v := 3) hx hb dX11_would_146 (by decide) ?_
                    refine lv_icmp_ne (tgt := 155) hx hb dX11_would_147 (by decide) (fun c_51 => ?_) (fun c_51 => ?_)
                    · have c_51 := kn_eq rfl (by decide : Int32.toInt 3 = 3) c_51
                      refine lv_lload hx hb dX11_would_155 (lv_at hl 3 rfl) ?_
                      refine lv_l2i (v := y_40.toInt32) hx hb dX11_would_157 rfl ?_
                      exact W.iret (v := y_40.toInt32) hx hb hr (fun t ht hW => ⟨⟨y_40.toInt32, (), rfl, trivial, ⟨f_41, k_ret ht hI, kp_43⟩⟩, hS.F ht⟩) hS.2.2 dX11_would_158
                    · have c_51 := kc_eq rfl (by decide : Int32.toInt 3 = 3) c_51
                      refine lv_iload hx hb dX11_would_150 (lv_at hl 1 rfl) ?_
                      refine lv_goto (tgt := 158) hx hb dX11_would_152 (by decide) ?_
                      exact W.iret (v := y_38) hx hb hr (fun t ht hW => ⟨⟨y_38, (), rfl, trivial, ⟨f_41, k_ret ht hI, kp_43⟩⟩, hS.F ht⟩) hS.2.2 dX11_would_158
                  · have c_50 := kc_eq rfl (by decide : Int32.toInt 2 = 2) c_50
                    refine lv_iload hx hb dX11_would_142 (lv_at hl 2 rfl) ?_
                    exact W.iret (v := y_39) hx hb hr (fun t ht hW => ⟨⟨y_39, (), rfl, trivial, ⟨f_41, k_ret ht hI, kp_43⟩⟩, hS.F ht⟩) hS.2.2 dX11_would_144
                · have c_49 := kn_le rfl rfl c_49
                  refine lv_aload_n hx hb dX11_would_67 rfl (lv_at hl 4 rfl) ?_
                  refine k_get (ci := 11) (v := .ref (gr g h0 4)) (C := RX11) (T := TX11) (N := 12) hx hb hts (fun _ h0_ => List.mem_cons_of_mem _ (List.mem_append_right _ (List.mem_append_right _ (List.mem_append_left _ h0_)))) hown hK hI i_h0.1 k_42 rfl 4 (by decide) (hts (.fieldLink RX11 41 "DeadlineShare" "paper" "LDeadlineShare$State;") (List.mem_cons_of_mem _ (List.mem_append_left _ (List.mem_of_getElem? (i := 5) rfl)))) (fun _ h9 => h9) rfl dX11_would_68 ?_
                  obtain ⟨x_55, x_56, x_57, x_58, x_59, k_54, b_60, b_61⟩ := op_6 hI i_11
                  refine k_get (ci := 6) (v := .int x_58) (C := RX6) (T := TX6) (N := 10) hx hb hts (fun _ h0_ => List.mem_cons_of_mem _ (List.mem_append_right _ (List.mem_append_right _ (List.mem_append_right _ (List.mem_append_right _ (List.mem_append_right _ (List.mem_append_left _ h0_))))))) hown hK hI i_11.1 k_54 rfl 8 (by decide) (hts (.fieldLink RX11 329 "DeadlineShare$State" "last" "I") (List.mem_cons_of_mem _ (List.mem_append_left _ (List.mem_of_getElem? (i := 16) rfl)))) (fun _ h9 => h9) rfl dX11_would_71 ?_
                  refine lv_istore (lv' := [(9, .int x_58), (8, .int y_37), (7, .int y_38), (6, .int y_39), (4, .long y_40), (0, .ref h0), (1, .int p1), (2, .int p2), (3, .int p3)]) hx hb dX11_would_74 hl (by decide) rfl (fun ls hl => ?_)
                  refine lv_aload_n hx hb dX11_would_76 rfl (lv_at hl 5 rfl) ?_
                  refine k_get (ci := 11) (v := .ref (gr g h0 4)) (C := RX11) (T := TX11) (N := 12) hx hb hts (fun _ h0_ => List.mem_cons_of_mem _ (List.mem_append_right _ (List.mem_append_right _ (List.mem_append_left _ h0_)))) hown hK hI i_h0.1 k_42 rfl 4 (by decide) (hts (.fieldLink RX11 41 "DeadlineShare" "paper" "LDeadlineShare$State;") (List.mem_cons_of_mem _ (List.mem_append_left _ (List.mem_of_getElem? (i := 5) rfl)))) (fun _ h9 => h9) rfl dX11_would_77 ?_
                  refine lv_aload_n hx hb dX11_would_80 rfl (lv_at hl 5 rfl) ?_
                  refine k_get (ci := 11) (v := .ref (gr g h0 6)) (C := RX11) (T := TX11) (N := 12) hx hb hts (fun _ h0_ => List.mem_cons_of_mem _ (List.mem_append_right _ (List.mem_append_right _ (List.mem_append_left _ h0_)))) hown hK hI i_h0.1 k_42 rfl 6 (by decide) (hts (.fieldLink RX11 51 "DeadlineShare" "onPaper" "LDeadlineShare$Chooser;") (List.mem_cons_of_mem _ (List.mem_append_left _ (List.mem_of_getElem? (i := 11) rfl)))) (fun _ h9 => h9) rfl dX11_would_81 ?_
                  refine va_calli (va_runV (As := [.ref (gr g h0 6)]) (rest := []) ⟨hx, hb, hml, hown, hts⟩ (c_X6_tick l dC dI g A hG f_41 (gr g h0 4) (gr g h0 6) i_11 i_28) (cwV 1 hts (gi_V (fun w_ h0_ => ⟨List.mem_cons_of_mem _ (List.mem_append_right _ (List.mem_append_right _ (List.mem_append_right _ (List.mem_append_right _ (List.mem_append_right _ (List.mem_append_right _ (List.mem_append_left _ h0_))))))), (tb_c_X6_tick w_ h0_).2⟩) (List.mem_cons_of_mem _ (List.mem_append_left _ (List.mem_of_getElem? (i := 17) rfl))) (List.mem_cons_of_mem _ (List.mem_append_left _ (List.mem_of_getElem? (i := 18) rfl))) (List.mem_cons_of_mem _ (List.mem_append_left _ (List.mem_of_getElem? (i := 19) rfl))) (List.mem_cons_of_mem _ (List.mem_append_left _ (List.mem_of_getElem? (i := 10) rfl)))) rfl rfl rfl (by decide +kernel) ⟨Nat.le_of_ble_eq_true rfl, Nat.le_of_ble_eq_true rfl⟩) ⟨fun a U g mk q => ⟨q.1, q.2.calling rfl rfl⟩, k_recv hK hI i_11.1 k_54 (ci := 6) rfl, fun U hU hW => ⟨rfl, kIn.of hI hK hE hS hU hW⟩⟩ rfl rfl hl.1 rfl (lv_room (Nat.le_of_ble_eq_true rfl)) dX11_would_84 ⟨Nat.le_of_ble_eq_true rfl, Nat.le_of_ble_eq_true rfl⟩) hS (fun q _ h => h) (fun q h => h) (fun r_68 u t H1 locs ht hvm w_67 hB hz1 hk1 hS => ?_)
                  obtain ⟨f_66, hI, kc_69⟩ := hB
                  rw [ht] at hI
                  have k_70 : f_66 h0 = .inr (11, [.ref (gr g h0 0), .ref (gr g h0 1), .ref (gr g h0 2), .ref (gr g h0 3), .ref (gr g h0 4), .ref (gr g h0 5), .ref (gr g h0 6), .ref (gr g h0 7), .ref (gr g h0 8), .ref (gr g h0 9), .ref (gr g h0 10), .int x_4]) := Kp.at kc_69 i_h0 (by decide) k_42
                  have kp_71 := Kp.call kp_43 kc_69 (by decide)
                  generalize H1 = H at hI hS ⊢
                  refine W.widen (k := 0) (n := 0) (Nat.le_of_ble_eq_true rfl) (Nat.le_of_ble_eq_true rfl) ?_
                  refine lv_istore (lv' := [(10, .int r_68), (9, .int x_58), (8, .int y_37), (7, .int y_38), (6, .int y_39), (4, .long y_40), (0, .ref h0), (1, .int p1), (2, .int p2), (3, .int p3)]) hx hb dX11_would_87 hl (by decide) rfl (fun ls hl => ?_)
                  refine lv_iload hx hb dX11_would_89 (lv_at hl 0 rfl) ?_
                  refine lv_iconst (v := (-1)) hx hb dX11_would_91 (by decide) ?_
                  have J_111 : ∀ (y_72 : Int32) (y_73 : Int32) (H : Heap) (locs : List Loc) (ls : Array Slot), Iv dC dI g A f_66 H → va_S A s.heap H locs → lv_has ls 11 [(10, .int r_68), (9, .int x_58), (8, .int y_37), (7, .int y_72), (6, .int y_73), (4, .long y_40), (0, .ref h0), (1, .int p1), (2, .int p2), (3, .int p3)] → W p l e (headSpec wq_c_X11_would ({ frames := 6, cells := 0, slots := 0, locals := 139 } : Room)).room s m ([.ref h0, .int p1, .int p2, .int p3].toArray) below meth c H locs 0 0 (MQ below (va_Qi (fun (r : Int32) (_ : Unit) => True) (fun (_ : Unit) t => ∃ f1 : Nat → va_E, Iv dC dI g A f1 t.heap ∧ Kp g [0, 5, 6, 8, 10, 23, 24] f f1) A) ([.ref h0, .int p1, .int p2, .int p3].toArray) s 0 0 A) (F0 m 111 ls []) := by
                    intro y_72 y_73 H locs ls hI hS  hl
                    refine lv_aload_n hx hb dX11_would_111 rfl (lv_at hl 6 rfl) ?_
                    refine k_get (ci := 11) (v := .ref (gr g h0 4)) (C := RX11) (T := TX11) (N := 12) hx hb hts (fun _ h0_ => List.mem_cons_of_mem _ (List.mem_append_right _ (List.mem_append_right _ (List.mem_append_left _ h0_)))) hown hK hI i_h0.1 k_70 rfl 4 (by decide) (hts (.fieldLink RX11 41 "DeadlineShare" "paper" "LDeadlineShare$State;") (List.mem_cons_of_mem _ (List.mem_append_left _ (List.mem_of_getElem? (i := 5) rfl)))) (fun _ h9 => h9) rfl dX11_would_112 ?_
                    refine lv_lload hx hb dX11_would_115 (lv_at hl 5 rfl) ?_
                    refine lv_iload_n hx hb dX11_would_117 rfl (lv_at hl 9 rfl) ?_
                    have J_126 : ∀ (y_76 : Int32) (H : Heap) (locs : List Loc) (ls : Array Slot), Iv dC dI g A f_66 H → va_S A s.heap H locs → lv_has ls 11 [(10, .int r_68), (9, .int x_58), (8, .int y_37), (7, .int y_72), (6, .int y_73), (4, .long y_40), (0, .ref h0), (1, .int p1), (2, .int p2), (3, .int p3)] → W p l e (headSpec wq_c_X11_would ({ frames := 6, cells := 0, slots := 0, locals := 139 } : Room)).room s m ([.ref h0, .int p1, .int p2, .int p3].toArray) below meth c H locs 0 0 (MQ below (va_Qi (fun (r : Int32) (_ : Unit) => True) (fun (_ : Unit) t => ∃ f1 : Nat → va_E, Iv dC dI g A f1 t.heap ∧ Kp g [0, 5, 6, 8, 10, 23, 24] f f1) A) ([.ref h0, .int p1, .int p2, .int p3].toArray) s 0 0 A) (F0 m 126 ls [.int y_76, .long y_40, .ref (gr g h0 4)]) := by
                      intro y_76 H locs ls hI hS  hl
                      obtain ⟨x_78, x_79, x_80, x_81, x_82, k_77, b_83, b_84⟩ := op_6 hI i_11
                      refine va_calll (va_runV (As := [.long y_40, .int y_76]) (rest := []) ⟨hx, hb, hml, hown, hts⟩ (c_X6_lagEdge l dC dI g A hG f_66 (gr g h0 4) y_40 y_76 i_11) (cwV 2 hts (gi_V (fun w_ h0_ => ⟨List.mem_cons_of_mem _ (List.mem_append_right _ (List.mem_append_right _ (List.mem_append_right _ (List.mem_append_right _ (List.mem_append_right _ (List.mem_append_right _ (List.mem_append_right _ (List.mem_append_left _ h0_)))))))), (tb_c_X6_lagEdge w_ h0_).2⟩) (List.mem_cons_of_mem _ (List.mem_append_left _ (List.mem_of_getElem? (i := 20) rfl))) (List.mem_cons_of_mem _ (List.mem_append_left _ (List.mem_of_getElem? (i := 21) rfl))) (List.mem_cons_of_mem _ (List.mem_append_left _ (List.mem_of_getElem? (i := 22) rfl))) (List.mem_cons_of_mem _ (List.mem_append_left _ (List.mem_of_getElem? (i := 10) rfl)))) rfl rfl rfl (by decide +kernel) ⟨Nat.le_of_ble_eq_true rfl, Nat.le_of_ble_eq_true rfl⟩) ⟨fun a U g mk q => ⟨q.1, q.2.calling rfl rfl⟩, k_recv hK hI i_11.1 k_77 (ci := 6) rfl, fun U hU hW => ⟨rfl, kIn.of hI hK hE hS hU hW⟩⟩ rfl rfl hl.1 rfl (lv_room (Nat.le_of_ble_eq_true rfl)) dX11_would_126 ⟨Nat.le_of_ble_eq_true rfl, Nat.le_of_ble_eq_true rfl⟩) hS (fun q _ h => h) (fun q h => h) (fun r_87 u t H1 locs ht hvm w_86 hB hz1 hk1 hS => ?_)
                      obtain ⟨f_85, hI, kc_88⟩ := hB
                      rw [ht] at hI
                      have k_89 : f_85 h0 = .inr (11, [.ref (gr g h0 0), .ref (gr g h0 1), .ref (gr g h0 2), .ref (gr g h0 3), .ref (gr g h0 4), .ref (gr g h0 5), .ref (gr g h0 6), .ref (gr g h0 7), .ref (gr g h0 8), .ref (gr g h0 9), .ref (gr g h0 10), .int x_4]) := Kp.at kc_88 i_h0 (by decide) k_70
                      have k_90 : f_85 (gr g h0 4) = .inr (6, [.ref (gr g (gr g h0 4) 0), .ref (gr g (gr g h0 4) 1), .ref (gr g (gr g h0 4) 2), .ref (gr g (gr g h0 4) 3), .ref (gr g (gr g h0 4) 4), .int x_78, .int x_79, .long x_80, .int x_81, .int x_82]) := Kp.at kc_88 i_11 (by decide) k_77
                      have kp_91 := Kp.call kp_71 kc_88 (by decide)
                      generalize H1 = H at hI hS ⊢
                      refine W.widen (k := 0) (n := 0) (Nat.le_of_ble_eq_true rfl) (Nat.le_of_ble_eq_true rfl) ?_
                      refine lv_lstore (lv' := [(4, .long r_87), (10, .int r_68), (9, .int x_58), (8, .int y_37), (7, .int y_72), (6, .int y_73), (0, .ref h0), (1, .int p1), (2, .int p2), (3, .int p3)]) hx hb dX11_would_129 hl (by decide) rfl (fun ls hl => ?_)
                      obtain ⟨v_92, ev_92⟩ : ∃ y : Int32, y = y_37 + Int32.ofInt 1 := ⟨_, rfl⟩
                      refine lv_iinc (v := v_92) (lv' := [(8, .int v_92), (4, .long r_87), (10, .int r_68), (9, .int x_58), (7, .int y_72), (6, .int y_73), (0, .ref h0), (1, .int p1), (2, .int p2), (3, .int p3)]) hx hb dX11_would_131 hl (k := 3) rfl ev_92.symm (by decide) rfl (fun ls hl => ?_)
                      have tv_92 := k_inc y_37
                      rw [← ev_92] at tv_92
                      refine lv_goto (tgt := 61) hx hb dX11_would_134 (by decide) ?_
                      exact ih v_92 y_72 y_73 r_87 f_85 _ _ _ (by omega) hI hS k_89 kp_91 (lv_sub hl [0, 4, 5, 1, 6, 7, 8, 9] rfl)
                    refine lv_if_ne (tgt := 125) hx hb dX11_would_118 (by decide) (fun c_93 => ?_) (fun c_93 => ?_)
                    · have c_93 := kn_eq rfl (by decide : Int32.toInt 0 = 0) c_93
                      refine lv_iconst (v := 0) hx hb dX11_would_125 (by decide) ?_
                      exact J_126 0 _ _ _ hI hS  (lv_sub hl [0, 1, 2, 3, 4, 5, 6, 7, 8, 9] rfl)
                    · have c_93 := kc_eq rfl (by decide : Int32.toInt 0 = 0) c_93
                      refine lv_iconst (v := 1) hx hb dX11_would_121 (by decide) ?_
                      refine lv_goto (tgt := 126) hx hb dX11_would_122 (by decide) ?_
                      exact J_126 1 _ _ _ hI hS  (lv_sub hl [0, 1, 2, 3, 4, 5, 6, 7, 8, 9] rfl)
                  refine lv_icmp_ne (tgt := 101) hx hb dX11_would_92 (by decide) (fun c_94 => ?_) (fun c_94 => ?_)
                  · have c_94 := kn_eq rfl (by decide : Int32.toInt (-1) = (-1)) c_94
                    refine lv_iload hx hb dX11_would_101 (lv_at hl 0 rfl) ?_
                    refine lv_iload hx hb dX11_would_103 (lv_at hl 1 rfl) ?_
                    refine lv_icmp_eq (tgt := 111) hx hb dX11_would_105 (by decide) (fun c_95 => ?_) (fun c_95 => ?_)
                    · have c_95 := kc_eq rfl rfl c_95
                      exact J_111 y_38 y_39 _ _ _ hI hS  (lv_sub hl [0, 1, 2, 3, 4, 5, 6, 7, 8, 9] rfl)
                    · have c_95 := kn_eq rfl rfl c_95
                      obtain ⟨v_96, ev_96⟩ : ∃ y : Int32, y = y_39 + Int32.ofInt 1 := ⟨_, rfl⟩
                      refine lv_iinc (v := v_96) (lv' := [(6, .int v_96), (10, .int r_68), (9, .int x_58), (8, .int y_37), (7, .int y_38), (4, .long y_40), (0, .ref h0), (1, .int p1), (2, .int p2), (3, .int p3)]) hx hb dX11_would_108 hl (k := 4) rfl ev_96.symm (by decide) rfl (fun ls hl => ?_)
                      have tv_96 := k_inc y_39
                      rw [← ev_96] at tv_96
                      exact J_111 y_38 v_96 _ _ _ hI hS  (lv_sub hl [1, 2, 3, 4, 0, 5, 6, 7, 8, 9] rfl)
                  · have c_94 := kc_eq rfl (by decide : Int32.toInt (-1) = (-1)) c_94
                    obtain ⟨v_97, ev_97⟩ : ∃ y : Int32, y = y_38 + Int32.ofInt 1 := ⟨_, rfl⟩
                    refine lv_iinc (v := v_97) (lv' := [(7, .int v_97), (10, .int r_68), (9, .int x_58), (8, .int y_37), (6, .int y_39), (4, .long y_40), (0, .ref h0), (1, .int p1), (2, .int p2), (3, .int p3)]) hx hb dX11_would_95 hl (k := 3) rfl ev_97.symm (by decide) rfl (fun ls hl => ?_)
                    have tv_97 := k_inc y_38
                    rw [← ev_97] at tv_97
                    refine lv_goto (tgt := 111) hx hb dX11_would_98 (by decide) ?_
                    exact J_111 v_97 y_39 _ _ _ hI hS  (lv_sub hl [1, 2, 3, 0, 4, 5, 6, 7, 8, 9] rfl)
            exact K_61 _ 0 0 0 0 f_32 _ _ _ (Nat.lt_succ_self _) hI hS k_35 kp_36 (lv_sub hl [0, 1, 2, 3, 4, 5, 6, 7] rfl)
          · have c_9 := kn_le rfl (by decide : Int32.toInt 3 = 3) c_9
            refine lv_ldcw hx hb hown (hts (.constant RX11 325 (-2147483648)) (List.mem_cons_of_mem _ (List.mem_append_left _ (List.mem_of_getElem? (i := 0) rfl)))) dX11_would_26 ?_
            exact W.iret (v := (-2147483648)) hx hb hr (fun t ht hW => ⟨⟨(-2147483648), (), rfl, trivial, ⟨f, k_ret ht hI, hk0⟩⟩, hS.F ht⟩) hS.2.2 dX11_would_29
theorem tw_706 : q_g (.fieldLink RX11 351 "DeadlineShare$Terms" "seed" "I") := ⟨(List.mem_append_right _ (List.mem_of_getElem? (i := 42) (by decide +kernel))), good_of_word (by decide +kernel)⟩
theorem tw_707 : q_g (.fieldLink RX11 348 "DeadlineShare$Terms" "carry" "I") := ⟨(List.mem_append_right _ (List.mem_of_getElem? (i := 39) (by decide +kernel))), good_of_word (by decide +kernel)⟩
theorem tw_708 : q_g (.fieldLink RX11 345 "DeadlineShare$Terms" "mode" "I") := ⟨(List.mem_append_right _ (List.mem_of_getElem? (i := 36) (by decide +kernel))), good_of_word (by decide +kernel)⟩
theorem tw_709 : q_g (.selects RX4 yX4_countOf yX4_countOf) := ⟨(List.mem_append_right _ (List.mem_of_getElem? (i := 1079) (by decide +kernel))), good_of_word (by decide +kernel)⟩
theorem tw_710 : q_g (.instanceMethod yX4_countOf) := ⟨(List.mem_append_right _ (List.mem_of_getElem? (i := 1078) (by decide +kernel))), good_of_word (by decide +kernel)⟩
theorem tw_711 : q_g (.methodLink RX11 342 yX4_countOf) := ⟨(List.mem_append_right _ (List.mem_of_getElem? (i := 1077) (by decide +kernel))), good_of_word (by decide +kernel)⟩
theorem tw_712 : q_g (.selects RX6 yX6_howManyHaveScripts yX6_howManyHaveScripts) := ⟨(List.mem_append_right _ (List.mem_of_getElem? (i := 1075) (by decide +kernel))), good_of_word (by decide +kernel)⟩
theorem tw_713 : q_g (.instanceMethod yX6_howManyHaveScripts) := ⟨(List.mem_append_right _ (List.mem_of_getElem? (i := 1074) (by decide +kernel))), good_of_word (by decide +kernel)⟩
theorem tw_714 : q_g (.methodLink RX11 339 yX6_howManyHaveScripts) := ⟨(List.mem_append_right _ (List.mem_of_getElem? (i := 1073) (by decide +kernel))), good_of_word (by decide +kernel)⟩
theorem tw_715 : q_g (.selects RX6 yX6_howManyAre yX6_howManyAre) := ⟨(List.mem_append_right _ (List.mem_of_getElem? (i := 1071) (by decide +kernel))), good_of_word (by decide +kernel)⟩
theorem tw_716 : q_g (.instanceMethod yX6_howManyAre) := ⟨(List.mem_append_right _ (List.mem_of_getElem? (i := 1070) (by decide +kernel))), good_of_word (by decide +kernel)⟩
theorem tw_717 : q_g (.methodLink RX11 336 yX6_howManyAre) := ⟨(List.mem_append_right _ (List.mem_of_getElem? (i := 1069) (by decide +kernel))), good_of_word (by decide +kernel)⟩
theorem tw_718 : q_g (.code yX11_count cX11_count 2 (some .int)) := ⟨(List.mem_append_right _ (List.mem_of_getElem? (i := 1068) (by decide +kernel))), good_of_word (by decide +kernel)⟩
def ow_c_X11_count : List Cond := [.fieldLink RX11 37 "DeadlineShare" "now" "LDeadlineShare$State;", .fieldLink RX11 119 "DeadlineShare$State" "count" "I", .methodLink RX11 336 yX6_howManyAre, .instanceMethod yX6_howManyAre, .selects RX6 yX6_howManyAre yX6_howManyAre, .initialized RX6, .methodLink RX11 339 yX6_howManyHaveScripts, .instanceMethod yX6_howManyHaveScripts, .selects RX6 yX6_howManyHaveScripts yX6_howManyHaveScripts, .fieldLink RX11 329 "DeadlineShare$State" "last" "I", .fieldLink RX11 223 "DeadlineShare$State" "time" "I", .methodLink RX11 307 yX6_firstInLog, .instanceMethod yX6_firstInLog, .selects RX6 yX6_firstInLog yX6_firstInLog, .fieldLink RX11 65 "DeadlineShare" "history" "LDeadlineShare$History;", .fieldLink RX11 230 "DeadlineShare$History" "size" "I", .fieldLink RX11 21 "DeadlineShare" "tape" "LDeadlineShare$Tape;", .fieldLink RX11 106 "DeadlineShare$Tape" "length" "I", .fieldLink RX11 72 "DeadlineShare" "refusals" "LDeadlineShare$Refusals;", .methodLink RX11 342 yX4_countOf, .instanceMethod yX4_countOf, .selects RX4 yX4_countOf yX4_countOf, .initialized RX4, .fieldLink RX11 12 "DeadlineShare" "terms" "LDeadlineShare$Terms;", .fieldLink RX11 345 "DeadlineShare$Terms" "mode" "I", .fieldLink RX11 348 "DeadlineShare$Terms" "carry" "I", .fieldLink RX11 351 "DeadlineShare$Terms" "seed" "I"]
def wq_c_X11_count : List Cond := .code yX11_count cX11_count 2 (some .int) :: (ow_c_X11_count ++ (u_ws RX11 TX11 12 ++ (u_ws RX6 TX6 10 ++ (wq_c_X6_howManyAre ++ (wq_c_X6_howManyHaveScripts ++ (wq_c_X6_firstInLog ++ (u_ws RX1 TX1 4 ++ (u_ws RX7 TX7 2 ++ (wq_c_X4_countOf ++ (u_ws RX9 TX9 3 ++ ([] : List Cond)))))))))))
theorem tb_c_X11_count : ∀ w ∈ wq_c_X11_count, q_g w := by
  unfold wq_c_X11_count ow_c_X11_count
  exact q_cons tw_718 (q_app (q_cons tw_558 (q_cons tw_557 (q_cons tw_717 (q_cons tw_716 (q_cons tw_715 (q_cons tw_47 (q_cons tw_714 (q_cons tw_713 (q_cons tw_712 (q_cons tw_699 (q_cons tw_617 (q_cons tw_680 (q_cons tw_495 (q_cons tw_494 (q_cons tw_556 (q_cons tw_622 (q_cons tw_542 (q_cons tw_535 (q_cons tw_522 (q_cons tw_711 (q_cons tw_710 (q_cons tw_709 (q_cons tw_273 (q_cons tw_533 (q_cons tw_708 (q_cons tw_707 (q_cons tw_706 q_nil))))))))))))))))))))))))))) (q_app tu_X11 (q_app tu_X6 (q_app tb_c_X6_howManyAre (q_app tb_c_X6_howManyHaveScripts (q_app tb_c_X6_firstInLog (q_app tu_X1 (q_app tu_X7 (q_app tb_c_X4_countOf (q_app tu_X9 q_nil))))))))))
set_option maxHeartbeats 4000000 in
set_option maxRecDepth 100000 in
theorem c_X11_count (l : Launch) (dC : Nat → ClassId) (dI : Nat → Nat → Nat) (g : kG) (A : Nat → Prop) (hG : kWf g) (f : Nat → va_E) (h0 : Nat) (p1 : Int32) (i_h0 : ik g 11 h0) : Met l yX11_count wq_c_X11_count ({ frames := 2, cells := 0, slots := 0, locals := 42 } : Room) (va_Pc [.ref h0, .int p1] (fun U => kIn dC dI g A f U)) (va_Qi (fun (r : Int32) (_ : Unit) => True) (fun (_ : Unit) t => Iv dC dI g A f t.heap) A) 0 0 A := by
  refine Met.ofW (cc := cX11_count) (maxL := 2) (ret := (some .int)) (by decide) rfl ?_
  intro p e s m args below meth c s₁ B hml hv
  obtain ⟨rfl, hI, hK, hE⟩ := hv
  have hx := B.exec
  have hb := B.bytes
  have hr := B.returns
  have hts := atoms_spec (ws := wq_c_X11_count) B.pre
  have hown : s.vm.findClass RX11 = some m.cls := findClass_of_methodNamed B.named
  have hlocks := B.notSynchronized
  have hS : va_S A s.heap s.heap [] := va_S.rf
  have hl := lv_entry ([.ref h0, .int p1]) (n := 2) (Nat.le_of_ble_eq_true rfl)
  rw [lg_entry_eq]
  generalize (lg_sl ([.ref h0, .int p1]) ++ List.replicate (2 - (lg_sl ([.ref h0, .int p1])).length) Slot.unset).toArray = ls at hl ⊢
  have hl : lv_has ls 2 [(0, .ref h0), (1, .int p1)] := hl
  refine lv_iload_n hx hb dX11_count_0 rfl (lv_at hl 1 rfl) ?_
  by_cases h_1 : p1 = 0
  · refine k_topi (y := 0) h_1 ?_
    refine lv_tableIn (tgt := 84) hx hb dX11_count_1 (by decide) (by decide) rfl (by decide) ?_
    have h_1 := kc_eq rfl (by decide : Int32.toInt 0 = 0) h_1
    refine lv_aload_n hx hb dX11_count_84 rfl (lv_at hl 0 rfl) ?_
    obtain ⟨x_3, k_2⟩ := op_11 hI i_h0
    refine k_get (ci := 11) (v := .ref (gr g h0 3)) (C := RX11) (T := TX11) (N := 12) hx hb hts (fun _ h0_ => List.mem_cons_of_mem _ (List.mem_append_right _ (List.mem_append_left _ h0_))) hown hK hI i_h0.1 k_2 rfl 3 (by decide) (hts (.fieldLink RX11 37 "DeadlineShare" "now" "LDeadlineShare$State;") (List.mem_cons_of_mem _ (List.mem_append_left _ (List.mem_of_getElem? (i := 0) rfl)))) (fun _ h9 => h9) rfl dX11_count_85 ?_
    have i_5 := kw_11_3 hG i_h0
    obtain ⟨x_7, x_8, x_9, x_10, x_11, k_6, b_12, b_13⟩ := op_6 hI i_5
    refine k_get (ci := 6) (v := .int x_7) (C := RX6) (T := TX6) (N := 10) hx hb hts (fun _ h0_ => List.mem_cons_of_mem _ (List.mem_append_right _ (List.mem_append_right _ (List.mem_append_left _ h0_)))) hown hK hI i_5.1 k_6 rfl 5 (by decide) (hts (.fieldLink RX11 119 "DeadlineShare$State" "count" "I") (List.mem_cons_of_mem _ (List.mem_append_left _ (List.mem_of_getElem? (i := 1) rfl)))) (fun _ h9 => h9) rfl dX11_count_88 ?_
    exact W.iret (v := x_7) hx hb hr (fun t ht hW => ⟨⟨x_7, (), rfl, trivial, k_ret ht hI⟩, hS.F ht⟩) hS.2.2 dX11_count_91
  by_cases h_14 : p1 = 1
  · refine k_topi (y := 1) h_14 ?_
    refine lv_tableIn (tgt := 92) hx hb dX11_count_1 (by decide) (by decide) rfl (by decide) ?_
    have h_14 := kc_eq rfl (by decide : Int32.toInt 1 = 1) h_14
    refine lv_aload_n hx hb dX11_count_92 rfl (lv_at hl 0 rfl) ?_
    obtain ⟨x_16, k_15⟩ := op_11 hI i_h0
    refine k_get (ci := 11) (v := .ref (gr g h0 3)) (C := RX11) (T := TX11) (N := 12) hx hb hts (fun _ h0_ => List.mem_cons_of_mem _ (List.mem_append_right _ (List.mem_append_left _ h0_))) hown hK hI i_h0.1 k_15 rfl 3 (by decide) (hts (.fieldLink RX11 37 "DeadlineShare" "now" "LDeadlineShare$State;") (List.mem_cons_of_mem _ (List.mem_append_left _ (List.mem_of_getElem? (i := 0) rfl)))) (fun _ h9 => h9) rfl dX11_count_93 ?_
    have i_18 := kw_11_3 hG i_h0
    refine lv_iconst (v := 1) hx hb dX11_count_96 (by decide) ?_
    obtain ⟨x_20, x_21, x_22, x_23, x_24, k_19, b_25, b_26⟩ := op_6 hI i_18
    refine va_calli (va_runV (As := [.int 1]) (rest := []) ⟨hx, hb, hml, hown, hts⟩ (c_X6_howManyAre l dC dI g A hG f (gr g h0 3) 1 i_18) (cwV 1 hts (gi_V (fun w_ h0_ => ⟨List.mem_cons_of_mem _ (List.mem_append_right _ (List.mem_append_right _ (List.mem_append_right _ (List.mem_append_left _ h0_)))), (tb_c_X6_howManyAre w_ h0_).2⟩) (List.mem_cons_of_mem _ (List.mem_append_left _ (List.mem_of_getElem? (i := 2) rfl))) (List.mem_cons_of_mem _ (List.mem_append_left _ (List.mem_of_getElem? (i := 3) rfl))) (List.mem_cons_of_mem _ (List.mem_append_left _ (List.mem_of_getElem? (i := 4) rfl))) (List.mem_cons_of_mem _ (List.mem_append_left _ (List.mem_of_getElem? (i := 5) rfl)))) rfl rfl rfl (by decide +kernel) ⟨Nat.le_of_ble_eq_true rfl, Nat.le_of_ble_eq_true rfl⟩) ⟨fun a U g mk q => ⟨q.1, q.2.calling rfl rfl⟩, k_recv hK hI i_18.1 k_19 (ci := 6) rfl, fun U hU hW => ⟨rfl, kIn.of hI hK hE hS hU hW⟩⟩ rfl rfl hl.1 rfl (lv_room (Nat.le_of_ble_eq_true rfl)) dX11_count_97 ⟨Nat.le_of_ble_eq_true rfl, Nat.le_of_ble_eq_true rfl⟩) hS (fun q _ h => h) (fun q h => h) (fun r_28 u t H1 locs ht hvm w_27 hB hz1 hk1 hS => ?_)
    have hI : Iv dC dI g A f t.heap := hB
    rw [ht] at hI
    generalize H1 = H at hI hS ⊢
    refine W.widen (k := 0) (n := 0) (Nat.le_of_ble_eq_true rfl) (Nat.le_of_ble_eq_true rfl) ?_
    exact W.iret (v := r_28) hx hb hr (fun t ht hW => ⟨⟨r_28, (), rfl, trivial, k_ret ht hI⟩, hS.F ht⟩) hS.2.2 dX11_count_100
  by_cases h_29 : p1 = 2
  · refine k_topi (y := 2) h_29 ?_
    refine lv_tableIn (tgt := 101) hx hb dX11_count_1 (by decide) (by decide) rfl (by decide) ?_
    have h_29 := kc_eq rfl (by decide : Int32.toInt 2 = 2) h_29
    refine lv_aload_n hx hb dX11_count_101 rfl (lv_at hl 0 rfl) ?_
    obtain ⟨x_31, k_30⟩ := op_11 hI i_h0
    refine k_get (ci := 11) (v := .ref (gr g h0 3)) (C := RX11) (T := TX11) (N := 12) hx hb hts (fun _ h0_ => List.mem_cons_of_mem _ (List.mem_append_right _ (List.mem_append_left _ h0_))) hown hK hI i_h0.1 k_30 rfl 3 (by decide) (hts (.fieldLink RX11 37 "DeadlineShare" "now" "LDeadlineShare$State;") (List.mem_cons_of_mem _ (List.mem_append_left _ (List.mem_of_getElem? (i := 0) rfl)))) (fun _ h9 => h9) rfl dX11_count_102 ?_
    have i_33 := kw_11_3 hG i_h0
    refine lv_iconst (v := 2) hx hb dX11_count_105 (by decide) ?_
    obtain ⟨x_35, x_36, x_37, x_38, x_39, k_34, b_40, b_41⟩ := op_6 hI i_33
    refine va_calli (va_runV (As := [.int 2]) (rest := []) ⟨hx, hb, hml, hown, hts⟩ (c_X6_howManyAre l dC dI g A hG f (gr g h0 3) 2 i_33) (cwV 1 hts (gi_V (fun w_ h0_ => ⟨List.mem_cons_of_mem _ (List.mem_append_right _ (List.mem_append_right _ (List.mem_append_right _ (List.mem_append_left _ h0_)))), (tb_c_X6_howManyAre w_ h0_).2⟩) (List.mem_cons_of_mem _ (List.mem_append_left _ (List.mem_of_getElem? (i := 2) rfl))) (List.mem_cons_of_mem _ (List.mem_append_left _ (List.mem_of_getElem? (i := 3) rfl))) (List.mem_cons_of_mem _ (List.mem_append_left _ (List.mem_of_getElem? (i := 4) rfl))) (List.mem_cons_of_mem _ (List.mem_append_left _ (List.mem_of_getElem? (i := 5) rfl)))) rfl rfl rfl (by decide +kernel) ⟨Nat.le_of_ble_eq_true rfl, Nat.le_of_ble_eq_true rfl⟩) ⟨fun a U g mk q => ⟨q.1, q.2.calling rfl rfl⟩, k_recv hK hI i_33.1 k_34 (ci := 6) rfl, fun U hU hW => ⟨rfl, kIn.of hI hK hE hS hU hW⟩⟩ rfl rfl hl.1 rfl (lv_room (Nat.le_of_ble_eq_true rfl)) dX11_count_106 ⟨Nat.le_of_ble_eq_true rfl, Nat.le_of_ble_eq_true rfl⟩) hS (fun q _ h => h) (fun q h => h) (fun r_43 u t H1 locs ht hvm w_42 hB hz1 hk1 hS => ?_)
    have hI : Iv dC dI g A f t.heap := hB
    rw [ht] at hI
    generalize H1 = H at hI hS ⊢
    refine W.widen (k := 0) (n := 0) (Nat.le_of_ble_eq_true rfl) (Nat.le_of_ble_eq_true rfl) ?_
    exact W.iret (v := r_43) hx hb hr (fun t ht hW => ⟨⟨r_43, (), rfl, trivial, k_ret ht hI⟩, hS.F ht⟩) hS.2.2 dX11_count_109
  by_cases h_44 : p1 = 3
  · refine k_topi (y := 3) h_44 ?_
    refine lv_tableIn (tgt := 110) hx hb dX11_count_1 (by decide) (by decide) rfl (by decide) ?_
    have h_44 := kc_eq rfl (by decide : Int32.toInt 3 = 3) h_44
    refine lv_aload_n hx hb dX11_count_110 rfl (lv_at hl 0 rfl) ?_
    obtain ⟨x_46, k_45⟩ := op_11 hI i_h0
    refine k_get (ci := 11) (v := .ref (gr g h0 3)) (C := RX11) (T := TX11) (N := 12) hx hb hts (fun _ h0_ => List.mem_cons_of_mem _ (List.mem_append_right _ (List.mem_append_left _ h0_))) hown hK hI i_h0.1 k_45 rfl 3 (by decide) (hts (.fieldLink RX11 37 "DeadlineShare" "now" "LDeadlineShare$State;") (List.mem_cons_of_mem _ (List.mem_append_left _ (List.mem_of_getElem? (i := 0) rfl)))) (fun _ h9 => h9) rfl dX11_count_111 ?_
    have i_48 := kw_11_3 hG i_h0
    obtain ⟨x_50, x_51, x_52, x_53, x_54, k_49, b_55, b_56⟩ := op_6 hI i_48
    refine va_calli (va_runV (As := []) (rest := []) ⟨hx, hb, hml, hown, hts⟩ (c_X6_howManyHaveScripts l dC dI g A hG f (gr g h0 3) i_48) (cwV 0 hts (gi_V (fun w_ h0_ => ⟨List.mem_cons_of_mem _ (List.mem_append_right _ (List.mem_append_right _ (List.mem_append_right _ (List.mem_append_right _ (List.mem_append_left _ h0_))))), (tb_c_X6_howManyHaveScripts w_ h0_).2⟩) (List.mem_cons_of_mem _ (List.mem_append_left _ (List.mem_of_getElem? (i := 6) rfl))) (List.mem_cons_of_mem _ (List.mem_append_left _ (List.mem_of_getElem? (i := 7) rfl))) (List.mem_cons_of_mem _ (List.mem_append_left _ (List.mem_of_getElem? (i := 8) rfl))) (List.mem_cons_of_mem _ (List.mem_append_left _ (List.mem_of_getElem? (i := 5) rfl)))) rfl rfl rfl (by decide +kernel) ⟨Nat.le_of_ble_eq_true rfl, Nat.le_of_ble_eq_true rfl⟩) ⟨fun a U g mk q => ⟨q.1, q.2.calling rfl rfl⟩, k_recv hK hI i_48.1 k_49 (ci := 6) rfl, fun U hU hW => ⟨rfl, kIn.of hI hK hE hS hU hW⟩⟩ rfl rfl hl.1 rfl (lv_room (Nat.le_of_ble_eq_true rfl)) dX11_count_114 ⟨Nat.le_of_ble_eq_true rfl, Nat.le_of_ble_eq_true rfl⟩) hS (fun q _ h => h) (fun q h => h) (fun r_58 u t H1 locs ht hvm w_57 hB hz1 hk1 hS => ?_)
    have hI : Iv dC dI g A f t.heap := hB
    rw [ht] at hI
    generalize H1 = H at hI hS ⊢
    refine W.widen (k := 0) (n := 0) (Nat.le_of_ble_eq_true rfl) (Nat.le_of_ble_eq_true rfl) ?_
    exact W.iret (v := r_58) hx hb hr (fun t ht hW => ⟨⟨r_58, (), rfl, trivial, k_ret ht hI⟩, hS.F ht⟩) hS.2.2 dX11_count_117
  by_cases h_59 : p1 = 4
  · refine k_topi (y := 4) h_59 ?_
    refine lv_tableIn (tgt := 118) hx hb dX11_count_1 (by decide) (by decide) rfl (by decide) ?_
    have h_59 := kc_eq rfl (by decide : Int32.toInt 4 = 4) h_59
    refine lv_aload_n hx hb dX11_count_118 rfl (lv_at hl 0 rfl) ?_
    obtain ⟨x_61, k_60⟩ := op_11 hI i_h0
    refine k_get (ci := 11) (v := .ref (gr g h0 3)) (C := RX11) (T := TX11) (N := 12) hx hb hts (fun _ h0_ => List.mem_cons_of_mem _ (List.mem_append_right _ (List.mem_append_left _ h0_))) hown hK hI i_h0.1 k_60 rfl 3 (by decide) (hts (.fieldLink RX11 37 "DeadlineShare" "now" "LDeadlineShare$State;") (List.mem_cons_of_mem _ (List.mem_append_left _ (List.mem_of_getElem? (i := 0) rfl)))) (fun _ h9 => h9) rfl dX11_count_119 ?_
    have i_63 := kw_11_3 hG i_h0
    obtain ⟨x_65, x_66, x_67, x_68, x_69, k_64, b_70, b_71⟩ := op_6 hI i_63
    refine k_get (ci := 6) (v := .int x_68) (C := RX6) (T := TX6) (N := 10) hx hb hts (fun _ h0_ => List.mem_cons_of_mem _ (List.mem_append_right _ (List.mem_append_right _ (List.mem_append_left _ h0_)))) hown hK hI i_63.1 k_64 rfl 8 (by decide) (hts (.fieldLink RX11 329 "DeadlineShare$State" "last" "I") (List.mem_cons_of_mem _ (List.mem_append_left _ (List.mem_of_getElem? (i := 9) rfl)))) (fun _ h9 => h9) rfl dX11_count_122 ?_
    exact W.iret (v := x_68) hx hb hr (fun t ht hW => ⟨⟨x_68, (), rfl, trivial, k_ret ht hI⟩, hS.F ht⟩) hS.2.2 dX11_count_125
  by_cases h_72 : p1 = 5
  · refine k_topi (y := 5) h_72 ?_
    refine lv_tableIn (tgt := 126) hx hb dX11_count_1 (by decide) (by decide) rfl (by decide) ?_
    have h_72 := kc_eq rfl (by decide : Int32.toInt 5 = 5) h_72
    refine lv_aload_n hx hb dX11_count_126 rfl (lv_at hl 0 rfl) ?_
    obtain ⟨x_74, k_73⟩ := op_11 hI i_h0
    refine k_get (ci := 11) (v := .ref (gr g h0 3)) (C := RX11) (T := TX11) (N := 12) hx hb hts (fun _ h0_ => List.mem_cons_of_mem _ (List.mem_append_right _ (List.mem_append_left _ h0_))) hown hK hI i_h0.1 k_73 rfl 3 (by decide) (hts (.fieldLink RX11 37 "DeadlineShare" "now" "LDeadlineShare$State;") (List.mem_cons_of_mem _ (List.mem_append_left _ (List.mem_of_getElem? (i := 0) rfl)))) (fun _ h9 => h9) rfl dX11_count_127 ?_
    have i_76 := kw_11_3 hG i_h0
    obtain ⟨x_78, x_79, x_80, x_81, x_82, k_77, b_83, b_84⟩ := op_6 hI i_76
    refine k_get (ci := 6) (v := .int x_79) (C := RX6) (T := TX6) (N := 10) hx hb hts (fun _ h0_ => List.mem_cons_of_mem _ (List.mem_append_right _ (List.mem_append_right _ (List.mem_append_left _ h0_)))) hown hK hI i_76.1 k_77 rfl 6 (by decide) (hts (.fieldLink RX11 223 "DeadlineShare$State" "time" "I") (List.mem_cons_of_mem _ (List.mem_append_left _ (List.mem_of_getElem? (i := 10) rfl)))) (fun _ h9 => h9) rfl dX11_count_130 ?_
    refine lv_aload_n hx hb dX11_count_133 rfl (lv_at hl 0 rfl) ?_
    refine k_get (ci := 11) (v := .ref (gr g h0 3)) (C := RX11) (T := TX11) (N := 12) hx hb hts (fun _ h0_ => List.mem_cons_of_mem _ (List.mem_append_right _ (List.mem_append_left _ h0_))) hown hK hI i_h0.1 k_73 rfl 3 (by decide) (hts (.fieldLink RX11 37 "DeadlineShare" "now" "LDeadlineShare$State;") (List.mem_cons_of_mem _ (List.mem_append_left _ (List.mem_of_getElem? (i := 0) rfl)))) (fun _ h9 => h9) rfl dX11_count_134 ?_
    refine va_calli (va_runV (As := []) (rest := [.int x_79]) ⟨hx, hb, hml, hown, hts⟩ (c_X6_firstInLog l dC dI g A hG f (gr g h0 3) i_76) (cwV 0 hts (gi_V (fun w_ h0_ => ⟨List.mem_cons_of_mem _ (List.mem_append_right _ (List.mem_append_right _ (List.mem_append_right _ (List.mem_append_right _ (List.mem_append_right _ (List.mem_append_left _ h0_)))))), (tb_c_X6_firstInLog w_ h0_).2⟩) (List.mem_cons_of_mem _ (List.mem_append_left _ (List.mem_of_getElem? (i := 11) rfl))) (List.mem_cons_of_mem _ (List.mem_append_left _ (List.mem_of_getElem? (i := 12) rfl))) (List.mem_cons_of_mem _ (List.mem_append_left _ (List.mem_of_getElem? (i := 13) rfl))) (List.mem_cons_of_mem _ (List.mem_append_left _ (List.mem_of_getElem? (i := 5) rfl)))) rfl rfl rfl (by decide +kernel) ⟨Nat.le_of_ble_eq_true rfl, Nat.le_of_ble_eq_true rfl⟩) ⟨fun a U g mk q => ⟨q.1, q.2.calling rfl rfl⟩, k_recv hK hI i_76.1 k_77 (ci := 6) rfl, fun U hU hW => ⟨rfl, kIn.of hI hK hE hS hU hW⟩⟩ rfl rfl hl.1 rfl (lv_room (Nat.le_of_ble_eq_true rfl)) dX11_count_137 ⟨Nat.le_of_ble_eq_true rfl, Nat.le_of_ble_eq_true rfl⟩) hS (fun q _ h => h) (fun q h => h) (fun r_88 u t H1 locs ht hvm w_87 hB hz1 hk1 hS => ?_)
    have hI : Iv dC dI g A f t.heap := hB
    rw [ht] at hI
    generalize H1 = H at hI hS ⊢
    refine W.widen (k := 0) (n := 0) (Nat.le_of_ble_eq_true rfl) (Nat.le_of_ble_eq_true rfl) ?_
    refine lv_isub hx hb dX11_count_140 ?_
    refine lv_topi (fun v_89 ev_89 => ?_)
    have tv_89 := k_sb x_79 r_88
    rw [← ev_89] at tv_89
    exact W.iret (v := v_89) hx hb hr (fun t ht hW => ⟨⟨v_89, (), rfl, trivial, k_ret ht hI⟩, hS.F ht⟩) hS.2.2 dX11_count_141
  by_cases h_90 : p1 = 6
  · refine k_topi (y := 6) h_90 ?_
    refine lv_tableIn (tgt := 142) hx hb dX11_count_1 (by decide) (by decide) rfl (by decide) ?_
    have h_90 := kc_eq rfl (by decide : Int32.toInt 6 = 6) h_90
    refine lv_aload_n hx hb dX11_count_142 rfl (lv_at hl 0 rfl) ?_
    obtain ⟨x_92, k_91⟩ := op_11 hI i_h0
    refine k_get (ci := 11) (v := .ref (gr g h0 9)) (C := RX11) (T := TX11) (N := 12) hx hb hts (fun _ h0_ => List.mem_cons_of_mem _ (List.mem_append_right _ (List.mem_append_left _ h0_))) hown hK hI i_h0.1 k_91 rfl 9 (by decide) (hts (.fieldLink RX11 65 "DeadlineShare" "history" "LDeadlineShare$History;") (List.mem_cons_of_mem _ (List.mem_append_left _ (List.mem_of_getElem? (i := 14) rfl)))) (fun _ h9 => h9) rfl dX11_count_143 ?_
    have i_94 := kw_11_9 hG i_h0
    obtain ⟨x_96, x_97, k_95⟩ := op_1 hI i_94
    refine k_get (ci := 1) (v := .int x_97) (C := RX1) (T := TX1) (N := 4) hx hb hts (fun _ h0_ => List.mem_cons_of_mem _ (List.mem_append_right _ (List.mem_append_right _ (List.mem_append_right _ (List.mem_append_right _ (List.mem_append_right _ (List.mem_append_right _ (List.mem_append_left _ h0_)))))))) hown hK hI i_94.1 k_95 rfl 3 (by decide) (hts (.fieldLink RX11 230 "DeadlineShare$History" "size" "I") (List.mem_cons_of_mem _ (List.mem_append_left _ (List.mem_of_getElem? (i := 15) rfl)))) (fun _ h9 => h9) rfl dX11_count_146 ?_
    exact W.iret (v := x_97) hx hb hr (fun t ht hW => ⟨⟨x_97, (), rfl, trivial, k_ret ht hI⟩, hS.F ht⟩) hS.2.2 dX11_count_149
  by_cases h_98 : p1 = 7
  · refine k_topi (y := 7) h_98 ?_
    refine lv_tableIn (tgt := 150) hx hb dX11_count_1 (by decide) (by decide) rfl (by decide) ?_
    have h_98 := kc_eq rfl (by decide : Int32.toInt 7 = 7) h_98
    refine lv_aload_n hx hb dX11_count_150 rfl (lv_at hl 0 rfl) ?_
    obtain ⟨x_100, k_99⟩ := op_11 hI i_h0
    refine k_get (ci := 11) (v := .ref (gr g h0 1)) (C := RX11) (T := TX11) (N := 12) hx hb hts (fun _ h0_ => List.mem_cons_of_mem _ (List.mem_append_right _ (List.mem_append_left _ h0_))) hown hK hI i_h0.1 k_99 rfl 1 (by decide) (hts (.fieldLink RX11 21 "DeadlineShare" "tape" "LDeadlineShare$Tape;") (List.mem_cons_of_mem _ (List.mem_append_left _ (List.mem_of_getElem? (i := 16) rfl)))) (fun _ h9 => h9) rfl dX11_count_151 ?_
    have i_102 := kw_11_1 hG i_h0
    obtain ⟨x_104, k_103⟩ := op_7 hI i_102
    refine k_get (ci := 7) (v := .int x_104) (C := RX7) (T := TX7) (N := 2) hx hb hts (fun _ h0_ => List.mem_cons_of_mem _ (List.mem_append_right _ (List.mem_append_right _ (List.mem_append_right _ (List.mem_append_right _ (List.mem_append_right _ (List.mem_append_right _ (List.mem_append_right _ (List.mem_append_left _ h0_))))))))) hown hK hI i_102.1 k_103 rfl 1 (by decide) (hts (.fieldLink RX11 106 "DeadlineShare$Tape" "length" "I") (List.mem_cons_of_mem _ (List.mem_append_left _ (List.mem_of_getElem? (i := 17) rfl)))) (fun _ h9 => h9) rfl dX11_count_154 ?_
    exact W.iret (v := x_104) hx hb hr (fun t ht hW => ⟨⟨x_104, (), rfl, trivial, k_ret ht hI⟩, hS.F ht⟩) hS.2.2 dX11_count_157
  by_cases h_105 : p1 = 8
  · refine k_topi (y := 8) h_105 ?_
    refine lv_tableIn (tgt := 158) hx hb dX11_count_1 (by decide) (by decide) rfl (by decide) ?_
    have h_105 := kc_eq rfl (by decide : Int32.toInt 8 = 8) h_105
    refine lv_aload_n hx hb dX11_count_158 rfl (lv_at hl 0 rfl) ?_
    obtain ⟨x_107, k_106⟩ := op_11 hI i_h0
    refine k_get (ci := 11) (v := .ref (gr g h0 10)) (C := RX11) (T := TX11) (N := 12) hx hb hts (fun _ h0_ => List.mem_cons_of_mem _ (List.mem_append_right _ (List.mem_append_left _ h0_))) hown hK hI i_h0.1 k_106 rfl 10 (by decide) (hts (.fieldLink RX11 72 "DeadlineShare" "refusals" "LDeadlineShare$Refusals;") (List.mem_cons_of_mem _ (List.mem_append_left _ (List.mem_of_getElem? (i := 18) rfl)))) (fun _ h9 => h9) rfl dX11_count_159 ?_
    have i_109 := kw_11_10 hG i_h0
    refine lv_iconst (v := (-1)) hx hb dX11_count_162 (by decide) ?_
    obtain ⟨x_111, k_110⟩ := op_4 hI i_109
    refine va_calli (va_runV (As := [.int (-1)]) (rest := []) ⟨hx, hb, hml, hown, hts⟩ (c_X4_countOf l dC dI g A hG f (gr g h0 10) (-1) i_109) (cwV 1 hts (gi_V (fun w_ h0_ => ⟨List.mem_cons_of_mem _ (List.mem_append_right _ (List.mem_append_right _ (List.mem_append_right _ (List.mem_append_right _ (List.mem_append_right _ (List.mem_append_right _ (List.mem_append_right _ (List.mem_append_right _ (List.mem_append_left _ h0_))))))))), (tb_c_X4_countOf w_ h0_).2⟩) (List.mem_cons_of_mem _ (List.mem_append_left _ (List.mem_of_getElem? (i := 19) rfl))) (List.mem_cons_of_mem _ (List.mem_append_left _ (List.mem_of_getElem? (i := 20) rfl))) (List.mem_cons_of_mem _ (List.mem_append_left _ (List.mem_of_getElem? (i := 21) rfl))) (List.mem_cons_of_mem _ (List.mem_append_left _ (List.mem_of_getElem? (i := 22) rfl)))) rfl rfl rfl (by decide +kernel) ⟨Nat.le_of_ble_eq_true rfl, Nat.le_of_ble_eq_true rfl⟩) ⟨fun a U g mk q => ⟨q.1, q.2.calling rfl rfl⟩, k_recv hK hI i_109.1 k_110 (ci := 4) rfl, fun U hU hW => ⟨rfl, kIn.of hI hK hE hS hU hW⟩⟩ rfl rfl hl.1 rfl (lv_room (Nat.le_of_ble_eq_true rfl)) dX11_count_163 ⟨Nat.le_of_ble_eq_true rfl, Nat.le_of_ble_eq_true rfl⟩) hS (fun q _ h => h) (fun q h => h) (fun r_113 u t H1 locs ht hvm w_112 hB hz1 hk1 hS => ?_)
    have hI : Iv dC dI g A f t.heap := hB
    rw [ht] at hI
    generalize H1 = H at hI hS ⊢
    refine W.widen (k := 0) (n := 0) (Nat.le_of_ble_eq_true rfl) (Nat.le_of_ble_eq_true rfl) ?_
    exact W.iret (v := r_113) hx hb hr (fun t ht hW => ⟨⟨r_113, (), rfl, trivial, k_ret ht hI⟩, hS.F ht⟩) hS.2.2 dX11_count_166
  by_cases h_114 : p1 = 9
  · refine k_topi (y := 9) h_114 ?_
    refine lv_tableIn (tgt := 167) hx hb dX11_count_1 (by decide) (by decide) rfl (by decide) ?_
    have h_114 := kc_eq rfl (by decide : Int32.toInt 9 = 9) h_114
    refine lv_aload_n hx hb dX11_count_167 rfl (lv_at hl 0 rfl) ?_
    obtain ⟨x_116, k_115⟩ := op_11 hI i_h0
    refine k_get (ci := 11) (v := .ref (gr g h0 10)) (C := RX11) (T := TX11) (N := 12) hx hb hts (fun _ h0_ => List.mem_cons_of_mem _ (List.mem_append_right _ (List.mem_append_left _ h0_))) hown hK hI i_h0.1 k_115 rfl 10 (by decide) (hts (.fieldLink RX11 72 "DeadlineShare" "refusals" "LDeadlineShare$Refusals;") (List.mem_cons_of_mem _ (List.mem_append_left _ (List.mem_of_getElem? (i := 18) rfl)))) (fun _ h9 => h9) rfl dX11_count_168 ?_
    have i_118 := kw_11_10 hG i_h0
    refine lv_bipush (v := (-2)) hx hb dX11_count_171 (by decide) ?_
    obtain ⟨x_120, k_119⟩ := op_4 hI i_118
    refine va_calli (va_runV (As := [.int (-2)]) (rest := []) ⟨hx, hb, hml, hown, hts⟩ (c_X4_countOf l dC dI g A hG f (gr g h0 10) (-2) i_118) (cwV 1 hts (gi_V (fun w_ h0_ => ⟨List.mem_cons_of_mem _ (List.mem_append_right _ (List.mem_append_right _ (List.mem_append_right _ (List.mem_append_right _ (List.mem_append_right _ (List.mem_append_right _ (List.mem_append_right _ (List.mem_append_right _ (List.mem_append_left _ h0_))))))))), (tb_c_X4_countOf w_ h0_).2⟩) (List.mem_cons_of_mem _ (List.mem_append_left _ (List.mem_of_getElem? (i := 19) rfl))) (List.mem_cons_of_mem _ (List.mem_append_left _ (List.mem_of_getElem? (i := 20) rfl))) (List.mem_cons_of_mem _ (List.mem_append_left _ (List.mem_of_getElem? (i := 21) rfl))) (List.mem_cons_of_mem _ (List.mem_append_left _ (List.mem_of_getElem? (i := 22) rfl)))) rfl rfl rfl (by decide +kernel) ⟨Nat.le_of_ble_eq_true rfl, Nat.le_of_ble_eq_true rfl⟩) ⟨fun a U g mk q => ⟨q.1, q.2.calling rfl rfl⟩, k_recv hK hI i_118.1 k_119 (ci := 4) rfl, fun U hU hW => ⟨rfl, kIn.of hI hK hE hS hU hW⟩⟩ rfl rfl hl.1 rfl (lv_room (Nat.le_of_ble_eq_true rfl)) dX11_count_173 ⟨Nat.le_of_ble_eq_true rfl, Nat.le_of_ble_eq_true rfl⟩) hS (fun q _ h => h) (fun q h => h) (fun r_122 u t H1 locs ht hvm w_121 hB hz1 hk1 hS => ?_)
    have hI : Iv dC dI g A f t.heap := hB
    rw [ht] at hI
    generalize H1 = H at hI hS ⊢
    refine W.widen (k := 0) (n := 0) (Nat.le_of_ble_eq_true rfl) (Nat.le_of_ble_eq_true rfl) ?_
    exact W.iret (v := r_122) hx hb hr (fun t ht hW => ⟨⟨r_122, (), rfl, trivial, k_ret ht hI⟩, hS.F ht⟩) hS.2.2 dX11_count_176
  by_cases h_123 : p1 = 10
  · refine k_topi (y := 10) h_123 ?_
    refine lv_tableIn (tgt := 177) hx hb dX11_count_1 (by decide) (by decide) rfl (by decide) ?_
    have h_123 := kc_eq rfl (by decide : Int32.toInt 10 = 10) h_123
    refine lv_aload_n hx hb dX11_count_177 rfl (lv_at hl 0 rfl) ?_
    obtain ⟨x_125, k_124⟩ := op_11 hI i_h0
    refine k_get (ci := 11) (v := .ref (gr g h0 10)) (C := RX11) (T := TX11) (N := 12) hx hb hts (fun _ h0_ => List.mem_cons_of_mem _ (List.mem_append_right _ (List.mem_append_left _ h0_))) hown hK hI i_h0.1 k_124 rfl 10 (by decide) (hts (.fieldLink RX11 72 "DeadlineShare" "refusals" "LDeadlineShare$Refusals;") (List.mem_cons_of_mem _ (List.mem_append_left _ (List.mem_of_getElem? (i := 18) rfl)))) (fun _ h9 => h9) rfl dX11_count_178 ?_
    have i_127 := kw_11_10 hG i_h0
    refine lv_bipush (v := (-4)) hx hb dX11_count_181 (by decide) ?_
    obtain ⟨x_129, k_128⟩ := op_4 hI i_127
    refine va_calli (va_runV (As := [.int (-4)]) (rest := []) ⟨hx, hb, hml, hown, hts⟩ (c_X4_countOf l dC dI g A hG f (gr g h0 10) (-4) i_127) (cwV 1 hts (gi_V (fun w_ h0_ => ⟨List.mem_cons_of_mem _ (List.mem_append_right _ (List.mem_append_right _ (List.mem_append_right _ (List.mem_append_right _ (List.mem_append_right _ (List.mem_append_right _ (List.mem_append_right _ (List.mem_append_right _ (List.mem_append_left _ h0_))))))))), (tb_c_X4_countOf w_ h0_).2⟩) (List.mem_cons_of_mem _ (List.mem_append_left _ (List.mem_of_getElem? (i := 19) rfl))) (List.mem_cons_of_mem _ (List.mem_append_left _ (List.mem_of_getElem? (i := 20) rfl))) (List.mem_cons_of_mem _ (List.mem_append_left _ (List.mem_of_getElem? (i := 21) rfl))) (List.mem_cons_of_mem _ (List.mem_append_left _ (List.mem_of_getElem? (i := 22) rfl)))) rfl rfl rfl (by decide +kernel) ⟨Nat.le_of_ble_eq_true rfl, Nat.le_of_ble_eq_true rfl⟩) ⟨fun a U g mk q => ⟨q.1, q.2.calling rfl rfl⟩, k_recv hK hI i_127.1 k_128 (ci := 4) rfl, fun U hU hW => ⟨rfl, kIn.of hI hK hE hS hU hW⟩⟩ rfl rfl hl.1 rfl (lv_room (Nat.le_of_ble_eq_true rfl)) dX11_count_183 ⟨Nat.le_of_ble_eq_true rfl, Nat.le_of_ble_eq_true rfl⟩) hS (fun q _ h => h) (fun q h => h) (fun r_131 u t H1 locs ht hvm w_130 hB hz1 hk1 hS => ?_)
    have hI : Iv dC dI g A f t.heap := hB
    rw [ht] at hI
    generalize H1 = H at hI hS ⊢
    refine W.widen (k := 0) (n := 0) (Nat.le_of_ble_eq_true rfl) (Nat.le_of_ble_eq_true rfl) ?_
    exact W.iret (v := r_131) hx hb hr (fun t ht hW => ⟨⟨r_131, (), rfl, trivial, k_ret ht hI⟩, hS.F ht⟩) hS.2.2 dX11_count_186
  by_cases h_132 : p1 = 11
  · refine k_topi (y := 11) h_132 ?_
    refine lv_tableIn (tgt := 187) hx hb dX11_count_1 (by decide) (by decide) rfl (by decide) ?_
    have h_132 := kc_eq rfl (by decide : Int32.toInt 11 = 11) h_132
    refine lv_aload_n hx hb dX11_count_187 rfl (lv_at hl 0 rfl) ?_
    obtain ⟨x_134, k_133⟩ := op_11 hI i_h0
    refine k_get (ci := 11) (v := .ref (gr g h0 10)) (C := RX11) (T := TX11) (N := 12) hx hb hts (fun _ h0_ => List.mem_cons_of_mem _ (List.mem_append_right _ (List.mem_append_left _ h0_))) hown hK hI i_h0.1 k_133 rfl 10 (by decide) (hts (.fieldLink RX11 72 "DeadlineShare" "refusals" "LDeadlineShare$Refusals;") (List.mem_cons_of_mem _ (List.mem_append_left _ (List.mem_of_getElem? (i := 18) rfl)))) (fun _ h9 => h9) rfl dX11_count_188 ?_
    have i_136 := kw_11_10 hG i_h0
    refine lv_bipush (v := (-5)) hx hb dX11_count_191 (by decide) ?_
    obtain ⟨x_138, k_137⟩ := op_4 hI i_136
    refine va_calli (va_runV (As := [.int (-5)]) (rest := []) ⟨hx, hb, hml, hown, hts⟩ (c_X4_countOf l dC dI g A hG f (gr g h0 10) (-5) i_136) (cwV 1 hts (gi_V (fun w_ h0_ => ⟨List.mem_cons_of_mem _ (List.mem_append_right _ (List.mem_append_right _ (List.mem_append_right _ (List.mem_append_right _ (List.mem_append_right _ (List.mem_append_right _ (List.mem_append_right _ (List.mem_append_right _ (List.mem_append_left _ h0_))))))))), (tb_c_X4_countOf w_ h0_).2⟩) (List.mem_cons_of_mem _ (List.mem_append_left _ (List.mem_of_getElem? (i := 19) rfl))) (List.mem_cons_of_mem _ (List.mem_append_left _ (List.mem_of_getElem? (i := 20) rfl))) (List.mem_cons_of_mem _ (List.mem_append_left _ (List.mem_of_getElem? (i := 21) rfl))) (List.mem_cons_of_mem _ (List.mem_append_left _ (List.mem_of_getElem? (i := 22) rfl)))) rfl rfl rfl (by decide +kernel) ⟨Nat.le_of_ble_eq_true rfl, Nat.le_of_ble_eq_true rfl⟩) ⟨fun a U g mk q => ⟨q.1, q.2.calling rfl rfl⟩, k_recv hK hI i_136.1 k_137 (ci := 4) rfl, fun U hU hW => ⟨rfl, kIn.of hI hK hE hS hU hW⟩⟩ rfl rfl hl.1 rfl (lv_room (Nat.le_of_ble_eq_true rfl)) dX11_count_193 ⟨Nat.le_of_ble_eq_true rfl, Nat.le_of_ble_eq_true rfl⟩) hS (fun q _ h => h) (fun q h => h) (fun r_140 u t H1 locs ht hvm w_139 hB hz1 hk1 hS => ?_)
    have hI : Iv dC dI g A f t.heap := hB
    rw [ht] at hI
    generalize H1 = H at hI hS ⊢
    refine W.widen (k := 0) (n := 0) (Nat.le_of_ble_eq_true rfl) (Nat.le_of_ble_eq_true rfl) ?_
    exact W.iret (v := r_140) hx hb hr (fun t ht hW => ⟨⟨r_140, (), rfl, trivial, k_ret ht hI⟩, hS.F ht⟩) hS.2.2 dX11_count_196
  by_cases h_141 : p1 = 12
  · refine k_topi (y := 12) h_141 ?_
    refine lv_tableIn (tgt := 197) hx hb dX11_count_1 (by decide) (by decide) rfl (by decide) ?_
    have h_141 := kc_eq rfl (by decide : Int32.toInt 12 = 12) h_141
    refine lv_aload_n hx hb dX11_count_197 rfl (lv_at hl 0 rfl) ?_
    obtain ⟨x_143, k_142⟩ := op_11 hI i_h0
    refine k_get (ci := 11) (v := .ref (gr g h0 10)) (C := RX11) (T := TX11) (N := 12) hx hb hts (fun _ h0_ => List.mem_cons_of_mem _ (List.mem_append_right _ (List.mem_append_left _ h0_))) hown hK hI i_h0.1 k_142 rfl 10 (by decide) (hts (.fieldLink RX11 72 "DeadlineShare" "refusals" "LDeadlineShare$Refusals;") (List.mem_cons_of_mem _ (List.mem_append_left _ (List.mem_of_getElem? (i := 18) rfl)))) (fun _ h9 => h9) rfl dX11_count_198 ?_
    have i_145 := kw_11_10 hG i_h0
    refine lv_bipush (v := (-6)) hx hb dX11_count_201 (by decide) ?_
    obtain ⟨x_147, k_146⟩ := op_4 hI i_145
    refine va_calli (va_runV (As := [.int (-6)]) (rest := []) ⟨hx, hb, hml, hown, hts⟩ (c_X4_countOf l dC dI g A hG f (gr g h0 10) (-6) i_145) (cwV 1 hts (gi_V (fun w_ h0_ => ⟨List.mem_cons_of_mem _ (List.mem_append_right _ (List.mem_append_right _ (List.mem_append_right _ (List.mem_append_right _ (List.mem_append_right _ (List.mem_append_right _ (List.mem_append_right _ (List.mem_append_right _ (List.mem_append_left _ h0_))))))))), (tb_c_X4_countOf w_ h0_).2⟩) (List.mem_cons_of_mem _ (List.mem_append_left _ (List.mem_of_getElem? (i := 19) rfl))) (List.mem_cons_of_mem _ (List.mem_append_left _ (List.mem_of_getElem? (i := 20) rfl))) (List.mem_cons_of_mem _ (List.mem_append_left _ (List.mem_of_getElem? (i := 21) rfl))) (List.mem_cons_of_mem _ (List.mem_append_left _ (List.mem_of_getElem? (i := 22) rfl)))) rfl rfl rfl (by decide +kernel) ⟨Nat.le_of_ble_eq_true rfl, Nat.le_of_ble_eq_true rfl⟩) ⟨fun a U g mk q => ⟨q.1, q.2.calling rfl rfl⟩, k_recv hK hI i_145.1 k_146 (ci := 4) rfl, fun U hU hW => ⟨rfl, kIn.of hI hK hE hS hU hW⟩⟩ rfl rfl hl.1 rfl (lv_room (Nat.le_of_ble_eq_true rfl)) dX11_count_203 ⟨Nat.le_of_ble_eq_true rfl, Nat.le_of_ble_eq_true rfl⟩) hS (fun q _ h => h) (fun q h => h) (fun r_149 u t H1 locs ht hvm w_148 hB hz1 hk1 hS => ?_)
    have hI : Iv dC dI g A f t.heap := hB
    rw [ht] at hI
    generalize H1 = H at hI hS ⊢
    refine W.widen (k := 0) (n := 0) (Nat.le_of_ble_eq_true rfl) (Nat.le_of_ble_eq_true rfl) ?_
    exact W.iret (v := r_149) hx hb hr (fun t ht hW => ⟨⟨r_149, (), rfl, trivial, k_ret ht hI⟩, hS.F ht⟩) hS.2.2 dX11_count_206
  by_cases h_150 : p1 = 13
  · refine k_topi (y := 13) h_150 ?_
    refine lv_tableIn (tgt := 207) hx hb dX11_count_1 (by decide) (by decide) rfl (by decide) ?_
    have h_150 := kc_eq rfl (by decide : Int32.toInt 13 = 13) h_150
    refine lv_aload_n hx hb dX11_count_207 rfl (lv_at hl 0 rfl) ?_
    obtain ⟨x_152, k_151⟩ := op_11 hI i_h0
    refine k_get (ci := 11) (v := .ref (gr g h0 0)) (C := RX11) (T := TX11) (N := 12) hx hb hts (fun _ h0_ => List.mem_cons_of_mem _ (List.mem_append_right _ (List.mem_append_left _ h0_))) hown hK hI i_h0.1 k_151 rfl 0 (by decide) (hts (.fieldLink RX11 12 "DeadlineShare" "terms" "LDeadlineShare$Terms;") (List.mem_cons_of_mem _ (List.mem_append_left _ (List.mem_of_getElem? (i := 23) rfl)))) (fun _ h9 => h9) rfl dX11_count_208 ?_
    have i_154 := kw_11_0 hG i_h0
    obtain ⟨x_156, x_157, x_158, k_155⟩ := op_9 hI i_154
    refine k_get (ci := 9) (v := .int x_156) (C := RX9) (T := TX9) (N := 3) hx hb hts (fun _ h0_ => List.mem_cons_of_mem _ (List.mem_append_right _ (List.mem_append_right _ (List.mem_append_right _ (List.mem_append_right _ (List.mem_append_right _ (List.mem_append_right _ (List.mem_append_right _ (List.mem_append_right _ (List.mem_append_right _ (List.mem_append_left _ h0_))))))))))) hown hK hI i_154.1 k_155 rfl 0 (by decide) (hts (.fieldLink RX11 345 "DeadlineShare$Terms" "mode" "I") (List.mem_cons_of_mem _ (List.mem_append_left _ (List.mem_of_getElem? (i := 24) rfl)))) (fun _ h9 => h9) rfl dX11_count_211 ?_
    exact W.iret (v := x_156) hx hb hr (fun t ht hW => ⟨⟨x_156, (), rfl, trivial, k_ret ht hI⟩, hS.F ht⟩) hS.2.2 dX11_count_214
  by_cases h_159 : p1 = 14
  · refine k_topi (y := 14) h_159 ?_
    refine lv_tableIn (tgt := 215) hx hb dX11_count_1 (by decide) (by decide) rfl (by decide) ?_
    have h_159 := kc_eq rfl (by decide : Int32.toInt 14 = 14) h_159
    refine lv_aload_n hx hb dX11_count_215 rfl (lv_at hl 0 rfl) ?_
    obtain ⟨x_161, k_160⟩ := op_11 hI i_h0
    refine k_get (ci := 11) (v := .ref (gr g h0 0)) (C := RX11) (T := TX11) (N := 12) hx hb hts (fun _ h0_ => List.mem_cons_of_mem _ (List.mem_append_right _ (List.mem_append_left _ h0_))) hown hK hI i_h0.1 k_160 rfl 0 (by decide) (hts (.fieldLink RX11 12 "DeadlineShare" "terms" "LDeadlineShare$Terms;") (List.mem_cons_of_mem _ (List.mem_append_left _ (List.mem_of_getElem? (i := 23) rfl)))) (fun _ h9 => h9) rfl dX11_count_216 ?_
    have i_163 := kw_11_0 hG i_h0
    obtain ⟨x_165, x_166, x_167, k_164⟩ := op_9 hI i_163
    refine k_get (ci := 9) (v := .int x_166) (C := RX9) (T := TX9) (N := 3) hx hb hts (fun _ h0_ => List.mem_cons_of_mem _ (List.mem_append_right _ (List.mem_append_right _ (List.mem_append_right _ (List.mem_append_right _ (List.mem_append_right _ (List.mem_append_right _ (List.mem_append_right _ (List.mem_append_right _ (List.mem_append_right _ (List.mem_append_left _ h0_))))))))))) hown hK hI i_163.1 k_164 rfl 1 (by decide) (hts (.fieldLink RX11 348 "DeadlineShare$Terms" "carry" "I") (List.mem_cons_of_mem _ (List.mem_append_left _ (List.mem_of_getElem? (i := 25) rfl)))) (fun _ h9 => h9) rfl dX11_count_219 ?_
    exact W.iret (v := x_166) hx hb hr (fun t ht hW => ⟨⟨x_166, (), rfl, trivial, k_ret ht hI⟩, hS.F ht⟩) hS.2.2 dX11_count_222
  by_cases h_168 : p1 = 15
  · refine k_topi (y := 15) h_168 ?_
    refine lv_tableIn (tgt := 223) hx hb dX11_count_1 (by decide) (by decide) rfl (by decide) ?_
    have h_168 := kc_eq rfl (by decide : Int32.toInt 15 = 15) h_168
    refine lv_aload_n hx hb dX11_count_223 rfl (lv_at hl 0 rfl) ?_
    obtain ⟨x_170, k_169⟩ := op_11 hI i_h0
    refine k_get (ci := 11) (v := .ref (gr g h0 0)) (C := RX11) (T := TX11) (N := 12) hx hb hts (fun _ h0_ => List.mem_cons_of_mem _ (List.mem_append_right _ (List.mem_append_left _ h0_))) hown hK hI i_h0.1 k_169 rfl 0 (by decide) (hts (.fieldLink RX11 12 "DeadlineShare" "terms" "LDeadlineShare$Terms;") (List.mem_cons_of_mem _ (List.mem_append_left _ (List.mem_of_getElem? (i := 23) rfl)))) (fun _ h9 => h9) rfl dX11_count_224 ?_
    have i_172 := kw_11_0 hG i_h0
    obtain ⟨x_174, x_175, x_176, k_173⟩ := op_9 hI i_172
    refine k_get (ci := 9) (v := .int x_176) (C := RX9) (T := TX9) (N := 3) hx hb hts (fun _ h0_ => List.mem_cons_of_mem _ (List.mem_append_right _ (List.mem_append_right _ (List.mem_append_right _ (List.mem_append_right _ (List.mem_append_right _ (List.mem_append_right _ (List.mem_append_right _ (List.mem_append_right _ (List.mem_append_right _ (List.mem_append_left _ h0_))))))))))) hown hK hI i_172.1 k_173 rfl 2 (by decide) (hts (.fieldLink RX11 351 "DeadlineShare$Terms" "seed" "I") (List.mem_cons_of_mem _ (List.mem_append_left _ (List.mem_of_getElem? (i := 26) rfl)))) (fun _ h9 => h9) rfl dX11_count_227 ?_
    exact W.iret (v := x_176) hx hb hr (fun t ht hW => ⟨⟨x_176, (), rfl, trivial, k_ret ht hI⟩, hS.F ht⟩) hS.2.2 dX11_count_230
  by_cases h_177 : p1 = 16
  · refine k_topi (y := 16) h_177 ?_
    refine lv_tableIn (tgt := 231) hx hb dX11_count_1 (by decide) (by decide) rfl (by decide) ?_
    have h_177 := kc_eq rfl (by decide : Int32.toInt 16 = 16) h_177
    refine lv_aload_n hx hb dX11_count_231 rfl (lv_at hl 0 rfl) ?_
    obtain ⟨x_179, k_178⟩ := op_11 hI i_h0
    refine k_get (ci := 11) (v := .ref (gr g h0 3)) (C := RX11) (T := TX11) (N := 12) hx hb hts (fun _ h0_ => List.mem_cons_of_mem _ (List.mem_append_right _ (List.mem_append_left _ h0_))) hown hK hI i_h0.1 k_178 rfl 3 (by decide) (hts (.fieldLink RX11 37 "DeadlineShare" "now" "LDeadlineShare$State;") (List.mem_cons_of_mem _ (List.mem_append_left _ (List.mem_of_getElem? (i := 0) rfl)))) (fun _ h9 => h9) rfl dX11_count_232 ?_
    have i_181 := kw_11_3 hG i_h0
    refine lv_iconst (v := 3) hx hb dX11_count_235 (by decide) ?_
    obtain ⟨x_183, x_184, x_185, x_186, x_187, k_182, b_188, b_189⟩ := op_6 hI i_181
    refine va_calli (va_runV (As := [.int 3]) (rest := []) ⟨hx, hb, hml, hown, hts⟩ (c_X6_howManyAre l dC dI g A hG f (gr g h0 3) 3 i_181) (cwV 1 hts (gi_V (fun w_ h0_ => ⟨List.mem_cons_of_mem _ (List.mem_append_right _ (List.mem_append_right _ (List.mem_append_right _ (List.mem_append_left _ h0_)))), (tb_c_X6_howManyAre w_ h0_).2⟩) (List.mem_cons_of_mem _ (List.mem_append_left _ (List.mem_of_getElem? (i := 2) rfl))) (List.mem_cons_of_mem _ (List.mem_append_left _ (List.mem_of_getElem? (i := 3) rfl))) (List.mem_cons_of_mem _ (List.mem_append_left _ (List.mem_of_getElem? (i := 4) rfl))) (List.mem_cons_of_mem _ (List.mem_append_left _ (List.mem_of_getElem? (i := 5) rfl)))) rfl rfl rfl (by decide +kernel) ⟨Nat.le_of_ble_eq_true rfl, Nat.le_of_ble_eq_true rfl⟩) ⟨fun a U g mk q => ⟨q.1, q.2.calling rfl rfl⟩, k_recv hK hI i_181.1 k_182 (ci := 6) rfl, fun U hU hW => ⟨rfl, kIn.of hI hK hE hS hU hW⟩⟩ rfl rfl hl.1 rfl (lv_room (Nat.le_of_ble_eq_true rfl)) dX11_count_236 ⟨Nat.le_of_ble_eq_true rfl, Nat.le_of_ble_eq_true rfl⟩) hS (fun q _ h => h) (fun q h => h) (fun r_191 u t H1 locs ht hvm w_190 hB hz1 hk1 hS => ?_)
    have hI : Iv dC dI g A f t.heap := hB
    rw [ht] at hI
    generalize H1 = H at hI hS ⊢
    refine W.widen (k := 0) (n := 0) (Nat.le_of_ble_eq_true rfl) (Nat.le_of_ble_eq_true rfl) ?_
    exact W.iret (v := r_191) hx hb hr (fun t ht hW => ⟨⟨r_191, (), rfl, trivial, k_ret ht hI⟩, hS.F ht⟩) hS.2.2 dX11_count_239
  have h_1 := kn_eq rfl (by decide : Int32.toInt 0 = 0) h_1
  have h_14 := kn_eq rfl (by decide : Int32.toInt 1 = 1) h_14
  have h_29 := kn_eq rfl (by decide : Int32.toInt 2 = 2) h_29
  have h_44 := kn_eq rfl (by decide : Int32.toInt 3 = 3) h_44
  have h_59 := kn_eq rfl (by decide : Int32.toInt 4 = 4) h_59
  have h_72 := kn_eq rfl (by decide : Int32.toInt 5 = 5) h_72
  have h_90 := kn_eq rfl (by decide : Int32.toInt 6 = 6) h_90
  have h_98 := kn_eq rfl (by decide : Int32.toInt 7 = 7) h_98
  have h_105 := kn_eq rfl (by decide : Int32.toInt 8 = 8) h_105
  have h_114 := kn_eq rfl (by decide : Int32.toInt 9 = 9) h_114
  have h_123 := kn_eq rfl (by decide : Int32.toInt 10 = 10) h_123
  have h_132 := kn_eq rfl (by decide : Int32.toInt 11 = 11) h_132
  have h_141 := kn_eq rfl (by decide : Int32.toInt 12 = 12) h_141
  have h_150 := kn_eq rfl (by decide : Int32.toInt 13 = 13) h_150
  have h_159 := kn_eq rfl (by decide : Int32.toInt 14 = 14) h_159
  have h_168 := kn_eq rfl (by decide : Int32.toInt 15 = 15) h_168
  have h_177 := kn_eq rfl (by decide : Int32.toInt 16 = 16) h_177
  refine lv_tableOut (tgt := 240) hx hb dX11_count_1 (by omega) (by decide) ?_
  refine lv_iconst (v := (-1)) hx hb dX11_count_240 (by decide) ?_
  exact W.iret (v := (-1)) hx hb hr (fun t ht hW => ⟨⟨(-1), (), rfl, trivial, k_ret ht hI⟩, hS.F ht⟩) hS.2.2 dX11_count_241
theorem tw_719 : q_g (.fieldLink RX11 354 "DeadlineShare$Refusals" "latest" "I") := ⟨(List.mem_append_right _ (List.mem_of_getElem? (i := 314) (by decide +kernel))), good_of_word (by decide +kernel)⟩
theorem tw_720 : q_g (.code yX11_status cX11_status 1 (some .int)) := ⟨(List.mem_append_right _ (List.mem_of_getElem? (i := 1084) (by decide +kernel))), good_of_word (by decide +kernel)⟩
def ow_c_X11_status : List Cond := [.fieldLink RX11 72 "DeadlineShare" "refusals" "LDeadlineShare$Refusals;", .fieldLink RX11 354 "DeadlineShare$Refusals" "latest" "I"]
def wq_c_X11_status : List Cond := .code yX11_status cX11_status 1 (some .int) :: (ow_c_X11_status ++ (u_ws RX11 TX11 12 ++ (u_ws RX4 TX4 2 ++ ([] : List Cond))))
theorem tb_c_X11_status : ∀ w ∈ wq_c_X11_status, q_g w := by
  unfold wq_c_X11_status ow_c_X11_status
  exact q_cons tw_720 (q_app (q_cons tw_522 (q_cons tw_719 q_nil)) (q_app tu_X11 (q_app tu_X4 q_nil)))
set_option maxHeartbeats 4000000 in
set_option maxRecDepth 100000 in
theorem c_X11_status (l : Launch) (dC : Nat → ClassId) (dI : Nat → Nat → Nat) (g : kG) (A : Nat → Prop) (hG : kWf g) (f : Nat → va_E) (h0 : Nat) (i_h0 : ik g 11 h0) : Met l yX11_status wq_c_X11_status ({ frames := 0, cells := 0, slots := 0, locals := 0 } : Room) (va_Pc [.ref h0] (fun U => kIn dC dI g A f U)) (va_Qi (fun (r : Int32) (_ : Unit) => True) (fun (_ : Unit) t => Iv dC dI g A f t.heap) A) 0 0 A := by
  refine Met.ofW (cc := cX11_status) (maxL := 1) (ret := (some .int)) (by decide) rfl ?_
  intro p e s m args below meth c s₁ B hml hv
  obtain ⟨rfl, hI, hK, hE⟩ := hv
  have hx := B.exec
  have hb := B.bytes
  have hr := B.returns
  have hts := atoms_spec (ws := wq_c_X11_status) B.pre
  have hown : s.vm.findClass RX11 = some m.cls := findClass_of_methodNamed B.named
  have hlocks := B.notSynchronized
  have hS : va_S A s.heap s.heap [] := va_S.rf
  have hl := lv_entry ([.ref h0]) (n := 1) (Nat.le_of_ble_eq_true rfl)
  rw [lg_entry_eq]
  generalize (lg_sl ([.ref h0]) ++ List.replicate (1 - (lg_sl ([.ref h0])).length) Slot.unset).toArray = ls at hl ⊢
  have hl : lv_has ls 1 [(0, .ref h0)] := hl
  refine lv_aload_n hx hb dX11_status_0 rfl (lv_at hl 0 rfl) ?_
  obtain ⟨x_2, k_1⟩ := op_11 hI i_h0
  refine k_get (ci := 11) (v := .ref (gr g h0 10)) (C := RX11) (T := TX11) (N := 12) hx hb hts (fun _ h0_ => List.mem_cons_of_mem _ (List.mem_append_right _ (List.mem_append_left _ h0_))) hown hK hI i_h0.1 k_1 rfl 10 (by decide) (hts (.fieldLink RX11 72 "DeadlineShare" "refusals" "LDeadlineShare$Refusals;") (List.mem_cons_of_mem _ (List.mem_append_left _ (List.mem_of_getElem? (i := 0) rfl)))) (fun _ h9 => h9) rfl dX11_status_1 ?_
  have i_4 := kw_11_10 hG i_h0
  obtain ⟨x_6, k_5⟩ := op_4 hI i_4
  refine k_get (ci := 4) (v := .int x_6) (C := RX4) (T := TX4) (N := 2) hx hb hts (fun _ h0_ => List.mem_cons_of_mem _ (List.mem_append_right _ (List.mem_append_right _ (List.mem_append_left _ h0_)))) hown hK hI i_4.1 k_5 rfl 1 (by decide) (hts (.fieldLink RX11 354 "DeadlineShare$Refusals" "latest" "I") (List.mem_cons_of_mem _ (List.mem_append_left _ (List.mem_of_getElem? (i := 1) rfl)))) (fun _ h9 => h9) rfl dX11_status_4 ?_
  exact W.iret (v := x_6) hx hb hr (fun t ht hW => ⟨⟨x_6, (), rfl, trivial, k_ret ht hI⟩, hS.F ht⟩) hS.2.2 dX11_status_7
