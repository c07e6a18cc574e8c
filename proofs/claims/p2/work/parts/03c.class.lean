theorem tw_241 : q_g (.methodLink RX3 77 Lib.Math.min.name) := ⟨(List.mem_append_right _ (List.mem_of_getElem? (i := 708) (by decide +kernel))), good_of_word (by decide +kernel)⟩
theorem tw_242 : q_g (.code yX3_numberTo cX3_numberTo 5 (some .int)) := ⟨(List.mem_append_right _ (List.mem_of_getElem? (i := 707) (by decide +kernel))), good_of_word (by decide +kernel)⟩
def ow_c_X3_numberTo : List Cond := [.fieldLink RX3 21 "DeadlineShare$Reader" "place" "I", .methodLink RX3 38 yX7_byteAt, .instanceMethod yX7_byteAt, .selects RX7 yX7_byteAt yX7_byteAt, .initialized RX7, .methodLink RX3 77 Lib.Math.min.name, .static Lib.Math.min.name, .initialized "java/lang/Math", .code Lib.Math.min.name Lib.Math.min.code 2 (some .int)]
def wq_c_X3_numberTo : List Cond := .code yX3_numberTo cX3_numberTo 5 (some .int) :: (ow_c_X3_numberTo ++ (u_ws RX3 TX3 2 ++ (wq_c_X7_byteAt ++ ([] : List Cond))))
theorem tb_c_X3_numberTo : ∀ w ∈ wq_c_X3_numberTo, q_g w := by
  unfold wq_c_X3_numberTo ow_c_X3_numberTo
  exact q_cons tw_242 (q_app (q_cons tw_197 (q_cons tw_195 (q_cons tw_194 (q_cons tw_193 (q_cons tw_192 (q_cons tw_241 (q_cons tw_155 (q_cons tw_154 (q_cons tw_153 q_nil))))))))) (q_app tu_X3 (q_app tb_c_X7_byteAt q_nil)))
set_option maxHeartbeats 4000000 in
set_option maxRecDepth 100000 in
theorem c_X3_numberTo (l : Launch) (dC : Nat → ClassId) (dI : Nat → Nat → Nat) (g : kG) (A : Nat → Prop) (hG : kWf g) (f : Nat → va_E) (h0 : Nat) (p1 : Nat) (p2 : Int32) (i_h0 : ik g 3 h0) (i_p1 : ik g 7 p1) : Met l yX3_numberTo wq_c_X3_numberTo ({ frames := 1, cells := 0, slots := 0, locals := 21 } : Room) (va_Pc [.ref h0, .ref p1, .int p2] (fun U => kIn dC dI g A f U)) (va_Qi (fun (r : Int32) (_ : Unit) => True) (fun (_ : Unit) t => Iv dC dI g A f t.heap) A) 0 0 A := by
  refine Met.ofW (cc := cX3_numberTo) (maxL := 5) (ret := (some .int)) (by decide) rfl ?_
  intro p e s m args below meth c s₁ B hml hv
  obtain ⟨rfl, hI, hK, hE⟩ := hv
  have hx := B.exec
  have hb := B.bytes
  have hr := B.returns
  have hts := atoms_spec (ws := wq_c_X3_numberTo) B.pre
  have hown : s.vm.findClass RX3 = some m.cls := findClass_of_methodNamed B.named
  have hlocks := B.notSynchronized
  have hS : va_S A s.heap s.heap [] := va_S.rf
  have hl := lv_entry ([.ref h0, .ref p1, .int p2]) (n := 5) (Nat.le_of_ble_eq_true rfl)
  rw [lg_entry_eq]
  generalize (lg_sl ([.ref h0, .ref p1, .int p2]) ++ List.replicate (5 - (lg_sl ([.ref h0, .ref p1, .int p2])).length) Slot.unset).toArray = ls at hl ⊢
  have hl : lv_has ls 5 [(0, .ref h0), (1, .ref p1), (2, .int p2)] := hl
  refine lv_iconst (v := 0) hx hb dX3_numberTo_0 (by decide) ?_
  refine lv_istore_n (lv' := [(3, .int 0), (0, .ref h0), (1, .ref p1), (2, .int p2)]) hx hb dX3_numberTo_1 rfl hl (by decide) rfl (fun ls hl => ?_)
  refine lv_aload_n hx hb dX3_numberTo_2 rfl (lv_at hl 1 rfl) ?_
  obtain ⟨x_2, k_1⟩ := op_3 hI i_h0
  refine k_get (ci := 3) (v := .int x_2) (C := RX3) (T := TX3) (N := 2) hx hb hts (fun _ h0_ => List.mem_cons_of_mem _ (List.mem_append_right _ (List.mem_append_left _ h0_))) hown hK hI i_h0.1 k_1 rfl 1 (by decide) (hts (.fieldLink RX3 21 "DeadlineShare$Reader" "place" "I") (List.mem_cons_of_mem _ (List.mem_append_left _ (List.mem_of_getElem? (i := 0) rfl)))) (fun _ h9 => h9) rfl dX3_numberTo_3 ?_
  refine lv_istore (lv' := [(4, .int x_2), (3, .int 0), (0, .ref h0), (1, .ref p1), (2, .int p2)]) hx hb dX3_numberTo_6 hl (by decide) rfl (fun ls hl => ?_)
  have K_8 : ∀ (nn : Nat) (y_3 : Int32) (y_4 : Int32) (H : Heap) (locs : List Loc) (ls : Array Slot), (p2.toInt - y_3.toInt).toNat < nn → Iv dC dI g A f H → va_S A s.heap H locs → lv_has ls 5 [(4, .int y_3), (3, .int y_4), (0, .ref h0), (1, .ref p1), (2, .int p2)] → W p l e (headSpec wq_c_X3_numberTo ({ frames := 1, cells := 0, slots := 0, locals := 21 } : Room)).room s m ([.ref h0, .ref p1, .int p2].toArray) below meth c H locs 0 0 (MQ below (va_Qi (fun (r : Int32) (_ : Unit) => True) (fun (_ : Unit) t => Iv dC dI g A f t.heap) A) ([.ref h0, .ref p1, .int p2].toArray) s 0 0 A) (F0 m 8 ls []) := by
    intro nn
    induction nn with
    | zero => intro y_3 y_4 H locs ls m_5; exact absurd m_5 (Nat.not_lt_zero _)
    | succ nn ih =>
      intro y_3 y_4 H locs ls m_5 hI hS  hl
      have g_6 := Int32.toInt_lt p2
      have g_7 := Int32.le_toInt p2
      have g_8 := Int32.toInt_lt y_3
      have g_9 := Int32.le_toInt y_3
      refine lv_iload hx hb dX3_numberTo_8 (lv_at hl 0 rfl) ?_
      refine lv_iload_n hx hb dX3_numberTo_10 rfl (lv_at hl 4 rfl) ?_
      refine lv_icmp_ge (tgt := 41) hx hb dX3_numberTo_11 (by decide) (fun c_10 => ?_) (fun c_10 => ?_)
      · have c_10 := kc_le rfl rfl c_10
        refine lv_iload_n hx hb dX3_numberTo_41 rfl (lv_at hl 1 rfl) ?_
        exact W.iret (v := y_4) hx hb hr (fun t ht hW => ⟨⟨y_4, (), rfl, trivial, k_ret ht hI⟩, hS.F ht⟩) hS.2.2 dX3_numberTo_42
      · have c_10 := kn_le rfl rfl c_10
        refine lv_sipush (v := 1000) hx hb dX3_numberTo_14 (by decide) ?_
        refine lv_iload_n hx hb dX3_numberTo_17 rfl (lv_at hl 1 rfl) ?_
        refine lv_bipush (v := 10) hx hb dX3_numberTo_18 (by decide) ?_
        refine lv_imul hx hb dX3_numberTo_20 ?_
        refine lv_topi (fun v_11 ev_11 => ?_)
        refine lv_aload_n hx hb dX3_numberTo_21 rfl (lv_at hl 3 rfl) ?_
        refine lv_iload hx hb dX3_numberTo_22 (lv_at hl 0 rfl) ?_
        obtain ⟨x_13, k_12⟩ := op_7 hI i_p1
        refine va_calli (va_runV (As := [.int y_3]) (rest := [.int v_11, .int 1000]) ⟨hx, hb, hml, hown, hts⟩ (c_X7_byteAt l dC dI g A hG f p1 y_3 i_p1) (cwV 1 hts (gi_V (fun w_ h0_ => ⟨List.mem_cons_of_mem _ (List.mem_append_right _ (List.mem_append_right _ (List.mem_append_left _ h0_))), (tb_c_X7_byteAt w_ h0_).2⟩) (List.mem_cons_of_mem _ (List.mem_append_left _ (List.mem_of_getElem? (i := 1) rfl))) (List.mem_cons_of_mem _ (List.mem_append_left _ (List.mem_of_getElem? (i := 2) rfl))) (List.mem_cons_of_mem _ (List.mem_append_left _ (List.mem_of_getElem? (i := 3) rfl))) (List.mem_cons_of_mem _ (List.mem_append_left _ (List.mem_of_getElem? (i := 4) rfl)))) rfl rfl rfl (by decide +kernel) ⟨Nat.le_of_ble_eq_true rfl, Nat.le_of_ble_eq_true rfl⟩) ⟨fun a U g mk q => ⟨q.1, q.2.calling rfl rfl⟩, k_recv hK hI i_p1.1 k_12 (ci := 7) rfl, fun U hU hW => ⟨rfl, kIn.of hI hK hE hS hU hW⟩⟩ rfl rfl hl.1 rfl (lv_room (Nat.le_of_ble_eq_true rfl)) dX3_numberTo_24 ⟨Nat.le_of_ble_eq_true rfl, Nat.le_of_ble_eq_true rfl⟩) hS (fun q _ h => h) (fun q h => h) (fun r_15 u t H1 locs ht hvm w_14 hB hz1 hk1 hS => ?_)
        have hI : Iv dC dI g A f t.heap := hB
        rw [ht] at hI
        generalize H1 = H at hI hS ⊢
        refine W.widen (k := 0) (n := 0) (Nat.le_of_ble_eq_true rfl) (Nat.le_of_ble_eq_true rfl) ?_
        refine lv_iadd hx hb dX3_numberTo_27 ?_
        refine lv_topi (fun v_16 ev_16 => ?_)
        have tv_16 := k_ad v_11 r_15
        rw [← ev_16] at tv_16
        refine lv_bipush (v := 48) hx hb dX3_numberTo_28 (by decide) ?_
        refine lv_isub hx hb dX3_numberTo_30 ?_
        refine lv_topi (fun v_17 ev_17 => ?_)
        have tv_17 := k_sb v_16 48
        rw [← ev_17, show Int32.toInt 48 = 48 from by decide] at tv_17
        refine va_mmin hx hb (by rw [hml]; exact hl.1.symm) hown (hts (.methodLink RX3 77 Lib.Math.min.name) (List.mem_cons_of_mem _ (List.mem_append_left _ (List.mem_of_getElem? (i := 5) rfl)))) (hts (.static Lib.Math.min.name) (List.mem_cons_of_mem _ (List.mem_append_left _ (List.mem_of_getElem? (i := 6) rfl)))) (hts (.initialized "java/lang/Math") (List.mem_cons_of_mem _ (List.mem_append_left _ (List.mem_of_getElem? (i := 7) rfl)))) (hts (.code Lib.Math.min.name Lib.Math.min.code 2 (some .int)) (List.mem_cons_of_mem _ (List.mem_append_left _ (List.mem_of_getElem? (i := 8) rfl)))) (Nat.le_of_ble_eq_true rfl) (Nat.le_of_ble_eq_true rfl) (Nat.le_of_ble_eq_true rfl) (Nat.le_of_ble_eq_true rfl) dX3_numberTo_31 ?_
        refine lv_topi (fun v_18 ev_18 => ?_)
        refine lv_istore_n (lv' := [(3, .int v_18), (4, .int y_3), (0, .ref h0), (1, .ref p1), (2, .int p2)]) hx hb dX3_numberTo_34 rfl hl (by decide) rfl (fun ls hl => ?_)
        obtain ⟨v_19, ev_19⟩ : ∃ y : Int32, y = y_3 + Int32.ofInt 1 := ⟨_, rfl⟩
        refine lv_iinc (v := v_19) (lv' := [(4, .int v_19), (3, .int v_18), (0, .ref h0), (1, .ref p1), (2, .int p2)]) hx hb dX3_numberTo_35 hl (k := 1) rfl ev_19.symm (by decide) rfl (fun ls hl => ?_)
        have tv_19 := k_inc y_3
        rw [← ev_19] at tv_19
        refine lv_goto (tgt := 8) hx hb dX3_numberTo_38 (by decide) ?_
        exact ih v_19 v_18 _ _ _ (by omega) hI hS  (lv_sub hl [0, 1, 2, 3, 4] rfl)
  exact K_8 _ x_2 0 _ _ _ (Nat.lt_succ_self _) hI hS  (lv_sub hl [0, 1, 2, 3, 4] rfl)
theorem tw_243 : q_g (.fieldLink RX5 25 "DeadlineShare$Script" "MOST_OF_KIND" "[I") := ⟨(List.mem_append_right _ (List.mem_of_getElem? (i := 712) (by decide +kernel))), good_of_word (by decide +kernel)⟩
theorem tw_244 : q_g (.code yX5_mostOf cX5_mostOf 1 (some .int)) := ⟨(List.mem_append_right _ (List.mem_of_getElem? (i := 711) (by decide +kernel))), good_of_word (by decide +kernel)⟩
def ow_c_X5_mostOf : List Cond := [.fieldLink RX5 25 "DeadlineShare$Script" "MOST_OF_KIND" "[I"]
def wq_c_X5_mostOf : List Cond := .code yX5_mostOf cX5_mostOf 1 (some .int) :: (ow_c_X5_mostOf ++ ([] : List Cond))
theorem tb_c_X5_mostOf : ∀ w ∈ wq_c_X5_mostOf, q_g w := by
  unfold wq_c_X5_mostOf ow_c_X5_mostOf
  exact q_cons tw_244 (q_app (q_cons tw_243 q_nil) q_nil)
set_option maxHeartbeats 4000000 in
set_option maxRecDepth 100000 in
theorem c_X5_mostOf (l : Launch) (dC : Nat → ClassId) (dI : Nat → Nat → Nat) (g : kG) (A : Nat → Prop) (hG : kWf g) (f : Nat → va_E) (p1 : Int32) : Met l yX5_mostOf wq_c_X5_mostOf ({ frames := 0, cells := 0, slots := 0, locals := 0 } : Room) (va_Pc [.int p1] (fun U => kIn dC dI g A f U)) (va_Qi (fun (r : Int32) (_ : Unit) => True) (fun (_ : Unit) t => Iv dC dI g A f t.heap) A) 0 0 A := by
  refine Met.ofW (cc := cX5_mostOf) (maxL := 1) (ret := (some .int)) (by decide) rfl ?_
  intro p e s m args below meth c s₁ B hml hv
  obtain ⟨rfl, hI, hK, hE⟩ := hv
  have hx := B.exec
  have hb := B.bytes
  have hr := B.returns
  have hts := atoms_spec (ws := wq_c_X5_mostOf) B.pre
  have hown : s.vm.findClass RX5 = some m.cls := findClass_of_methodNamed B.named
  have hlocks := B.notSynchronized
  have hS : va_S A s.heap s.heap [] := va_S.rf
  have hl := lv_entry ([.int p1]) (n := 1) (Nat.le_of_ble_eq_true rfl)
  rw [lg_entry_eq]
  generalize (lg_sl ([.int p1]) ++ List.replicate (1 - (lg_sl ([.int p1])).length) Slot.unset).toArray = ls at hl ⊢
  have hl : lv_has ls 1 [(0, .int p1)] := hl
  refine lv_iload_n hx hb dX5_mostOf_0 rfl (lv_at hl 0 rfl) ?_
  refine lv_if_lt (tgt := 17) hx hb dX5_mostOf_1 (by decide) (fun c_1 => ?_) (fun c_1 => ?_)
  · have c_1 := kc_lt rfl (by decide : Int32.toInt 0 = 0) c_1
    refine lv_iconst (v := 0) hx hb dX5_mostOf_17 (by decide) ?_
    exact W.iret (v := 0) hx hb hr (fun t ht hW => ⟨⟨0, (), rfl, trivial, k_ret ht hI⟩, hS.F ht⟩) hS.2.2 dX5_mostOf_18
  · have c_1 := kn_lt rfl (by decide : Int32.toInt 0 = 0) c_1
    refine lv_iload_n hx hb dX5_mostOf_4 rfl (lv_at hl 0 rfl) ?_
    refine lv_iconst (v := 5) hx hb dX5_mostOf_5 (by decide) ?_
    refine lv_icmp_ge (tgt := 17) hx hb dX5_mostOf_6 (by decide) (fun c_2 => ?_) (fun c_2 => ?_)
    · have c_2 := kc_le (by decide : Int32.toInt 5 = 5) rfl c_2
      refine lv_iconst (v := 0) hx hb dX5_mostOf_17 (by decide) ?_
      exact W.iret (v := 0) hx hb hr (fun t ht hW => ⟨⟨0, (), rfl, trivial, k_ret ht hI⟩, hS.F ht⟩) hS.2.2 dX5_mostOf_18
    · have c_2 := kn_le (by decide : Int32.toInt 5 = 5) rfl c_2
      obtain ⟨tm_3, hZtm_3, hTtm_3⟩ := hE.2.2.2.2.2.1
      refine va_gets hx hb hZtm_3 hS hown (hts (.fieldLink RX5 25 "DeadlineShare$Script" "MOST_OF_KIND" "[I") (List.mem_cons_of_mem _ (List.mem_append_left _ (List.mem_of_getElem? (i := 0) rfl)))) (fun _ h9 => h9) dX5_mostOf_9 ?_
      refine lv_iload_n hx hb dX5_mostOf_12 rfl (lv_at hl 0 rfl) ?_
      refine va_ti hx hb hTtm_3 hS (vp_in_iff.mpr (by omega)) rfl dX5_mostOf_13 ?_
      refine lv_topi (fun v_4 ev_4 => ?_)
      refine lv_goto (tgt := 18) hx hb dX5_mostOf_14 (by decide) ?_
      exact W.iret (v := v_4) hx hb hr (fun t ht hW => ⟨⟨v_4, (), rfl, trivial, k_ret ht hI⟩, hS.F ht⟩) hS.2.2 dX5_mostOf_18
theorem tw_245 : q_g (.code yX5_addStep cX5_addStep 3 none) := ⟨(List.mem_append_right _ (List.mem_of_getElem? (i := 717) (by decide +kernel))), good_of_word (by decide +kernel)⟩
def ow_c_X5_addStep : List Cond := [.fieldLink RX5 28 "DeadlineShare$Script" "size" "I", .fieldLink RX5 11 "DeadlineShare$Script" "steps" "[I"]
def wq_c_X5_addStep : List Cond := .code yX5_addStep cX5_addStep 3 none :: (ow_c_X5_addStep ++ (u_ws RX5 TX5 5 ++ ([] : List Cond)))
theorem tb_c_X5_addStep : ∀ w ∈ wq_c_X5_addStep, q_g w := by
  unfold wq_c_X5_addStep ow_c_X5_addStep
  exact q_cons tw_245 (q_app (q_cons tw_110 (q_cons tw_115 q_nil)) (q_app tu_X5 q_nil))
set_option maxHeartbeats 4000000 in
set_option maxRecDepth 100000 in
theorem c_X5_addStep (l : Launch) (dC : Nat → ClassId) (dI : Nat → Nat → Nat) (g : kG) (A : Nat → Prop) (hG : kWf g) (f : Nat → va_E) (h0 : Nat) (p1 : Int32) (p2 : Int32) (i_h0 : ik g 5 h0) : Met l yX5_addStep wq_c_X5_addStep ({ frames := 0, cells := 0, slots := 0, locals := 0 } : Room) (va_Pc [.ref h0, .int p1, .int p2] (fun U => kIn dC dI g A f U)) (va_Qv (fun (_ : Unit) => True) (fun (_ : Unit) t => ∃ f1 : Nat → va_E, Iv dC dI g A f1 t.heap ∧ Kp g [5, 24] f f1) A) 0 0 A := by
  refine Met.ofW (cc := cX5_addStep) (maxL := 3) (ret := none) (by decide) rfl ?_
  intro p e s m args below meth c s₁ B hml hv
  obtain ⟨rfl, hI, hK, hE⟩ := hv
  have hx := B.exec
  have hb := B.bytes
  have hr := B.returns
  have hts := atoms_spec (ws := wq_c_X5_addStep) B.pre
  have hown : s.vm.findClass RX5 = some m.cls := findClass_of_methodNamed B.named
  have hlocks := B.notSynchronized
  have hS : va_S A s.heap s.heap [] := va_S.rf
  have hk0 : Kp g [5, 24] f f := Kp.rf
  have hl := lv_entry ([.ref h0, .int p1, .int p2]) (n := 3) (Nat.le_of_ble_eq_true rfl)
  rw [lg_entry_eq]
  generalize (lg_sl ([.ref h0, .int p1, .int p2]) ++ List.replicate (3 - (lg_sl ([.ref h0, .int p1, .int p2])).length) Slot.unset).toArray = ls at hl ⊢
  have hl : lv_has ls 3 [(0, .ref h0), (1, .int p1), (2, .int p2)] := hl
  refine lv_aload_n hx hb dX5_addStep_0 rfl (lv_at hl 0 rfl) ?_
  obtain ⟨x_2, x_3, x_4, x_5, k_1, b_6, b_7⟩ := op_5 hI i_h0
  refine k_get (ci := 5) (v := .int x_2) (C := RX5) (T := TX5) (N := 5) hx hb hts (fun _ h0_ => List.mem_cons_of_mem _ (List.mem_append_right _ (List.mem_append_left _ h0_))) hown hK hI i_h0.1 k_1 rfl 1 (by decide) (hts (.fieldLink RX5 28 "DeadlineShare$Script" "size" "I") (List.mem_cons_of_mem _ (List.mem_append_left _ (List.mem_of_getElem? (i := 0) rfl)))) (fun _ h9 => h9) rfl dX5_addStep_1 ?_
  refine lv_bipush (v := 8) hx hb dX5_addStep_4 (by decide) ?_
  refine lv_icmp_ge (tgt := 34) hx hb dX5_addStep_6 (by decide) (fun c_8 => ?_) (fun c_8 => ?_)
  · have c_8 := kc_le (by decide : Int32.toInt 8 = 8) rfl c_8
    exact W.vret hx hb hr (fun t ht hW => ⟨⟨(), rfl, trivial, ⟨f, k_ret ht hI, hk0⟩⟩, hS.F ht⟩) hS.2.2 dX5_addStep_34
  · have c_8 := kn_le (by decide : Int32.toInt 8 = 8) rfl c_8
    refine lv_aload_n hx hb dX5_addStep_9 rfl (lv_at hl 0 rfl) ?_
    refine k_get (ci := 5) (v := .ref (gr g h0 0)) (C := RX5) (T := TX5) (N := 5) hx hb hts (fun _ h0_ => List.mem_cons_of_mem _ (List.mem_append_right _ (List.mem_append_left _ h0_))) hown hK hI i_h0.1 k_1 rfl 0 (by decide) (hts (.fieldLink RX5 11 "DeadlineShare$Script" "steps" "[I") (List.mem_cons_of_mem _ (List.mem_append_left _ (List.mem_of_getElem? (i := 1) rfl)))) (fun _ h9 => h9) rfl dX5_addStep_10 ?_
    have i_10 := kw_5_0 hG i_h0
    refine lv_aload_n hx hb dX5_addStep_13 rfl (lv_at hl 0 rfl) ?_
    refine k_get (ci := 5) (v := .int x_2) (C := RX5) (T := TX5) (N := 5) hx hb hts (fun _ h0_ => List.mem_cons_of_mem _ (List.mem_append_right _ (List.mem_append_left _ h0_))) hown hK hI i_h0.1 k_1 rfl 1 (by decide) (hts (.fieldLink RX5 28 "DeadlineShare$Script" "size" "I") (List.mem_cons_of_mem _ (List.mem_append_left _ (List.mem_of_getElem? (i := 0) rfl)))) (fun _ h9 => h9) rfl dX5_addStep_14 ?_
    refine lv_iload_n hx hb dX5_addStep_17 rfl (lv_at hl 1 rfl) ?_
    refine lv_bipush (v := 8) hx hb dX5_addStep_18 (by decide) ?_
    refine lv_ishl hx hb dX5_addStep_20 ?_
    refine lv_topi (fun v_11 ev_11 => ?_)
    refine lv_iload_n hx hb dX5_addStep_21 rfl (lv_at hl 2 rfl) ?_
    refine lv_ior hx hb dX5_addStep_22 ?_
    refine lv_topi (fun v_12 ev_12 => ?_)
    obtain ⟨q_14, k_13⟩ := op_24 hI i_10
    refine k_iast hx hb hK hI hS i_10.1 0 k_13 rfl (vp_in_iff.mpr (by omega)) (cl_24 i_10) dX5_addStep_23 (fun f_15 H locs e_16 hI hS => ?_)
    generalize eq_17 : upd q_14 (Int32.toNatClampNeg x_2) v_12 = q_17 at e_16
    have k_19 : f_15 h0 = .inr (5, [.ref (gr g h0 0), .int x_2, .int x_3, .int x_4, .int x_5]) := by rw [e_16, va_up_ne _ _ (ik_ne i_h0 i_10 (by decide))]; exact k_1
    have k_20 : f_15 (gr g h0 0) = .inl (gc g 0, 8, .inl q_17) := by rw [e_16]; exact va_up_self _ _ _
    have kp_18 := Kp.put hk0 i_10 (by decide) e_16
    refine lv_aload_n hx hb dX5_addStep_24 rfl (lv_at hl 0 rfl) ?_
    refine lv_dup hx hb dX5_addStep_25 rfl ?_
    refine k_get (ci := 5) (v := .int x_2) (C := RX5) (T := TX5) (N := 5) hx hb hts (fun _ h0_ => List.mem_cons_of_mem _ (List.mem_append_right _ (List.mem_append_left _ h0_))) hown hK hI i_h0.1 k_19 rfl 1 (by decide) (hts (.fieldLink RX5 28 "DeadlineShare$Script" "size" "I") (List.mem_cons_of_mem _ (List.mem_append_left _ (List.mem_of_getElem? (i := 0) rfl)))) (fun _ h9 => h9) rfl dX5_addStep_26 ?_
    refine lv_iconst (v := 1) hx hb dX5_addStep_29 (by decide) ?_
    refine lv_iadd hx hb dX5_addStep_30 ?_
    refine lv_topi (fun v_21 ev_21 => ?_)
    have tv_21 := k_ad x_2 1
    rw [← ev_21, show Int32.toInt 1 = 1 from by decide] at tv_21
    have b_22 : 0 ≤ Int32.toInt v_21 ∧ Int32.toInt v_21 ≤ 8 := by omega
    refine k_put (ci := 5) (v := .int v_21) (ty := .int) (C := RX5) (T := TX5) (N := 5) hx hb hts (fun _ h0_ => List.mem_cons_of_mem _ (List.mem_append_right _ (List.mem_append_left _ h0_))) tyX5 tyX5_ok nmX5 hown hK hI hS i_h0.1 k_19 rfl 1 (by decide) (hts (.fieldLink RX5 28 "DeadlineShare$Script" "size" "I") (List.mem_cons_of_mem _ (List.mem_append_left _ (List.mem_of_getElem? (i := 0) rfl)))) (fun _ h9 => h9) rfl (by decide +kernel) rfl rfl (Nat.le_of_ble_eq_true rfl) rfl (cl_5 i_h0 b_22) dX5_addStep_31 (fun f_23 H locs e_24 hI hS => ?_)
    have k_26 : f_23 h0 = .inr (5, [.ref (gr g h0 0), .int v_21, .int x_3, .int x_4, .int x_5]) := by rw [e_24]; exact va_up_self _ _ _
    have k_27 : f_23 (gr g h0 0) = .inl (gc g 0, 8, .inl q_17) := by rw [e_24, va_up_ne _ _ (ik_ne i_10 i_h0 (by decide))]; exact k_20
    have kp_25 := Kp.put kp_18 i_h0 (by decide) e_24
    exact W.vret hx hb hr (fun t ht hW => ⟨⟨(), rfl, trivial, ⟨f_23, k_ret ht hI, kp_25⟩⟩, hS.F ht⟩) hS.2.2 dX5_addStep_34
theorem tw_246 : q_g (.selects RX3 yX3_kindOfWord yX3_kindOfWord) := ⟨(List.mem_append_left _ (List.mem_of_getElem? (i := 5) (by decide +kernel))), good_of_word (by decide +kernel)⟩
theorem tw_247 : q_g (.instanceMethod yX3_kindOfWord) := ⟨(List.mem_append_right _ (List.mem_of_getElem? (i := 642) (by decide +kernel))), good_of_word (by decide +kernel)⟩
theorem tw_248 : q_g (.methodLink RX3 46 yX3_kindOfWord) := ⟨(List.mem_append_right _ (List.mem_of_getElem? (i := 640) (by decide +kernel))), good_of_word (by decide +kernel)⟩
theorem tw_249 : q_g (.selects RX5 yX5_addStep yX5_addStep) := ⟨(List.mem_append_right _ (List.mem_of_getElem? (i := 716) (by decide +kernel))), good_of_word (by decide +kernel)⟩
theorem tw_250 : q_g (.instanceMethod yX5_addStep) := ⟨(List.mem_append_right _ (List.mem_of_getElem? (i := 715) (by decide +kernel))), good_of_word (by decide +kernel)⟩
theorem tw_251 : q_g (.methodLink RX3 56 yX5_addStep) := ⟨(List.mem_append_right _ (List.mem_of_getElem? (i := 714) (by decide +kernel))), good_of_word (by decide +kernel)⟩
theorem tw_252 : q_g (.fieldLink RX3 12 "DeadlineShare$Reader" "script" "LDeadlineShare$Script;") := ⟨(List.mem_append_right _ (List.mem_of_getElem? (i := 100) (by decide +kernel))), good_of_word (by decide +kernel)⟩
theorem tw_253 : q_g (.static yX5_mostOf) := ⟨(List.mem_append_right _ (List.mem_of_getElem? (i := 710) (by decide +kernel))), good_of_word (by decide +kernel)⟩
theorem tw_254 : q_g (.methodLink RX3 53 yX5_mostOf) := ⟨(List.mem_append_right _ (List.mem_of_getElem? (i := 709) (by decide +kernel))), good_of_word (by decide +kernel)⟩
theorem tw_255 : q_g (.selects RX3 yX3_numberTo yX3_numberTo) := ⟨(List.mem_append_left _ (List.mem_of_getElem? (i := 7) (by decide +kernel))), good_of_word (by decide +kernel)⟩
theorem tw_256 : q_g (.instanceMethod yX3_numberTo) := ⟨(List.mem_append_right _ (List.mem_of_getElem? (i := 706) (by decide +kernel))), good_of_word (by decide +kernel)⟩
theorem tw_257 : q_g (.methodLink RX3 50 yX3_numberTo) := ⟨(List.mem_append_right _ (List.mem_of_getElem? (i := 704) (by decide +kernel))), good_of_word (by decide +kernel)⟩
theorem tw_258 : q_g (.selects RX3 yX3_endOfRow yX3_endOfRow) := ⟨(List.mem_append_left _ (List.mem_of_getElem? (i := 4) (by decide +kernel))), good_of_word (by decide +kernel)⟩
theorem tw_259 : q_g (.instanceMethod yX3_endOfRow) := ⟨(List.mem_append_right _ (List.mem_of_getElem? (i := 638) (by decide +kernel))), good_of_word (by decide +kernel)⟩
theorem tw_260 : q_g (.methodLink RX3 42 yX3_endOfRow) := ⟨(List.mem_append_right _ (List.mem_of_getElem? (i := 636) (by decide +kernel))), good_of_word (by decide +kernel)⟩
theorem tw_261 : q_g (.selects RX3 yX3_skipBlanks yX3_skipBlanks) := ⟨(List.mem_append_left _ (List.mem_of_getElem? (i := 3) (by decide +kernel))), good_of_word (by decide +kernel)⟩
theorem tw_262 : q_g (.instanceMethod yX3_skipBlanks) := ⟨(List.mem_append_right _ (List.mem_of_getElem? (i := 633) (by decide +kernel))), good_of_word (by decide +kernel)⟩
theorem tw_263 : q_g (.methodLink RX3 29 yX3_skipBlanks) := ⟨(List.mem_append_right _ (List.mem_of_getElem? (i := 631) (by decide +kernel))), good_of_word (by decide +kernel)⟩
theorem tw_264 : q_g (.code yX3_readStep cX3_readStep 7 (some .boolean)) := ⟨(List.mem_append_right _ (List.mem_of_getElem? (i := 630) (by decide +kernel))), good_of_word (by decide +kernel)⟩
def ow_c_X3_readStep : List Cond := [.methodLink RX3 29 yX3_skipBlanks, .instanceMethod yX3_skipBlanks, .selects RX3 yX3_skipBlanks yX3_skipBlanks, .initialized RX3, .methodLink RX3 42 yX3_endOfRow, .instanceMethod yX3_endOfRow, .selects RX3 yX3_endOfRow yX3_endOfRow, .fieldLink RX3 21 "DeadlineShare$Reader" "place" "I", .methodLink RX3 50 yX3_numberTo, .instanceMethod yX3_numberTo, .selects RX3 yX3_numberTo yX3_numberTo, .methodLink RX3 53 yX5_mostOf, .static yX5_mostOf, .initialized RX5, .fieldLink RX3 12 "DeadlineShare$Reader" "script" "LDeadlineShare$Script;", .methodLink RX3 56 yX5_addStep, .instanceMethod yX5_addStep, .selects RX5 yX5_addStep yX5_addStep, .methodLink RX3 46 yX3_kindOfWord, .instanceMethod yX3_kindOfWord, .selects RX3 yX3_kindOfWord yX3_kindOfWord]
def wq_c_X3_readStep : List Cond := .code yX3_readStep cX3_readStep 7 (some .boolean) :: (ow_c_X3_readStep ++ (wq_c_X3_skipBlanks ++ (wq_c_X3_endOfRow ++ (u_ws RX3 TX3 2 ++ (wq_c_X3_numberTo ++ (wq_c_X5_mostOf ++ (wq_c_X5_addStep ++ (wq_c_X3_kindOfWord ++ ([] : List Cond)))))))))
theorem tb_c_X3_readStep : ∀ w ∈ wq_c_X3_readStep, q_g w := by
  unfold wq_c_X3_readStep ow_c_X3_readStep
  exact q_cons tw_264 (q_app (q_cons tw_263 (q_cons tw_262 (q_cons tw_261 (q_cons tw_234 (q_cons tw_260 (q_cons tw_259 (q_cons tw_258 (q_cons tw_197 (q_cons tw_257 (q_cons tw_256 (q_cons tw_255 (q_cons tw_254 (q_cons tw_253 (q_cons tw_133 (q_cons tw_252 (q_cons tw_251 (q_cons tw_250 (q_cons tw_249 (q_cons tw_248 (q_cons tw_247 (q_cons tw_246 q_nil))))))))))))))))))))) (q_app tb_c_X3_skipBlanks (q_app tb_c_X3_endOfRow (q_app tu_X3 (q_app tb_c_X3_numberTo (q_app tb_c_X5_mostOf (q_app tb_c_X5_addStep (q_app tb_c_X3_kindOfWord q_nil))))))))
set_option maxHeartbeats 4000000 in
set_option maxRecDepth 100000 in
theorem c_X3_readStep (l : Launch) (dC : Nat → ClassId) (dI : Nat → Nat → Nat) (g : kG) (A : Nat → Prop) (hG : kWf g) (f : Nat → va_E) (h0 : Nat) (p1 : Nat) (p2 : Int32) (i_h0 : ik g 3 h0) (i_p1 : ik g 7 p1) : Met l yX3_readStep wq_c_X3_readStep ({ frames := 6, cells := 0, slots := 0, locals := 132 } : Room) (va_Pc [.ref h0, .ref p1, .int p2] (fun U => kIn dC dI g A f U)) (va_Qi (fun (r : Int32) (_ : Unit) => True) (fun (_ : Unit) t => ∃ f1 : Nat → va_E, Iv dC dI g A f1 t.heap ∧ Kp g [3, 5, 24] f f1) A) 0 0 A := by
  refine Met.ofW (cc := cX3_readStep) (maxL := 7) (ret := (some .boolean)) (by decide) rfl ?_
  intro p e s m args below meth c s₁ B hml hv
  obtain ⟨rfl, hI, hK, hE⟩ := hv
  have hx := B.exec
  have hb := B.bytes
  have hr := B.returns
  have hts := atoms_spec (ws := wq_c_X3_readStep) B.pre
  have hown : s.vm.findClass RX3 = some m.cls := findClass_of_methodNamed B.named
  have hlocks := B.notSynchronized
  have hS : va_S A s.heap s.heap [] := va_S.rf
  have hk0 : Kp g [3, 5, 24] f f := Kp.rf
  have hl := lv_entry ([.ref h0, .ref p1, .int p2]) (n := 7) (Nat.le_of_ble_eq_true rfl)
  rw [lg_entry_eq]
  generalize (lg_sl ([.ref h0, .ref p1, .int p2]) ++ List.replicate (7 - (lg_sl ([.ref h0, .ref p1, .int p2])).length) Slot.unset).toArray = ls at hl ⊢
  have hl : lv_has ls 7 [(0, .ref h0), (1, .ref p1), (2, .int p2)] := hl
  refine lv_aload_n hx hb dX3_readStep_0 rfl (lv_at hl 0 rfl) ?_
  refine lv_aload_n hx hb dX3_readStep_1 rfl (lv_at hl 1 rfl) ?_
  obtain ⟨x_2, k_1⟩ := op_3 hI i_h0
  refine va_callv (va_runV (As := [.ref p1]) (rest := []) ⟨hx, hb, hml, hown, hts⟩ (c_X3_skipBlanks l dC dI g A hG f h0 p1 i_h0 i_p1) (cwV 1 hts (gi_V (fun w_ h0_ => ⟨List.mem_cons_of_mem _ (List.mem_append_right _ (List.mem_append_left _ h0_)), (tb_c_X3_skipBlanks w_ h0_).2⟩) (List.mem_cons_of_mem _ (List.mem_append_left _ (List.mem_of_getElem? (i := 0) rfl))) (List.mem_cons_of_mem _ (List.mem_append_left _ (List.mem_of_getElem? (i := 1) rfl))) (List.mem_cons_of_mem _ (List.mem_append_left _ (List.mem_of_getElem? (i := 2) rfl))) (List.mem_cons_of_mem _ (List.mem_append_left _ (List.mem_of_getElem? (i := 3) rfl)))) rfl rfl rfl (by decide +kernel) ⟨Nat.le_of_ble_eq_true rfl, Nat.le_of_ble_eq_true rfl⟩) ⟨fun a U g mk q => ⟨q.1, q.2.calling rfl rfl⟩, k_recv hK hI i_h0.1 k_1 (ci := 3) rfl, fun U hU hW => ⟨rfl, kIn.of hI hK hE hS hU hW⟩⟩ rfl rfl hl.1 rfl (lv_room (Nat.le_of_ble_eq_true rfl)) dX3_readStep_2 ⟨Nat.le_of_ble_eq_true rfl, Nat.le_of_ble_eq_true rfl⟩) hS (fun q _ h => h) (fun q h => h) (fun u t H1 locs ht hvm _ hB hz1 hk1 hS => ?_)
  obtain ⟨f_3, hI, kc_5⟩ := hB
  rw [ht] at hI
  have kp_6 := Kp.call hk0 kc_5 (by decide)
  generalize H1 = H at hI hS ⊢
  refine W.widen (k := 0) (n := 0) (Nat.le_of_ble_eq_true rfl) (Nat.le_of_ble_eq_true rfl) ?_
  refine lv_aload_n hx hb dX3_readStep_5 rfl (lv_at hl 0 rfl) ?_
  refine lv_aload_n hx hb dX3_readStep_6 rfl (lv_at hl 1 rfl) ?_
  refine lv_bipush (v := 97) hx hb dX3_readStep_7 (by decide) ?_
  refine lv_bipush (v := 122) hx hb dX3_readStep_9 (by decide) ?_
  obtain ⟨x_8, k_7⟩ := op_3 hI i_h0
  refine va_calli (va_runV (As := [.ref p1, .int 97, .int 122]) (rest := []) ⟨hx, hb, hml, hown, hts⟩ (c_X3_endOfRow l dC dI g A hG f_3 h0 p1 97 122 i_h0 i_p1) (cwV 3 hts (gi_V (fun w_ h0_ => ⟨List.mem_cons_of_mem _ (List.mem_append_right _ (List.mem_append_right _ (List.mem_append_left _ h0_))), (tb_c_X3_endOfRow w_ h0_).2⟩) (List.mem_cons_of_mem _ (List.mem_append_left _ (List.mem_of_getElem? (i := 4) rfl))) (List.mem_cons_of_mem _ (List.mem_append_left _ (List.mem_of_getElem? (i := 5) rfl))) (List.mem_cons_of_mem _ (List.mem_append_left _ (List.mem_of_getElem? (i := 6) rfl))) (List.mem_cons_of_mem _ (List.mem_append_left _ (List.mem_of_getElem? (i := 3) rfl)))) rfl rfl rfl (by decide +kernel) ⟨Nat.le_of_ble_eq_true rfl, Nat.le_of_ble_eq_true rfl⟩) ⟨fun a U g mk q => ⟨q.1, q.2.calling rfl rfl⟩, k_recv hK hI i_h0.1 k_7 (ci := 3) rfl, fun U hU hW => ⟨rfl, kIn.of hI hK hE hS hU hW⟩⟩ rfl rfl hl.1 rfl (lv_room (Nat.le_of_ble_eq_true rfl)) dX3_readStep_11 ⟨Nat.le_of_ble_eq_true rfl, Nat.le_of_ble_eq_true rfl⟩) hS (fun q _ h => h) (fun q h => h) (fun r_10 u t H1 locs ht hvm w_9 hB hz1 hk1 hS => ?_)
  have hI : Iv dC dI g A f_3 t.heap := hB
  rw [ht] at hI
  generalize H1 = H at hI hS ⊢
  refine W.widen (k := 0) (n := 0) (Nat.le_of_ble_eq_true rfl) (Nat.le_of_ble_eq_true rfl) ?_
  refine lv_istore_n (lv' := [(3, .int r_10), (0, .ref h0), (1, .ref p1), (2, .int p2)]) hx hb dX3_readStep_14 rfl hl (by decide) rfl (fun ls hl => ?_)
  refine lv_iload_n hx hb dX3_readStep_15 rfl (lv_at hl 3 rfl) ?_
  have J_29 : ∀ (y_11 : Int32) (H : Heap) (locs : List Loc) (ls : Array Slot), Iv dC dI g A f_3 H → va_S A s.heap H locs → lv_has ls 7 [(3, .int r_10), (0, .ref h0), (1, .ref p1), (2, .int p2)] → W p l e (headSpec wq_c_X3_readStep ({ frames := 6, cells := 0, slots := 0, locals := 132 } : Room)).room s m ([.ref h0, .ref p1, .int p2].toArray) below meth c H locs 0 0 (MQ below (va_Qi (fun (r : Int32) (_ : Unit) => True) (fun (_ : Unit) t => ∃ f1 : Nat → va_E, Iv dC dI g A f1 t.heap ∧ Kp g [3, 5, 24] f f1) A) ([.ref h0, .ref p1, .int p2].toArray) s 0 0 A) (F0 m 29 ls [.int y_11]) := by
    intro y_11 H locs ls hI hS  hl
    refine lv_istore (lv' := [(4, .int y_11), (3, .int r_10), (0, .ref h0), (1, .ref p1), (2, .int p2)]) hx hb dX3_readStep_29 hl (by decide) rfl (fun ls hl => ?_)
    refine lv_iload hx hb dX3_readStep_31 (lv_at hl 0 rfl) ?_
    refine lv_iconst (v := (-1)) hx hb dX3_readStep_33 (by decide) ?_
    refine lv_icmp_ne (tgt := 39) hx hb dX3_readStep_34 (by decide) (fun c_12 => ?_) (fun c_12 => ?_)
    · have c_12 := kn_eq rfl (by decide : Int32.toInt (-1) = (-1)) c_12
      refine lv_aload_n hx hb dX3_readStep_39 rfl (lv_at hl 2 rfl) ?_
      refine lv_iload_n hx hb dX3_readStep_40 rfl (lv_at hl 1 rfl) ?_
      refine k_put (ci := 3) (v := .int r_10) (ty := .int) (C := RX3) (T := TX3) (N := 2) hx hb hts (fun _ h0_ => List.mem_cons_of_mem _ (List.mem_append_right _ (List.mem_append_right _ (List.mem_append_right _ (List.mem_append_left _ h0_))))) tyX3 tyX3_ok nmX3 hown hK hI hS i_h0.1 k_7 rfl 1 (by decide) (hts (.fieldLink RX3 21 "DeadlineShare$Reader" "place" "I") (List.mem_cons_of_mem _ (List.mem_append_left _ (List.mem_of_getElem? (i := 7) rfl)))) (fun _ h9 => h9) rfl (by decide +kernel) rfl rfl (Nat.le_of_ble_eq_true rfl) rfl (cl_3 i_h0) dX3_readStep_41 (fun f_13 H locs e_14 hI hS => ?_)
      have k_16 : f_13 h0 = .inr (3, [.ref (gr g h0 0), .int r_10]) := by rw [e_14]; exact va_up_self _ _ _
      have kp_15 := Kp.put kp_6 i_h0 (by decide) e_14
      refine lv_aload_n hx hb dX3_readStep_44 rfl (lv_at hl 2 rfl) ?_
      refine lv_aload_n hx hb dX3_readStep_45 rfl (lv_at hl 3 rfl) ?_
      refine va_callv (va_runV (As := [.ref p1]) (rest := []) ⟨hx, hb, hml, hown, hts⟩ (c_X3_skipBlanks l dC dI g A hG f_13 h0 p1 i_h0 i_p1) (cwV 1 hts (gi_V (fun w_ h0_ => ⟨List.mem_cons_of_mem _ (List.mem_append_right _ (List.mem_append_left _ h0_)), (tb_c_X3_skipBlanks w_ h0_).2⟩) (List.mem_cons_of_mem _ (List.mem_append_left _ (List.mem_of_getElem? (i := 0) rfl))) (List.mem_cons_of_mem _ (List.mem_append_left _ (List.mem_of_getElem? (i := 1) rfl))) (List.mem_cons_of_mem _ (List.mem_append_left _ (List.mem_of_getElem? (i := 2) rfl))) (List.mem_cons_of_mem _ (List.mem_append_left _ (List.mem_of_getElem? (i := 3) rfl)))) rfl rfl rfl (by decide +kernel) ⟨Nat.le_of_ble_eq_true rfl, Nat.le_of_ble_eq_true rfl⟩) ⟨fun a U g mk q => ⟨q.1, q.2.calling rfl rfl⟩, k_recv hK hI i_h0.1 k_16 (ci := 3) rfl, fun U hU hW => ⟨rfl, kIn.of hI hK hE hS hU hW⟩⟩ rfl rfl hl.1 rfl (lv_room (Nat.le_of_ble_eq_true rfl)) dX3_readStep_46 ⟨Nat.le_of_ble_eq_true rfl, Nat.le_of_ble_eq_true rfl⟩) hS (fun q _ h => h) (fun q h => h) (fun u t H1 locs ht hvm _ hB hz1 hk1 hS => ?_)
      obtain ⟨f_17, hI, kc_19⟩ := hB
      rw [ht] at hI
      have kp_20 := Kp.call kp_15 kc_19 (by decide)
      generalize H1 = H at hI hS ⊢
      refine W.widen (k := 0) (n := 0) (Nat.le_of_ble_eq_true rfl) (Nat.le_of_ble_eq_true rfl) ?_
      refine lv_aload_n hx hb dX3_readStep_49 rfl (lv_at hl 2 rfl) ?_
      refine lv_aload_n hx hb dX3_readStep_50 rfl (lv_at hl 3 rfl) ?_
      refine lv_bipush (v := 48) hx hb dX3_readStep_51 (by decide) ?_
      refine lv_bipush (v := 57) hx hb dX3_readStep_53 (by decide) ?_
      obtain ⟨x_22, k_21⟩ := op_3 hI i_h0
      refine va_calli (va_runV (As := [.ref p1, .int 48, .int 57]) (rest := []) ⟨hx, hb, hml, hown, hts⟩ (c_X3_endOfRow l dC dI g A hG f_17 h0 p1 48 57 i_h0 i_p1) (cwV 3 hts (gi_V (fun w_ h0_ => ⟨List.mem_cons_of_mem _ (List.mem_append_right _ (List.mem_append_right _ (List.mem_append_left _ h0_))), (tb_c_X3_endOfRow w_ h0_).2⟩) (List.mem_cons_of_mem _ (List.mem_append_left _ (List.mem_of_getElem? (i := 4) rfl))) (List.mem_cons_of_mem _ (List.mem_append_left _ (List.mem_of_getElem? (i := 5) rfl))) (List.mem_cons_of_mem _ (List.mem_append_left _ (List.mem_of_getElem? (i := 6) rfl))) (List.mem_cons_of_mem _ (List.mem_append_left _ (List.mem_of_getElem? (i := 3) rfl)))) rfl rfl rfl (by decide +kernel) ⟨Nat.le_of_ble_eq_true rfl, Nat.le_of_ble_eq_true rfl⟩) ⟨fun a U g mk q => ⟨q.1, q.2.calling rfl rfl⟩, k_recv hK hI i_h0.1 k_21 (ci := 3) rfl, fun U hU hW => ⟨rfl, kIn.of hI hK hE hS hU hW⟩⟩ rfl rfl hl.1 rfl (lv_room (Nat.le_of_ble_eq_true rfl)) dX3_readStep_55 ⟨Nat.le_of_ble_eq_true rfl, Nat.le_of_ble_eq_true rfl⟩) hS (fun q _ h => h) (fun q h => h) (fun r_24 u t H1 locs ht hvm w_23 hB hz1 hk1 hS => ?_)
      have hI : Iv dC dI g A f_17 t.heap := hB
      rw [ht] at hI
      generalize H1 = H at hI hS ⊢
      refine W.widen (k := 0) (n := 0) (Nat.le_of_ble_eq_true rfl) (Nat.le_of_ble_eq_true rfl) ?_
      refine lv_istore (lv' := [(5, .int r_24), (4, .int y_11), (3, .int r_10), (0, .ref h0), (1, .ref p1), (2, .int p2)]) hx hb dX3_readStep_58 hl (by decide) rfl (fun ls hl => ?_)
      refine lv_aload_n hx hb dX3_readStep_60 rfl (lv_at hl 3 rfl) ?_
      refine lv_aload_n hx hb dX3_readStep_61 rfl (lv_at hl 4 rfl) ?_
      refine lv_iload hx hb dX3_readStep_62 (lv_at hl 0 rfl) ?_
      refine va_calli (va_runV (As := [.ref p1, .int r_24]) (rest := []) ⟨hx, hb, hml, hown, hts⟩ (c_X3_numberTo l dC dI g A hG f_17 h0 p1 r_24 i_h0 i_p1) (cwV 2 hts (gi_V (fun w_ h0_ => ⟨List.mem_cons_of_mem _ (List.mem_append_right _ (List.mem_append_right _ (List.mem_append_right _ (List.mem_append_right _ (List.mem_append_left _ h0_))))), (tb_c_X3_numberTo w_ h0_).2⟩) (List.mem_cons_of_mem _ (List.mem_append_left _ (List.mem_of_getElem? (i := 8) rfl))) (List.mem_cons_of_mem _ (List.mem_append_left _ (List.mem_of_getElem? (i := 9) rfl))) (List.mem_cons_of_mem _ (List.mem_append_left _ (List.mem_of_getElem? (i := 10) rfl))) (List.mem_cons_of_mem _ (List.mem_append_left _ (List.mem_of_getElem? (i := 3) rfl)))) rfl rfl rfl (by decide +kernel) ⟨Nat.le_of_ble_eq_true rfl, Nat.le_of_ble_eq_true rfl⟩) ⟨fun a U g mk q => ⟨q.1, q.2.calling rfl rfl⟩, k_recv hK hI i_h0.1 k_21 (ci := 3) rfl, fun U hU hW => ⟨rfl, kIn.of hI hK hE hS hU hW⟩⟩ rfl rfl hl.1 rfl (lv_room (Nat.le_of_ble_eq_true rfl)) dX3_readStep_64 ⟨Nat.le_of_ble_eq_true rfl, Nat.le_of_ble_eq_true rfl⟩) hS (fun q _ h => h) (fun q h => h) (fun r_26 u t H1 locs ht hvm w_25 hB hz1 hk1 hS => ?_)
      have hI : Iv dC dI g A f_17 t.heap := hB
      rw [ht] at hI
      generalize H1 = H at hI hS ⊢
      refine W.widen (k := 0) (n := 0) (Nat.le_of_ble_eq_true rfl) (Nat.le_of_ble_eq_true rfl) ?_
      refine lv_istore (lv' := [(6, .int r_26), (5, .int r_24), (4, .int y_11), (3, .int r_10), (0, .ref h0), (1, .ref p1), (2, .int p2)]) hx hb dX3_readStep_67 hl (by decide) rfl (fun ls hl => ?_)
      refine lv_iload hx hb dX3_readStep_69 (lv_at hl 0 rfl) ?_
      refine lv_iconst (v := 1) hx hb dX3_readStep_71 (by decide) ?_
      refine lv_icmp_lt (tgt := 85) hx hb dX3_readStep_72 (by decide) (fun c_27 => ?_) (fun c_27 => ?_)
      · have c_27 := kc_lt rfl (by decide : Int32.toInt 1 = 1) c_27
        refine lv_iconst (v := 0) hx hb dX3_readStep_85 (by decide) ?_
        exact W.zret (v := 0) hx hb hr rfl (fun t ht hW => ⟨⟨0, (), rfl, trivial, ⟨f_17, k_ret ht hI, kp_20⟩⟩, hS.F ht⟩) hS.2.2 dX3_readStep_86
      · have c_27 := kn_lt rfl (by decide : Int32.toInt 1 = 1) c_27
        refine lv_iload hx hb dX3_readStep_75 (lv_at hl 0 rfl) ?_
        refine lv_iload hx hb dX3_readStep_77 (lv_at hl 2 rfl) ?_
        refine va_calli (va_runS (As := [.int y_11]) (rest := [.int r_26]) ⟨hx, hb, hml, hown, hts⟩ (c_X5_mostOf l dC dI g A hG f_17 y_11) (va_cwS 1 hts (gi_S (fun w_ h0_ => ⟨List.mem_cons_of_mem _ (List.mem_append_right _ (List.mem_append_right _ (List.mem_append_right _ (List.mem_append_right _ (List.mem_append_right _ (List.mem_append_left _ h0_)))))), (tb_c_X5_mostOf w_ h0_).2⟩) (List.mem_cons_of_mem _ (List.mem_append_left _ (List.mem_of_getElem? (i := 11) rfl))) (List.mem_cons_of_mem _ (List.mem_append_left _ (List.mem_of_getElem? (i := 12) rfl))) (List.mem_cons_of_mem _ (List.mem_append_left _ (List.mem_of_getElem? (i := 13) rfl)))) rfl rfl rfl (by decide +kernel) ⟨Nat.le_of_ble_eq_true rfl, Nat.le_of_ble_eq_true rfl⟩) ⟨fun a U g mk q => ⟨q.1, q.2.calling rfl rfl⟩, fun U hU hW => ⟨rfl, kIn.of hI hK hE hS hU hW⟩⟩ rfl rfl hl.1 rfl (lv_room (Nat.le_of_ble_eq_true rfl)) dX3_readStep_79 ⟨Nat.le_of_ble_eq_true rfl, Nat.le_of_ble_eq_true rfl⟩) hS (fun q _ h => h) (fun q h => h) (fun r_29 u t H1 locs ht hvm w_28 hB hz1 hk1 hS => ?_)
        have hI : Iv dC dI g A f_17 t.heap := hB
        rw [ht] at hI
        generalize H1 = H at hI hS ⊢
        refine W.widen (k := 0) (n := 0) (Nat.le_of_ble_eq_true rfl) (Nat.le_of_ble_eq_true rfl) ?_
        refine lv_icmp_le (tgt := 87) hx hb dX3_readStep_82 (by decide) (fun c_30 => ?_) (fun c_30 => ?_)
        · have c_30 := kc_le rfl rfl c_30
          refine lv_aload_n hx hb dX3_readStep_87 rfl (lv_at hl 4 rfl) ?_
          refine k_get (ci := 3) (v := .ref (gr g h0 0)) (C := RX3) (T := TX3) (N := 2) hx hb hts (fun _ h0_ => List.mem_cons_of_mem _ (List.mem_append_right _ (List.mem_append_right _ (List.mem_append_right _ (List.mem_append_left _ h0_))))) hown hK hI i_h0.1 k_21 rfl 0 (by decide) (hts (.fieldLink RX3 12 "DeadlineShare$Reader" "script" "LDeadlineShare$Script;") (List.mem_cons_of_mem _ (List.mem_append_left _ (List.mem_of_getElem? (i := 14) rfl)))) (fun _ h9 => h9) rfl dX3_readStep_88 ?_
          have i_32 := kw_3_0 hG i_h0
          refine lv_iload hx hb dX3_readStep_91 (lv_at hl 2 rfl) ?_
          refine lv_iload hx hb dX3_readStep_93 (lv_at hl 0 rfl) ?_
          obtain ⟨x_34, x_35, x_36, x_37, k_33, b_38, b_39⟩ := op_5 hI i_32
          refine va_callv (va_runV (As := [.int y_11, .int r_26]) (rest := []) ⟨hx, hb, hml, hown, hts⟩ (c_X5_addStep l dC dI g A hG f_17 (gr g h0 0) y_11 r_26 i_32) (cwV 2 hts (gi_V (fun w_ h0_ => ⟨List.mem_cons_of_mem _ (List.mem_append_right _ (List.mem_append_right _ (List.mem_append_right _ (List.mem_append_right _ (List.mem_append_right _ (List.mem_append_right _ (List.mem_append_left _ h0_))))))), (tb_c_X5_addStep w_ h0_).2⟩) (List.mem_cons_of_mem _ (List.mem_append_left _ (List.mem_of_getElem? (i := 15) rfl))) (List.mem_cons_of_mem _ (List.mem_append_left _ (List.mem_of_getElem? (i := 16) rfl))) (List.mem_cons_of_mem _ (List.mem_append_left _ (List.mem_of_getElem? (i := 17) rfl))) (List.mem_cons_of_mem _ (List.mem_append_left _ (List.mem_of_getElem? (i := 13) rfl)))) rfl rfl rfl (by decide +kernel) ⟨Nat.le_of_ble_eq_true rfl, Nat.le_of_ble_eq_true rfl⟩) ⟨fun a U g mk q => ⟨q.1, q.2.calling rfl rfl⟩, k_recv hK hI i_32.1 k_33 (ci := 5) rfl, fun U hU hW => ⟨rfl, kIn.of hI hK hE hS hU hW⟩⟩ rfl rfl hl.1 rfl (lv_room (Nat.le_of_ble_eq_true rfl)) dX3_readStep_95 ⟨Nat.le_of_ble_eq_true rfl, Nat.le_of_ble_eq_true rfl⟩) hS (fun q _ h => h) (fun q h => h) (fun u t H1 locs ht hvm _ hB hz1 hk1 hS => ?_)
          obtain ⟨f_40, hI, kc_42⟩ := hB
          rw [ht] at hI
          have k_43 : f_40 h0 = .inr (3, [.ref (gr g h0 0), .int x_22]) := Kp.at kc_42 i_h0 (by decide) k_21
          have kp_44 := Kp.call kp_20 kc_42 (by decide)
          generalize H1 = H at hI hS ⊢
          refine W.widen (k := 0) (n := 0) (Nat.le_of_ble_eq_true rfl) (Nat.le_of_ble_eq_true rfl) ?_
          refine lv_aload_n hx hb dX3_readStep_98 rfl (lv_at hl 4 rfl) ?_
          refine lv_iload hx hb dX3_readStep_99 (lv_at hl 1 rfl) ?_
          refine k_put (ci := 3) (v := .int r_24) (ty := .int) (C := RX3) (T := TX3) (N := 2) hx hb hts (fun _ h0_ => List.mem_cons_of_mem _ (List.mem_append_right _ (List.mem_append_right _ (List.mem_append_right _ (List.mem_append_left _ h0_))))) tyX3 tyX3_ok nmX3 hown hK hI hS i_h0.1 k_43 rfl 1 (by decide) (hts (.fieldLink RX3 21 "DeadlineShare$Reader" "place" "I") (List.mem_cons_of_mem _ (List.mem_append_left _ (List.mem_of_getElem? (i := 7) rfl)))) (fun _ h9 => h9) rfl (by decide +kernel) rfl rfl (Nat.le_of_ble_eq_true rfl) rfl (cl_3 i_h0) dX3_readStep_101 (fun f_45 H locs e_46 hI hS => ?_)
          have k_48 : f_45 h0 = .inr (3, [.ref (gr g h0 0), .int r_24]) := by rw [e_46]; exact va_up_self _ _ _
          have kp_47 := Kp.put kp_44 i_h0 (by decide) e_46
          refine lv_iconst (v := 1) hx hb dX3_readStep_104 (by decide) ?_
          exact W.zret (v := 1) hx hb hr rfl (fun t ht hW => ⟨⟨1, (), rfl, trivial, ⟨f_45, k_ret ht hI, kp_47⟩⟩, hS.F ht⟩) hS.2.2 dX3_readStep_105
        · have c_30 := kn_le rfl rfl c_30
          refine lv_iconst (v := 0) hx hb dX3_readStep_85 (by decide) ?_
          exact W.zret (v := 0) hx hb hr rfl (fun t ht hW => ⟨⟨0, (), rfl, trivial, ⟨f_17, k_ret ht hI, kp_20⟩⟩, hS.F ht⟩) hS.2.2 dX3_readStep_86
    · have c_12 := kc_eq rfl (by decide : Int32.toInt (-1) = (-1)) c_12
      refine lv_iconst (v := 0) hx hb dX3_readStep_37 (by decide) ?_
      exact W.zret (v := 0) hx hb hr rfl (fun t ht hW => ⟨⟨0, (), rfl, trivial, ⟨f_3, k_ret ht hI, kp_6⟩⟩, hS.F ht⟩) hS.2.2 dX3_readStep_38
  refine lv_if_eq (tgt := 23) hx hb dX3_readStep_16 (by decide) (fun c_49 => ?_) (fun c_49 => ?_)
  · have c_49 := kc_eq rfl (by decide : Int32.toInt 0 = 0) c_49
    refine lv_aload_n hx hb dX3_readStep_23 rfl (lv_at hl 1 rfl) ?_
    refine lv_aload_n hx hb dX3_readStep_24 rfl (lv_at hl 2 rfl) ?_
    refine lv_iload_n hx hb dX3_readStep_25 rfl (lv_at hl 0 rfl) ?_
    refine va_calli (va_runV (As := [.ref p1, .int r_10]) (rest := []) ⟨hx, hb, hml, hown, hts⟩ (c_X3_kindOfWord l dC dI g A hG f_3 h0 p1 r_10 i_h0 i_p1) (cwV 2 hts (gi_V (fun w_ h0_ => ⟨List.mem_cons_of_mem _ (List.mem_append_right _ (List.mem_append_right _ (List.mem_append_right _ (List.mem_append_right _ (List.mem_append_right _ (List.mem_append_right _ (List.mem_append_right _ (List.mem_append_left _ h0_)))))))), (tb_c_X3_kindOfWord w_ h0_).2⟩) (List.mem_cons_of_mem _ (List.mem_append_left _ (List.mem_of_getElem? (i := 18) rfl))) (List.mem_cons_of_mem _ (List.mem_append_left _ (List.mem_of_getElem? (i := 19) rfl))) (List.mem_cons_of_mem _ (List.mem_append_left _ (List.mem_of_getElem? (i := 20) rfl))) (List.mem_cons_of_mem _ (List.mem_append_left _ (List.mem_of_getElem? (i := 3) rfl)))) rfl rfl rfl (by decide +kernel) ⟨Nat.le_of_ble_eq_true rfl, Nat.le_of_ble_eq_true rfl⟩) ⟨fun a U g mk q => ⟨q.1, q.2.calling rfl rfl⟩, k_recv hK hI i_h0.1 k_7 (ci := 3) rfl, fun U hU hW => ⟨rfl, kIn.of hI hK hE hS hU hW⟩⟩ rfl rfl hl.1 rfl (lv_room (Nat.le_of_ble_eq_true rfl)) dX3_readStep_26 ⟨Nat.le_of_ble_eq_true rfl, Nat.le_of_ble_eq_true rfl⟩) hS (fun q _ h => h) (fun q h => h) (fun r_51 u t H1 locs ht hvm w_50 hB hz1 hk1 hS => ?_)
    have hI : Iv dC dI g A f_3 t.heap := hB
    rw [ht] at hI
    generalize H1 = H at hI hS ⊢
    refine W.widen (k := 0) (n := 0) (Nat.le_of_ble_eq_true rfl) (Nat.le_of_ble_eq_true rfl) ?_
    exact J_29 r_51 _ _ _ hI hS  (lv_sub hl [0, 1, 2, 3] rfl)
  · have c_49 := kn_eq rfl (by decide : Int32.toInt 0 = 0) c_49
    refine lv_iconst (v := (-1)) hx hb dX3_readStep_19 (by decide) ?_
    refine lv_goto (tgt := 29) hx hb dX3_readStep_20 (by decide) ?_
    exact J_29 (-1) _ _ _ hI hS  (lv_sub hl [0, 1, 2, 3] rfl)
theorem tw_265 : q_g (.selects RX3 yX3_readStep yX3_readStep) := ⟨(List.mem_append_left _ (List.mem_of_getElem? (i := 2) (by decide +kernel))), good_of_word (by decide +kernel)⟩
theorem tw_266 : q_g (.instanceMethod yX3_readStep) := ⟨(List.mem_append_right _ (List.mem_of_getElem? (i := 629) (by decide +kernel))), good_of_word (by decide +kernel)⟩
theorem tw_267 : q_g (.methodLink RX3 25 yX3_readStep) := ⟨(List.mem_append_right _ (List.mem_of_getElem? (i := 627) (by decide +kernel))), good_of_word (by decide +kernel)⟩
theorem tw_268 : q_g (.selects RX5 yX5_drop yX5_drop) := ⟨(List.mem_append_right _ (List.mem_of_getElem? (i := 464) (by decide +kernel))), good_of_word (by decide +kernel)⟩
theorem tw_269 : q_g (.instanceMethod yX5_drop) := ⟨(List.mem_append_right _ (List.mem_of_getElem? (i := 463) (by decide +kernel))), good_of_word (by decide +kernel)⟩
theorem tw_270 : q_g (.methodLink RX3 18 yX5_drop) := ⟨(List.mem_append_right _ (List.mem_of_getElem? (i := 626) (by decide +kernel))), good_of_word (by decide +kernel)⟩
theorem tw_271 : q_g (.code yX3_read cX3_read 3 (some .int)) := ⟨(List.mem_append_right _ (List.mem_of_getElem? (i := 625) (by decide +kernel))), good_of_word (by decide +kernel)⟩
def ow_c_X3_read : List Cond := [.fieldLink RX3 12 "DeadlineShare$Reader" "script" "LDeadlineShare$Script;", .methodLink RX3 18 yX5_drop, .instanceMethod yX5_drop, .selects RX5 yX5_drop yX5_drop, .initialized RX5, .fieldLink RX3 21 "DeadlineShare$Reader" "place" "I", .methodLink RX3 25 yX3_readStep, .instanceMethod yX3_readStep, .selects RX3 yX3_readStep yX3_readStep, .initialized RX3, .methodLink RX3 29 yX3_skipBlanks, .instanceMethod yX3_skipBlanks, .selects RX3 yX3_skipBlanks yX3_skipBlanks, .fieldLink RX3 33 "DeadlineShare$Tape" "length" "I", .methodLink RX3 38 yX7_byteAt, .instanceMethod yX7_byteAt, .selects RX7 yX7_byteAt yX7_byteAt, .initialized RX7]
def wq_c_X3_read : List Cond := .code yX3_read cX3_read 3 (some .int) :: (ow_c_X3_read ++ (u_ws RX3 TX3 2 ++ (wq_c_X5_drop ++ (wq_c_X3_readStep ++ (wq_c_X3_skipBlanks ++ (u_ws RX7 TX7 2 ++ (wq_c_X7_byteAt ++ ([] : List Cond))))))))
theorem tb_c_X3_read : ∀ w ∈ wq_c_X3_read, q_g w := by
  unfold wq_c_X3_read ow_c_X3_read
  exact q_cons tw_271 (q_app (q_cons tw_252 (q_cons tw_270 (q_cons tw_269 (q_cons tw_268 (q_cons tw_133 (q_cons tw_197 (q_cons tw_267 (q_cons tw_266 (q_cons tw_265 (q_cons tw_234 (q_cons tw_263 (q_cons tw_262 (q_cons tw_261 (q_cons tw_196 (q_cons tw_195 (q_cons tw_194 (q_cons tw_193 (q_cons tw_192 q_nil)))))))))))))))))) (q_app tu_X3 (q_app tb_c_X5_drop (q_app tb_c_X3_readStep (q_app tb_c_X3_skipBlanks (q_app tu_X7 (q_app tb_c_X7_byteAt q_nil)))))))
set_option maxHeartbeats 4000000 in
set_option maxRecDepth 100000 in
theorem c_X3_read (l : Launch) (dC : Nat → ClassId) (dI : Nat → Nat → Nat) (g : kG) (A : Nat → Prop) (hG : kWf g) (f : Nat → va_E) (h0 : Nat) (p1 : Nat) (i_h0 : ik g 3 h0) (i_p1 : ik g 7 p1) : Met l yX3_read wq_c_X3_read ({ frames := 7, cells := 0, slots := 0, locals := 158 } : Room) (va_Pc [.ref h0, .ref p1] (fun U => kIn dC dI g A f U)) (va_Qi (fun (r : Int32) (_ : Unit) => True) (fun (_ : Unit) t => ∃ f1 : Nat → va_E, Iv dC dI g A f1 t.heap ∧ Kp g [3, 5, 24] f f1) A) 0 0 A := by
  refine Met.ofW (cc := cX3_read) (maxL := 3) (ret := (some .int)) (by decide) rfl ?_
  intro p e s m args below meth c s₁ B hml hv
  obtain ⟨rfl, hI, hK, hE⟩ := hv
  have hx := B.exec
  have hb := B.bytes
  have hr := B.returns
  have hts := atoms_spec (ws := wq_c_X3_read) B.pre
  have hown : s.vm.findClass RX3 = some m.cls := findClass_of_methodNamed B.named
  have hlocks := B.notSynchronized
  have hS : va_S A s.heap s.heap [] := va_S.rf
  have hk0 : Kp g [3, 5, 24] f f := Kp.rf
  have hl := lv_entry ([.ref h0, .ref p1]) (n := 3) (Nat.le_of_ble_eq_true rfl)
  rw [lg_entry_eq]
  generalize (lg_sl ([.ref h0, .ref p1]) ++ List.replicate (3 - (lg_sl ([.ref h0, .ref p1])).length) Slot.unset).toArray = ls at hl ⊢
  have hl : lv_has ls 3 [(0, .ref h0), (1, .ref p1)] := hl
  refine lv_aload_n hx hb dX3_read_0 rfl (lv_at hl 0 rfl) ?_
  obtain ⟨x_2, k_1⟩ := op_3 hI i_h0
  refine k_get (ci := 3) (v := .ref (gr g h0 0)) (C := RX3) (T := TX3) (N := 2) hx hb hts (fun _ h0_ => List.mem_cons_of_mem _ (List.mem_append_right _ (List.mem_append_left _ h0_))) hown hK hI i_h0.1 k_1 rfl 0 (by decide) (hts (.fieldLink RX3 12 "DeadlineShare$Reader" "script" "LDeadlineShare$Script;") (List.mem_cons_of_mem _ (List.mem_append_left _ (List.mem_of_getElem? (i := 0) rfl)))) (fun _ h9 => h9) rfl dX3_read_1 ?_
  have i_4 := kw_3_0 hG i_h0
  obtain ⟨x_6, x_7, x_8, x_9, k_5, b_10, b_11⟩ := op_5 hI i_4
  refine va_callv (va_runV (As := []) (rest := []) ⟨hx, hb, hml, hown, hts⟩ (c_X5_drop l dC dI g A hG f (gr g h0 0) i_4) (cwV 0 hts (gi_V (fun w_ h0_ => ⟨List.mem_cons_of_mem _ (List.mem_append_right _ (List.mem_append_right _ (List.mem_append_left _ h0_))), (tb_c_X5_drop w_ h0_).2⟩) (List.mem_cons_of_mem _ (List.mem_append_left _ (List.mem_of_getElem? (i := 1) rfl))) (List.mem_cons_of_mem _ (List.mem_append_left _ (List.mem_of_getElem? (i := 2) rfl))) (List.mem_cons_of_mem _ (List.mem_append_left _ (List.mem_of_getElem? (i := 3) rfl))) (List.mem_cons_of_mem _ (List.mem_append_left _ (List.mem_of_getElem? (i := 4) rfl)))) rfl rfl rfl (by decide +kernel) ⟨Nat.le_of_ble_eq_true rfl, Nat.le_of_ble_eq_true rfl⟩) ⟨fun a U g mk q => ⟨q.1, q.2.calling rfl rfl⟩, k_recv hK hI i_4.1 k_5 (ci := 5) rfl, fun U hU hW => ⟨rfl, kIn.of hI hK hE hS hU hW⟩⟩ rfl rfl hl.1 rfl (lv_room (Nat.le_of_ble_eq_true rfl)) dX3_read_4 ⟨Nat.le_of_ble_eq_true rfl, Nat.le_of_ble_eq_true rfl⟩) hS (fun q _ h => h) (fun q h => h) (fun u t H1 locs ht hvm _ hB hz1 hk1 hS => ?_)
  obtain ⟨f_12, hI, kc_14⟩ := hB
  rw [ht] at hI
  have k_15 : f_12 h0 = .inr (3, [.ref (gr g h0 0), .int x_2]) := Kp.at kc_14 i_h0 (by decide) k_1
  have kp_16 := Kp.call hk0 kc_14 (by decide)
  generalize H1 = H at hI hS ⊢
  refine W.widen (k := 0) (n := 0) (Nat.le_of_ble_eq_true rfl) (Nat.le_of_ble_eq_true rfl) ?_
  refine lv_aload_n hx hb dX3_read_7 rfl (lv_at hl 0 rfl) ?_
  refine lv_iconst (v := 0) hx hb dX3_read_8 (by decide) ?_
  refine k_put (ci := 3) (v := .int 0) (ty := .int) (C := RX3) (T := TX3) (N := 2) hx hb hts (fun _ h0_ => List.mem_cons_of_mem _ (List.mem_append_right _ (List.mem_append_left _ h0_))) tyX3 tyX3_ok nmX3 hown hK hI hS i_h0.1 k_15 rfl 1 (by decide) (hts (.fieldLink RX3 21 "DeadlineShare$Reader" "place" "I") (List.mem_cons_of_mem _ (List.mem_append_left _ (List.mem_of_getElem? (i := 5) rfl)))) (fun _ h9 => h9) rfl (by decide +kernel) rfl rfl (Nat.le_of_ble_eq_true rfl) rfl (cl_3 i_h0) dX3_read_9 (fun f_17 H locs e_18 hI hS => ?_)
  have k_20 : f_17 h0 = .inr (3, [.ref (gr g h0 0), .int 0]) := by rw [e_18]; exact va_up_self _ _ _
  have kp_19 := Kp.put kp_16 i_h0 (by decide) e_18
  refine lv_iconst (v := 0) hx hb dX3_read_12 (by decide) ?_
  refine lv_istore_n (lv' := [(2, .int 0), (0, .ref h0), (1, .ref p1)]) hx hb dX3_read_13 rfl hl (by decide) rfl (fun ls hl => ?_)
  have K_14 : ∀ (nn : Nat) (y_21 : Int32) (f_22 : Nat → va_E) (H : Heap) (locs : List Loc) (ls : Array Slot), (9 - y_21.toInt).toNat < nn → Iv dC dI g A f_22 H → va_S A s.heap H locs → Kp g [3, 5, 24] f f_22 → (0 ≤ y_21.toInt) → lv_has ls 3 [(2, .int y_21), (0, .ref h0), (1, .ref p1)] → W p l e (headSpec wq_c_X3_read ({ frames := 7, cells := 0, slots := 0, locals := 158 } : Room)).room s m ([.ref h0, .ref p1].toArray) below meth c H locs 0 0 (MQ below (va_Qi (fun (r : Int32) (_ : Unit) => True) (fun (_ : Unit) t => ∃ f1 : Nat → va_E, Iv dC dI g A f1 t.heap ∧ Kp g [3, 5, 24] f f1) A) ([.ref h0, .ref p1].toArray) s 0 0 A) (F0 m 14 ls []) := by
    intro nn
    induction nn with
    | zero => intro y_21 f_22 H locs ls m_25; exact absurd m_25 (Nat.not_lt_zero _)
    | succ nn ih =>
      intro y_21 f_22 H locs ls m_25 hI hS kp_23 t_24 hl
      have g_26 := Int32.toInt_lt y_21
      have g_27 := Int32.le_toInt y_21
      refine lv_iload_n hx hb dX3_read_14 rfl (lv_at hl 0 rfl) ?_
      refine lv_bipush (v := 8) hx hb dX3_read_15 (by decide) ?_
      refine lv_icmp_gt (tgt := 96) hx hb dX3_read_17 (by decide) (fun c_28 => ?_) (fun c_28 => ?_)
      · have c_28 := kc_lt (by decide : Int32.toInt 8 = 8) rfl c_28
        refine lv_aload_n hx hb dX3_read_96 rfl (lv_at hl 1 rfl) ?_
        obtain ⟨x_30, k_29⟩ := op_3 hI i_h0
        refine k_get (ci := 3) (v := .int x_30) (C := RX3) (T := TX3) (N := 2) hx hb hts (fun _ h0_ => List.mem_cons_of_mem _ (List.mem_append_right _ (List.mem_append_left _ h0_))) hown hK hI i_h0.1 k_29 rfl 1 (by decide) (hts (.fieldLink RX3 21 "DeadlineShare$Reader" "place" "I") (List.mem_cons_of_mem _ (List.mem_append_left _ (List.mem_of_getElem? (i := 5) rfl)))) (fun _ h9 => h9) rfl dX3_read_97 ?_
        exact W.iret (v := x_30) hx hb hr (fun t ht hW => ⟨⟨x_30, (), rfl, trivial, ⟨f_22, k_ret ht hI, kp_23⟩⟩, hS.F ht⟩) hS.2.2 dX3_read_100
      · have c_28 := kn_lt (by decide : Int32.toInt 8 = 8) rfl c_28
        refine lv_aload_n hx hb dX3_read_20 rfl (lv_at hl 1 rfl) ?_
        refine lv_aload_n hx hb dX3_read_21 rfl (lv_at hl 2 rfl) ?_
        refine lv_iload_n hx hb dX3_read_22 rfl (lv_at hl 0 rfl) ?_
        refine lv_bipush (v := 8) hx hb dX3_read_23 (by decide) ?_
        have J_33 : ∀ (y_31 : Int32) (H : Heap) (locs : List Loc) (ls : Array Slot), Iv dC dI g A f_22 H → va_S A s.heap H locs → lv_has ls 3 [(2, .int y_21), (0, .ref h0), (1, .ref p1)] → W p l e (headSpec wq_c_X3_read ({ frames := 7, cells := 0, slots := 0, locals := 158 } : Room)).room s m ([.ref h0, .ref p1].toArray) below meth c H locs 0 0 (MQ below (va_Qi (fun (r : Int32) (_ : Unit) => True) (fun (_ : Unit) t => ∃ f1 : Nat → va_E, Iv dC dI g A f1 t.heap ∧ Kp g [3, 5, 24] f f1) A) ([.ref h0, .ref p1].toArray) s 0 0 A) (F0 m 33 ls [.int y_31, .ref p1, .ref h0]) := by
          intro y_31 H locs ls hI hS  hl
          obtain ⟨x_33, k_32⟩ := op_3 hI i_h0
          refine va_calli (va_runV (As := [.ref p1, .int y_31]) (rest := []) ⟨hx, hb, hml, hown, hts⟩ (c_X3_readStep l dC dI g A hG f_22 h0 p1 y_31 i_h0 i_p1) (cwV 2 hts (gi_V (fun w_ h0_ => ⟨List.mem_cons_of_mem _ (List.mem_append_right _ (List.mem_append_right _ (List.mem_append_right _ (List.mem_append_left _ h0_)))), (tb_c_X3_readStep w_ h0_).2⟩) (List.mem_cons_of_mem _ (List.mem_append_left _ (List.mem_of_getElem? (i := 6) rfl))) (List.mem_cons_of_mem _ (List.mem_append_left _ (List.mem_of_getElem? (i := 7) rfl))) (List.mem_cons_of_mem _ (List.mem_append_left _ (List.mem_of_getElem? (i := 8) rfl))) (List.mem_cons_of_mem _ (List.mem_append_left _ (List.mem_of_getElem? (i := 9) rfl)))) rfl rfl rfl (by decide +kernel) ⟨Nat.le_of_ble_eq_true rfl, Nat.le_of_ble_eq_true rfl⟩) ⟨fun a U g mk q => ⟨q.1, q.2.calling rfl rfl⟩, k_recv hK hI i_h0.1 k_32 (ci := 3) rfl, fun U hU hW => ⟨rfl, kIn.of hI hK hE hS hU hW⟩⟩ rfl rfl hl.1 rfl (lv_room (Nat.le_of_ble_eq_true rfl)) dX3_read_33 ⟨Nat.le_of_ble_eq_true rfl, Nat.le_of_ble_eq_true rfl⟩) hS (fun q _ h => h) (fun q h => h) (fun r_36 u t H1 locs ht hvm w_35 hB hz1 hk1 hS => ?_)
          obtain ⟨f_34, hI, kc_37⟩ := hB
          rw [ht] at hI
          have kp_38 := Kp.call kp_23 kc_37 (by decide)
          generalize H1 = H at hI hS ⊢
          refine W.widen (k := 0) (n := 0) (Nat.le_of_ble_eq_true rfl) (Nat.le_of_ble_eq_true rfl) ?_
          refine lv_if_ne (tgt := 44) hx hb dX3_read_36 (by decide) (fun c_39 => ?_) (fun c_39 => ?_)
          · have c_39 := kn_eq rfl (by decide : Int32.toInt 0 = 0) c_39
            refine lv_aload_n hx hb dX3_read_44 rfl (lv_at hl 1 rfl) ?_
            refine lv_aload_n hx hb dX3_read_45 rfl (lv_at hl 2 rfl) ?_
            obtain ⟨x_41, k_40⟩ := op_3 hI i_h0
            refine va_callv (va_runV (As := [.ref p1]) (rest := []) ⟨hx, hb, hml, hown, hts⟩ (c_X3_skipBlanks l dC dI g A hG f_34 h0 p1 i_h0 i_p1) (cwV 1 hts (gi_V (fun w_ h0_ => ⟨List.mem_cons_of_mem _ (List.mem_append_right _ (List.mem_append_right _ (List.mem_append_right _ (List.mem_append_right _ (List.mem_append_left _ h0_))))), (tb_c_X3_skipBlanks w_ h0_).2⟩) (List.mem_cons_of_mem _ (List.mem_append_left _ (List.mem_of_getElem? (i := 10) rfl))) (List.mem_cons_of_mem _ (List.mem_append_left _ (List.mem_of_getElem? (i := 11) rfl))) (List.mem_cons_of_mem _ (List.mem_append_left _ (List.mem_of_getElem? (i := 12) rfl))) (List.mem_cons_of_mem _ (List.mem_append_left _ (List.mem_of_getElem? (i := 9) rfl)))) rfl rfl rfl (by decide +kernel) ⟨Nat.le_of_ble_eq_true rfl, Nat.le_of_ble_eq_true rfl⟩) ⟨fun a U g mk q => ⟨q.1, q.2.calling rfl rfl⟩, k_recv hK hI i_h0.1 k_40 (ci := 3) rfl, fun U hU hW => ⟨rfl, kIn.of hI hK hE hS hU hW⟩⟩ rfl rfl hl.1 rfl (lv_room (Nat.le_of_ble_eq_true rfl)) dX3_read_46 ⟨Nat.le_of_ble_eq_true rfl, Nat.le_of_ble_eq_true rfl⟩) hS (fun q _ h => h) (fun q h => h) (fun u t H1 locs ht hvm _ hB hz1 hk1 hS => ?_)
            obtain ⟨f_42, hI, kc_44⟩ := hB
            rw [ht] at hI
            have kp_45 := Kp.call kp_38 kc_44 (by decide)
            generalize H1 = H at hI hS ⊢
            refine W.widen (k := 0) (n := 0) (Nat.le_of_ble_eq_true rfl) (Nat.le_of_ble_eq_true rfl) ?_
            refine lv_aload_n hx hb dX3_read_49 rfl (lv_at hl 1 rfl) ?_
            obtain ⟨x_47, k_46⟩ := op_3 hI i_h0
            refine k_get (ci := 3) (v := .int x_47) (C := RX3) (T := TX3) (N := 2) hx hb hts (fun _ h0_ => List.mem_cons_of_mem _ (List.mem_append_right _ (List.mem_append_left _ h0_))) hown hK hI i_h0.1 k_46 rfl 1 (by decide) (hts (.fieldLink RX3 21 "DeadlineShare$Reader" "place" "I") (List.mem_cons_of_mem _ (List.mem_append_left _ (List.mem_of_getElem? (i := 5) rfl)))) (fun _ h9 => h9) rfl dX3_read_50 ?_
            refine lv_aload_n hx hb dX3_read_53 rfl (lv_at hl 2 rfl) ?_
            obtain ⟨x_49, k_48⟩ := op_7 hI i_p1
            refine k_get (ci := 7) (v := .int x_49) (C := RX7) (T := TX7) (N := 2) hx hb hts (fun _ h0_ => List.mem_cons_of_mem _ (List.mem_append_right _ (List.mem_append_right _ (List.mem_append_right _ (List.mem_append_right _ (List.mem_append_right _ (List.mem_append_left _ h0_))))))) hown hK hI i_p1.1 k_48 rfl 1 (by decide) (hts (.fieldLink RX3 33 "DeadlineShare$Tape" "length" "I") (List.mem_cons_of_mem _ (List.mem_append_left _ (List.mem_of_getElem? (i := 13) rfl)))) (fun _ h9 => h9) rfl dX3_read_54 ?_
            refine lv_icmp_lt (tgt := 62) hx hb dX3_read_57 (by decide) (fun c_50 => ?_) (fun c_50 => ?_)
            · have c_50 := kc_lt rfl rfl c_50
              refine lv_aload_n hx hb dX3_read_62 rfl (lv_at hl 2 rfl) ?_
              refine lv_aload_n hx hb dX3_read_63 rfl (lv_at hl 1 rfl) ?_
              refine k_get (ci := 3) (v := .int x_47) (C := RX3) (T := TX3) (N := 2) hx hb hts (fun _ h0_ => List.mem_cons_of_mem _ (List.mem_append_right _ (List.mem_append_left _ h0_))) hown hK hI i_h0.1 k_46 rfl 1 (by decide) (hts (.fieldLink RX3 21 "DeadlineShare$Reader" "place" "I") (List.mem_cons_of_mem _ (List.mem_append_left _ (List.mem_of_getElem? (i := 5) rfl)))) (fun _ h9 => h9) rfl dX3_read_64 ?_
              refine va_calli (va_runV (As := [.int x_47]) (rest := []) ⟨hx, hb, hml, hown, hts⟩ (c_X7_byteAt l dC dI g A hG f_42 p1 x_47 i_p1) (cwV 1 hts (gi_V (fun w_ h0_ => ⟨List.mem_cons_of_mem _ (List.mem_append_right _ (List.mem_append_right _ (List.mem_append_right _ (List.mem_append_right _ (List.mem_append_right _ (List.mem_append_right _ (List.mem_append_left _ h0_))))))), (tb_c_X7_byteAt w_ h0_).2⟩) (List.mem_cons_of_mem _ (List.mem_append_left _ (List.mem_of_getElem? (i := 14) rfl))) (List.mem_cons_of_mem _ (List.mem_append_left _ (List.mem_of_getElem? (i := 15) rfl))) (List.mem_cons_of_mem _ (List.mem_append_left _ (List.mem_of_getElem? (i := 16) rfl))) (List.mem_cons_of_mem _ (List.mem_append_left _ (List.mem_of_getElem? (i := 17) rfl)))) rfl rfl rfl (by decide +kernel) ⟨Nat.le_of_ble_eq_true rfl, Nat.le_of_ble_eq_true rfl⟩) ⟨fun a U g mk q => ⟨q.1, q.2.calling rfl rfl⟩, k_recv hK hI i_p1.1 k_48 (ci := 7) rfl, fun U hU hW => ⟨rfl, kIn.of hI hK hE hS hU hW⟩⟩ rfl rfl hl.1 rfl (lv_room (Nat.le_of_ble_eq_true rfl)) dX3_read_67 ⟨Nat.le_of_ble_eq_true rfl, Nat.le_of_ble_eq_true rfl⟩) hS (fun q _ h => h) (fun q h => h) (fun r_52 u t H1 locs ht hvm w_51 hB hz1 hk1 hS => ?_)
              have hI : Iv dC dI g A f_42 t.heap := hB
              rw [ht] at hI
              generalize H1 = H at hI hS ⊢
              refine W.widen (k := 0) (n := 0) (Nat.le_of_ble_eq_true rfl) (Nat.le_of_ble_eq_true rfl) ?_
              refine lv_bipush (v := 44) hx hb dX3_read_70 (by decide) ?_
              refine lv_icmp_eq (tgt := 80) hx hb dX3_read_72 (by decide) (fun c_53 => ?_) (fun c_53 => ?_)
              · have c_53 := kc_eq rfl (by decide : Int32.toInt 44 = 44) c_53
                refine lv_aload_n hx hb dX3_read_80 rfl (lv_at hl 1 rfl) ?_
                refine lv_dup hx hb dX3_read_81 rfl ?_
                refine k_get (ci := 3) (v := .int x_47) (C := RX3) (T := TX3) (N := 2) hx hb hts (fun _ h0_ => List.mem_cons_of_mem _ (List.mem_append_right _ (List.mem_append_left _ h0_))) hown hK hI i_h0.1 k_46 rfl 1 (by decide) (hts (.fieldLink RX3 21 "DeadlineShare$Reader" "place" "I") (List.mem_cons_of_mem _ (List.mem_append_left _ (List.mem_of_getElem? (i := 5) rfl)))) (fun _ h9 => h9) rfl dX3_read_82 ?_
                refine lv_iconst (v := 1) hx hb dX3_read_85 (by decide) ?_
                refine lv_iadd hx hb dX3_read_86 ?_
                refine lv_topi (fun v_54 ev_54 => ?_)
                have tv_54 := k_ad x_47 1
                rw [← ev_54, show Int32.toInt 1 = 1 from by decide] at tv_54
                refine k_put (ci := 3) (v := .int v_54) (ty := .int) (C := RX3) (T := TX3) (N := 2) hx hb hts (fun _ h0_ => List.mem_cons_of_mem _ (List.mem_append_right _ (List.mem_append_left _ h0_))) tyX3 tyX3_ok nmX3 hown hK hI hS i_h0.1 k_46 rfl 1 (by decide) (hts (.fieldLink RX3 21 "DeadlineShare$Reader" "place" "I") (List.mem_cons_of_mem _ (List.mem_append_left _ (List.mem_of_getElem? (i := 5) rfl)))) (fun _ h9 => h9) rfl (by decide +kernel) rfl rfl (Nat.le_of_ble_eq_true rfl) rfl (cl_3 i_h0) dX3_read_87 (fun f_55 H locs e_56 hI hS => ?_)
                have k_58 : f_55 h0 = .inr (3, [.ref (gr g h0 0), .int v_54]) := by rw [e_56]; exact va_up_self _ _ _
                have k_59 : f_55 p1 = .inr (7, [.ref (gr g p1 0), .int x_49]) := by rw [e_56, va_up_ne _ _ (ik_ne i_p1 i_h0 (by decide))]; exact k_48
                have kp_57 := Kp.put kp_45 i_h0 (by decide) e_56
                obtain ⟨v_60, ev_60⟩ : ∃ y : Int32, y = y_21 + Int32.ofInt 1 := ⟨_, rfl⟩
                refine lv_iinc (v := v_60) (lv' := [(2, .int v_60), (0, .ref h0), (1, .ref p1)]) hx hb dX3_read_90 hl (k := 0) rfl ev_60.symm (by decide) rfl (fun ls hl => ?_)
                have tv_60 := k_inc y_21
                rw [← ev_60] at tv_60
                refine lv_goto (tgt := 14) hx hb dX3_read_93 (by decide) ?_
                exact ih v_60 f_55 _ _ _ (by omega) hI hS kp_57 (by first | omega | decide) (lv_sub hl [0, 1, 2] rfl)
              · have c_53 := kn_eq rfl (by decide : Int32.toInt 44 = 44) c_53
                refine lv_aload_n hx hb dX3_read_75 rfl (lv_at hl 1 rfl) ?_
                refine k_get (ci := 3) (v := .int x_47) (C := RX3) (T := TX3) (N := 2) hx hb hts (fun _ h0_ => List.mem_cons_of_mem _ (List.mem_append_right _ (List.mem_append_left _ h0_))) hown hK hI i_h0.1 k_46 rfl 1 (by decide) (hts (.fieldLink RX3 21 "DeadlineShare$Reader" "place" "I") (List.mem_cons_of_mem _ (List.mem_append_left _ (List.mem_of_getElem? (i := 5) rfl)))) (fun _ h9 => h9) rfl dX3_read_76 ?_
                exact W.iret (v := x_47) hx hb hr (fun t ht hW => ⟨⟨x_47, (), rfl, trivial, ⟨f_42, k_ret ht hI, kp_45⟩⟩, hS.F ht⟩) hS.2.2 dX3_read_79
            · have c_50 := kn_lt rfl rfl c_50
              refine lv_iconst (v := (-1)) hx hb dX3_read_60 (by decide) ?_
              exact W.iret (v := (-1)) hx hb hr (fun t ht hW => ⟨⟨(-1), (), rfl, trivial, ⟨f_42, k_ret ht hI, kp_45⟩⟩, hS.F ht⟩) hS.2.2 dX3_read_61
          · have c_39 := kc_eq rfl (by decide : Int32.toInt 0 = 0) c_39
            refine lv_aload_n hx hb dX3_read_39 rfl (lv_at hl 1 rfl) ?_
            obtain ⟨x_62, k_61⟩ := op_3 hI i_h0
            refine k_get (ci := 3) (v := .int x_62) (C := RX3) (T := TX3) (N := 2) hx hb hts (fun _ h0_ => List.mem_cons_of_mem _ (List.mem_append_right _ (List.mem_append_left _ h0_))) hown hK hI i_h0.1 k_61 rfl 1 (by decide) (hts (.fieldLink RX3 21 "DeadlineShare$Reader" "place" "I") (List.mem_cons_of_mem _ (List.mem_append_left _ (List.mem_of_getElem? (i := 5) rfl)))) (fun _ h9 => h9) rfl dX3_read_40 ?_
            exact W.iret (v := x_62) hx hb hr (fun t ht hW => ⟨⟨x_62, (), rfl, trivial, ⟨f_34, k_ret ht hI, kp_38⟩⟩, hS.F ht⟩) hS.2.2 dX3_read_43
        refine lv_icmp_ne (tgt := 32) hx hb dX3_read_25 (by decide) (fun c_63 => ?_) (fun c_63 => ?_)
        · have c_63 := kn_eq rfl (by decide : Int32.toInt 8 = 8) c_63
          refine lv_iconst (v := 0) hx hb dX3_read_32 (by decide) ?_
          exact J_33 0 _ _ _ hI hS  (lv_sub hl [0, 1, 2] rfl)
        · have c_63 := kc_eq rfl (by decide : Int32.toInt 8 = 8) c_63
          refine lv_iconst (v := 1) hx hb dX3_read_28 (by decide) ?_
          refine lv_goto (tgt := 33) hx hb dX3_read_29 (by decide) ?_
          exact J_33 1 _ _ _ hI hS  (lv_sub hl [0, 1, 2] rfl)
  exact K_14 _ 0 f_17 _ _ _ (Nat.lt_succ_self _) hI hS kp_19 (by first | omega | decide | (simp only [show Int32.toInt 0 = 0 from by decide]; omega)) (lv_sub hl [0, 1, 2] rfl)
theorem tw_272 : q_g (.code yX4_placeOf cX4_placeOf 1 (some .int)) := ⟨(List.mem_append_right _ (List.mem_of_getElem? (i := 372) (by decide +kernel))), good_of_word (by decide +kernel)⟩
def ow_c_X4_placeOf : List Cond := []
def wq_c_X4_placeOf : List Cond := .code yX4_placeOf cX4_placeOf 1 (some .int) :: (ow_c_X4_placeOf ++ ([] : List Cond))
theorem tb_c_X4_placeOf : ∀ w ∈ wq_c_X4_placeOf, q_g w := by
  unfold wq_c_X4_placeOf ow_c_X4_placeOf
  exact q_cons tw_272 (q_app q_nil q_nil)
set_option maxHeartbeats 4000000 in
set_option maxRecDepth 100000 in
theorem c_X4_placeOf (l : Launch) (dC : Nat → ClassId) (dI : Nat → Nat → Nat) (g : kG) (A : Nat → Prop) (hG : kWf g) (f : Nat → va_E) (p1 : Int32) : Met l yX4_placeOf wq_c_X4_placeOf ({ frames := 0, cells := 0, slots := 0, locals := 0 } : Room) (va_Pc [.int p1] (fun U => kIn dC dI g A f U)) (va_Qi (fun (r : Int32) (_ : Unit) => 0 ≤ r.toInt ∧ r.toInt < 5) (fun (_ : Unit) t => Iv dC dI g A f t.heap) A) 0 0 A := by
  refine Met.ofW (cc := cX4_placeOf) (maxL := 1) (ret := (some .int)) (by decide) rfl ?_
  intro p e s m args below meth c s₁ B hml hv
  obtain ⟨rfl, hI, hK, hE⟩ := hv
  have hx := B.exec
  have hb := B.bytes
  have hr := B.returns
  have hts := atoms_spec (ws := wq_c_X4_placeOf) B.pre
  have hown : s.vm.findClass RX4 = some m.cls := findClass_of_methodNamed B.named
  have hlocks := B.notSynchronized
  have hS : va_S A s.heap s.heap [] := va_S.rf
  have hl := lv_entry ([.int p1]) (n := 1) (Nat.le_of_ble_eq_true rfl)
  rw [lg_entry_eq]
  generalize (lg_sl ([.int p1]) ++ List.replicate (1 - (lg_sl ([.int p1])).length) Slot.unset).toArray = ls at hl ⊢
  have hl : lv_has ls 1 [(0, .int p1)] := hl
  refine lv_iload_n hx hb dX4_placeOf_0 rfl (lv_at hl 0 rfl) ?_
  by_cases h_1 : p1 = (-5)
  · refine k_topi (y := (-5)) h_1 ?_
    refine lv_tableIn (tgt := 42) hx hb dX4_placeOf_1 (by decide) (by decide) rfl (by decide) ?_
    have h_1 := kc_eq rfl (by decide : Int32.toInt (-5) = (-5)) h_1
    refine lv_iconst (v := 3) hx hb dX4_placeOf_42 (by decide) ?_
    have w_2 : 0 ≤ (3 : Int32).toInt ∧ (3 : Int32).toInt < 5 := by rw [show Int32.toInt (3) = 3 from by decide]; omega
    exact W.iret (v := 3) hx hb hr (fun t ht hW => ⟨⟨3, (), rfl, w_2, k_ret ht hI⟩, hS.F ht⟩) hS.2.2 dX4_placeOf_43
  by_cases h_3 : p1 = (-4)
  · refine k_topi (y := (-4)) h_3 ?_
    refine lv_tableIn (tgt := 40) hx hb dX4_placeOf_1 (by decide) (by decide) rfl (by decide) ?_
    have h_3 := kc_eq rfl (by decide : Int32.toInt (-4) = (-4)) h_3
    refine lv_iconst (v := 2) hx hb dX4_placeOf_40 (by decide) ?_
    have w_4 : 0 ≤ (2 : Int32).toInt ∧ (2 : Int32).toInt < 5 := by rw [show Int32.toInt (2) = 2 from by decide]; omega
    exact W.iret (v := 2) hx hb hr (fun t ht hW => ⟨⟨2, (), rfl, w_4, k_ret ht hI⟩, hS.F ht⟩) hS.2.2 dX4_placeOf_41
  by_cases h_5 : p1 = (-3)
  · refine k_topi (y := (-3)) h_5 ?_
    refine lv_tableIn (tgt := 44) hx hb dX4_placeOf_1 (by decide) (by decide) rfl (by decide) ?_
    have h_5 := kc_eq rfl (by decide : Int32.toInt (-3) = (-3)) h_5
    refine lv_iconst (v := 4) hx hb dX4_placeOf_44 (by decide) ?_
    have w_6 : 0 ≤ (4 : Int32).toInt ∧ (4 : Int32).toInt < 5 := by rw [show Int32.toInt (4) = 4 from by decide]; omega
    exact W.iret (v := 4) hx hb hr (fun t ht hW => ⟨⟨4, (), rfl, w_6, k_ret ht hI⟩, hS.F ht⟩) hS.2.2 dX4_placeOf_45
  by_cases h_7 : p1 = (-2)
  · refine k_topi (y := (-2)) h_7 ?_
    refine lv_tableIn (tgt := 38) hx hb dX4_placeOf_1 (by decide) (by decide) rfl (by decide) ?_
    have h_7 := kc_eq rfl (by decide : Int32.toInt (-2) = (-2)) h_7
    refine lv_iconst (v := 1) hx hb dX4_placeOf_38 (by decide) ?_
    have w_8 : 0 ≤ (1 : Int32).toInt ∧ (1 : Int32).toInt < 5 := by rw [show Int32.toInt (1) = 1 from by decide]; omega
    exact W.iret (v := 1) hx hb hr (fun t ht hW => ⟨⟨1, (), rfl, w_8, k_ret ht hI⟩, hS.F ht⟩) hS.2.2 dX4_placeOf_39
  by_cases h_9 : p1 = (-1)
  · refine k_topi (y := (-1)) h_9 ?_
    refine lv_tableIn (tgt := 36) hx hb dX4_placeOf_1 (by decide) (by decide) rfl (by decide) ?_
    have h_9 := kc_eq rfl (by decide : Int32.toInt (-1) = (-1)) h_9
    refine lv_iconst (v := 0) hx hb dX4_placeOf_36 (by decide) ?_
    have w_10 : 0 ≤ (0 : Int32).toInt ∧ (0 : Int32).toInt < 5 := by rw [show Int32.toInt (0) = 0 from by decide]; omega
    exact W.iret (v := 0) hx hb hr (fun t ht hW => ⟨⟨0, (), rfl, w_10, k_ret ht hI⟩, hS.F ht⟩) hS.2.2 dX4_placeOf_37
  have h_1 := kn_eq rfl (by decide : Int32.toInt (-5) = (-5)) h_1
  have h_3 := kn_eq rfl (by decide : Int32.toInt (-4) = (-4)) h_3
  have h_5 := kn_eq rfl (by decide : Int32.toInt (-3) = (-3)) h_5
  have h_7 := kn_eq rfl (by decide : Int32.toInt (-2) = (-2)) h_7
  have h_9 := kn_eq rfl (by decide : Int32.toInt (-1) = (-1)) h_9
  refine lv_tableOut (tgt := 44) hx hb dX4_placeOf_1 (by omega) (by decide) ?_
  refine lv_iconst (v := 4) hx hb dX4_placeOf_44 (by decide) ?_
  have w_11 : 0 ≤ (4 : Int32).toInt ∧ (4 : Int32).toInt < 5 := by rw [show Int32.toInt (4) = 4 from by decide]; omega
  exact W.iret (v := 4) hx hb hr (fun t ht hW => ⟨⟨4, (), rfl, w_11, k_ret ht hI⟩, hS.F ht⟩) hS.2.2 dX4_placeOf_45
theorem tu_X4 : ∀ w ∈ u_ws RX4 TX4 2, q_g w := by
  intro w h
  unfold u_ws at h
  obtain ⟨j, hj, rfl⟩ := List.mem_map.mp h
  have hj := List.mem_range.mp hj
  match j, hj with
  | 0, _ => exact ⟨(List.mem_append_right _ (List.mem_of_getElem? (i := 315) (by decide +kernel))), good_of_word (by decide +kernel)⟩
  | 1, _ => exact ⟨(List.mem_append_right _ (List.mem_of_getElem? (i := 317) (by decide +kernel))), good_of_word (by decide +kernel)⟩
  | (j9 + 2), h9 => exact absurd h9 (by omega)
theorem tw_273 : q_g (.initialized RX4) := ⟨(List.mem_append_right _ (List.mem_of_getElem? (i := 12) (by decide +kernel))), good_of_word (by decide +kernel)⟩
theorem tw_274 : q_g (.static yX4_placeOf) := ⟨(List.mem_append_right _ (List.mem_of_getElem? (i := 371) (by decide +kernel))), good_of_word (by decide +kernel)⟩
theorem tw_275 : q_g (.methodLink RX4 19 yX4_placeOf) := ⟨(List.mem_append_right _ (List.mem_of_getElem? (i := 370) (by decide +kernel))), good_of_word (by decide +kernel)⟩
theorem tw_276 : q_g (.fieldLink RX4 9 "DeadlineShare$Refusals" "counts" "[I") := ⟨(List.mem_append_right _ (List.mem_of_getElem? (i := 312) (by decide +kernel))), good_of_word (by decide +kernel)⟩
theorem tw_277 : q_g (.fieldLink RX4 15 "DeadlineShare$Refusals" "latest" "I") := ⟨(List.mem_append_right _ (List.mem_of_getElem? (i := 313) (by decide +kernel))), good_of_word (by decide +kernel)⟩
theorem tw_278 : q_g (.code yX4_add cX4_add 2 (some .int)) := ⟨(List.mem_append_right _ (List.mem_of_getElem? (i := 369) (by decide +kernel))), good_of_word (by decide +kernel)⟩
def ow_c_X4_add : List Cond := [.fieldLink RX4 15 "DeadlineShare$Refusals" "latest" "I", .fieldLink RX4 9 "DeadlineShare$Refusals" "counts" "[I", .methodLink RX4 19 yX4_placeOf, .static yX4_placeOf, .initialized RX4]
def wq_c_X4_add : List Cond := .code yX4_add cX4_add 2 (some .int) :: (ow_c_X4_add ++ (u_ws RX4 TX4 2 ++ (wq_c_X4_placeOf ++ ([] : List Cond))))
theorem tb_c_X4_add : ∀ w ∈ wq_c_X4_add, q_g w := by
  unfold wq_c_X4_add ow_c_X4_add
  exact q_cons tw_278 (q_app (q_cons tw_277 (q_cons tw_276 (q_cons tw_275 (q_cons tw_274 (q_cons tw_273 q_nil))))) (q_app tu_X4 (q_app tb_c_X4_placeOf q_nil)))
set_option maxHeartbeats 4000000 in
set_option maxRecDepth 100000 in
theorem c_X4_add (l : Launch) (dC : Nat → ClassId) (dI : Nat → Nat → Nat) (g : kG) (A : Nat → Prop) (hG : kWf g) (f : Nat → va_E) (h0 : Nat) (p1 : Int32) (i_h0 : ik g 4 h0) : Met l yX4_add wq_c_X4_add ({ frames := 1, cells := 0, slots := 0, locals := 20 } : Room) (va_Pc [.ref h0, .int p1] (fun U => kIn dC dI g A f U)) (va_Qi (fun (r : Int32) (_ : Unit) => r.toInt = p1.toInt) (fun (_ : Unit) t => ∃ f1 : Nat → va_E, Iv dC dI g A f1 t.heap ∧ Kp g [4, 28] f f1) A) 0 0 A := by
  refine Met.ofW (cc := cX4_add) (maxL := 2) (ret := (some .int)) (by decide) rfl ?_
  intro p e s m args below meth c s₁ B hml hv
  obtain ⟨rfl, hI, hK, hE⟩ := hv
  have hx := B.exec
  have hb := B.bytes
  have hr := B.returns
  have hts := atoms_spec (ws := wq_c_X4_add) B.pre
  have hown : s.vm.findClass RX4 = some m.cls := findClass_of_methodNamed B.named
  have hlocks := B.notSynchronized
  have hS : va_S A s.heap s.heap [] := va_S.rf
  have hk0 : Kp g [4, 28] f f := Kp.rf
  have hl := lv_entry ([.ref h0, .int p1]) (n := 2) (Nat.le_of_ble_eq_true rfl)
  rw [lg_entry_eq]
  generalize (lg_sl ([.ref h0, .int p1]) ++ List.replicate (2 - (lg_sl ([.ref h0, .int p1])).length) Slot.unset).toArray = ls at hl ⊢
  have hl : lv_has ls 2 [(0, .ref h0), (1, .int p1)] := hl
  refine lv_aload_n hx hb dX4_add_0 rfl (lv_at hl 0 rfl) ?_
  refine lv_iload_n hx hb dX4_add_1 rfl (lv_at hl 1 rfl) ?_
  obtain ⟨x_2, k_1⟩ := op_4 hI i_h0
  refine k_put (ci := 4) (v := .int p1) (ty := .int) (C := RX4) (T := TX4) (N := 2) hx hb hts (fun _ h0_ => List.mem_cons_of_mem _ (List.mem_append_right _ (List.mem_append_left _ h0_))) tyX4 tyX4_ok nmX4 hown hK hI hS i_h0.1 k_1 rfl 1 (by decide) (hts (.fieldLink RX4 15 "DeadlineShare$Refusals" "latest" "I") (List.mem_cons_of_mem _ (List.mem_append_left _ (List.mem_of_getElem? (i := 0) rfl)))) (fun _ h9 => h9) rfl (by decide +kernel) rfl rfl (Nat.le_of_ble_eq_true rfl) rfl (cl_4 i_h0) dX4_add_2 (fun f_3 H locs e_4 hI hS => ?_)
  have k_6 : f_3 h0 = .inr (4, [.ref (gr g h0 0), .int p1]) := by rw [e_4]; exact va_up_self _ _ _
  have kp_5 := Kp.put hk0 i_h0 (by decide) e_4
  refine lv_aload_n hx hb dX4_add_5 rfl (lv_at hl 0 rfl) ?_
  refine k_get (ci := 4) (v := .ref (gr g h0 0)) (C := RX4) (T := TX4) (N := 2) hx hb hts (fun _ h0_ => List.mem_cons_of_mem _ (List.mem_append_right _ (List.mem_append_left _ h0_))) hown hK hI i_h0.1 k_6 rfl 0 (by decide) (hts (.fieldLink RX4 9 "DeadlineShare$Refusals" "counts" "[I") (List.mem_cons_of_mem _ (List.mem_append_left _ (List.mem_of_getElem? (i := 1) rfl)))) (fun _ h9 => h9) rfl dX4_add_6 ?_
  have i_8 := kw_4_0 hG i_h0
  refine lv_iload_n hx hb dX4_add_9 rfl (lv_at hl 1 rfl) ?_
  refine va_calli (va_runS (As := [.int p1]) (rest := [.ref (gr g h0 0)]) ⟨hx, hb, hml, hown, hts⟩ (c_X4_placeOf l dC dI g A hG f_3 p1) (va_cwS 1 hts (gi_S (fun w_ h0_ => ⟨List.mem_cons_of_mem _ (List.mem_append_right _ (List.mem_append_right _ (List.mem_append_left _ h0_))), (tb_c_X4_placeOf w_ h0_).2⟩) (List.mem_cons_of_mem _ (List.mem_append_left _ (List.mem_of_getElem? (i := 2) rfl))) (List.mem_cons_of_mem _ (List.mem_append_left _ (List.mem_of_getElem? (i := 3) rfl))) (List.mem_cons_of_mem _ (List.mem_append_left _ (List.mem_of_getElem? (i := 4) rfl)))) rfl rfl rfl (by decide +kernel) ⟨Nat.le_of_ble_eq_true rfl, Nat.le_of_ble_eq_true rfl⟩) ⟨fun a U g mk q => ⟨q.1, q.2.calling rfl rfl⟩, fun U hU hW => ⟨rfl, kIn.of hI hK hE hS hU hW⟩⟩ rfl rfl hl.1 rfl (lv_room (Nat.le_of_ble_eq_true rfl)) dX4_add_10 ⟨Nat.le_of_ble_eq_true rfl, Nat.le_of_ble_eq_true rfl⟩) hS (fun q _ h => h) (fun q h => h) (fun r_10 u t H1 locs ht hvm w_9 hB hz1 hk1 hS => ?_)
  have hI : Iv dC dI g A f_3 t.heap := hB
  rw [ht] at hI
  generalize H1 = H at hI hS ⊢
  refine W.widen (k := 0) (n := 0) (Nat.le_of_ble_eq_true rfl) (Nat.le_of_ble_eq_true rfl) ?_
  have w_9 : 0 ≤ r_10.toInt ∧ r_10.toInt < 5 := w_9
  refine lv_dup2_11 hx hb dX4_add_13 rfl rfl ?_
  obtain ⟨q_12, k_11⟩ := op_28 hI i_8
  refine k_iald hx hb hK hI i_8.1 0 k_11 rfl (vp_in_iff.mpr (by omega)) dX4_add_14 ?_
  refine lv_topi (fun v_13 ev_13 => ?_)
  refine lv_iconst (v := 1) hx hb dX4_add_15 (by decide) ?_
  refine lv_iadd hx hb dX4_add_16 ?_
  refine lv_topi (fun v_14 ev_14 => ?_)
  have tv_14 := k_ad v_13 1
  rw [← ev_14, show Int32.toInt 1 = 1 from by decide] at tv_14
  refine k_iast hx hb hK hI hS i_8.1 0 k_11 rfl (vp_in_iff.mpr (by omega)) (cl_28 i_8) dX4_add_17 (fun f_15 H locs e_16 hI hS => ?_)
  generalize eq_17 : upd q_12 (Int32.toNatClampNeg r_10) v_14 = q_17 at e_16
  have k_19 : f_15 h0 = .inr (4, [.ref (gr g h0 0), .int p1]) := by rw [e_16, va_up_ne _ _ (ik_ne i_h0 i_8 (by decide))]; exact k_6
  have k_20 : f_15 (gr g h0 0) = .inl (gc g 0, 5, .inl q_17) := by rw [e_16]; exact va_up_self _ _ _
  have kp_18 := Kp.put kp_5 i_8 (by decide) e_16
  refine lv_iload_n hx hb dX4_add_18 rfl (lv_at hl 1 rfl) ?_
  have w_21 : p1.toInt = p1.toInt := by omega
  exact W.iret (v := p1) hx hb hr (fun t ht hW => ⟨⟨p1, (), rfl, w_21, ⟨f_15, k_ret ht hI, kp_18⟩⟩, hS.F ht⟩) hS.2.2 dX4_add_19
theorem tw_279 : q_g (.code yX4_none cX4_none 2 (some .int)) := ⟨(List.mem_append_right _ (List.mem_of_getElem? (i := 384) (by decide +kernel))), good_of_word (by decide +kernel)⟩
def ow_c_X4_none : List Cond := [.fieldLink RX4 15 "DeadlineShare$Refusals" "latest" "I"]
def wq_c_X4_none : List Cond := .code yX4_none cX4_none 2 (some .int) :: (ow_c_X4_none ++ (u_ws RX4 TX4 2 ++ ([] : List Cond)))
theorem tb_c_X4_none : ∀ w ∈ wq_c_X4_none, q_g w := by
  unfold wq_c_X4_none ow_c_X4_none
  exact q_cons tw_279 (q_app (q_cons tw_277 q_nil) (q_app tu_X4 q_nil))
set_option maxHeartbeats 4000000 in
set_option maxRecDepth 100000 in
theorem c_X4_none (l : Launch) (dC : Nat → ClassId) (dI : Nat → Nat → Nat) (g : kG) (A : Nat → Prop) (hG : kWf g) (f : Nat → va_E) (h0 : Nat) (p1 : Int32) (i_h0 : ik g 4 h0) : Met l yX4_none wq_c_X4_none ({ frames := 0, cells := 0, slots := 0, locals := 0 } : Room) (va_Pc [.ref h0, .int p1] (fun U => kIn dC dI g A f U)) (va_Qi (fun (r : Int32) (_ : Unit) => r.toInt = p1.toInt) (fun (_ : Unit) t => ∃ f1 : Nat → va_E, Iv dC dI g A f1 t.heap ∧ Kp g [4] f f1) A) 0 0 A := by
  refine Met.ofW (cc := cX4_none) (maxL := 2) (ret := (some .int)) (by decide) rfl ?_
  intro p e s m args below meth c s₁ B hml hv
  obtain ⟨rfl, hI, hK, hE⟩ := hv
  have hx := B.exec
  have hb := B.bytes
  have hr := B.returns
  have hts := atoms_spec (ws := wq_c_X4_none) B.pre
  have hown : s.vm.findClass RX4 = some m.cls := findClass_of_methodNamed B.named
  have hlocks := B.notSynchronized
  have hS : va_S A s.heap s.heap [] := va_S.rf
  have hk0 : Kp g [4] f f := Kp.rf
  have hl := lv_entry ([.ref h0, .int p1]) (n := 2) (Nat.le_of_ble_eq_true rfl)
  rw [lg_entry_eq]
  generalize (lg_sl ([.ref h0, .int p1]) ++ List.replicate (2 - (lg_sl ([.ref h0, .int p1])).length) Slot.unset).toArray = ls at hl ⊢
  have hl : lv_has ls 2 [(0, .ref h0), (1, .int p1)] := hl
  refine lv_aload_n hx hb dX4_none_0 rfl (lv_at hl 0 rfl) ?_
  refine lv_iconst (v := 0) hx hb dX4_none_1 (by decide) ?_
  obtain ⟨x_2, k_1⟩ := op_4 hI i_h0
  refine k_put (ci := 4) (v := .int 0) (ty := .int) (C := RX4) (T := TX4) (N := 2) hx hb hts (fun _ h0_ => List.mem_cons_of_mem _ (List.mem_append_right _ (List.mem_append_left _ h0_))) tyX4 tyX4_ok nmX4 hown hK hI hS i_h0.1 k_1 rfl 1 (by decide) (hts (.fieldLink RX4 15 "DeadlineShare$Refusals" "latest" "I") (List.mem_cons_of_mem _ (List.mem_append_left _ (List.mem_of_getElem? (i := 0) rfl)))) (fun _ h9 => h9) rfl (by decide +kernel) rfl rfl (Nat.le_of_ble_eq_true rfl) rfl (cl_4 i_h0) dX4_none_2 (fun f_3 H locs e_4 hI hS => ?_)
  have k_6 : f_3 h0 = .inr (4, [.ref (gr g h0 0), .int 0]) := by rw [e_4]; exact va_up_self _ _ _
  have kp_5 := Kp.put hk0 i_h0 (by decide) e_4
  refine lv_iload_n hx hb dX4_none_5 rfl (lv_at hl 1 rfl) ?_
  have w_7 : p1.toInt = p1.toInt := by omega
  exact W.iret (v := p1) hx hb hr (fun t ht hW => ⟨⟨p1, (), rfl, w_7, ⟨f_3, k_ret ht hI, kp_5⟩⟩, hS.F ht⟩) hS.2.2 dX4_none_6
theorem tw_280 : q_g (.code yX4_countOf cX4_countOf 2 (some .int)) := ⟨(List.mem_append_right _ (List.mem_of_getElem? (i := 1080) (by decide +kernel))), good_of_word (by decide +kernel)⟩
def ow_c_X4_countOf : List Cond := [.fieldLink RX4 9 "DeadlineShare$Refusals" "counts" "[I", .methodLink RX4 19 yX4_placeOf, .static yX4_placeOf, .initialized RX4]
def wq_c_X4_countOf : List Cond := .code yX4_countOf cX4_countOf 2 (some .int) :: (ow_c_X4_countOf ++ (u_ws RX4 TX4 2 ++ (wq_c_X4_placeOf ++ ([] : List Cond))))
theorem tb_c_X4_countOf : ∀ w ∈ wq_c_X4_countOf, q_g w := by
  unfold wq_c_X4_countOf ow_c_X4_countOf
  exact q_cons tw_280 (q_app (q_cons tw_276 (q_cons tw_275 (q_cons tw_274 (q_cons tw_273 q_nil)))) (q_app tu_X4 (q_app tb_c_X4_placeOf q_nil)))
set_option maxHeartbeats 4000000 in
set_option maxRecDepth 100000 in
theorem c_X4_countOf (l : Launch) (dC : Nat → ClassId) (dI : Nat → Nat → Nat) (g : kG) (A : Nat → Prop) (hG : kWf g) (f : Nat → va_E) (h0 : Nat) (p1 : Int32) (i_h0 : ik g 4 h0) : Met l yX4_countOf wq_c_X4_countOf ({ frames := 1, cells := 0, slots := 0, locals := 20 } : Room) (va_Pc [.ref h0, .int p1] (fun U => kIn dC dI g A f U)) (va_Qi (fun (r : Int32) (_ : Unit) => True) (fun (_ : Unit) t => Iv dC dI g A f t.heap) A) 0 0 A := by
  refine Met.ofW (cc := cX4_countOf) (maxL := 2) (ret := (some .int)) (by decide) rfl ?_
  intro p e s m args below meth c s₁ B hml hv
  obtain ⟨rfl, hI, hK, hE⟩ := hv
  have hx := B.exec
  have hb := B.bytes
  have hr := B.returns
  have hts := atoms_spec (ws := wq_c_X4_countOf) B.pre
  have hown : s.vm.findClass RX4 = some m.cls := findClass_of_methodNamed B.named
  have hlocks := B.notSynchronized
  have hS : va_S A s.heap s.heap [] := va_S.rf
  have hl := lv_entry ([.ref h0, .int p1]) (n := 2) (Nat.le_of_ble_eq_true rfl)
  rw [lg_entry_eq]
  generalize (lg_sl ([.ref h0, .int p1]) ++ List.replicate (2 - (lg_sl ([.ref h0, .int p1])).length) Slot.unset).toArray = ls at hl ⊢
  have hl : lv_has ls 2 [(0, .ref h0), (1, .int p1)] := hl
  refine lv_aload_n hx hb dX4_countOf_0 rfl (lv_at hl 0 rfl) ?_
  obtain ⟨x_2, k_1⟩ := op_4 hI i_h0
  refine k_get (ci := 4) (v := .ref (gr g h0 0)) (C := RX4) (T := TX4) (N := 2) hx hb hts (fun _ h0_ => List.mem_cons_of_mem _ (List.mem_append_right _ (List.mem_append_left _ h0_))) hown hK hI i_h0.1 k_1 rfl 0 (by decide) (hts (.fieldLink RX4 9 "DeadlineShare$Refusals" "counts" "[I") (List.mem_cons_of_mem _ (List.mem_append_left _ (List.mem_of_getElem? (i := 0) rfl)))) (fun _ h9 => h9) rfl dX4_countOf_1 ?_
  have i_4 := kw_4_0 hG i_h0
  refine lv_iload_n hx hb dX4_countOf_4 rfl (lv_at hl 1 rfl) ?_
  refine va_calli (va_runS (As := [.int p1]) (rest := [.ref (gr g h0 0)]) ⟨hx, hb, hml, hown, hts⟩ (c_X4_placeOf l dC dI g A hG f p1) (va_cwS 1 hts (gi_S (fun w_ h0_ => ⟨List.mem_cons_of_mem _ (List.mem_append_right _ (List.mem_append_right _ (List.mem_append_left _ h0_))), (tb_c_X4_placeOf w_ h0_).2⟩) (List.mem_cons_of_mem _ (List.mem_append_left _ (List.mem_of_getElem? (i := 1) rfl))) (List.mem_cons_of_mem _ (List.mem_append_left _ (List.mem_of_getElem? (i := 2) rfl))) (List.mem_cons_of_mem _ (List.mem_append_left _ (List.mem_of_getElem? (i := 3) rfl)))) rfl rfl rfl (by decide +kernel) ⟨Nat.le_of_ble_eq_true rfl, Nat.le_of_ble_eq_true rfl⟩) ⟨fun a U g mk q => ⟨q.1, q.2.calling rfl rfl⟩, fun U hU hW => ⟨rfl, kIn.of hI hK hE hS hU hW⟩⟩ rfl rfl hl.1 rfl (lv_room (Nat.le_of_ble_eq_true rfl)) dX4_countOf_5 ⟨Nat.le_of_ble_eq_true rfl, Nat.le_of_ble_eq_true rfl⟩) hS (fun q _ h => h) (fun q h => h) (fun r_6 u t H1 locs ht hvm w_5 hB hz1 hk1 hS => ?_)
  have hI : Iv dC dI g A f t.heap := hB
  rw [ht] at hI
  generalize H1 = H at hI hS ⊢
  refine W.widen (k := 0) (n := 0) (Nat.le_of_ble_eq_true rfl) (Nat.le_of_ble_eq_true rfl) ?_
  have w_5 : 0 ≤ r_6.toInt ∧ r_6.toInt < 5 := w_5
  obtain ⟨q_8, k_7⟩ := op_28 hI i_4
  refine k_iald hx hb hK hI i_4.1 0 k_7 rfl (vp_in_iff.mpr (by omega)) dX4_countOf_8 ?_
  refine lv_topi (fun v_9 ev_9 => ?_)
  exact W.iret (v := v_9) hx hb hr (fun t ht hW => ⟨⟨v_9, (), rfl, trivial, k_ret ht hI⟩, hS.F ht⟩) hS.2.2 dX4_countOf_9
theorem tw_281 : q_g (.code yX5_isThere cX5_isThere 1 (some .boolean)) := ⟨(List.mem_append_right _ (List.mem_of_getElem? (i := 758) (by decide +kernel))), good_of_word (by decide +kernel)⟩
def ow_c_X5_isThere : List Cond := [.fieldLink RX5 28 "DeadlineShare$Script" "size" "I"]
def wq_c_X5_isThere : List Cond := .code yX5_isThere cX5_isThere 1 (some .boolean) :: (ow_c_X5_isThere ++ (u_ws RX5 TX5 5 ++ ([] : List Cond)))
theorem tb_c_X5_isThere : ∀ w ∈ wq_c_X5_isThere, q_g w := by
  unfold wq_c_X5_isThere ow_c_X5_isThere
  exact q_cons tw_281 (q_app (q_cons tw_110 q_nil) (q_app tu_X5 q_nil))
set_option maxHeartbeats 4000000 in
set_option maxRecDepth 100000 in
theorem c_X5_isThere (l : Launch) (dC : Nat → ClassId) (dI : Nat → Nat → Nat) (g : kG) (A : Nat → Prop) (hG : kWf g) (f : Nat → va_E) (h0 : Nat) (i_h0 : ik g 5 h0) : Met l yX5_isThere wq_c_X5_isThere ({ frames := 0, cells := 0, slots := 0, locals := 0 } : Room) (va_Pc [.ref h0] (fun U => kIn dC dI g A f U)) (va_Qi (fun (r : Int32) (_ : Unit) => True) (fun (_ : Unit) t => Iv dC dI g A f t.heap) A) 0 0 A := by
  refine Met.ofW (cc := cX5_isThere) (maxL := 1) (ret := (some .boolean)) (by decide) rfl ?_
  intro p e s m args below meth c s₁ B hml hv
  obtain ⟨rfl, hI, hK, hE⟩ := hv
  have hx := B.exec
  have hb := B.bytes
  have hr := B.returns
  have hts := atoms_spec (ws := wq_c_X5_isThere) B.pre
  have hown : s.vm.findClass RX5 = some m.cls := findClass_of_methodNamed B.named
  have hlocks := B.notSynchronized
  have hS : va_S A s.heap s.heap [] := va_S.rf
  have hl := lv_entry ([.ref h0]) (n := 1) (Nat.le_of_ble_eq_true rfl)
  rw [lg_entry_eq]
  generalize (lg_sl ([.ref h0]) ++ List.replicate (1 - (lg_sl ([.ref h0])).length) Slot.unset).toArray = ls at hl ⊢
  have hl : lv_has ls 1 [(0, .ref h0)] := hl
  refine lv_aload_n hx hb dX5_isThere_0 rfl (lv_at hl 0 rfl) ?_
  obtain ⟨x_2, x_3, x_4, x_5, k_1, b_6, b_7⟩ := op_5 hI i_h0
  refine k_get (ci := 5) (v := .int x_2) (C := RX5) (T := TX5) (N := 5) hx hb hts (fun _ h0_ => List.mem_cons_of_mem _ (List.mem_append_right _ (List.mem_append_left _ h0_))) hown hK hI i_h0.1 k_1 rfl 1 (by decide) (hts (.fieldLink RX5 28 "DeadlineShare$Script" "size" "I") (List.mem_cons_of_mem _ (List.mem_append_left _ (List.mem_of_getElem? (i := 0) rfl)))) (fun _ h9 => h9) rfl dX5_isThere_1 ?_
  refine lv_if_le (tgt := 11) hx hb dX5_isThere_4 (by decide) (fun c_8 => ?_) (fun c_8 => ?_)
  · have c_8 := kc_le rfl (by decide : Int32.toInt 0 = 0) c_8
    refine lv_iconst (v := 0) hx hb dX5_isThere_11 (by decide) ?_
    exact W.zret (v := 0) hx hb hr rfl (fun t ht hW => ⟨⟨0, (), rfl, trivial, k_ret ht hI⟩, hS.F ht⟩) hS.2.2 dX5_isThere_12
  · have c_8 := kn_le rfl (by decide : Int32.toInt 0 = 0) c_8
    refine lv_iconst (v := 1) hx hb dX5_isThere_7 (by decide) ?_
    refine lv_goto (tgt := 12) hx hb dX5_isThere_8 (by decide) ?_
    exact W.zret (v := 1) hx hb hr rfl (fun t ht hW => ⟨⟨1, (), rfl, trivial, k_ret ht hI⟩, hS.F ht⟩) hS.2.2 dX5_isThere_12
theorem tw_282 : q_g (.code yX5_kindOf cX5_kindOf 2 (some .int)) := ⟨(List.mem_append_right _ (List.mem_of_getElem? (i := 739) (by decide +kernel))), good_of_word (by decide +kernel)⟩
def ow_c_X5_kindOf : List Cond := [.fieldLink RX5 28 "DeadlineShare$Script" "size" "I", .fieldLink RX5 11 "DeadlineShare$Script" "steps" "[I"]
def wq_c_X5_kindOf : List Cond := .code yX5_kindOf cX5_kindOf 2 (some .int) :: (ow_c_X5_kindOf ++ (u_ws RX5 TX5 5 ++ ([] : List Cond)))
theorem tb_c_X5_kindOf : ∀ w ∈ wq_c_X5_kindOf, q_g w := by
  unfold wq_c_X5_kindOf ow_c_X5_kindOf
  exact q_cons tw_282 (q_app (q_cons tw_110 (q_cons tw_115 q_nil)) (q_app tu_X5 q_nil))
set_option maxHeartbeats 4000000 in
set_option maxRecDepth 100000 in
theorem c_X5_kindOf (l : Launch) (dC : Nat → ClassId) (dI : Nat → Nat → Nat) (g : kG) (A : Nat → Prop) (hG : kWf g) (f : Nat → va_E) (h0 : Nat) (p1 : Int32) (i_h0 : ik g 5 h0) : Met l yX5_kindOf wq_c_X5_kindOf ({ frames := 0, cells := 0, slots := 0, locals := 0 } : Room) (va_Pc [.ref h0, .int p1] (fun U => kIn dC dI g A f U)) (va_Qi (fun (r : Int32) (_ : Unit) => True) (fun (_ : Unit) t => Iv dC dI g A f t.heap) A) 0 0 A := by
  refine Met.ofW (cc := cX5_kindOf) (maxL := 2) (ret := (some .int)) (by decide) rfl ?_
  intro p e s m args below meth c s₁ B hml hv
  obtain ⟨rfl, hI, hK, hE⟩ := hv
  have hx := B.exec
  have hb := B.bytes
  have hr := B.returns
  have hts := atoms_spec (ws := wq_c_X5_kindOf) B.pre
  have hown : s.vm.findClass RX5 = some m.cls := findClass_of_methodNamed B.named
  have hlocks := B.notSynchronized
  have hS : va_S A s.heap s.heap [] := va_S.rf
  have hl := lv_entry ([.ref h0, .int p1]) (n := 2) (Nat.le_of_ble_eq_true rfl)
  rw [lg_entry_eq]
  generalize (lg_sl ([.ref h0, .int p1]) ++ List.replicate (2 - (lg_sl ([.ref h0, .int p1])).length) Slot.unset).toArray = ls at hl ⊢
  have hl : lv_has ls 2 [(0, .ref h0), (1, .int p1)] := hl
  refine lv_iload_n hx hb dX5_kindOf_0 rfl (lv_at hl 1 rfl) ?_
  refine lv_if_lt (tgt := 24) hx hb dX5_kindOf_1 (by decide) (fun c_1 => ?_) (fun c_1 => ?_)
  · have c_1 := kc_lt rfl (by decide : Int32.toInt 0 = 0) c_1
    refine lv_iconst (v := (-1)) hx hb dX5_kindOf_24 (by decide) ?_
    exact W.iret (v := (-1)) hx hb hr (fun t ht hW => ⟨⟨(-1), (), rfl, trivial, k_ret ht hI⟩, hS.F ht⟩) hS.2.2 dX5_kindOf_25
  · have c_1 := kn_lt rfl (by decide : Int32.toInt 0 = 0) c_1
    refine lv_iload_n hx hb dX5_kindOf_4 rfl (lv_at hl 1 rfl) ?_
    refine lv_aload_n hx hb dX5_kindOf_5 rfl (lv_at hl 0 rfl) ?_
    obtain ⟨x_3, x_4, x_5, x_6, k_2, b_7, b_8⟩ := op_5 hI i_h0
    refine k_get (ci := 5) (v := .int x_3) (C := RX5) (T := TX5) (N := 5) hx hb hts (fun _ h0_ => List.mem_cons_of_mem _ (List.mem_append_right _ (List.mem_append_left _ h0_))) hown hK hI i_h0.1 k_2 rfl 1 (by decide) (hts (.fieldLink RX5 28 "DeadlineShare$Script" "size" "I") (List.mem_cons_of_mem _ (List.mem_append_left _ (List.mem_of_getElem? (i := 0) rfl)))) (fun _ h9 => h9) rfl dX5_kindOf_6 ?_
    refine lv_icmp_ge (tgt := 24) hx hb dX5_kindOf_9 (by decide) (fun c_9 => ?_) (fun c_9 => ?_)
    · have c_9 := kc_le rfl rfl c_9
      refine lv_iconst (v := (-1)) hx hb dX5_kindOf_24 (by decide) ?_
      exact W.iret (v := (-1)) hx hb hr (fun t ht hW => ⟨⟨(-1), (), rfl, trivial, k_ret ht hI⟩, hS.F ht⟩) hS.2.2 dX5_kindOf_25
    · have c_9 := kn_le rfl rfl c_9
      refine lv_aload_n hx hb dX5_kindOf_12 rfl (lv_at hl 0 rfl) ?_
      refine k_get (ci := 5) (v := .ref (gr g h0 0)) (C := RX5) (T := TX5) (N := 5) hx hb hts (fun _ h0_ => List.mem_cons_of_mem _ (List.mem_append_right _ (List.mem_append_left _ h0_))) hown hK hI i_h0.1 k_2 rfl 0 (by decide) (hts (.fieldLink RX5 11 "DeadlineShare$Script" "steps" "[I") (List.mem_cons_of_mem _ (List.mem_append_left _ (List.mem_of_getElem? (i := 1) rfl)))) (fun _ h9 => h9) rfl dX5_kindOf_13 ?_
      have i_11 := kw_5_0 hG i_h0
      refine lv_iload_n hx hb dX5_kindOf_16 rfl (lv_at hl 1 rfl) ?_
      obtain ⟨q_13, k_12⟩ := op_24 hI i_11
      refine k_iald hx hb hK hI i_11.1 0 k_12 rfl (vp_in_iff.mpr (by omega)) dX5_kindOf_17 ?_
      refine lv_topi (fun v_14 ev_14 => ?_)
      refine lv_bipush (v := 8) hx hb dX5_kindOf_18 (by decide) ?_
      refine lv_ishr hx hb dX5_kindOf_20 ?_
      refine lv_topi (fun v_15 ev_15 => ?_)
      refine lv_goto (tgt := 25) hx hb dX5_kindOf_21 (by decide) ?_
      exact W.iret (v := v_15) hx hb hr (fun t ht hW => ⟨⟨v_15, (), rfl, trivial, k_ret ht hI⟩, hS.F ht⟩) hS.2.2 dX5_kindOf_25
theorem tw_283 : q_g (.code yX5_numberOf cX5_numberOf 2 (some .int)) := ⟨(List.mem_append_right _ (List.mem_of_getElem? (i := 735) (by decide +kernel))), good_of_word (by decide +kernel)⟩
def ow_c_X5_numberOf : List Cond := [.fieldLink RX5 28 "DeadlineShare$Script" "size" "I", .fieldLink RX5 11 "DeadlineShare$Script" "steps" "[I"]
def wq_c_X5_numberOf : List Cond := .code yX5_numberOf cX5_numberOf 2 (some .int) :: (ow_c_X5_numberOf ++ (u_ws RX5 TX5 5 ++ ([] : List Cond)))
theorem tb_c_X5_numberOf : ∀ w ∈ wq_c_X5_numberOf, q_g w := by
  unfold wq_c_X5_numberOf ow_c_X5_numberOf
  exact q_cons tw_283 (q_app (q_cons tw_110 (q_cons tw_115 q_nil)) (q_app tu_X5 q_nil))
set_option maxHeartbeats 4000000 in
set_option maxRecDepth 100000 in
theorem c_X5_numberOf (l : Launch) (dC : Nat → ClassId) (dI : Nat → Nat → Nat) (g : kG) (A : Nat → Prop) (hG : kWf g) (f : Nat → va_E) (h0 : Nat) (p1 : Int32) (i_h0 : ik g 5 h0) : Met l yX5_numberOf wq_c_X5_numberOf ({ frames := 0, cells := 0, slots := 0, locals := 0 } : Room) (va_Pc [.ref h0, .int p1] (fun U => kIn dC dI g A f U)) (va_Qi (fun (r : Int32) (_ : Unit) => True) (fun (_ : Unit) t => Iv dC dI g A f t.heap) A) 0 0 A := by
  refine Met.ofW (cc := cX5_numberOf) (maxL := 2) (ret := (some .int)) (by decide) rfl ?_
  intro p e s m args below meth c s₁ B hml hv
  obtain ⟨rfl, hI, hK, hE⟩ := hv
  have hx := B.exec
  have hb := B.bytes
  have hr := B.returns
  have hts := atoms_spec (ws := wq_c_X5_numberOf) B.pre
  have hown : s.vm.findClass RX5 = some m.cls := findClass_of_methodNamed B.named
  have hlocks := B.notSynchronized
  have hS : va_S A s.heap s.heap [] := va_S.rf
  have hl := lv_entry ([.ref h0, .int p1]) (n := 2) (Nat.le_of_ble_eq_true rfl)
  rw [lg_entry_eq]
  generalize (lg_sl ([.ref h0, .int p1]) ++ List.replicate (2 - (lg_sl ([.ref h0, .int p1])).length) Slot.unset).toArray = ls at hl ⊢
  have hl : lv_has ls 2 [(0, .ref h0), (1, .int p1)] := hl
  refine lv_iload_n hx hb dX5_numberOf_0 rfl (lv_at hl 1 rfl) ?_
  refine lv_if_lt (tgt := 25) hx hb dX5_numberOf_1 (by decide) (fun c_1 => ?_) (fun c_1 => ?_)
  · have c_1 := kc_lt rfl (by decide : Int32.toInt 0 = 0) c_1
    refine lv_iconst (v := 0) hx hb dX5_numberOf_25 (by decide) ?_
    exact W.iret (v := 0) hx hb hr (fun t ht hW => ⟨⟨0, (), rfl, trivial, k_ret ht hI⟩, hS.F ht⟩) hS.2.2 dX5_numberOf_26
  · have c_1 := kn_lt rfl (by decide : Int32.toInt 0 = 0) c_1
    refine lv_iload_n hx hb dX5_numberOf_4 rfl (lv_at hl 1 rfl) ?_
    refine lv_aload_n hx hb dX5_numberOf_5 rfl (lv_at hl 0 rfl) ?_
    obtain ⟨x_3, x_4, x_5, x_6, k_2, b_7, b_8⟩ := op_5 hI i_h0
    refine k_get (ci := 5) (v := .int x_3) (C := RX5) (T := TX5) (N := 5) hx hb hts (fun _ h0_ => List.mem_cons_of_mem _ (List.mem_append_right _ (List.mem_append_left _ h0_))) hown hK hI i_h0.1 k_2 rfl 1 (by decide) (hts (.fieldLink RX5 28 "DeadlineShare$Script" "size" "I") (List.mem_cons_of_mem _ (List.mem_append_left _ (List.mem_of_getElem? (i := 0) rfl)))) (fun _ h9 => h9) rfl dX5_numberOf_6 ?_
    refine lv_icmp_ge (tgt := 25) hx hb dX5_numberOf_9 (by decide) (fun c_9 => ?_) (fun c_9 => ?_)
    · have c_9 := kc_le rfl rfl c_9
      refine lv_iconst (v := 0) hx hb dX5_numberOf_25 (by decide) ?_
      exact W.iret (v := 0) hx hb hr (fun t ht hW => ⟨⟨0, (), rfl, trivial, k_ret ht hI⟩, hS.F ht⟩) hS.2.2 dX5_numberOf_26
    · have c_9 := kn_le rfl rfl c_9
      refine lv_aload_n hx hb dX5_numberOf_12 rfl (lv_at hl 0 rfl) ?_
      refine k_get (ci := 5) (v := .ref (gr g h0 0)) (C := RX5) (T := TX5) (N := 5) hx hb hts (fun _ h0_ => List.mem_cons_of_mem _ (List.mem_append_right _ (List.mem_append_left _ h0_))) hown hK hI i_h0.1 k_2 rfl 0 (by decide) (hts (.fieldLink RX5 11 "DeadlineShare$Script" "steps" "[I") (List.mem_cons_of_mem _ (List.mem_append_left _ (List.mem_of_getElem? (i := 1) rfl)))) (fun _ h9 => h9) rfl dX5_numberOf_13 ?_
      have i_11 := kw_5_0 hG i_h0
      refine lv_iload_n hx hb dX5_numberOf_16 rfl (lv_at hl 1 rfl) ?_
      obtain ⟨q_13, k_12⟩ := op_24 hI i_11
      refine k_iald hx hb hK hI i_11.1 0 k_12 rfl (vp_in_iff.mpr (by omega)) dX5_numberOf_17 ?_
      refine lv_topi (fun v_14 ev_14 => ?_)
      refine lv_sipush (v := 255) hx hb dX5_numberOf_18 (by decide) ?_
      refine lv_iand hx hb dX5_numberOf_21 ?_
      refine lv_topi (fun v_15 ev_15 => ?_)
      refine lv_goto (tgt := 26) hx hb dX5_numberOf_22 (by decide) ?_
      exact W.iret (v := v_15) hx hb hr (fun t ht hW => ⟨⟨v_15, (), rfl, trivial, k_ret ht hI⟩, hS.F ht⟩) hS.2.2 dX5_numberOf_26
theorem tw_284 : q_g (.code yX5_isEnded cX5_isEnded 1 (some .boolean)) := ⟨(List.mem_append_right _ (List.mem_of_getElem? (i := 731) (by decide +kernel))), good_of_word (by decide +kernel)⟩
def ow_c_X5_isEnded : List Cond := [.fieldLink RX5 32 "DeadlineShare$Script" "at" "I", .fieldLink RX5 28 "DeadlineShare$Script" "size" "I"]
def wq_c_X5_isEnded : List Cond := .code yX5_isEnded cX5_isEnded 1 (some .boolean) :: (ow_c_X5_isEnded ++ (u_ws RX5 TX5 5 ++ ([] : List Cond)))
theorem tb_c_X5_isEnded : ∀ w ∈ wq_c_X5_isEnded, q_g w := by
  unfold wq_c_X5_isEnded ow_c_X5_isEnded
  exact q_cons tw_284 (q_app (q_cons tw_109 (q_cons tw_110 q_nil)) (q_app tu_X5 q_nil))
set_option maxHeartbeats 4000000 in
set_option maxRecDepth 100000 in
theorem c_X5_isEnded (l : Launch) (dC : Nat → ClassId) (dI : Nat → Nat → Nat) (g : kG) (A : Nat → Prop) (hG : kWf g) (f : Nat → va_E) (h0 : Nat) (i_h0 : ik g 5 h0) : Met l yX5_isEnded wq_c_X5_isEnded ({ frames := 0, cells := 0, slots := 0, locals := 0 } : Room) (va_Pc [.ref h0] (fun U => kIn dC dI g A f U)) (va_Qi (fun (r : Int32) (_ : Unit) => True) (fun (_ : Unit) t => Iv dC dI g A f t.heap) A) 0 0 A := by
  refine Met.ofW (cc := cX5_isEnded) (maxL := 1) (ret := (some .boolean)) (by decide) rfl ?_
  intro p e s m args below meth c s₁ B hml hv
  obtain ⟨rfl, hI, hK, hE⟩ := hv
  have hx := B.exec
  have hb := B.bytes
  have hr := B.returns
  have hts := atoms_spec (ws := wq_c_X5_isEnded) B.pre
  have hown : s.vm.findClass RX5 = some m.cls := findClass_of_methodNamed B.named
  have hlocks := B.notSynchronized
  have hS : va_S A s.heap s.heap [] := va_S.rf
  have hl := lv_entry ([.ref h0]) (n := 1) (Nat.le_of_ble_eq_true rfl)
  rw [lg_entry_eq]
  generalize (lg_sl ([.ref h0]) ++ List.replicate (1 - (lg_sl ([.ref h0])).length) Slot.unset).toArray = ls at hl ⊢
  have hl : lv_has ls 1 [(0, .ref h0)] := hl
  refine lv_aload_n hx hb dX5_isEnded_0 rfl (lv_at hl 0 rfl) ?_
  obtain ⟨x_2, x_3, x_4, x_5, k_1, b_6, b_7⟩ := op_5 hI i_h0
  refine k_get (ci := 5) (v := .int x_3) (C := RX5) (T := TX5) (N := 5) hx hb hts (fun _ h0_ => List.mem_cons_of_mem _ (List.mem_append_right _ (List.mem_append_left _ h0_))) hown hK hI i_h0.1 k_1 rfl 2 (by decide) (hts (.fieldLink RX5 32 "DeadlineShare$Script" "at" "I") (List.mem_cons_of_mem _ (List.mem_append_left _ (List.mem_of_getElem? (i := 0) rfl)))) (fun _ h9 => h9) rfl dX5_isEnded_1 ?_
  refine lv_aload_n hx hb dX5_isEnded_4 rfl (lv_at hl 0 rfl) ?_
  refine k_get (ci := 5) (v := .int x_2) (C := RX5) (T := TX5) (N := 5) hx hb hts (fun _ h0_ => List.mem_cons_of_mem _ (List.mem_append_right _ (List.mem_append_left _ h0_))) hown hK hI i_h0.1 k_1 rfl 1 (by decide) (hts (.fieldLink RX5 28 "DeadlineShare$Script" "size" "I") (List.mem_cons_of_mem _ (List.mem_append_left _ (List.mem_of_getElem? (i := 1) rfl)))) (fun _ h9 => h9) rfl dX5_isEnded_5 ?_
  refine lv_icmp_lt (tgt := 15) hx hb dX5_isEnded_8 (by decide) (fun c_8 => ?_) (fun c_8 => ?_)
  · have c_8 := kc_lt rfl rfl c_8
    refine lv_iconst (v := 0) hx hb dX5_isEnded_15 (by decide) ?_
    exact W.zret (v := 0) hx hb hr rfl (fun t ht hW => ⟨⟨0, (), rfl, trivial, k_ret ht hI⟩, hS.F ht⟩) hS.2.2 dX5_isEnded_16
  · have c_8 := kn_lt rfl rfl c_8
    refine lv_iconst (v := 1) hx hb dX5_isEnded_11 (by decide) ?_
    refine lv_goto (tgt := 16) hx hb dX5_isEnded_12 (by decide) ?_
    exact W.zret (v := 1) hx hb hr rfl (fun t ht hW => ⟨⟨1, (), rfl, trivial, k_ret ht hI⟩, hS.F ht⟩) hS.2.2 dX5_isEnded_16
theorem tw_285 : q_g (.selects RX5 yX5_kindOf yX5_kindOf) := ⟨(List.mem_append_right _ (List.mem_of_getElem? (i := 738) (by decide +kernel))), good_of_word (by decide +kernel)⟩
theorem tw_286 : q_g (.instanceMethod yX5_kindOf) := ⟨(List.mem_append_right _ (List.mem_of_getElem? (i := 737) (by decide +kernel))), good_of_word (by decide +kernel)⟩
theorem tw_287 : q_g (.methodLink RX5 47 yX5_kindOf) := ⟨(List.mem_append_right _ (List.mem_of_getElem? (i := 749) (by decide +kernel))), good_of_word (by decide +kernel)⟩
theorem tw_288 : q_g (.code yX5_holdsByRun cX5_holdsByRun 1 (some .boolean)) := ⟨(List.mem_append_right _ (List.mem_of_getElem? (i := 908) (by decide +kernel))), good_of_word (by decide +kernel)⟩
def ow_c_X5_holdsByRun : List Cond := [.fieldLink RX5 32 "DeadlineShare$Script" "at" "I", .methodLink RX5 47 yX5_kindOf, .instanceMethod yX5_kindOf, .selects RX5 yX5_kindOf yX5_kindOf, .initialized RX5]
def wq_c_X5_holdsByRun : List Cond := .code yX5_holdsByRun cX5_holdsByRun 1 (some .boolean) :: (ow_c_X5_holdsByRun ++ (u_ws RX5 TX5 5 ++ (wq_c_X5_kindOf ++ ([] : List Cond))))
theorem tb_c_X5_holdsByRun : ∀ w ∈ wq_c_X5_holdsByRun, q_g w := by
  unfold wq_c_X5_holdsByRun ow_c_X5_holdsByRun
  exact q_cons tw_288 (q_app (q_cons tw_109 (q_cons tw_287 (q_cons tw_286 (q_cons tw_285 (q_cons tw_133 q_nil))))) (q_app tu_X5 (q_app tb_c_X5_kindOf q_nil)))
set_option maxHeartbeats 4000000 in
set_option maxRecDepth 100000 in
theorem c_X5_holdsByRun (l : Launch) (dC : Nat → ClassId) (dI : Nat → Nat → Nat) (g : kG) (A : Nat → Prop) (hG : kWf g) (f : Nat → va_E) (h0 : Nat) (i_h0 : ik g 5 h0) : Met l yX5_holdsByRun wq_c_X5_holdsByRun ({ frames := 1, cells := 0, slots := 0, locals := 21 } : Room) (va_Pc [.ref h0] (fun U => kIn dC dI g A f U)) (va_Qi (fun (r : Int32) (_ : Unit) => True) (fun (_ : Unit) t => Iv dC dI g A f t.heap) A) 0 0 A := by
  refine Met.ofW (cc := cX5_holdsByRun) (maxL := 1) (ret := (some .boolean)) (by decide) rfl ?_
  intro p e s m args below meth c s₁ B hml hv
  obtain ⟨rfl, hI, hK, hE⟩ := hv
  have hx := B.exec
  have hb := B.bytes
  have hr := B.returns
  have hts := atoms_spec (ws := wq_c_X5_holdsByRun) B.pre
  have hown : s.vm.findClass RX5 = some m.cls := findClass_of_methodNamed B.named
  have hlocks := B.notSynchronized
  have hS : va_S A s.heap s.heap [] := va_S.rf
  have hl := lv_entry ([.ref h0]) (n := 1) (Nat.le_of_ble_eq_true rfl)
  rw [lg_entry_eq]
  generalize (lg_sl ([.ref h0]) ++ List.replicate (1 - (lg_sl ([.ref h0])).length) Slot.unset).toArray = ls at hl ⊢
  have hl : lv_has ls 1 [(0, .ref h0)] := hl
  refine lv_aload_n hx hb dX5_holdsByRun_0 rfl (lv_at hl 0 rfl) ?_
  refine lv_aload_n hx hb dX5_holdsByRun_1 rfl (lv_at hl 0 rfl) ?_
  obtain ⟨x_2, x_3, x_4, x_5, k_1, b_6, b_7⟩ := op_5 hI i_h0
  refine k_get (ci := 5) (v := .int x_3) (C := RX5) (T := TX5) (N := 5) hx hb hts (fun _ h0_ => List.mem_cons_of_mem _ (List.mem_append_right _ (List.mem_append_left _ h0_))) hown hK hI i_h0.1 k_1 rfl 2 (by decide) (hts (.fieldLink RX5 32 "DeadlineShare$Script" "at" "I") (List.mem_cons_of_mem _ (List.mem_append_left _ (List.mem_of_getElem? (i := 0) rfl)))) (fun _ h9 => h9) rfl dX5_holdsByRun_2 ?_
  refine va_calli (va_runV (As := [.int x_3]) (rest := []) ⟨hx, hb, hml, hown, hts⟩ (c_X5_kindOf l dC dI g A hG f h0 x_3 i_h0) (cwV 1 hts (gi_V (fun w_ h0_ => ⟨List.mem_cons_of_mem _ (List.mem_append_right _ (List.mem_append_right _ (List.mem_append_left _ h0_))), (tb_c_X5_kindOf w_ h0_).2⟩) (List.mem_cons_of_mem _ (List.mem_append_left _ (List.mem_of_getElem? (i := 1) rfl))) (List.mem_cons_of_mem _ (List.mem_append_left _ (List.mem_of_getElem? (i := 2) rfl))) (List.mem_cons_of_mem _ (List.mem_append_left _ (List.mem_of_getElem? (i := 3) rfl))) (List.mem_cons_of_mem _ (List.mem_append_left _ (List.mem_of_getElem? (i := 4) rfl)))) rfl rfl rfl (by decide +kernel) ⟨Nat.le_of_ble_eq_true rfl, Nat.le_of_ble_eq_true rfl⟩) ⟨fun a U g mk q => ⟨q.1, q.2.calling rfl rfl⟩, k_recv hK hI i_h0.1 k_1 (ci := 5) rfl, fun U hU hW => ⟨rfl, kIn.of hI hK hE hS hU hW⟩⟩ rfl rfl hl.1 rfl (lv_room (Nat.le_of_ble_eq_true rfl)) dX5_holdsByRun_5 ⟨Nat.le_of_ble_eq_true rfl, Nat.le_of_ble_eq_true rfl⟩) hS (fun q _ h => h) (fun q h => h) (fun r_9 u t H1 locs ht hvm w_8 hB hz1 hk1 hS => ?_)
  have hI : Iv dC dI g A f t.heap := hB
  rw [ht] at hI
  generalize H1 = H at hI hS ⊢
  refine W.widen (k := 0) (n := 0) (Nat.le_of_ble_eq_true rfl) (Nat.le_of_ble_eq_true rfl) ?_
  refine lv_if_ne (tgt := 15) hx hb dX5_holdsByRun_8 (by decide) (fun c_10 => ?_) (fun c_10 => ?_)
  · have c_10 := kn_eq rfl (by decide : Int32.toInt 0 = 0) c_10
    refine lv_iconst (v := 0) hx hb dX5_holdsByRun_15 (by decide) ?_
    exact W.zret (v := 0) hx hb hr rfl (fun t ht hW => ⟨⟨0, (), rfl, trivial, k_ret ht hI⟩, hS.F ht⟩) hS.2.2 dX5_holdsByRun_16
  · have c_10 := kc_eq rfl (by decide : Int32.toInt 0 = 0) c_10
    refine lv_iconst (v := 1) hx hb dX5_holdsByRun_11 (by decide) ?_
    refine lv_goto (tgt := 16) hx hb dX5_holdsByRun_12 (by decide) ?_
    exact W.zret (v := 1) hx hb hr rfl (fun t ht hW => ⟨⟨1, (), rfl, trivial, k_ret ht hI⟩, hS.F ht⟩) hS.2.2 dX5_holdsByRun_16
theorem tw_289 : q_g (.code yX5_isRunOver cX5_isRunOver 1 (some .boolean)) := ⟨(List.mem_append_right _ (List.mem_of_getElem? (i := 874) (by decide +kernel))), good_of_word (by decide +kernel)⟩
def ow_c_X5_isRunOver : List Cond := [.fieldLink RX5 35 "DeadlineShare$Script" "toRun" "I", .fieldLink RX5 32 "DeadlineShare$Script" "at" "I"]
def wq_c_X5_isRunOver : List Cond := .code yX5_isRunOver cX5_isRunOver 1 (some .boolean) :: (ow_c_X5_isRunOver ++ (u_ws RX5 TX5 5 ++ ([] : List Cond)))
theorem tb_c_X5_isRunOver : ∀ w ∈ wq_c_X5_isRunOver, q_g w := by
  unfold wq_c_X5_isRunOver ow_c_X5_isRunOver
  exact q_cons tw_289 (q_app (q_cons tw_108 (q_cons tw_109 q_nil)) (q_app tu_X5 q_nil))
set_option maxHeartbeats 4000000 in
set_option maxRecDepth 100000 in
theorem c_X5_isRunOver (l : Launch) (dC : Nat → ClassId) (dI : Nat → Nat → Nat) (g : kG) (A : Nat → Prop) (hG : kWf g) (f : Nat → va_E) (h0 : Nat) (i_h0 : ik g 5 h0) : Met l yX5_isRunOver wq_c_X5_isRunOver ({ frames := 0, cells := 0, slots := 0, locals := 0 } : Room) (va_Pc [.ref h0] (fun U => kIn dC dI g A f U)) (va_Qi (fun (r : Int32) (_ : Unit) => True) (fun (_ : Unit) t => ∃ f1 : Nat → va_E, Iv dC dI g A f1 t.heap ∧ Kp g [5] f f1) A) 0 0 A := by
  refine Met.ofW (cc := cX5_isRunOver) (maxL := 1) (ret := (some .boolean)) (by decide) rfl ?_
  intro p e s m args below meth c s₁ B hml hv
  obtain ⟨rfl, hI, hK, hE⟩ := hv
  have hx := B.exec
  have hb := B.bytes
  have hr := B.returns
  have hts := atoms_spec (ws := wq_c_X5_isRunOver) B.pre
  have hown : s.vm.findClass RX5 = some m.cls := findClass_of_methodNamed B.named
  have hlocks := B.notSynchronized
  have hS : va_S A s.heap s.heap [] := va_S.rf
  have hk0 : Kp g [5] f f := Kp.rf
  have hl := lv_entry ([.ref h0]) (n := 1) (Nat.le_of_ble_eq_true rfl)
  rw [lg_entry_eq]
  generalize (lg_sl ([.ref h0]) ++ List.replicate (1 - (lg_sl ([.ref h0])).length) Slot.unset).toArray = ls at hl ⊢
  have hl : lv_has ls 1 [(0, .ref h0)] := hl
  refine lv_aload_n hx hb dX5_isRunOver_0 rfl (lv_at hl 0 rfl) ?_
  refine lv_dup hx hb dX5_isRunOver_1 rfl ?_
  obtain ⟨x_2, x_3, x_4, x_5, k_1, b_6, b_7⟩ := op_5 hI i_h0
  refine k_get (ci := 5) (v := .int x_4) (C := RX5) (T := TX5) (N := 5) hx hb hts (fun _ h0_ => List.mem_cons_of_mem _ (List.mem_append_right _ (List.mem_append_left _ h0_))) hown hK hI i_h0.1 k_1 rfl 3 (by decide) (hts (.fieldLink RX5 35 "DeadlineShare$Script" "toRun" "I") (List.mem_cons_of_mem _ (List.mem_append_left _ (List.mem_of_getElem? (i := 0) rfl)))) (fun _ h9 => h9) rfl dX5_isRunOver_2 ?_
  refine lv_iconst (v := 1) hx hb dX5_isRunOver_5 (by decide) ?_
  refine lv_isub hx hb dX5_isRunOver_6 ?_
  refine lv_topi (fun v_8 ev_8 => ?_)
  have tv_8 := k_sb x_4 1
  rw [← ev_8, show Int32.toInt 1 = 1 from by decide] at tv_8
  refine k_put (ci := 5) (v := .int v_8) (ty := .int) (C := RX5) (T := TX5) (N := 5) hx hb hts (fun _ h0_ => List.mem_cons_of_mem _ (List.mem_append_right _ (List.mem_append_left _ h0_))) tyX5 tyX5_ok nmX5 hown hK hI hS i_h0.1 k_1 rfl 3 (by decide) (hts (.fieldLink RX5 35 "DeadlineShare$Script" "toRun" "I") (List.mem_cons_of_mem _ (List.mem_append_left _ (List.mem_of_getElem? (i := 0) rfl)))) (fun _ h9 => h9) rfl (by decide +kernel) rfl rfl (Nat.le_of_ble_eq_true rfl) rfl (cl_5 i_h0 (by omega)) dX5_isRunOver_7 (fun f_9 H locs e_10 hI hS => ?_)
  have k_12 : f_9 h0 = .inr (5, [.ref (gr g h0 0), .int x_2, .int x_3, .int v_8, .int x_5]) := by rw [e_10]; exact va_up_self _ _ _
  have kp_11 := Kp.put hk0 i_h0 (by decide) e_10
  refine lv_aload_n hx hb dX5_isRunOver_10 rfl (lv_at hl 0 rfl) ?_
  refine k_get (ci := 5) (v := .int v_8) (C := RX5) (T := TX5) (N := 5) hx hb hts (fun _ h0_ => List.mem_cons_of_mem _ (List.mem_append_right _ (List.mem_append_left _ h0_))) hown hK hI i_h0.1 k_12 rfl 3 (by decide) (hts (.fieldLink RX5 35 "DeadlineShare$Script" "toRun" "I") (List.mem_cons_of_mem _ (List.mem_append_left _ (List.mem_of_getElem? (i := 0) rfl)))) (fun _ h9 => h9) rfl dX5_isRunOver_11 ?_
  refine lv_if_le (tgt := 19) hx hb dX5_isRunOver_14 (by decide) (fun c_13 => ?_) (fun c_13 => ?_)
  · have c_13 := kc_le rfl (by decide : Int32.toInt 0 = 0) c_13
    refine lv_aload_n hx hb dX5_isRunOver_19 rfl (lv_at hl 0 rfl) ?_
    refine lv_dup hx hb dX5_isRunOver_20 rfl ?_
    refine k_get (ci := 5) (v := .int x_3) (C := RX5) (T := TX5) (N := 5) hx hb hts (fun _ h0_ => List.mem_cons_of_mem _ (List.mem_append_right _ (List.mem_append_left _ h0_))) hown hK hI i_h0.1 k_12 rfl 2 (by decide) (hts (.fieldLink RX5 32 "DeadlineShare$Script" "at" "I") (List.mem_cons_of_mem _ (List.mem_append_left _ (List.mem_of_getElem? (i := 1) rfl)))) (fun _ h9 => h9) rfl dX5_isRunOver_21 ?_
    refine lv_iconst (v := 1) hx hb dX5_isRunOver_24 (by decide) ?_
    refine lv_iadd hx hb dX5_isRunOver_25 ?_
    refine lv_topi (fun v_14 ev_14 => ?_)
    have tv_14 := k_ad x_3 1
    rw [← ev_14, show Int32.toInt 1 = 1 from by decide] at tv_14
    refine k_put (ci := 5) (v := .int v_14) (ty := .int) (C := RX5) (T := TX5) (N := 5) hx hb hts (fun _ h0_ => List.mem_cons_of_mem _ (List.mem_append_right _ (List.mem_append_left _ h0_))) tyX5 tyX5_ok nmX5 hown hK hI hS i_h0.1 k_12 rfl 2 (by decide) (hts (.fieldLink RX5 32 "DeadlineShare$Script" "at" "I") (List.mem_cons_of_mem _ (List.mem_append_left _ (List.mem_of_getElem? (i := 1) rfl)))) (fun _ h9 => h9) rfl (by decide +kernel) rfl rfl (Nat.le_of_ble_eq_true rfl) rfl (cl_5 i_h0 (by omega)) dX5_isRunOver_26 (fun f_15 H locs e_16 hI hS => ?_)
    have k_18 : f_15 h0 = .inr (5, [.ref (gr g h0 0), .int x_2, .int v_14, .int v_8, .int x_5]) := by rw [e_16]; exact va_up_self _ _ _
    have kp_17 := Kp.put kp_11 i_h0 (by decide) e_16
    refine lv_iconst (v := 1) hx hb dX5_isRunOver_29 (by decide) ?_
    exact W.zret (v := 1) hx hb hr rfl (fun t ht hW => ⟨⟨1, (), rfl, trivial, ⟨f_15, k_ret ht hI, kp_17⟩⟩, hS.F ht⟩) hS.2.2 dX5_isRunOver_30
  · have c_13 := kn_le rfl (by decide : Int32.toInt 0 = 0) c_13
    refine lv_iconst (v := 0) hx hb dX5_isRunOver_17 (by decide) ?_
    exact W.zret (v := 0) hx hb hr rfl (fun t ht hW => ⟨⟨0, (), rfl, trivial, ⟨f_9, k_ret ht hI, kp_11⟩⟩, hS.F ht⟩) hS.2.2 dX5_isRunOver_18
theorem tw_290 : q_g (.selects RX5 yX5_numberOf yX5_numberOf) := ⟨(List.mem_append_right _ (List.mem_of_getElem? (i := 734) (by decide +kernel))), good_of_word (by decide +kernel)⟩
theorem tw_291 : q_g (.instanceMethod yX5_numberOf) := ⟨(List.mem_append_right _ (List.mem_of_getElem? (i := 733) (by decide +kernel))), good_of_word (by decide +kernel)⟩
theorem tw_292 : q_g (.methodLink RX5 51 yX5_numberOf) := ⟨(List.mem_append_right _ (List.mem_of_getElem? (i := 748) (by decide +kernel))), good_of_word (by decide +kernel)⟩
theorem tw_293 : q_g (.code yX5_turnBack cX5_turnBack 2 none) := ⟨(List.mem_append_right _ (List.mem_of_getElem? (i := 747) (by decide +kernel))), good_of_word (by decide +kernel)⟩
def ow_c_X5_turnBack : List Cond := [.fieldLink RX5 38 "DeadlineShare$Script" "timesBack" "I", .fieldLink RX5 32 "DeadlineShare$Script" "at" "I", .methodLink RX5 51 yX5_numberOf, .instanceMethod yX5_numberOf, .selects RX5 yX5_numberOf yX5_numberOf, .initialized RX5, .methodLink RX5 47 yX5_kindOf, .instanceMethod yX5_kindOf, .selects RX5 yX5_kindOf yX5_kindOf]
def wq_c_X5_turnBack : List Cond := .code yX5_turnBack cX5_turnBack 2 none :: (ow_c_X5_turnBack ++ (u_ws RX5 TX5 5 ++ (wq_c_X5_numberOf ++ (wq_c_X5_kindOf ++ ([] : List Cond)))))
theorem tb_c_X5_turnBack : ∀ w ∈ wq_c_X5_turnBack, q_g w := by
  unfold wq_c_X5_turnBack ow_c_X5_turnBack
  exact q_cons tw_293 (q_app (q_cons tw_107 (q_cons tw_109 (q_cons tw_292 (q_cons tw_291 (q_cons tw_290 (q_cons tw_133 (q_cons tw_287 (q_cons tw_286 (q_cons tw_285 q_nil))))))))) (q_app tu_X5 (q_app tb_c_X5_numberOf (q_app tb_c_X5_kindOf q_nil))))
set_option maxHeartbeats 4000000 in
set_option maxRecDepth 100000 in
theorem c_X5_turnBack (l : Launch) (dC : Nat → ClassId) (dI : Nat → Nat → Nat) (g : kG) (A : Nat → Prop) (hG : kWf g) (f : Nat → va_E) (h0 : Nat) (i_h0 : ik g 5 h0) : Met l yX5_turnBack wq_c_X5_turnBack ({ frames := 1, cells := 0, slots := 0, locals := 21 } : Room) (va_Pc [.ref h0] (fun U => kIn dC dI g A f U)) (va_Qv (fun (_ : Unit) => True) (fun (_ : Unit) t => ∃ f1 : Nat → va_E, Iv dC dI g A f1 t.heap ∧ Kp g [5] f f1) A) 0 0 A := by
  refine Met.ofW (cc := cX5_turnBack) (maxL := 2) (ret := none) (by decide) rfl ?_
  intro p e s m args below meth c s₁ B hml hv
  obtain ⟨rfl, hI, hK, hE⟩ := hv
  have hx := B.exec
  have hb := B.bytes
  have hr := B.returns
  have hts := atoms_spec (ws := wq_c_X5_turnBack) B.pre
  have hown : s.vm.findClass RX5 = some m.cls := findClass_of_methodNamed B.named
  have hlocks := B.notSynchronized
  have hS : va_S A s.heap s.heap [] := va_S.rf
  have hk0 : Kp g [5] f f := Kp.rf
  have hl := lv_entry ([.ref h0]) (n := 2) (Nat.le_of_ble_eq_true rfl)
  rw [lg_entry_eq]
  generalize (lg_sl ([.ref h0]) ++ List.replicate (2 - (lg_sl ([.ref h0])).length) Slot.unset).toArray = ls at hl ⊢
  have hl : lv_has ls 2 [(0, .ref h0)] := hl
  refine lv_aload_n hx hb dX5_turnBack_0 rfl (lv_at hl 0 rfl) ?_
  obtain ⟨x_2, x_3, x_4, x_5, k_1, b_6, b_7⟩ := op_5 hI i_h0
  refine k_get (ci := 5) (v := .int x_5) (C := RX5) (T := TX5) (N := 5) hx hb hts (fun _ h0_ => List.mem_cons_of_mem _ (List.mem_append_right _ (List.mem_append_left _ h0_))) hown hK hI i_h0.1 k_1 rfl 4 (by decide) (hts (.fieldLink RX5 38 "DeadlineShare$Script" "timesBack" "I") (List.mem_cons_of_mem _ (List.mem_append_left _ (List.mem_of_getElem? (i := 0) rfl)))) (fun _ h9 => h9) rfl dX5_turnBack_1 ?_
  refine lv_aload_n hx hb dX5_turnBack_4 rfl (lv_at hl 0 rfl) ?_
  refine lv_aload_n hx hb dX5_turnBack_5 rfl (lv_at hl 0 rfl) ?_
  refine k_get (ci := 5) (v := .int x_3) (C := RX5) (T := TX5) (N := 5) hx hb hts (fun _ h0_ => List.mem_cons_of_mem _ (List.mem_append_right _ (List.mem_append_left _ h0_))) hown hK hI i_h0.1 k_1 rfl 2 (by decide) (hts (.fieldLink RX5 32 "DeadlineShare$Script" "at" "I") (List.mem_cons_of_mem _ (List.mem_append_left _ (List.mem_of_getElem? (i := 1) rfl)))) (fun _ h9 => h9) rfl dX5_turnBack_6 ?_
  refine va_calli (va_runV (As := [.int x_3]) (rest := [.int x_5]) ⟨hx, hb, hml, hown, hts⟩ (c_X5_numberOf l dC dI g A hG f h0 x_3 i_h0) (cwV 1 hts (gi_V (fun w_ h0_ => ⟨List.mem_cons_of_mem _ (List.mem_append_right _ (List.mem_append_right _ (List.mem_append_left _ h0_))), (tb_c_X5_numberOf w_ h0_).2⟩) (List.mem_cons_of_mem _ (List.mem_append_left _ (List.mem_of_getElem? (i := 2) rfl))) (List.mem_cons_of_mem _ (List.mem_append_left _ (List.mem_of_getElem? (i := 3) rfl))) (List.mem_cons_of_mem _ (List.mem_append_left _ (List.mem_of_getElem? (i := 4) rfl))) (List.mem_cons_of_mem _ (List.mem_append_left _ (List.mem_of_getElem? (i := 5) rfl)))) rfl rfl rfl (by decide +kernel) ⟨Nat.le_of_ble_eq_true rfl, Nat.le_of_ble_eq_true rfl⟩) ⟨fun a U g mk q => ⟨q.1, q.2.calling rfl rfl⟩, k_recv hK hI i_h0.1 k_1 (ci := 5) rfl, fun U hU hW => ⟨rfl, kIn.of hI hK hE hS hU hW⟩⟩ rfl rfl hl.1 rfl (lv_room (Nat.le_of_ble_eq_true rfl)) dX5_turnBack_9 ⟨Nat.le_of_ble_eq_true rfl, Nat.le_of_ble_eq_true rfl⟩) hS (fun q _ h => h) (fun q h => h) (fun r_9 u t H1 locs ht hvm w_8 hB hz1 hk1 hS => ?_)
  have hI : Iv dC dI g A f t.heap := hB
  rw [ht] at hI
  generalize H1 = H at hI hS ⊢
  refine W.widen (k := 0) (n := 0) (Nat.le_of_ble_eq_true rfl) (Nat.le_of_ble_eq_true rfl) ?_
  refine lv_icmp_lt (tgt := 31) hx hb dX5_turnBack_12 (by decide) (fun c_10 => ?_) (fun c_10 => ?_)
  · have c_10 := kc_lt rfl rfl c_10
    refine lv_aload_n hx hb dX5_turnBack_31 rfl (lv_at hl 0 rfl) ?_
    refine lv_dup hx hb dX5_turnBack_32 rfl ?_
    refine k_get (ci := 5) (v := .int x_5) (C := RX5) (T := TX5) (N := 5) hx hb hts (fun _ h0_ => List.mem_cons_of_mem _ (List.mem_append_right _ (List.mem_append_left _ h0_))) hown hK hI i_h0.1 k_1 rfl 4 (by decide) (hts (.fieldLink RX5 38 "DeadlineShare$Script" "timesBack" "I") (List.mem_cons_of_mem _ (List.mem_append_left _ (List.mem_of_getElem? (i := 0) rfl)))) (fun _ h9 => h9) rfl dX5_turnBack_33 ?_
    refine lv_iconst (v := 1) hx hb dX5_turnBack_36 (by decide) ?_
    refine lv_iadd hx hb dX5_turnBack_37 ?_
    refine lv_topi (fun v_11 ev_11 => ?_)
    have tv_11 := k_ad x_5 1
    rw [← ev_11, show Int32.toInt 1 = 1 from by decide] at tv_11
    refine k_put (ci := 5) (v := .int v_11) (ty := .int) (C := RX5) (T := TX5) (N := 5) hx hb hts (fun _ h0_ => List.mem_cons_of_mem _ (List.mem_append_right _ (List.mem_append_left _ h0_))) tyX5 tyX5_ok nmX5 hown hK hI hS i_h0.1 k_1 rfl 4 (by decide) (hts (.fieldLink RX5 38 "DeadlineShare$Script" "timesBack" "I") (List.mem_cons_of_mem _ (List.mem_append_left _ (List.mem_of_getElem? (i := 0) rfl)))) (fun _ h9 => h9) rfl (by decide +kernel) rfl rfl (Nat.le_of_ble_eq_true rfl) rfl (cl_5 i_h0 (by omega)) dX5_turnBack_38 (fun f_12 H locs e_13 hI hS => ?_)
    have k_15 : f_12 h0 = .inr (5, [.ref (gr g h0 0), .int x_2, .int x_3, .int x_4, .int v_11]) := by rw [e_13]; exact va_up_self _ _ _
    have kp_14 := Kp.put hk0 i_h0 (by decide) e_13
    refine lv_aload_n hx hb dX5_turnBack_41 rfl (lv_at hl 0 rfl) ?_
    refine k_get (ci := 5) (v := .int x_3) (C := RX5) (T := TX5) (N := 5) hx hb hts (fun _ h0_ => List.mem_cons_of_mem _ (List.mem_append_right _ (List.mem_append_left _ h0_))) hown hK hI i_h0.1 k_15 rfl 2 (by decide) (hts (.fieldLink RX5 32 "DeadlineShare$Script" "at" "I") (List.mem_cons_of_mem _ (List.mem_append_left _ (List.mem_of_getElem? (i := 1) rfl)))) (fun _ h9 => h9) rfl dX5_turnBack_42 ?_
    refine lv_istore_n (lv' := [(1, .int x_3), (0, .ref h0)]) hx hb dX5_turnBack_45 rfl hl (by decide) rfl (fun ls hl => ?_)
    have K_46 : ∀ (nn : Nat) (y_16 : Int32) (H : Heap) (locs : List Loc) (ls : Array Slot), y_16.toInt.toNat < nn → Iv dC dI g A f_12 H → va_S A s.heap H locs → lv_has ls 2 [(1, .int y_16), (0, .ref h0)] → W p l e (headSpec wq_c_X5_turnBack ({ frames := 1, cells := 0, slots := 0, locals := 21 } : Room)).room s m ([.ref h0].toArray) below meth c H locs 0 0 (MQ below (va_Qv (fun (_ : Unit) => True) (fun (_ : Unit) t => ∃ f1 : Nat → va_E, Iv dC dI g A f1 t.heap ∧ Kp g [5] f f1) A) ([.ref h0].toArray) s 0 0 A) (F0 m 46 ls []) := by
      intro nn
      induction nn with
      | zero => intro y_16 H locs ls m_17; exact absurd m_17 (Nat.not_lt_zero _)
      | succ nn ih =>
        intro y_16 H locs ls m_17 hI hS  hl
        have g_18 := Int32.toInt_lt y_16
        have g_19 := Int32.le_toInt y_16
        refine lv_iload_n hx hb dX5_turnBack_46 rfl (lv_at hl 0 rfl) ?_
        refine lv_if_le (tgt := 67) hx hb dX5_turnBack_47 (by decide) (fun c_20 => ?_) (fun c_20 => ?_)
        · have c_20 := kc_le rfl (by decide : Int32.toInt 0 = 0) c_20
          refine lv_aload_n hx hb dX5_turnBack_67 rfl (lv_at hl 1 rfl) ?_
          refine lv_iload_n hx hb dX5_turnBack_68 rfl (lv_at hl 0 rfl) ?_
          refine k_put (ci := 5) (v := .int y_16) (ty := .int) (C := RX5) (T := TX5) (N := 5) hx hb hts (fun _ h0_ => List.mem_cons_of_mem _ (List.mem_append_right _ (List.mem_append_left _ h0_))) tyX5 tyX5_ok nmX5 hown hK hI hS i_h0.1 k_15 rfl 2 (by decide) (hts (.fieldLink RX5 32 "DeadlineShare$Script" "at" "I") (List.mem_cons_of_mem _ (List.mem_append_left _ (List.mem_of_getElem? (i := 1) rfl)))) (fun _ h9 => h9) rfl (by decide +kernel) rfl rfl (Nat.le_of_ble_eq_true rfl) rfl (cl_5 i_h0 (by omega)) dX5_turnBack_69 (fun f_21 H locs e_22 hI hS => ?_)
          have k_24 : f_21 h0 = .inr (5, [.ref (gr g h0 0), .int x_2, .int y_16, .int x_4, .int v_11]) := by rw [e_22]; exact va_up_self _ _ _
          have kp_23 := Kp.put kp_14 i_h0 (by decide) e_22
          exact W.vret hx hb hr (fun t ht hW => ⟨⟨(), rfl, trivial, ⟨f_21, k_ret ht hI, kp_23⟩⟩, hS.F ht⟩) hS.2.2 dX5_turnBack_72
        · have c_20 := kn_le rfl (by decide : Int32.toInt 0 = 0) c_20
          refine lv_aload_n hx hb dX5_turnBack_50 rfl (lv_at hl 1 rfl) ?_
          refine lv_iload_n hx hb dX5_turnBack_51 rfl (lv_at hl 0 rfl) ?_
          refine lv_iconst (v := 1) hx hb dX5_turnBack_52 (by decide) ?_
          refine lv_isub hx hb dX5_turnBack_53 ?_
          refine lv_topi (fun v_25 ev_25 => ?_)
          have tv_25 := k_sb y_16 1
          rw [← ev_25, show Int32.toInt 1 = 1 from by decide] at tv_25
          refine va_calli (va_runV (As := [.int v_25]) (rest := []) ⟨hx, hb, hml, hown, hts⟩ (c_X5_kindOf l dC dI g A hG f_12 h0 v_25 i_h0) (cwV 1 hts (gi_V (fun w_ h0_ => ⟨List.mem_cons_of_mem _ (List.mem_append_right _ (List.mem_append_right _ (List.mem_append_right _ (List.mem_append_left _ h0_)))), (tb_c_X5_kindOf w_ h0_).2⟩) (List.mem_cons_of_mem _ (List.mem_append_left _ (List.mem_of_getElem? (i := 6) rfl))) (List.mem_cons_of_mem _ (List.mem_append_left _ (List.mem_of_getElem? (i := 7) rfl))) (List.mem_cons_of_mem _ (List.mem_append_left _ (List.mem_of_getElem? (i := 8) rfl))) (List.mem_cons_of_mem _ (List.mem_append_left _ (List.mem_of_getElem? (i := 5) rfl)))) rfl rfl rfl (by decide +kernel) ⟨Nat.le_of_ble_eq_true rfl, Nat.le_of_ble_eq_true rfl⟩) ⟨fun a U g mk q => ⟨q.1, q.2.calling rfl rfl⟩, k_recv hK hI i_h0.1 k_15 (ci := 5) rfl, fun U hU hW => ⟨rfl, kIn.of hI hK hE hS hU hW⟩⟩ rfl rfl hl.1 rfl (lv_room (Nat.le_of_ble_eq_true rfl)) dX5_turnBack_54 ⟨Nat.le_of_ble_eq_true rfl, Nat.le_of_ble_eq_true rfl⟩) hS (fun q _ h => h) (fun q h => h) (fun r_27 u t H1 locs ht hvm w_26 hB hz1 hk1 hS => ?_)
          have hI : Iv dC dI g A f_12 t.heap := hB
          rw [ht] at hI
          generalize H1 = H at hI hS ⊢
          refine W.widen (k := 0) (n := 0) (Nat.le_of_ble_eq_true rfl) (Nat.le_of_ble_eq_true rfl) ?_
          refine lv_iconst (v := 4) hx hb dX5_turnBack_57 (by decide) ?_
          refine lv_icmp_eq (tgt := 67) hx hb dX5_turnBack_58 (by decide) (fun c_28 => ?_) (fun c_28 => ?_)
          · have c_28 := kc_eq rfl (by decide : Int32.toInt 4 = 4) c_28
            refine lv_aload_n hx hb dX5_turnBack_67 rfl (lv_at hl 1 rfl) ?_
            refine lv_iload_n hx hb dX5_turnBack_68 rfl (lv_at hl 0 rfl) ?_
            refine k_put (ci := 5) (v := .int y_16) (ty := .int) (C := RX5) (T := TX5) (N := 5) hx hb hts (fun _ h0_ => List.mem_cons_of_mem _ (List.mem_append_right _ (List.mem_append_left _ h0_))) tyX5 tyX5_ok nmX5 hown hK hI hS i_h0.1 k_15 rfl 2 (by decide) (hts (.fieldLink RX5 32 "DeadlineShare$Script" "at" "I") (List.mem_cons_of_mem _ (List.mem_append_left _ (List.mem_of_getElem? (i := 1) rfl)))) (fun _ h9 => h9) rfl (by decide +kernel) rfl rfl (Nat.le_of_ble_eq_true rfl) rfl (cl_5 i_h0 (by omega)) dX5_turnBack_69 (fun f_29 H locs e_30 hI hS => ?_)
            have k_32 : f_29 h0 = .inr (5, [.ref (gr g h0 0), .int x_2, .int y_16, .int x_4, .int v_11]) := by rw [e_30]; exact va_up_self _ _ _
            have kp_31 := Kp.put kp_14 i_h0 (by decide) e_30
            exact W.vret hx hb hr (fun t ht hW => ⟨⟨(), rfl, trivial, ⟨f_29, k_ret ht hI, kp_31⟩⟩, hS.F ht⟩) hS.2.2 dX5_turnBack_72
          · have c_28 := kn_eq rfl (by decide : Int32.toInt 4 = 4) c_28
            obtain ⟨v_33, ev_33⟩ : ∃ y : Int32, y = y_16 + Int32.ofInt (-1) := ⟨_, rfl⟩
            refine lv_iinc (v := v_33) (lv' := [(1, .int v_33), (0, .ref h0)]) hx hb dX5_turnBack_61 hl (k := 0) rfl ev_33.symm (by decide) rfl (fun ls hl => ?_)
            have tv_33 := k_dec y_16
            rw [← ev_33] at tv_33
            refine lv_goto (tgt := 46) hx hb dX5_turnBack_64 (by decide) ?_
            exact ih v_33 _ _ _ (by omega) hI hS  (lv_sub hl [0, 1] rfl)
    exact K_46 _ x_3 _ _ _ (Nat.lt_succ_self _) hI hS  (lv_sub hl [0, 1] rfl)
  · have c_10 := kn_lt rfl rfl c_10
    refine lv_aload_n hx hb dX5_turnBack_15 rfl (lv_at hl 0 rfl) ?_
    refine lv_iconst (v := 0) hx hb dX5_turnBack_16 (by decide) ?_
    refine k_put (ci := 5) (v := .int 0) (ty := .int) (C := RX5) (T := TX5) (N := 5) hx hb hts (fun _ h0_ => List.mem_cons_of_mem _ (List.mem_append_right _ (List.mem_append_left _ h0_))) tyX5 tyX5_ok nmX5 hown hK hI hS i_h0.1 k_1 rfl 4 (by decide) (hts (.fieldLink RX5 38 "DeadlineShare$Script" "timesBack" "I") (List.mem_cons_of_mem _ (List.mem_append_left _ (List.mem_of_getElem? (i := 0) rfl)))) (fun _ h9 => h9) rfl (by decide +kernel) rfl rfl (Nat.le_of_ble_eq_true rfl) rfl (cl_5 i_h0 (by omega)) dX5_turnBack_17 (fun f_34 H locs e_35 hI hS => ?_)
    have k_37 : f_34 h0 = .inr (5, [.ref (gr g h0 0), .int x_2, .int x_3, .int x_4, .int 0]) := by rw [e_35]; exact va_up_self _ _ _
    have kp_36 := Kp.put hk0 i_h0 (by decide) e_35
    refine lv_aload_n hx hb dX5_turnBack_20 rfl (lv_at hl 0 rfl) ?_
    refine lv_dup hx hb dX5_turnBack_21 rfl ?_
    refine k_get (ci := 5) (v := .int x_3) (C := RX5) (T := TX5) (N := 5) hx hb hts (fun _ h0_ => List.mem_cons_of_mem _ (List.mem_append_right _ (List.mem_append_left _ h0_))) hown hK hI i_h0.1 k_37 rfl 2 (by decide) (hts (.fieldLink RX5 32 "DeadlineShare$Script" "at" "I") (List.mem_cons_of_mem _ (List.mem_append_left _ (List.mem_of_getElem? (i := 1) rfl)))) (fun _ h9 => h9) rfl dX5_turnBack_22 ?_
    refine lv_iconst (v := 1) hx hb dX5_turnBack_25 (by decide) ?_
    refine lv_iadd hx hb dX5_turnBack_26 ?_
    refine lv_topi (fun v_38 ev_38 => ?_)
    have tv_38 := k_ad x_3 1
    rw [← ev_38, show Int32.toInt 1 = 1 from by decide] at tv_38
    refine k_put (ci := 5) (v := .int v_38) (ty := .int) (C := RX5) (T := TX5) (N := 5) hx hb hts (fun _ h0_ => List.mem_cons_of_mem _ (List.mem_append_right _ (List.mem_append_left _ h0_))) tyX5 tyX5_ok nmX5 hown hK hI hS i_h0.1 k_37 rfl 2 (by decide) (hts (.fieldLink RX5 32 "DeadlineShare$Script" "at" "I") (List.mem_cons_of_mem _ (List.mem_append_left _ (List.mem_of_getElem? (i := 1) rfl)))) (fun _ h9 => h9) rfl (by decide +kernel) rfl rfl (Nat.le_of_ble_eq_true rfl) rfl (cl_5 i_h0 (by omega)) dX5_turnBack_27 (fun f_39 H locs e_40 hI hS => ?_)
    have k_42 : f_39 h0 = .inr (5, [.ref (gr g h0 0), .int x_2, .int v_38, .int x_4, .int 0]) := by rw [e_40]; exact va_up_self _ _ _
    have kp_41 := Kp.put kp_36 i_h0 (by decide) e_40
    exact W.vret hx hb hr (fun t ht hW => ⟨⟨(), rfl, trivial, ⟨f_39, k_ret ht hI, kp_41⟩⟩, hS.F ht⟩) hS.2.2 dX5_turnBack_30
theorem tw_294 : q_g (.code yX7_add cX7_add 2 none) := ⟨(List.mem_append_right _ (List.mem_of_getElem? (i := 400) (by decide +kernel))), good_of_word (by decide +kernel)⟩
def ow_c_X7_add : List Cond := [.fieldLink RX7 15 "DeadlineShare$Tape" "length" "I", .fieldLink RX7 11 "DeadlineShare$Tape" "bytes" "[B"]
def wq_c_X7_add : List Cond := .code yX7_add cX7_add 2 none :: (ow_c_X7_add ++ (u_ws RX7 TX7 2 ++ ([] : List Cond)))
theorem tb_c_X7_add : ∀ w ∈ wq_c_X7_add, q_g w := by
  unfold wq_c_X7_add ow_c_X7_add
  exact q_cons tw_294 (q_app (q_cons tw_190 (q_cons tw_189 q_nil)) (q_app tu_X7 q_nil))
set_option maxHeartbeats 4000000 in
set_option maxRecDepth 100000 in
theorem c_X7_add (l : Launch) (dC : Nat → ClassId) (dI : Nat → Nat → Nat) (g : kG) (A : Nat → Prop) (hG : kWf g) (f : Nat → va_E) (h0 : Nat) (p1 : Int32) (i_h0 : ik g 7 h0) : Met l yX7_add wq_c_X7_add ({ frames := 0, cells := 0, slots := 0, locals := 0 } : Room) (va_Pc [.ref h0, .int p1] (fun U => kIn dC dI g A f U)) (va_Qv (fun (_ : Unit) => True) (fun (_ : Unit) t => ∃ f1 : Nat → va_E, Iv dC dI g A f1 t.heap ∧ Kp g [7, 25] f f1) A) 0 0 A := by
  refine Met.ofW (cc := cX7_add) (maxL := 2) (ret := none) (by decide) rfl ?_
  intro p e s m args below meth c s₁ B hml hv
  obtain ⟨rfl, hI, hK, hE⟩ := hv
  have hx := B.exec
  have hb := B.bytes
  have hr := B.returns
  have hts := atoms_spec (ws := wq_c_X7_add) B.pre
  have hown : s.vm.findClass RX7 = some m.cls := findClass_of_methodNamed B.named
  have hlocks := B.notSynchronized
  have hS : va_S A s.heap s.heap [] := va_S.rf
  have hk0 : Kp g [7, 25] f f := Kp.rf
  have hl := lv_entry ([.ref h0, .int p1]) (n := 2) (Nat.le_of_ble_eq_true rfl)
  rw [lg_entry_eq]
  generalize (lg_sl ([.ref h0, .int p1]) ++ List.replicate (2 - (lg_sl ([.ref h0, .int p1])).length) Slot.unset).toArray = ls at hl ⊢
  have hl : lv_has ls 2 [(0, .ref h0), (1, .int p1)] := hl
  refine lv_aload_n hx hb dX7_add_0 rfl (lv_at hl 0 rfl) ?_
  obtain ⟨x_2, k_1⟩ := op_7 hI i_h0
  refine k_get (ci := 7) (v := .int x_2) (C := RX7) (T := TX7) (N := 2) hx hb hts (fun _ h0_ => List.mem_cons_of_mem _ (List.mem_append_right _ (List.mem_append_left _ h0_))) hown hK hI i_h0.1 k_1 rfl 1 (by decide) (hts (.fieldLink RX7 15 "DeadlineShare$Tape" "length" "I") (List.mem_cons_of_mem _ (List.mem_append_left _ (List.mem_of_getElem? (i := 0) rfl)))) (fun _ h9 => h9) rfl dX7_add_1 ?_
  refine lv_if_lt (tgt := 38) hx hb dX7_add_4 (by decide) (fun c_3 => ?_) (fun c_3 => ?_)
  · have c_3 := kc_lt rfl (by decide : Int32.toInt 0 = 0) c_3
    exact W.vret hx hb hr (fun t ht hW => ⟨⟨(), rfl, trivial, ⟨f, k_ret ht hI, hk0⟩⟩, hS.F ht⟩) hS.2.2 dX7_add_38
  · have c_3 := kn_lt rfl (by decide : Int32.toInt 0 = 0) c_3
    refine lv_aload_n hx hb dX7_add_7 rfl (lv_at hl 0 rfl) ?_
    refine k_get (ci := 7) (v := .int x_2) (C := RX7) (T := TX7) (N := 2) hx hb hts (fun _ h0_ => List.mem_cons_of_mem _ (List.mem_append_right _ (List.mem_append_left _ h0_))) hown hK hI i_h0.1 k_1 rfl 1 (by decide) (hts (.fieldLink RX7 15 "DeadlineShare$Tape" "length" "I") (List.mem_cons_of_mem _ (List.mem_append_left _ (List.mem_of_getElem? (i := 0) rfl)))) (fun _ h9 => h9) rfl dX7_add_8 ?_
    refine lv_sipush (v := 200) hx hb dX7_add_11 (by decide) ?_
    refine lv_icmp_ge (tgt := 38) hx hb dX7_add_14 (by decide) (fun c_4 => ?_) (fun c_4 => ?_)
    · have c_4 := kc_le (by decide : Int32.toInt 200 = 200) rfl c_4
      exact W.vret hx hb hr (fun t ht hW => ⟨⟨(), rfl, trivial, ⟨f, k_ret ht hI, hk0⟩⟩, hS.F ht⟩) hS.2.2 dX7_add_38
    · have c_4 := kn_le (by decide : Int32.toInt 200 = 200) rfl c_4
      refine lv_aload_n hx hb dX7_add_17 rfl (lv_at hl 0 rfl) ?_
      refine k_get (ci := 7) (v := .ref (gr g h0 0)) (C := RX7) (T := TX7) (N := 2) hx hb hts (fun _ h0_ => List.mem_cons_of_mem _ (List.mem_append_right _ (List.mem_append_left _ h0_))) hown hK hI i_h0.1 k_1 rfl 0 (by decide) (hts (.fieldLink RX7 11 "DeadlineShare$Tape" "bytes" "[B") (List.mem_cons_of_mem _ (List.mem_append_left _ (List.mem_of_getElem? (i := 1) rfl)))) (fun _ h9 => h9) rfl dX7_add_18 ?_
      have i_6 := kw_7_0 hG i_h0
      refine lv_aload_n hx hb dX7_add_21 rfl (lv_at hl 0 rfl) ?_
      refine k_get (ci := 7) (v := .int x_2) (C := RX7) (T := TX7) (N := 2) hx hb hts (fun _ h0_ => List.mem_cons_of_mem _ (List.mem_append_right _ (List.mem_append_left _ h0_))) hown hK hI i_h0.1 k_1 rfl 1 (by decide) (hts (.fieldLink RX7 15 "DeadlineShare$Tape" "length" "I") (List.mem_cons_of_mem _ (List.mem_append_left _ (List.mem_of_getElem? (i := 0) rfl)))) (fun _ h9 => h9) rfl dX7_add_22 ?_
      refine lv_iload_n hx hb dX7_add_25 rfl (lv_at hl 1 rfl) ?_
      refine lv_i2b (v := p1.toInt8.toInt32) hx hb dX7_add_26 rfl ?_
      obtain ⟨q_8, k_7⟩ := op_25 hI i_6
      refine k_bast hx hb hK hI hS i_6.1 2 k_7 rfl (vp_in_iff.mpr (by omega)) (cl_25 i_6) dX7_add_27 (fun f_9 H locs e_10 hI hS => ?_)
      generalize eq_11 : upd q_8 (Int32.toNatClampNeg x_2) (vp_nar .byte p1.toInt8.toInt32) = q_11 at e_10
      have k_13 : f_9 h0 = .inr (7, [.ref (gr g h0 0), .int x_2]) := by rw [e_10, va_up_ne _ _ (ik_ne i_h0 i_6 (by decide))]; exact k_1
      have k_14 : f_9 (gr g h0 0) = .inl (gc g 2, 200, .inl q_11) := by rw [e_10]; exact va_up_self _ _ _
      have kp_12 := Kp.put hk0 i_6 (by decide) e_10
      refine lv_aload_n hx hb dX7_add_28 rfl (lv_at hl 0 rfl) ?_
      refine lv_dup hx hb dX7_add_29 rfl ?_
      refine k_get (ci := 7) (v := .int x_2) (C := RX7) (T := TX7) (N := 2) hx hb hts (fun _ h0_ => List.mem_cons_of_mem _ (List.mem_append_right _ (List.mem_append_left _ h0_))) hown hK hI i_h0.1 k_13 rfl 1 (by decide) (hts (.fieldLink RX7 15 "DeadlineShare$Tape" "length" "I") (List.mem_cons_of_mem _ (List.mem_append_left _ (List.mem_of_getElem? (i := 0) rfl)))) (fun _ h9 => h9) rfl dX7_add_30 ?_
      refine lv_iconst (v := 1) hx hb dX7_add_33 (by decide) ?_
      refine lv_iadd hx hb dX7_add_34 ?_
      refine lv_topi (fun v_15 ev_15 => ?_)
      have tv_15 := k_ad x_2 1
      rw [← ev_15, show Int32.toInt 1 = 1 from by decide] at tv_15
      refine k_put (ci := 7) (v := .int v_15) (ty := .int) (C := RX7) (T := TX7) (N := 2) hx hb hts (fun _ h0_ => List.mem_cons_of_mem _ (List.mem_append_right _ (List.mem_append_left _ h0_))) tyX7 tyX7_ok nmX7 hown hK hI hS i_h0.1 k_13 rfl 1 (by decide) (hts (.fieldLink RX7 15 "DeadlineShare$Tape" "length" "I") (List.mem_cons_of_mem _ (List.mem_append_left _ (List.mem_of_getElem? (i := 0) rfl)))) (fun _ h9 => h9) rfl (by decide +kernel) rfl rfl (Nat.le_of_ble_eq_true rfl) rfl (cl_7 i_h0) dX7_add_35 (fun f_16 H locs e_17 hI hS => ?_)
      have k_19 : f_16 h0 = .inr (7, [.ref (gr g h0 0), .int v_15]) := by rw [e_17]; exact va_up_self _ _ _
      have k_20 : f_16 (gr g h0 0) = .inl (gc g 2, 200, .inl q_11) := by rw [e_17, va_up_ne _ _ (ik_ne i_6 i_h0 (by decide))]; exact k_14
      have kp_18 := Kp.put kp_12 i_h0 (by decide) e_17
      exact W.vret hx hb hr (fun t ht hW => ⟨⟨(), rfl, trivial, ⟨f_16, k_ret ht hI, kp_18⟩⟩, hS.F ht⟩) hS.2.2 dX7_add_38
theorem tw_295 : q_g (.selects RX7 yX7_add yX7_add) := ⟨(List.mem_append_right _ (List.mem_of_getElem? (i := 399) (by decide +kernel))), good_of_word (by decide +kernel)⟩
theorem tw_296 : q_g (.instanceMethod yX7_add) := ⟨(List.mem_append_right _ (List.mem_of_getElem? (i := 398) (by decide +kernel))), good_of_word (by decide +kernel)⟩
theorem tw_297 : q_g (.methodLink RX7 19 yX7_add) := ⟨(List.mem_append_right _ (List.mem_of_getElem? (i := 397) (by decide +kernel))), good_of_word (by decide +kernel)⟩
theorem tw_298 : q_g (.methodLink RX7 28 yJ0_charAt_5068e) := ⟨(List.mem_append_right _ (List.mem_of_getElem? (i := 770) (by decide +kernel))), good_of_word (by decide +kernel)⟩
theorem tw_299 : q_g (.methodLink RX7 23 yJ0_length_8abf5) := ⟨(List.mem_append_right _ (List.mem_of_getElem? (i := 769) (by decide +kernel))), good_of_word (by decide +kernel)⟩
theorem tw_300 : q_g (.code yX7_addWord cX7_addWord 3 none) := ⟨(List.mem_append_right _ (List.mem_of_getElem? (i := 768) (by decide +kernel))), good_of_word (by decide +kernel)⟩
def ow_c_X7_addWord : List Cond := [.methodLink RX7 23 yJ0_length_8abf5, .instanceMethod yJ0_length_8abf5, .selects RJ0 yJ0_length_8abf5 yJ0_length_8abf5, .initialized RJ0, .methodLink RX7 28 yJ0_charAt_5068e, .instanceMethod yJ0_charAt_5068e, .selects RJ0 yJ0_charAt_5068e yJ0_charAt_5068e, .methodLink RX7 19 yX7_add, .instanceMethod yX7_add, .selects RX7 yX7_add yX7_add, .initialized RX7]
def wq_c_X7_addWord : List Cond := .code yX7_addWord cX7_addWord 3 none :: (ow_c_X7_addWord ++ (wq_c_J0_length_8abf5 ++ (wq_c_J0_charAt_5068e ++ (wq_c_X7_add ++ ([] : List Cond)))))
theorem tb_c_X7_addWord : ∀ w ∈ wq_c_X7_addWord, q_g w := by
  unfold wq_c_X7_addWord ow_c_X7_addWord
  exact q_cons tw_300 (q_app (q_cons tw_299 (q_cons tw_231 (q_cons tw_230 (q_cons tw_204 (q_cons tw_298 (q_cons tw_228 (q_cons tw_227 (q_cons tw_297 (q_cons tw_296 (q_cons tw_295 (q_cons tw_192 q_nil))))))))))) (q_app tb_c_J0_length_8abf5 (q_app tb_c_J0_charAt_5068e (q_app tb_c_X7_add q_nil))))
set_option maxHeartbeats 4000000 in
set_option maxRecDepth 100000 in
theorem c_X7_addWord (l : Launch) (dC : Nat → ClassId) (dI : Nat → Nat → Nat) (g : kG) (A : Nat → Prop) (hG : kWf g) (f : Nat → va_E) (h0 : Nat) (s_p1 : Nat) (i_h0 : ik g 7 h0) (i_p1 : s_p1 < 5) : Met l yX7_addWord wq_c_X7_addWord ({ frames := 4, cells := 0, slots := 0, locals := 85 } : Room) (va_Pc [.ref h0, .ref (gK g s_p1)] (fun U => kIn dC dI g A f U)) (va_Qv (fun (_ : Unit) => True) (fun (_ : Unit) t => ∃ f1 : Nat → va_E, Iv dC dI g A f1 t.heap ∧ Kp g [7, 25] f f1) A) 0 0 A := by
  refine Met.ofW (cc := cX7_addWord) (maxL := 3) (ret := none) (by decide) rfl ?_
  intro p e s m args below meth c s₁ B hml hv
  obtain ⟨rfl, hI, hK, hE⟩ := hv
  have hx := B.exec
  have hb := B.bytes
  have hr := B.returns
  have hts := atoms_spec (ws := wq_c_X7_addWord) B.pre
  have hown : s.vm.findClass RX7 = some m.cls := findClass_of_methodNamed B.named
  have hlocks := B.notSynchronized
  have hS : va_S A s.heap s.heap [] := va_S.rf
  have hk0 : Kp g [7, 25] f f := Kp.rf
  have hl := lv_entry ([.ref h0, .ref (gK g s_p1)]) (n := 3) (Nat.le_of_ble_eq_true rfl)
  rw [lg_entry_eq]
  generalize (lg_sl ([.ref h0, .ref (gK g s_p1)]) ++ List.replicate (3 - (lg_sl ([.ref h0, .ref (gK g s_p1)])).length) Slot.unset).toArray = ls at hl ⊢
  have hl : lv_has ls 3 [(0, .ref h0), (1, .ref (gK g s_p1))] := hl
  refine lv_iconst (v := 0) hx hb dX7_addWord_0 (by decide) ?_
  refine lv_istore_n (lv' := [(2, .int 0), (0, .ref h0), (1, .ref (gK g s_p1))]) hx hb dX7_addWord_1 rfl hl (by decide) rfl (fun ls hl => ?_)
  have K_2 : ∀ (nn : Nat) (y_1 : Int32) (f_2 : Nat → va_E) (H : Heap) (locs : List Loc) (ls : Array Slot), ((kl s_p1 : Int) - y_1.toInt).toNat < nn → Iv dC dI g A f_2 H → va_S A s.heap H locs → Kp g [7, 25] f f_2 → (0 ≤ y_1.toInt) → lv_has ls 3 [(2, .int y_1), (0, .ref h0), (1, .ref (gK g s_p1))] → W p l e (headSpec wq_c_X7_addWord ({ frames := 4, cells := 0, slots := 0, locals := 85 } : Room)).room s m ([.ref h0, .ref (gK g s_p1)].toArray) below meth c H locs 0 0 (MQ below (va_Qv (fun (_ : Unit) => True) (fun (_ : Unit) t => ∃ f1 : Nat → va_E, Iv dC dI g A f1 t.heap ∧ Kp g [7, 25] f f1) A) ([.ref h0, .ref (gK g s_p1)].toArray) s 0 0 A) (F0 m 2 ls []) := by
    intro nn
    induction nn with
    | zero => intro y_1 f_2 H locs ls m_5; exact absurd m_5 (Nat.not_lt_zero _)
    | succ nn ih =>
      intro y_1 f_2 H locs ls m_5 hI hS kp_3 t_4 hl
      have g_6 := Int32.toInt_lt y_1
      have g_7 := Int32.le_toInt y_1
      have g_8 := kl_lt s_p1
      refine lv_iload_n hx hb dX7_addWord_2 rfl (lv_at hl 0 rfl) ?_
      refine lv_aload_n hx hb dX7_addWord_3 rfl (lv_at hl 2 rfl) ?_
      refine va_calli (va_runV (As := []) (rest := [.int y_1]) ⟨hx, hb, hml, hown, hts⟩ (c_J0_length_8abf5 l dC dI g A hG f_2 s_p1 i_p1) (cwV 0 hts (gi_V (fun w_ h0_ => ⟨List.mem_cons_of_mem _ (List.mem_append_right _ (List.mem_append_left _ h0_)), (tb_c_J0_length_8abf5 w_ h0_).2⟩) (List.mem_cons_of_mem _ (List.mem_append_left _ (List.mem_of_getElem? (i := 0) rfl))) (List.mem_cons_of_mem _ (List.mem_append_left _ (List.mem_of_getElem? (i := 1) rfl))) (List.mem_cons_of_mem _ (List.mem_append_left _ (List.mem_of_getElem? (i := 2) rfl))) (List.mem_cons_of_mem _ (List.mem_append_left _ (List.mem_of_getElem? (i := 3) rfl)))) rfl rfl rfl (by decide +kernel) ⟨Nat.le_of_ble_eq_true rfl, Nat.le_of_ble_eq_true rfl⟩) ⟨fun a U g mk q => ⟨q.1, q.2.calling rfl rfl⟩, vk_recv hE.2.2.2.2.2.2.1 i_p1 hS, fun U hU hW => ⟨rfl, kIn.of hI hK hE hS hU hW⟩⟩ rfl rfl hl.1 rfl (lv_room (Nat.le_of_ble_eq_true rfl)) dX7_addWord_4 ⟨Nat.le_of_ble_eq_true rfl, Nat.le_of_ble_eq_true rfl⟩) hS (fun q _ h => h) (fun q h => h) (fun r_10 u t H1 locs ht hvm w_9 hB hz1 hk1 hS => ?_)
      have hI : Iv dC dI g A f_2 t.heap := hB
      rw [ht] at hI
      generalize H1 = H at hI hS ⊢
      refine W.widen (k := 0) (n := 0) (Nat.le_of_ble_eq_true rfl) (Nat.le_of_ble_eq_true rfl) ?_
      have w_9 : r_10.toInt = (kl s_p1 : Int) := w_9
      refine lv_icmp_ge (tgt := 25) hx hb dX7_addWord_7 (by decide) (fun c_11 => ?_) (fun c_11 => ?_)
      · have c_11 := kc_le rfl rfl c_11
        exact W.vret hx hb hr (fun t ht hW => ⟨⟨(), rfl, trivial, ⟨f_2, k_ret ht hI, kp_3⟩⟩, hS.F ht⟩) hS.2.2 dX7_addWord_25
      · have c_11 := kn_le rfl rfl c_11
        refine lv_aload_n hx hb dX7_addWord_10 rfl (lv_at hl 1 rfl) ?_
        refine lv_aload_n hx hb dX7_addWord_11 rfl (lv_at hl 2 rfl) ?_
        refine lv_iload_n hx hb dX7_addWord_12 rfl (lv_at hl 0 rfl) ?_
        refine va_calli (va_runV (As := [.int y_1]) (rest := [.ref h0]) ⟨hx, hb, hml, hown, hts⟩ (c_J0_charAt_5068e l dC dI g A hG f_2 s_p1 y_1 i_p1 (by omega)) (cwV 1 hts (gi_V (fun w_ h0_ => ⟨List.mem_cons_of_mem _ (List.mem_append_right _ (List.mem_append_right _ (List.mem_append_left _ h0_))), (tb_c_J0_charAt_5068e w_ h0_).2⟩) (List.mem_cons_of_mem _ (List.mem_append_left _ (List.mem_of_getElem? (i := 4) rfl))) (List.mem_cons_of_mem _ (List.mem_append_left _ (List.mem_of_getElem? (i := 5) rfl))) (List.mem_cons_of_mem _ (List.mem_append_left _ (List.mem_of_getElem? (i := 6) rfl))) (List.mem_cons_of_mem _ (List.mem_append_left _ (List.mem_of_getElem? (i := 3) rfl)))) rfl rfl rfl (by decide +kernel) ⟨Nat.le_of_ble_eq_true rfl, Nat.le_of_ble_eq_true rfl⟩) ⟨fun a U g mk q => ⟨q.1, q.2.calling rfl rfl⟩, vk_recv hE.2.2.2.2.2.2.1 i_p1 hS, fun U hU hW => ⟨rfl, kIn.of hI hK hE hS hU hW⟩⟩ rfl rfl hl.1 rfl (lv_room (Nat.le_of_ble_eq_true rfl)) dX7_addWord_13 ⟨Nat.le_of_ble_eq_true rfl, Nat.le_of_ble_eq_true rfl⟩) hS (fun q _ h => h) (fun q h => h) (fun r_13 u t H1 locs ht hvm w_12 hB hz1 hk1 hS => ?_)
        have hI : Iv dC dI g A f_2 t.heap := hB
        rw [ht] at hI
        generalize H1 = H at hI hS ⊢
        refine W.widen (k := 0) (n := 0) (Nat.le_of_ble_eq_true rfl) (Nat.le_of_ble_eq_true rfl) ?_
        obtain ⟨x_15, k_14⟩ := op_7 hI i_h0
        refine va_callv (va_runV (As := [.int r_13]) (rest := []) ⟨hx, hb, hml, hown, hts⟩ (c_X7_add l dC dI g A hG f_2 h0 r_13 i_h0) (cwV 1 hts (gi_V (fun w_ h0_ => ⟨List.mem_cons_of_mem _ (List.mem_append_right _ (List.mem_append_right _ (List.mem_append_right _ (List.mem_append_left _ h0_)))), (tb_c_X7_add w_ h0_).2⟩) (List.mem_cons_of_mem _ (List.mem_append_left _ (List.mem_of_getElem? (i := 7) rfl))) (List.mem_cons_of_mem _ (List.mem_append_left _ (List.mem_of_getElem? (i := 8) rfl))) (List.mem_cons_of_mem _ (List.mem_append_left _ (List.mem_of_getElem? (i := 9) rfl))) (List.mem_cons_of_mem _ (List.mem_append_left _ (List.mem_of_getElem? (i := 10) rfl)))) rfl rfl rfl (by decide +kernel) ⟨Nat.le_of_ble_eq_true rfl, Nat.le_of_ble_eq_true rfl⟩) ⟨fun a U g mk q => ⟨q.1, q.2.calling rfl rfl⟩, k_recv hK hI i_h0.1 k_14 (ci := 7) rfl, fun U hU hW => ⟨rfl, kIn.of hI hK hE hS hU hW⟩⟩ rfl rfl hl.1 rfl (lv_room (Nat.le_of_ble_eq_true rfl)) dX7_addWord_16 ⟨Nat.le_of_ble_eq_true rfl, Nat.le_of_ble_eq_true rfl⟩) hS (fun q _ h => h) (fun q h => h) (fun u t H1 locs ht hvm _ hB hz1 hk1 hS => ?_)
        obtain ⟨f_16, hI, kc_18⟩ := hB
        rw [ht] at hI
        have kp_19 := Kp.call kp_3 kc_18 (by decide)
        generalize H1 = H at hI hS ⊢
        refine W.widen (k := 0) (n := 0) (Nat.le_of_ble_eq_true rfl) (Nat.le_of_ble_eq_true rfl) ?_
        obtain ⟨v_20, ev_20⟩ : ∃ y : Int32, y = y_1 + Int32.ofInt 1 := ⟨_, rfl⟩
        refine lv_iinc (v := v_20) (lv' := [(2, .int v_20), (0, .ref h0), (1, .ref (gK g s_p1))]) hx hb dX7_addWord_19 hl (k := 0) rfl ev_20.symm (by decide) rfl (fun ls hl => ?_)
        have tv_20 := k_inc y_1
        rw [← ev_20] at tv_20
        refine lv_goto (tgt := 2) hx hb dX7_addWord_22 (by decide) ?_
        exact ih v_20 f_16 _ _ _ (by omega) hI hS kp_19 (by first | omega | decide) (lv_sub hl [0, 1, 2] rfl)
  exact K_2 _ 0 f _ _ _ (Nat.lt_succ_self _) hI hS hk0 (by first | omega | decide | (simp only [show Int32.toInt 0 = 0 from by decide]; omega)) (lv_sub hl [0, 1, 2] rfl)
theorem tw_301 : q_g (.code yX7_addNumber cX7_addNumber 2 none) := ⟨(List.mem_append_right _ (List.mem_of_getElem? (i := 774) (by decide +kernel))), good_of_word (by decide +kernel)⟩
def ow_c_X7_addNumber : List Cond := [.methodLink RX7 19 yX7_add, .instanceMethod yX7_add, .selects RX7 yX7_add yX7_add, .initialized RX7]
def wq_c_X7_addNumber : List Cond := .code yX7_addNumber cX7_addNumber 2 none :: (ow_c_X7_addNumber ++ (wq_c_X7_add ++ ([] : List Cond)))
theorem tb_c_X7_addNumber : ∀ w ∈ wq_c_X7_addNumber, q_g w := by
  unfold wq_c_X7_addNumber ow_c_X7_addNumber
  exact q_cons tw_301 (q_app (q_cons tw_297 (q_cons tw_296 (q_cons tw_295 (q_cons tw_192 q_nil)))) (q_app tb_c_X7_add q_nil))
set_option maxHeartbeats 4000000 in
set_option maxRecDepth 100000 in
theorem c_X7_addNumber (l : Launch) (dC : Nat → ClassId) (dI : Nat → Nat → Nat) (g : kG) (A : Nat → Prop) (hG : kWf g) (f : Nat → va_E) (h0 : Nat) (p1 : Int32) (i_h0 : ik g 7 h0) : Met l yX7_addNumber wq_c_X7_addNumber ({ frames := 1, cells := 0, slots := 0, locals := 21 } : Room) (va_Pc [.ref h0, .int p1] (fun U => kIn dC dI g A f U)) (va_Qv (fun (_ : Unit) => True) (fun (_ : Unit) t => ∃ f1 : Nat → va_E, Iv dC dI g A f1 t.heap ∧ Kp g [7, 25] f f1) A) 0 0 A := by
  refine Met.ofW (cc := cX7_addNumber) (maxL := 2) (ret := none) (by decide) rfl ?_
  intro p e s m args below meth c s₁ B hml hv
  obtain ⟨rfl, hI, hK, hE⟩ := hv
  have hx := B.exec
  have hb := B.bytes
  have hr := B.returns
  have hts := atoms_spec (ws := wq_c_X7_addNumber) B.pre
  have hown : s.vm.findClass RX7 = some m.cls := findClass_of_methodNamed B.named
  have hlocks := B.notSynchronized
  have hS : va_S A s.heap s.heap [] := va_S.rf
  have hk0 : Kp g [7, 25] f f := Kp.rf
  have hl := lv_entry ([.ref h0, .int p1]) (n := 2) (Nat.le_of_ble_eq_true rfl)
  rw [lg_entry_eq]
  generalize (lg_sl ([.ref h0, .int p1]) ++ List.replicate (2 - (lg_sl ([.ref h0, .int p1])).length) Slot.unset).toArray = ls at hl ⊢
  have hl : lv_has ls 2 [(0, .ref h0), (1, .int p1)] := hl
  refine lv_iload_n hx hb dX7_addNumber_0 rfl (lv_at hl 1 rfl) ?_
  refine lv_bipush (v := 10) hx hb dX7_addNumber_1 (by decide) ?_
  have J_20 : ∀ (f_1 : Nat → va_E) (H : Heap) (locs : List Loc) (ls : Array Slot), Iv dC dI g A f_1 H → va_S A s.heap H locs → Kp g [7, 25] f f_1 → lv_has ls 2 [(0, .ref h0), (1, .int p1)] → W p l e (headSpec wq_c_X7_addNumber ({ frames := 1, cells := 0, slots := 0, locals := 21 } : Room)).room s m ([.ref h0, .int p1].toArray) below meth c H locs 0 0 (MQ below (va_Qv (fun (_ : Unit) => True) (fun (_ : Unit) t => ∃ f1 : Nat → va_E, Iv dC dI g A f1 t.heap ∧ Kp g [7, 25] f f1) A) ([.ref h0, .int p1].toArray) s 0 0 A) (F0 m 20 ls []) := by
    intro f_1 H locs ls hI hS kp_2 hl
    refine lv_aload_n hx hb dX7_addNumber_20 rfl (lv_at hl 0 rfl) ?_
    refine lv_bipush (v := 48) hx hb dX7_addNumber_21 (by decide) ?_
    refine lv_iload_n hx hb dX7_addNumber_23 rfl (lv_at hl 1 rfl) ?_
    refine lv_bipush (v := 10) hx hb dX7_addNumber_24 (by decide) ?_
    refine lv_irem hx hb dX7_addNumber_26 (by decide) ?_
    refine lv_topi (fun v_3 ev_3 => ?_)
    refine lv_iadd hx hb dX7_addNumber_27 ?_
    refine lv_topi (fun v_4 ev_4 => ?_)
    have tv_4 := k_ad 48 v_3
    rw [← ev_4, show Int32.toInt 48 = 48 from by decide] at tv_4
    obtain ⟨x_6, k_5⟩ := op_7 hI i_h0
    refine va_callv (va_runV (As := [.int v_4]) (rest := []) ⟨hx, hb, hml, hown, hts⟩ (c_X7_add l dC dI g A hG f_1 h0 v_4 i_h0) (cwV 1 hts (gi_V (fun w_ h0_ => ⟨List.mem_cons_of_mem _ (List.mem_append_right _ (List.mem_append_left _ h0_)), (tb_c_X7_add w_ h0_).2⟩) (List.mem_cons_of_mem _ (List.mem_append_left _ (List.mem_of_getElem? (i := 0) rfl))) (List.mem_cons_of_mem _ (List.mem_append_left _ (List.mem_of_getElem? (i := 1) rfl))) (List.mem_cons_of_mem _ (List.mem_append_left _ (List.mem_of_getElem? (i := 2) rfl))) (List.mem_cons_of_mem _ (List.mem_append_left _ (List.mem_of_getElem? (i := 3) rfl)))) rfl rfl rfl (by decide +kernel) ⟨Nat.le_of_ble_eq_true rfl, Nat.le_of_ble_eq_true rfl⟩) ⟨fun a U g mk q => ⟨q.1, q.2.calling rfl rfl⟩, k_recv hK hI i_h0.1 k_5 (ci := 7) rfl, fun U hU hW => ⟨rfl, kIn.of hI hK hE hS hU hW⟩⟩ rfl rfl hl.1 rfl (lv_room (Nat.le_of_ble_eq_true rfl)) dX7_addNumber_28 ⟨Nat.le_of_ble_eq_true rfl, Nat.le_of_ble_eq_true rfl⟩) hS (fun q _ h => h) (fun q h => h) (fun u t H1 locs ht hvm _ hB hz1 hk1 hS => ?_)
    obtain ⟨f_7, hI, kc_9⟩ := hB
    rw [ht] at hI
    have kp_10 := Kp.call kp_2 kc_9 (by decide)
    generalize H1 = H at hI hS ⊢
    refine W.widen (k := 0) (n := 0) (Nat.le_of_ble_eq_true rfl) (Nat.le_of_ble_eq_true rfl) ?_
    exact W.vret hx hb hr (fun t ht hW => ⟨⟨(), rfl, trivial, ⟨f_7, k_ret ht hI, kp_10⟩⟩, hS.F ht⟩) hS.2.2 dX7_addNumber_31
  refine lv_icmp_lt (tgt := 20) hx hb dX7_addNumber_3 (by decide) (fun c_11 => ?_) (fun c_11 => ?_)
  · have c_11 := kc_lt rfl (by decide : Int32.toInt 10 = 10) c_11
    exact J_20 f _ _ _ hI hS hk0 (lv_sub hl [0, 1] rfl)
  · have c_11 := kn_lt rfl (by decide : Int32.toInt 10 = 10) c_11
    refine lv_aload_n hx hb dX7_addNumber_6 rfl (lv_at hl 0 rfl) ?_
    refine lv_bipush (v := 48) hx hb dX7_addNumber_7 (by decide) ?_
    refine lv_iload_n hx hb dX7_addNumber_9 rfl (lv_at hl 1 rfl) ?_
    refine lv_bipush (v := 10) hx hb dX7_addNumber_10 (by decide) ?_
    refine lv_idiv hx hb dX7_addNumber_12 (by decide) ?_
    refine lv_topi (fun v_12 ev_12 => ?_)
    refine lv_bipush (v := 10) hx hb dX7_addNumber_13 (by decide) ?_
    refine lv_irem hx hb dX7_addNumber_15 (by decide) ?_
    refine lv_topi (fun v_13 ev_13 => ?_)
    refine lv_iadd hx hb dX7_addNumber_16 ?_
    refine lv_topi (fun v_14 ev_14 => ?_)
    have tv_14 := k_ad 48 v_13
    rw [← ev_14, show Int32.toInt 48 = 48 from by decide] at tv_14
    obtain ⟨x_16, k_15⟩ := op_7 hI i_h0
    refine va_callv (va_runV (As := [.int v_14]) (rest := []) ⟨hx, hb, hml, hown, hts⟩ (c_X7_add l dC dI g A hG f h0 v_14 i_h0) (cwV 1 hts (gi_V (fun w_ h0_ => ⟨List.mem_cons_of_mem _ (List.mem_append_right _ (List.mem_append_left _ h0_)), (tb_c_X7_add w_ h0_).2⟩) (List.mem_cons_of_mem _ (List.mem_append_left _ (List.mem_of_getElem? (i := 0) rfl))) (List.mem_cons_of_mem _ (List.mem_append_left _ (List.mem_of_getElem? (i := 1) rfl))) (List.mem_cons_of_mem _ (List.mem_append_left _ (List.mem_of_getElem? (i := 2) rfl))) (List.mem_cons_of_mem _ (List.mem_append_left _ (List.mem_of_getElem? (i := 3) rfl)))) rfl rfl rfl (by decide +kernel) ⟨Nat.le_of_ble_eq_true rfl, Nat.le_of_ble_eq_true rfl⟩) ⟨fun a U g mk q => ⟨q.1, q.2.calling rfl rfl⟩, k_recv hK hI i_h0.1 k_15 (ci := 7) rfl, fun U hU hW => ⟨rfl, kIn.of hI hK hE hS hU hW⟩⟩ rfl rfl hl.1 rfl (lv_room (Nat.le_of_ble_eq_true rfl)) dX7_addNumber_17 ⟨Nat.le_of_ble_eq_true rfl, Nat.le_of_ble_eq_true rfl⟩) hS (fun q _ h => h) (fun q h => h) (fun u t H1 locs ht hvm _ hB hz1 hk1 hS => ?_)
    obtain ⟨f_17, hI, kc_19⟩ := hB
    rw [ht] at hI
    have kp_20 := Kp.call hk0 kc_19 (by decide)
    generalize H1 = H at hI hS ⊢
    refine W.widen (k := 0) (n := 0) (Nat.le_of_ble_eq_true rfl) (Nat.le_of_ble_eq_true rfl) ?_
    exact J_20 f_17 _ _ _ hI hS kp_20 (lv_sub hl [0, 1] rfl)
theorem tw_302 : q_g (.selects RX7 yX7_addNumber yX7_addNumber) := ⟨(List.mem_append_right _ (List.mem_of_getElem? (i := 773) (by decide +kernel))), good_of_word (by decide +kernel)⟩
theorem tw_303 : q_g (.instanceMethod yX7_addNumber) := ⟨(List.mem_append_right _ (List.mem_of_getElem? (i := 772) (by decide +kernel))), good_of_word (by decide +kernel)⟩
theorem tw_304 : q_g (.methodLink RX5 68 yX7_addNumber) := ⟨(List.mem_append_right _ (List.mem_of_getElem? (i := 771) (by decide +kernel))), good_of_word (by decide +kernel)⟩
theorem tw_305 : q_g (.methodLink RX5 54 yX7_add) := ⟨(List.mem_append_right _ (List.mem_of_getElem? (i := 763) (by decide +kernel))), good_of_word (by decide +kernel)⟩
theorem tw_306 : q_g (.selects RX7 yX7_addWord yX7_addWord) := ⟨(List.mem_append_right _ (List.mem_of_getElem? (i := 767) (by decide +kernel))), good_of_word (by decide +kernel)⟩
theorem tw_307 : q_g (.instanceMethod yX7_addWord) := ⟨(List.mem_append_right _ (List.mem_of_getElem? (i := 766) (by decide +kernel))), good_of_word (by decide +kernel)⟩
theorem tw_308 : q_g (.methodLink RX5 64 yX7_addWord) := ⟨(List.mem_append_right _ (List.mem_of_getElem? (i := 765) (by decide +kernel))), good_of_word (by decide +kernel)⟩
theorem tw_309 : q_g (.methodLink RX5 60 yX5_wordOf) := ⟨(List.mem_append_right _ (List.mem_of_getElem? (i := 764) (by decide +kernel))), good_of_word (by decide +kernel)⟩
theorem tw_310 : q_g (.code yX5_writeTo cX5_writeTo 3 none) := ⟨(List.mem_append_right _ (List.mem_of_getElem? (i := 762) (by decide +kernel))), good_of_word (by decide +kernel)⟩
def ow_c_X5_writeTo : List Cond := [.fieldLink RX5 28 "DeadlineShare$Script" "size" "I", .methodLink RX5 47 yX5_kindOf, .instanceMethod yX5_kindOf, .selects RX5 yX5_kindOf yX5_kindOf, .initialized RX5, .methodLink RX5 60 yX5_wordOf, .static yX5_wordOf, .methodLink RX5 64 yX7_addWord, .instanceMethod yX7_addWord, .selects RX7 yX7_addWord yX7_addWord, .initialized RX7, .methodLink RX5 54 yX7_add, .instanceMethod yX7_add, .selects RX7 yX7_add yX7_add, .methodLink RX5 51 yX5_numberOf, .instanceMethod yX5_numberOf, .selects RX5 yX5_numberOf yX5_numberOf, .methodLink RX5 68 yX7_addNumber, .instanceMethod yX7_addNumber, .selects RX7 yX7_addNumber yX7_addNumber]
def wq_c_X5_writeTo : List Cond := .code yX5_writeTo cX5_writeTo 3 none :: (ow_c_X5_writeTo ++ (u_ws RX5 TX5 5 ++ (wq_c_X5_kindOf ++ (wq_c_X5_wordOf ++ (wq_c_X7_addWord ++ (wq_c_X7_add ++ (wq_c_X5_numberOf ++ (wq_c_X7_addNumber ++ ([] : List Cond)))))))))
theorem tb_c_X5_writeTo : ∀ w ∈ wq_c_X5_writeTo, q_g w := by
  unfold wq_c_X5_writeTo ow_c_X5_writeTo
  exact q_cons tw_310 (q_app (q_cons tw_110 (q_cons tw_287 (q_cons tw_286 (q_cons tw_285 (q_cons tw_133 (q_cons tw_309 (q_cons tw_238 (q_cons tw_308 (q_cons tw_307 (q_cons tw_306 (q_cons tw_192 (q_cons tw_305 (q_cons tw_296 (q_cons tw_295 (q_cons tw_292 (q_cons tw_291 (q_cons tw_290 (q_cons tw_304 (q_cons tw_303 (q_cons tw_302 q_nil)))))))))))))))))))) (q_app tu_X5 (q_app tb_c_X5_kindOf (q_app tb_c_X5_wordOf (q_app tb_c_X7_addWord (q_app tb_c_X7_add (q_app tb_c_X5_numberOf (q_app tb_c_X7_addNumber q_nil))))))))
set_option maxHeartbeats 4000000 in
set_option maxRecDepth 100000 in
theorem c_X5_writeTo (l : Launch) (dC : Nat → ClassId) (dI : Nat → Nat → Nat) (g : kG) (A : Nat → Prop) (hG : kWf g) (f : Nat → va_E) (h0 : Nat) (p1 : Nat) (i_h0 : ik g 5 h0) (i_p1 : ik g 7 p1) : Met l yX5_writeTo wq_c_X5_writeTo ({ frames := 5, cells := 0, slots := 0, locals := 107 } : Room) (va_Pc [.ref h0, .ref p1] (fun U => kIn dC dI g A f U)) (va_Qv (fun (_ : Unit) => True) (fun (_ : Unit) t => ∃ f1 : Nat → va_E, Iv dC dI g A f1 t.heap ∧ Kp g [7, 25] f f1) A) 0 0 A := by
  refine Met.ofW (cc := cX5_writeTo) (maxL := 3) (ret := none) (by decide) rfl ?_
  intro p e s m args below meth c s₁ B hml hv
  obtain ⟨rfl, hI, hK, hE⟩ := hv
  have hx := B.exec
  have hb := B.bytes
  have hr := B.returns
  have hts := atoms_spec (ws := wq_c_X5_writeTo) B.pre
  have hown : s.vm.findClass RX5 = some m.cls := findClass_of_methodNamed B.named
  have hlocks := B.notSynchronized
  have hS : va_S A s.heap s.heap [] := va_S.rf
  have hk0 : Kp g [7, 25] f f := Kp.rf
  have hl := lv_entry ([.ref h0, .ref p1]) (n := 3) (Nat.le_of_ble_eq_true rfl)
  rw [lg_entry_eq]
  generalize (lg_sl ([.ref h0, .ref p1]) ++ List.replicate (3 - (lg_sl ([.ref h0, .ref p1])).length) Slot.unset).toArray = ls at hl ⊢
  have hl : lv_has ls 3 [(0, .ref h0), (1, .ref p1)] := hl
  refine lv_iconst (v := 0) hx hb dX5_writeTo_0 (by decide) ?_
  refine lv_istore_n (lv' := [(2, .int 0), (0, .ref h0), (1, .ref p1)]) hx hb dX5_writeTo_1 rfl hl (by decide) rfl (fun ls hl => ?_)
  have K_2 : ∀ (nn : Nat) (y_1 : Int32) (f_2 : Nat → va_E) (H : Heap) (locs : List Loc) (ls : Array Slot), (12 - y_1.toInt).toNat < nn → Iv dC dI g A f_2 H → va_S A s.heap H locs → Kp g [7, 25] f f_2 → (0 ≤ y_1.toInt) → lv_has ls 3 [(2, .int y_1), (0, .ref h0), (1, .ref p1)] → W p l e (headSpec wq_c_X5_writeTo ({ frames := 5, cells := 0, slots := 0, locals := 107 } : Room)).room s m ([.ref h0, .ref p1].toArray) below meth c H locs 0 0 (MQ below (va_Qv (fun (_ : Unit) => True) (fun (_ : Unit) t => ∃ f1 : Nat → va_E, Iv dC dI g A f1 t.heap ∧ Kp g [7, 25] f f1) A) ([.ref h0, .ref p1].toArray) s 0 0 A) (F0 m 2 ls []) := by
    intro nn
    induction nn with
    | zero => intro y_1 f_2 H locs ls m_5; exact absurd m_5 (Nat.not_lt_zero _)
    | succ nn ih =>
      intro y_1 f_2 H locs ls m_5 hI hS kp_3 t_4 hl
      have g_6 := Int32.toInt_lt y_1
      have g_7 := Int32.le_toInt y_1
      refine lv_iload_n hx hb dX5_writeTo_2 rfl (lv_at hl 0 rfl) ?_
      refine lv_aload_n hx hb dX5_writeTo_3 rfl (lv_at hl 1 rfl) ?_
      obtain ⟨x_9, x_10, x_11, x_12, k_8, b_13, b_14⟩ := op_5 hI i_h0
      refine k_get (ci := 5) (v := .int x_9) (C := RX5) (T := TX5) (N := 5) hx hb hts (fun _ h0_ => List.mem_cons_of_mem _ (List.mem_append_right _ (List.mem_append_left _ h0_))) hown hK hI i_h0.1 k_8 rfl 1 (by decide) (hts (.fieldLink RX5 28 "DeadlineShare$Script" "size" "I") (List.mem_cons_of_mem _ (List.mem_append_left _ (List.mem_of_getElem? (i := 0) rfl)))) (fun _ h9 => h9) rfl dX5_writeTo_4 ?_
      refine lv_icmp_ge (tgt := 53) hx hb dX5_writeTo_7 (by decide) (fun c_15 => ?_) (fun c_15 => ?_)
      · have c_15 := kc_le rfl rfl c_15
        exact W.vret hx hb hr (fun t ht hW => ⟨⟨(), rfl, trivial, ⟨f_2, k_ret ht hI, kp_3⟩⟩, hS.F ht⟩) hS.2.2 dX5_writeTo_53
      · have c_15 := kn_le rfl rfl c_15
        refine lv_iload_n hx hb dX5_writeTo_10 rfl (lv_at hl 0 rfl) ?_
        have J_20 : ∀ (f_16 : Nat → va_E) (H : Heap) (locs : List Loc) (ls : Array Slot), Iv dC dI g A f_16 H → va_S A s.heap H locs → f_16 h0 = .inr (5, [.ref (gr g h0 0), .int x_9, .int x_10, .int x_11, .int x_12]) → Kp g [7, 25] f f_16 → lv_has ls 3 [(2, .int y_1), (0, .ref h0), (1, .ref p1)] → W p l e (headSpec wq_c_X5_writeTo ({ frames := 5, cells := 0, slots := 0, locals := 107 } : Room)).room s m ([.ref h0, .ref p1].toArray) below meth c H locs 0 0 (MQ below (va_Qv (fun (_ : Unit) => True) (fun (_ : Unit) t => ∃ f1 : Nat → va_E, Iv dC dI g A f1 t.heap ∧ Kp g [7, 25] f f1) A) ([.ref h0, .ref p1].toArray) s 0 0 A) (F0 m 20 ls []) := by
          intro f_16 H locs ls hI hS k_17 kp_18 hl
          refine lv_aload_n hx hb dX5_writeTo_20 rfl (lv_at hl 2 rfl) ?_
          refine lv_aload_n hx hb dX5_writeTo_21 rfl (lv_at hl 1 rfl) ?_
          refine lv_iload_n hx hb dX5_writeTo_22 rfl (lv_at hl 0 rfl) ?_
          refine va_calli (va_runV (As := [.int y_1]) (rest := [.ref p1]) ⟨hx, hb, hml, hown, hts⟩ (c_X5_kindOf l dC dI g A hG f_16 h0 y_1 i_h0) (cwV 1 hts (gi_V (fun w_ h0_ => ⟨List.mem_cons_of_mem _ (List.mem_append_right _ (List.mem_append_right _ (List.mem_append_left _ h0_))), (tb_c_X5_kindOf w_ h0_).2⟩) (List.mem_cons_of_mem _ (List.mem_append_left _ (List.mem_of_getElem? (i := 1) rfl))) (List.mem_cons_of_mem _ (List.mem_append_left _ (List.mem_of_getElem? (i := 2) rfl))) (List.mem_cons_of_mem _ (List.mem_append_left _ (List.mem_of_getElem? (i := 3) rfl))) (List.mem_cons_of_mem _ (List.mem_append_left _ (List.mem_of_getElem? (i := 4) rfl)))) rfl rfl rfl (by decide +kernel) ⟨Nat.le_of_ble_eq_true rfl, Nat.le_of_ble_eq_true rfl⟩) ⟨fun a U g mk q => ⟨q.1, q.2.calling rfl rfl⟩, k_recv hK hI i_h0.1 k_17 (ci := 5) rfl, fun U hU hW => ⟨rfl, kIn.of hI hK hE hS hU hW⟩⟩ rfl rfl hl.1 rfl (lv_room (Nat.le_of_ble_eq_true rfl)) dX5_writeTo_23 ⟨Nat.le_of_ble_eq_true rfl, Nat.le_of_ble_eq_true rfl⟩) hS (fun q _ h => h) (fun q h => h) (fun r_20 u t H1 locs ht hvm w_19 hB hz1 hk1 hS => ?_)
          have hI : Iv dC dI g A f_16 t.heap := hB
          rw [ht] at hI
          generalize H1 = H at hI hS ⊢
          refine W.widen (k := 0) (n := 0) (Nat.le_of_ble_eq_true rfl) (Nat.le_of_ble_eq_true rfl) ?_
          refine va_callr (va_runS (As := [.int r_20]) (rest := [.ref p1]) ⟨hx, hb, hml, hown, hts⟩ (c_X5_wordOf l dC dI g A hG f_16 r_20) (va_cwS 1 hts (gi_S (fun w_ h0_ => ⟨List.mem_cons_of_mem _ (List.mem_append_right _ (List.mem_append_right _ (List.mem_append_right _ (List.mem_append_left _ h0_)))), (tb_c_X5_wordOf w_ h0_).2⟩) (List.mem_cons_of_mem _ (List.mem_append_left _ (List.mem_of_getElem? (i := 5) rfl))) (List.mem_cons_of_mem _ (List.mem_append_left _ (List.mem_of_getElem? (i := 6) rfl))) (List.mem_cons_of_mem _ (List.mem_append_left _ (List.mem_of_getElem? (i := 4) rfl)))) rfl rfl rfl (by decide +kernel) ⟨Nat.le_of_ble_eq_true rfl, Nat.le_of_ble_eq_true rfl⟩) ⟨fun a U g mk q => ⟨q.1, q.2.calling rfl rfl⟩, fun U hU hW => ⟨rfl, kIn.of hI hK hE hS hU hW⟩⟩ rfl rfl hl.1 rfl (lv_room (Nat.le_of_ble_eq_true rfl)) dX5_writeTo_26 ⟨Nat.le_of_ble_eq_true rfl, Nat.le_of_ble_eq_true rfl⟩) hS (fun q _ h => h) (fun q h => h) (fun u a_22 t H1 locs ht hvm _ hB hz1 hk1 hS => ?_)
          obtain ⟨⟨si_23, w_21, esi_23⟩, hI⟩ := hB
          subst esi_23
          rw [ht] at hI
          generalize H1 = H at hI hS ⊢
          refine W.widen (k := 0) (n := 0) (Nat.le_of_ble_eq_true rfl) (Nat.le_of_ble_eq_true rfl) ?_
          obtain ⟨x_25, k_24⟩ := op_7 hI i_p1
          refine va_callv (va_runV (As := [.ref (gK g si_23)]) (rest := []) ⟨hx, hb, hml, hown, hts⟩ (c_X7_addWord l dC dI g A hG f_16 p1 si_23 i_p1 w_21) (cwV 1 hts (gi_V (fun w_ h0_ => ⟨List.mem_cons_of_mem _ (List.mem_append_right _ (List.mem_append_right _ (List.mem_append_right _ (List.mem_append_right _ (List.mem_append_left _ h0_))))), (tb_c_X7_addWord w_ h0_).2⟩) (List.mem_cons_of_mem _ (List.mem_append_left _ (List.mem_of_getElem? (i := 7) rfl))) (List.mem_cons_of_mem _ (List.mem_append_left _ (List.mem_of_getElem? (i := 8) rfl))) (List.mem_cons_of_mem _ (List.mem_append_left _ (List.mem_of_getElem? (i := 9) rfl))) (List.mem_cons_of_mem _ (List.mem_append_left _ (List.mem_of_getElem? (i := 10) rfl)))) rfl rfl rfl (by decide +kernel) ⟨Nat.le_of_ble_eq_true rfl, Nat.le_of_ble_eq_true rfl⟩) ⟨fun a U g mk q => ⟨q.1, q.2.calling rfl rfl⟩, k_recv hK hI i_p1.1 k_24 (ci := 7) rfl, fun U hU hW => ⟨rfl, kIn.of hI hK hE hS hU hW⟩⟩ rfl rfl hl.1 rfl (lv_room (Nat.le_of_ble_eq_true rfl)) dX5_writeTo_29 ⟨Nat.le_of_ble_eq_true rfl, Nat.le_of_ble_eq_true rfl⟩) hS (fun q _ h => h) (fun q h => h) (fun u t H1 locs ht hvm _ hB hz1 hk1 hS => ?_)
          obtain ⟨f_26, hI, kc_28⟩ := hB
          rw [ht] at hI
          have k_29 : f_26 h0 = .inr (5, [.ref (gr g h0 0), .int x_9, .int x_10, .int x_11, .int x_12]) := Kp.at kc_28 i_h0 (by decide) k_17
          have kp_30 := Kp.call kp_18 kc_28 (by decide)
          generalize H1 = H at hI hS ⊢
          refine W.widen (k := 0) (n := 0) (Nat.le_of_ble_eq_true rfl) (Nat.le_of_ble_eq_true rfl) ?_
          refine lv_aload_n hx hb dX5_writeTo_32 rfl (lv_at hl 2 rfl) ?_
          refine lv_bipush (v := 32) hx hb dX5_writeTo_33 (by decide) ?_
          obtain ⟨x_32, k_31⟩ := op_7 hI i_p1
          refine va_callv (va_runV (As := [.int 32]) (rest := []) ⟨hx, hb, hml, hown, hts⟩ (c_X7_add l dC dI g A hG f_26 p1 32 i_p1) (cwV 1 hts (gi_V (fun w_ h0_ => ⟨List.mem_cons_of_mem _ (List.mem_append_right _ (List.mem_append_right _ (List.mem_append_right _ (List.mem_append_right _ (List.mem_append_right _ (List.mem_append_left _ h0_)))))), (tb_c_X7_add w_ h0_).2⟩) (List.mem_cons_of_mem _ (List.mem_append_left _ (List.mem_of_getElem? (i := 11) rfl))) (List.mem_cons_of_mem _ (List.mem_append_left _ (List.mem_of_getElem? (i := 12) rfl))) (List.mem_cons_of_mem _ (List.mem_append_left _ (List.mem_of_getElem? (i := 13) rfl))) (List.mem_cons_of_mem _ (List.mem_append_left _ (List.mem_of_getElem? (i := 10) rfl)))) rfl rfl rfl (by decide +kernel) ⟨Nat.le_of_ble_eq_true rfl, Nat.le_of_ble_eq_true rfl⟩) ⟨fun a U g mk q => ⟨q.1, q.2.calling rfl rfl⟩, k_recv hK hI i_p1.1 k_31 (ci := 7) rfl, fun U hU hW => ⟨rfl, kIn.of hI hK hE hS hU hW⟩⟩ rfl rfl hl.1 rfl (lv_room (Nat.le_of_ble_eq_true rfl)) dX5_writeTo_35 ⟨Nat.le_of_ble_eq_true rfl, Nat.le_of_ble_eq_true rfl⟩) hS (fun q _ h => h) (fun q h => h) (fun u t H1 locs ht hvm _ hB hz1 hk1 hS => ?_)
          obtain ⟨f_33, hI, kc_35⟩ := hB
          rw [ht] at hI
          have k_36 : f_33 h0 = .inr (5, [.ref (gr g h0 0), .int x_9, .int x_10, .int x_11, .int x_12]) := Kp.at kc_35 i_h0 (by decide) k_29
          have kp_37 := Kp.call kp_30 kc_35 (by decide)
          generalize H1 = H at hI hS ⊢
          refine W.widen (k := 0) (n := 0) (Nat.le_of_ble_eq_true rfl) (Nat.le_of_ble_eq_true rfl) ?_
          refine lv_aload_n hx hb dX5_writeTo_38 rfl (lv_at hl 2 rfl) ?_
          refine lv_aload_n hx hb dX5_writeTo_39 rfl (lv_at hl 1 rfl) ?_
          refine lv_iload_n hx hb dX5_writeTo_40 rfl (lv_at hl 0 rfl) ?_
          refine va_calli (va_runV (As := [.int y_1]) (rest := [.ref p1]) ⟨hx, hb, hml, hown, hts⟩ (c_X5_numberOf l dC dI g A hG f_33 h0 y_1 i_h0) (cwV 1 hts (gi_V (fun w_ h0_ => ⟨List.mem_cons_of_mem _ (List.mem_append_right _ (List.mem_append_right _ (List.mem_append_right _ (List.mem_append_right _ (List.mem_append_right _ (List.mem_append_right _ (List.mem_append_left _ h0_))))))), (tb_c_X5_numberOf w_ h0_).2⟩) (List.mem_cons_of_mem _ (List.mem_append_left _ (List.mem_of_getElem? (i := 14) rfl))) (List.mem_cons_of_mem _ (List.mem_append_left _ (List.mem_of_getElem? (i := 15) rfl))) (List.mem_cons_of_mem _ (List.mem_append_left _ (List.mem_of_getElem? (i := 16) rfl))) (List.mem_cons_of_mem _ (List.mem_append_left _ (List.mem_of_getElem? (i := 4) rfl)))) rfl rfl rfl (by decide +kernel) ⟨Nat.le_of_ble_eq_true rfl, Nat.le_of_ble_eq_true rfl⟩) ⟨fun a U g mk q => ⟨q.1, q.2.calling rfl rfl⟩, k_recv hK hI i_h0.1 k_36 (ci := 5) rfl, fun U hU hW => ⟨rfl, kIn.of hI hK hE hS hU hW⟩⟩ rfl rfl hl.1 rfl (lv_room (Nat.le_of_ble_eq_true rfl)) dX5_writeTo_41 ⟨Nat.le_of_ble_eq_true rfl, Nat.le_of_ble_eq_true rfl⟩) hS (fun q _ h => h) (fun q h => h) (fun r_39 u t H1 locs ht hvm w_38 hB hz1 hk1 hS => ?_)
          have hI : Iv dC dI g A f_33 t.heap := hB
          rw [ht] at hI
          generalize H1 = H at hI hS ⊢
          refine W.widen (k := 0) (n := 0) (Nat.le_of_ble_eq_true rfl) (Nat.le_of_ble_eq_true rfl) ?_
          obtain ⟨x_41, k_40⟩ := op_7 hI i_p1
          refine va_callv (va_runV (As := [.int r_39]) (rest := []) ⟨hx, hb, hml, hown, hts⟩ (c_X7_addNumber l dC dI g A hG f_33 p1 r_39 i_p1) (cwV 1 hts (gi_V (fun w_ h0_ => ⟨List.mem_cons_of_mem _ (List.mem_append_right _ (List.mem_append_right _ (List.mem_append_right _ (List.mem_append_right _ (List.mem_append_right _ (List.mem_append_right _ (List.mem_append_right _ (List.mem_append_left _ h0_)))))))), (tb_c_X7_addNumber w_ h0_).2⟩) (List.mem_cons_of_mem _ (List.mem_append_left _ (List.mem_of_getElem? (i := 17) rfl))) (List.mem_cons_of_mem _ (List.mem_append_left _ (List.mem_of_getElem? (i := 18) rfl))) (List.mem_cons_of_mem _ (List.mem_append_left _ (List.mem_of_getElem? (i := 19) rfl))) (List.mem_cons_of_mem _ (List.mem_append_left _ (List.mem_of_getElem? (i := 10) rfl)))) rfl rfl rfl (by decide +kernel) ⟨Nat.le_of_ble_eq_true rfl, Nat.le_of_ble_eq_true rfl⟩) ⟨fun a U g mk q => ⟨q.1, q.2.calling rfl rfl⟩, k_recv hK hI i_p1.1 k_40 (ci := 7) rfl, fun U hU hW => ⟨rfl, kIn.of hI hK hE hS hU hW⟩⟩ rfl rfl hl.1 rfl (lv_room (Nat.le_of_ble_eq_true rfl)) dX5_writeTo_44 ⟨Nat.le_of_ble_eq_true rfl, Nat.le_of_ble_eq_true rfl⟩) hS (fun q _ h => h) (fun q h => h) (fun u t H1 locs ht hvm _ hB hz1 hk1 hS => ?_)
          obtain ⟨f_42, hI, kc_44⟩ := hB
          rw [ht] at hI
          have k_45 : f_42 h0 = .inr (5, [.ref (gr g h0 0), .int x_9, .int x_10, .int x_11, .int x_12]) := Kp.at kc_44 i_h0 (by decide) k_36
          have kp_46 := Kp.call kp_37 kc_44 (by decide)
          generalize H1 = H at hI hS ⊢
          refine W.widen (k := 0) (n := 0) (Nat.le_of_ble_eq_true rfl) (Nat.le_of_ble_eq_true rfl) ?_
          obtain ⟨v_47, ev_47⟩ : ∃ y : Int32, y = y_1 + Int32.ofInt 1 := ⟨_, rfl⟩
          refine lv_iinc (v := v_47) (lv' := [(2, .int v_47), (0, .ref h0), (1, .ref p1)]) hx hb dX5_writeTo_47 hl (k := 0) rfl ev_47.symm (by decide) rfl (fun ls hl => ?_)
          have tv_47 := k_inc y_1
          rw [← ev_47] at tv_47
          refine lv_goto (tgt := 2) hx hb dX5_writeTo_50 (by decide) ?_
          exact ih v_47 f_42 _ _ _ (by omega) hI hS kp_46 (by first | omega | decide) (lv_sub hl [0, 1, 2] rfl)
        refine lv_if_le (tgt := 20) hx hb dX5_writeTo_11 (by decide) (fun c_48 => ?_) (fun c_48 => ?_)
        · have c_48 := kc_le rfl (by decide : Int32.toInt 0 = 0) c_48
          exact J_20 f_2 _ _ _ hI hS k_8 kp_3 (lv_sub hl [0, 1, 2] rfl)
        · have c_48 := kn_le rfl (by decide : Int32.toInt 0 = 0) c_48
          refine lv_aload_n hx hb dX5_writeTo_14 rfl (lv_at hl 2 rfl) ?_
          refine lv_bipush (v := 44) hx hb dX5_writeTo_15 (by decide) ?_
          obtain ⟨x_50, k_49⟩ := op_7 hI i_p1
          refine va_callv (va_runV (As := [.int 44]) (rest := []) ⟨hx, hb, hml, hown, hts⟩ (c_X7_add l dC dI g A hG f_2 p1 44 i_p1) (cwV 1 hts (gi_V (fun w_ h0_ => ⟨List.mem_cons_of_mem _ (List.mem_append_right _ (List.mem_append_right _ (List.mem_append_right _ (List.mem_append_right _ (List.mem_append_right _ (List.mem_append_left _ h0_)))))), (tb_c_X7_add w_ h0_).2⟩) (List.mem_cons_of_mem _ (List.mem_append_left _ (List.mem_of_getElem? (i := 11) rfl))) (List.mem_cons_of_mem _ (List.mem_append_left _ (List.mem_of_getElem? (i := 12) rfl))) (List.mem_cons_of_mem _ (List.mem_append_left _ (List.mem_of_getElem? (i := 13) rfl))) (List.mem_cons_of_mem _ (List.mem_append_left _ (List.mem_of_getElem? (i := 10) rfl)))) rfl rfl rfl (by decide +kernel) ⟨Nat.le_of_ble_eq_true rfl, Nat.le_of_ble_eq_true rfl⟩) ⟨fun a U g mk q => ⟨q.1, q.2.calling rfl rfl⟩, k_recv hK hI i_p1.1 k_49 (ci := 7) rfl, fun U hU hW => ⟨rfl, kIn.of hI hK hE hS hU hW⟩⟩ rfl rfl hl.1 rfl (lv_room (Nat.le_of_ble_eq_true rfl)) dX5_writeTo_17 ⟨Nat.le_of_ble_eq_true rfl, Nat.le_of_ble_eq_true rfl⟩) hS (fun q _ h => h) (fun q h => h) (fun u t H1 locs ht hvm _ hB hz1 hk1 hS => ?_)
          obtain ⟨f_51, hI, kc_53⟩ := hB
          rw [ht] at hI
          have k_54 : f_51 h0 = .inr (5, [.ref (gr g h0 0), .int x_9, .int x_10, .int x_11, .int x_12]) := Kp.at kc_53 i_h0 (by decide) k_8
          have kp_55 := Kp.call kp_3 kc_53 (by decide)
          generalize H1 = H at hI hS ⊢
          refine W.widen (k := 0) (n := 0) (Nat.le_of_ble_eq_true rfl) (Nat.le_of_ble_eq_true rfl) ?_
          exact J_20 f_51 _ _ _ hI hS k_54 kp_55 (lv_sub hl [0, 1, 2] rfl)
  exact K_2 _ 0 f _ _ _ (Nat.lt_succ_self _) hI hS hk0 (by first | omega | decide | (simp only [show Int32.toInt 0 = 0 from by decide]; omega)) (lv_sub hl [0, 1, 2] rfl)
theorem tw_311 : q_g (.code yX8_takeQuota cX8_takeQuota 3 none) := ⟨(List.mem_append_right _ (List.mem_of_getElem? (i := 474) (by decide +kernel))), good_of_word (by decide +kernel)⟩
def ow_c_X8_takeQuota : List Cond := [.fieldLink RX8 87 "DeadlineShare$Task" "quota" "I", .fieldLink RX8 90 "DeadlineShare$Task" "period" "I", .fieldLink RX8 84 "DeadlineShare$Task" "budget" "I"]
def wq_c_X8_takeQuota : List Cond := .code yX8_takeQuota cX8_takeQuota 3 none :: (ow_c_X8_takeQuota ++ (u_ws RX8 TX8 18 ++ ([] : List Cond)))
theorem tb_c_X8_takeQuota : ∀ w ∈ wq_c_X8_takeQuota, q_g w := by
  unfold wq_c_X8_takeQuota ow_c_X8_takeQuota
  exact q_cons tw_311 (q_app (q_cons tw_119 (q_cons tw_118 (q_cons tw_120 q_nil))) (q_app tu_X8 q_nil))
set_option maxHeartbeats 4000000 in
set_option maxRecDepth 100000 in
theorem c_X8_takeQuota (l : Launch) (dC : Nat → ClassId) (dI : Nat → Nat → Nat) (g : kG) (A : Nat → Prop) (hG : kWf g) (f : Nat → va_E) (h0 : Nat) (p1 : Int32) (p2 : Int32) (i_h0 : ik g 8 h0) : Met l yX8_takeQuota wq_c_X8_takeQuota ({ frames := 0, cells := 0, slots := 0, locals := 0 } : Room) (va_Pc [.ref h0, .int p1, .int p2] (fun U => kIn dC dI g A f U)) (va_Qv (fun (_ : Unit) => True) (fun (_ : Unit) t => ∃ f1 : Nat → va_E, Iv dC dI g A f1 t.heap ∧ Kp g [8] f f1) A) 0 0 A := by
  refine Met.ofW (cc := cX8_takeQuota) (maxL := 3) (ret := none) (by decide) rfl ?_
  intro p e s m args below meth c s₁ B hml hv
  obtain ⟨rfl, hI, hK, hE⟩ := hv
  have hx := B.exec
  have hb := B.bytes
  have hr := B.returns
  have hts := atoms_spec (ws := wq_c_X8_takeQuota) B.pre
  have hown : s.vm.findClass RX8 = some m.cls := findClass_of_methodNamed B.named
  have hlocks := B.notSynchronized
  have hS : va_S A s.heap s.heap [] := va_S.rf
  have hk0 : Kp g [8] f f := Kp.rf
  have hl := lv_entry ([.ref h0, .int p1, .int p2]) (n := 3) (Nat.le_of_ble_eq_true rfl)
  rw [lg_entry_eq]
  generalize (lg_sl ([.ref h0, .int p1, .int p2]) ++ List.replicate (3 - (lg_sl ([.ref h0, .int p1, .int p2])).length) Slot.unset).toArray = ls at hl ⊢
  have hl : lv_has ls 3 [(0, .ref h0), (1, .int p1), (2, .int p2)] := hl
  refine lv_aload_n hx hb dX8_takeQuota_0 rfl (lv_at hl 0 rfl) ?_
  refine lv_iload_n hx hb dX8_takeQuota_1 rfl (lv_at hl 1 rfl) ?_
  obtain ⟨x_2, x_3, x_4, x_5, x_6, x_7, x_8, x_9, x_10, x_11, x_12, x_13, x_14, x_15, x_16, x_17, k_1⟩ := op_8 hI i_h0
  refine k_put (ci := 8) (v := .int p1) (ty := .int) (C := RX8) (T := TX8) (N := 18) hx hb hts (fun _ h0_ => List.mem_cons_of_mem _ (List.mem_append_right _ (List.mem_append_left _ h0_))) tyX8 tyX8_ok nmX8 hown hK hI hS i_h0.1 k_1 rfl 16 (by decide) (hts (.fieldLink RX8 87 "DeadlineShare$Task" "quota" "I") (List.mem_cons_of_mem _ (List.mem_append_left _ (List.mem_of_getElem? (i := 0) rfl)))) (fun _ h9 => h9) rfl (by decide +kernel) rfl rfl (Nat.le_of_ble_eq_true rfl) rfl (cl_8 i_h0) dX8_takeQuota_2 (fun f_18 H locs e_19 hI hS => ?_)
  have k_21 : f_18 h0 = .inr (8, [.int x_2, .ref (gr g h0 1), .int x_3, .int x_4, .int x_5, .long x_6, .int x_7, .ref (gr g h0 7), .int x_8, .int x_9, .int x_10, .int x_11, .int x_12, .int x_13, .int x_14, .int x_15, .int p1, .int x_17]) := by rw [e_19]; exact va_up_self _ _ _
  have kp_20 := Kp.put hk0 i_h0 (by decide) e_19
  refine lv_aload_n hx hb dX8_takeQuota_5 rfl (lv_at hl 0 rfl) ?_
  refine lv_iload_n hx hb dX8_takeQuota_6 rfl (lv_at hl 1 rfl) ?_
  refine lv_if_le (tgt := 14) hx hb dX8_takeQuota_7 (by decide) (fun c_22 => ?_) (fun c_22 => ?_)
  · have c_22 := kc_le rfl (by decide : Int32.toInt 0 = 0) c_22
    refine lv_iconst (v := 0) hx hb dX8_takeQuota_14 (by decide) ?_
    refine k_put (ci := 8) (v := .int 0) (ty := .int) (C := RX8) (T := TX8) (N := 18) hx hb hts (fun _ h0_ => List.mem_cons_of_mem _ (List.mem_append_right _ (List.mem_append_left _ h0_))) tyX8 tyX8_ok nmX8 hown hK hI hS i_h0.1 k_21 rfl 17 (by decide) (hts (.fieldLink RX8 90 "DeadlineShare$Task" "period" "I") (List.mem_cons_of_mem _ (List.mem_append_left _ (List.mem_of_getElem? (i := 1) rfl)))) (fun _ h9 => h9) rfl (by decide +kernel) rfl rfl (Nat.le_of_ble_eq_true rfl) rfl (cl_8 i_h0) dX8_takeQuota_15 (fun f_23 H locs e_24 hI hS => ?_)
    have k_26 : f_23 h0 = .inr (8, [.int x_2, .ref (gr g h0 1), .int x_3, .int x_4, .int x_5, .long x_6, .int x_7, .ref (gr g h0 7), .int x_8, .int x_9, .int x_10, .int x_11, .int x_12, .int x_13, .int x_14, .int x_15, .int p1, .int 0]) := by rw [e_24]; exact va_up_self _ _ _
    have kp_25 := Kp.put kp_20 i_h0 (by decide) e_24
    refine lv_aload_n hx hb dX8_takeQuota_18 rfl (lv_at hl 0 rfl) ?_
    refine lv_iload_n hx hb dX8_takeQuota_19 rfl (lv_at hl 1 rfl) ?_
    refine lv_if_le (tgt := 27) hx hb dX8_takeQuota_20 (by decide) (fun c_27 => ?_) (fun c_27 => ?_)
    · have c_27 := kc_le rfl (by decide : Int32.toInt 0 = 0) c_27
      refine lv_iconst (v := (-1)) hx hb dX8_takeQuota_27 (by decide) ?_
      refine k_put (ci := 8) (v := .int (-1)) (ty := .int) (C := RX8) (T := TX8) (N := 18) hx hb hts (fun _ h0_ => List.mem_cons_of_mem _ (List.mem_append_right _ (List.mem_append_left _ h0_))) tyX8 tyX8_ok nmX8 hown hK hI hS i_h0.1 k_26 rfl 15 (by decide) (hts (.fieldLink RX8 84 "DeadlineShare$Task" "budget" "I") (List.mem_cons_of_mem _ (List.mem_append_left _ (List.mem_of_getElem? (i := 2) rfl)))) (fun _ h9 => h9) rfl (by decide +kernel) rfl rfl (Nat.le_of_ble_eq_true rfl) rfl (cl_8 i_h0) dX8_takeQuota_28 (fun f_28 H locs e_29 hI hS => ?_)
      have k_31 : f_28 h0 = .inr (8, [.int x_2, .ref (gr g h0 1), .int x_3, .int x_4, .int x_5, .long x_6, .int x_7, .ref (gr g h0 7), .int x_8, .int x_9, .int x_10, .int x_11, .int x_12, .int x_13, .int x_14, .int (-1), .int p1, .int 0]) := by rw [e_29]; exact va_up_self _ _ _
      have kp_30 := Kp.put kp_25 i_h0 (by decide) e_29
      exact W.vret hx hb hr (fun t ht hW => ⟨⟨(), rfl, trivial, ⟨f_28, k_ret ht hI, kp_30⟩⟩, hS.F ht⟩) hS.2.2 dX8_takeQuota_31
    · have c_27 := kn_le rfl (by decide : Int32.toInt 0 = 0) c_27
      refine lv_iload_n hx hb dX8_takeQuota_23 rfl (lv_at hl 1 rfl) ?_
      refine lv_goto (tgt := 28) hx hb dX8_takeQuota_24 (by decide) ?_
      refine k_put (ci := 8) (v := .int p1) (ty := .int) (C := RX8) (T := TX8) (N := 18) hx hb hts (fun _ h0_ => List.mem_cons_of_mem _ (List.mem_append_right _ (List.mem_append_left _ h0_))) tyX8 tyX8_ok nmX8 hown hK hI hS i_h0.1 k_26 rfl 15 (by decide) (hts (.fieldLink RX8 84 "DeadlineShare$Task" "budget" "I") (List.mem_cons_of_mem _ (List.mem_append_left _ (List.mem_of_getElem? (i := 2) rfl)))) (fun _ h9 => h9) rfl (by decide +kernel) rfl rfl (Nat.le_of_ble_eq_true rfl) rfl (cl_8 i_h0) dX8_takeQuota_28 (fun f_32 H locs e_33 hI hS => ?_)
      have k_35 : f_32 h0 = .inr (8, [.int x_2, .ref (gr g h0 1), .int x_3, .int x_4, .int x_5, .long x_6, .int x_7, .ref (gr g h0 7), .int x_8, .int x_9, .int x_10, .int x_11, .int x_12, .int x_13, .int x_14, .int p1, .int p1, .int 0]) := by rw [e_33]; exact va_up_self _ _ _
      have kp_34 := Kp.put kp_25 i_h0 (by decide) e_33
      exact W.vret hx hb hr (fun t ht hW => ⟨⟨(), rfl, trivial, ⟨f_32, k_ret ht hI, kp_34⟩⟩, hS.F ht⟩) hS.2.2 dX8_takeQuota_31
  · have c_22 := kn_le rfl (by decide : Int32.toInt 0 = 0) c_22
    refine lv_iload_n hx hb dX8_takeQuota_10 rfl (lv_at hl 2 rfl) ?_
    refine lv_goto (tgt := 15) hx hb dX8_takeQuota_11 (by decide) ?_
    refine k_put (ci := 8) (v := .int p2) (ty := .int) (C := RX8) (T := TX8) (N := 18) hx hb hts (fun _ h0_ => List.mem_cons_of_mem _ (List.mem_append_right _ (List.mem_append_left _ h0_))) tyX8 tyX8_ok nmX8 hown hK hI hS i_h0.1 k_21 rfl 17 (by decide) (hts (.fieldLink RX8 90 "DeadlineShare$Task" "period" "I") (List.mem_cons_of_mem _ (List.mem_append_left _ (List.mem_of_getElem? (i := 1) rfl)))) (fun _ h9 => h9) rfl (by decide +kernel) rfl rfl (Nat.le_of_ble_eq_true rfl) rfl (cl_8 i_h0) dX8_takeQuota_15 (fun f_36 H locs e_37 hI hS => ?_)
    have k_39 : f_36 h0 = .inr (8, [.int x_2, .ref (gr g h0 1), .int x_3, .int x_4, .int x_5, .long x_6, .int x_7, .ref (gr g h0 7), .int x_8, .int x_9, .int x_10, .int x_11, .int x_12, .int x_13, .int x_14, .int x_15, .int p1, .int p2]) := by rw [e_37]; exact va_up_self _ _ _
    have kp_38 := Kp.put kp_20 i_h0 (by decide) e_37
    refine lv_aload_n hx hb dX8_takeQuota_18 rfl (lv_at hl 0 rfl) ?_
    refine lv_iload_n hx hb dX8_takeQuota_19 rfl (lv_at hl 1 rfl) ?_
    refine lv_if_le (tgt := 27) hx hb dX8_takeQuota_20 (by decide) (fun c_40 => ?_) (fun c_40 => ?_)
    · have c_40 := kc_le rfl (by decide : Int32.toInt 0 = 0) c_40
      refine lv_iconst (v := (-1)) hx hb dX8_takeQuota_27 (by decide) ?_
      refine k_put (ci := 8) (v := .int (-1)) (ty := .int) (C := RX8) (T := TX8) (N := 18) hx hb hts (fun _ h0_ => List.mem_cons_of_mem _ (List.mem_append_right _ (List.mem_append_left _ h0_))) tyX8 tyX8_ok nmX8 hown hK hI hS i_h0.1 k_39 rfl 15 (by decide) (hts (.fieldLink RX8 84 "DeadlineShare$Task" "budget" "I") (List.mem_cons_of_mem _ (List.mem_append_left _ (List.mem_of_getElem? (i := 2) rfl)))) (fun _ h9 => h9) rfl (by decide +kernel) rfl rfl (Nat.le_of_ble_eq_true rfl) rfl (cl_8 i_h0) dX8_takeQuota_28 (fun f_41 H locs e_42 hI hS => ?_)
      have k_44 : f_41 h0 = .inr (8, [.int x_2, .ref (gr g h0 1), .int x_3, .int x_4, .int x_5, .long x_6, .int x_7, .ref (gr g h0 7), .int x_8, .int x_9, .int x_10, .int x_11, .int x_12, .int x_13, .int x_14, .int (-1), .int p1, .int p2]) := by rw [e_42]; exact va_up_self _ _ _
      have kp_43 := Kp.put kp_38 i_h0 (by decide) e_42
      exact W.vret hx hb hr (fun t ht hW => ⟨⟨(), rfl, trivial, ⟨f_41, k_ret ht hI, kp_43⟩⟩, hS.F ht⟩) hS.2.2 dX8_takeQuota_31
    · have c_40 := kn_le rfl (by decide : Int32.toInt 0 = 0) c_40
      refine lv_iload_n hx hb dX8_takeQuota_23 rfl (lv_at hl 1 rfl) ?_
      refine lv_goto (tgt := 28) hx hb dX8_takeQuota_24 (by decide) ?_
      refine k_put (ci := 8) (v := .int p1) (ty := .int) (C := RX8) (T := TX8) (N := 18) hx hb hts (fun _ h0_ => List.mem_cons_of_mem _ (List.mem_append_right _ (List.mem_append_left _ h0_))) tyX8 tyX8_ok nmX8 hown hK hI hS i_h0.1 k_39 rfl 15 (by decide) (hts (.fieldLink RX8 84 "DeadlineShare$Task" "budget" "I") (List.mem_cons_of_mem _ (List.mem_append_left _ (List.mem_of_getElem? (i := 2) rfl)))) (fun _ h9 => h9) rfl (by decide +kernel) rfl rfl (Nat.le_of_ble_eq_true rfl) rfl (cl_8 i_h0) dX8_takeQuota_28 (fun f_45 H locs e_46 hI hS => ?_)
      have k_48 : f_45 h0 = .inr (8, [.int x_2, .ref (gr g h0 1), .int x_3, .int x_4, .int x_5, .long x_6, .int x_7, .ref (gr g h0 7), .int x_8, .int x_9, .int x_10, .int x_11, .int x_12, .int x_13, .int x_14, .int p1, .int p1, .int p2]) := by rw [e_46]; exact va_up_self _ _ _
      have kp_47 := Kp.put kp_38 i_h0 (by decide) e_46
      exact W.vret hx hb hr (fun t ht hW => ⟨⟨(), rfl, trivial, ⟨f_45, k_ret ht hI, kp_47⟩⟩, hS.F ht⟩) hS.2.2 dX8_takeQuota_31
theorem tw_312 : q_g (.selects RX8 yX8_takeQuota yX8_takeQuota) := ⟨(List.mem_append_right _ (List.mem_of_getElem? (i := 473) (by decide +kernel))), good_of_word (by decide +kernel)⟩
theorem tw_313 : q_g (.instanceMethod yX8_takeQuota) := ⟨(List.mem_append_right _ (List.mem_of_getElem? (i := 472) (by decide +kernel))), good_of_word (by decide +kernel)⟩
theorem tw_314 : q_g (.methodLink RX8 73 yX8_takeQuota) := ⟨(List.mem_append_right _ (List.mem_of_getElem? (i := 471) (by decide +kernel))), good_of_word (by decide +kernel)⟩
theorem tw_315 : q_g (.methodLink RX8 48 yX10_set) := ⟨(List.mem_append_right _ (List.mem_of_getElem? (i := 466) (by decide +kernel))), good_of_word (by decide +kernel)⟩
theorem tw_316 : q_g (.methodLink RX8 29 yX5_drop) := ⟨(List.mem_append_right _ (List.mem_of_getElem? (i := 462) (by decide +kernel))), good_of_word (by decide +kernel)⟩
theorem tw_317 : q_g (.code yX8_startAnew cX8_startAnew 3 none) := ⟨(List.mem_append_right _ (List.mem_of_getElem? (i := 461) (by decide +kernel))), good_of_word (by decide +kernel)⟩
def ow_c_X8_startAnew : List Cond := [.fieldLink RX8 12 "DeadlineShare$Task" "script" "LDeadlineShare$Script;", .methodLink RX8 29 yX5_drop, .instanceMethod yX5_drop, .selects RX5 yX5_drop yX5_drop, .initialized RX5, .fieldLink RX8 32 "DeadlineShare$Task" "weight" "I", .fieldLink RX8 35 "DeadlineShare$Task" "slice" "I", .fieldLink RX8 38 "DeadlineShare$Task" "state" "I", .fieldLink RX8 41 "DeadlineShare$Task" "v" "J", .fieldLink RX8 45 "DeadlineShare$Task" "left" "I", .fieldLink RX8 21 "DeadlineShare$Task" "lag" "LDeadlineShare$Wide;", .methodLink RX8 48 yX10_set, .instanceMethod yX10_set, .selects RX10 yX10_set yX10_set, .initialized RX10, .fieldLink RX8 52 "DeadlineShare$Task" "lagWeight" "I", .fieldLink RX8 55 "DeadlineShare$Task" "served" "I", .fieldLink RX8 58 "DeadlineShare$Task" "requests" "I", .fieldLink RX8 61 "DeadlineShare$Task" "late" "I", .fieldLink RX8 64 "DeadlineShare$Task" "wait" "I", .fieldLink RX8 67 "DeadlineShare$Task" "longest" "I", .fieldLink RX8 70 "DeadlineShare$Task" "napTill" "I", .methodLink RX8 73 yX8_takeQuota, .instanceMethod yX8_takeQuota, .selects RX8 yX8_takeQuota yX8_takeQuota, .initialized RX8]
def wq_c_X8_startAnew : List Cond := .code yX8_startAnew cX8_startAnew 3 none :: (ow_c_X8_startAnew ++ (u_ws RX8 TX8 18 ++ (wq_c_X5_drop ++ (wq_c_X10_set ++ (wq_c_X8_takeQuota ++ ([] : List Cond))))))
theorem tb_c_X8_startAnew : ∀ w ∈ wq_c_X8_startAnew, q_g w := by
  unfold wq_c_X8_startAnew ow_c_X8_startAnew
  exact q_cons tw_317 (q_app (q_cons tw_137 (q_cons tw_316 (q_cons tw_269 (q_cons tw_268 (q_cons tw_133 (q_cons tw_57 (q_cons tw_132 (q_cons tw_5 (q_cons tw_59 (q_cons tw_58 (q_cons tw_131 (q_cons tw_315 (q_cons tw_28 (q_cons tw_27 (q_cons tw_26 (q_cons tw_127 (q_cons tw_126 (q_cons tw_125 (q_cons tw_124 (q_cons tw_123 (q_cons tw_122 (q_cons tw_121 (q_cons tw_314 (q_cons tw_313 (q_cons tw_312 (q_cons tw_8 q_nil)))))))))))))))))))))))))) (q_app tu_X8 (q_app tb_c_X5_drop (q_app tb_c_X10_set (q_app tb_c_X8_takeQuota q_nil)))))
set_option maxHeartbeats 4000000 in
set_option maxRecDepth 100000 in
theorem c_X8_startAnew (l : Launch) (dC : Nat → ClassId) (dI : Nat → Nat → Nat) (g : kG) (A : Nat → Prop) (hG : kWf g) (f : Nat → va_E) (h0 : Nat) (p1 : Int32) (p2 : Int32) (i_h0 : ik g 8 h0) : Met l yX8_startAnew wq_c_X8_startAnew ({ frames := 1, cells := 0, slots := 0, locals := 22 } : Room) (va_Pc [.ref h0, .int p1, .int p2] (fun U => kIn dC dI g A f U)) (va_Qv (fun (_ : Unit) => True) (fun (_ : Unit) t => ∃ f1 : Nat → va_E, Iv dC dI g A f1 t.heap ∧ Kp g [5, 8, 10] f f1) A) 0 0 A := by
  refine Met.ofW (cc := cX8_startAnew) (maxL := 3) (ret := none) (by decide) rfl ?_
  intro p e s m args below meth c s₁ B hml hv
  obtain ⟨rfl, hI, hK, hE⟩ := hv
  have hx := B.exec
  have hb := B.bytes
  have hr := B.returns
  have hts := atoms_spec (ws := wq_c_X8_startAnew) B.pre
  have hown : s.vm.findClass RX8 = some m.cls := findClass_of_methodNamed B.named
  have hlocks := B.notSynchronized
  have hS : va_S A s.heap s.heap [] := va_S.rf
  have hk0 : Kp g [5, 8, 10] f f := Kp.rf
  have hl := lv_entry ([.ref h0, .int p1, .int p2]) (n := 3) (Nat.le_of_ble_eq_true rfl)
  rw [lg_entry_eq]
  generalize (lg_sl ([.ref h0, .int p1, .int p2]) ++ List.replicate (3 - (lg_sl ([.ref h0, .int p1, .int p2])).length) Slot.unset).toArray = ls at hl ⊢
  have hl : lv_has ls 3 [(0, .ref h0), (1, .int p1), (2, .int p2)] := hl
  refine lv_aload_n hx hb dX8_startAnew_0 rfl (lv_at hl 0 rfl) ?_
  obtain ⟨x_2, x_3, x_4, x_5, x_6, x_7, x_8, x_9, x_10, x_11, x_12, x_13, x_14, x_15, x_16, x_17, k_1⟩ := op_8 hI i_h0
  refine k_get (ci := 8) (v := .ref (gr g h0 1)) (C := RX8) (T := TX8) (N := 18) hx hb hts (fun _ h0_ => List.mem_cons_of_mem _ (List.mem_append_right _ (List.mem_append_left _ h0_))) hown hK hI i_h0.1 k_1 rfl 1 (by decide) (hts (.fieldLink RX8 12 "DeadlineShare$Task" "script" "LDeadlineShare$Script;") (List.mem_cons_of_mem _ (List.mem_append_left _ (List.mem_of_getElem? (i := 0) rfl)))) (fun _ h9 => h9) rfl dX8_startAnew_1 ?_
  have i_19 := kw_8_1 hG i_h0
  obtain ⟨x_21, x_22, x_23, x_24, k_20, b_25, b_26⟩ := op_5 hI i_19
  refine va_callv (va_runV (As := []) (rest := []) ⟨hx, hb, hml, hown, hts⟩ (c_X5_drop l dC dI g A hG f (gr g h0 1) i_19) (cwV 0 hts (gi_V (fun w_ h0_ => ⟨List.mem_cons_of_mem _ (List.mem_append_right _ (List.mem_append_right _ (List.mem_append_left _ h0_))), (tb_c_X5_drop w_ h0_).2⟩) (List.mem_cons_of_mem _ (List.mem_append_left _ (List.mem_of_getElem? (i := 1) rfl))) (List.mem_cons_of_mem _ (List.mem_append_left _ (List.mem_of_getElem? (i := 2) rfl))) (List.mem_cons_of_mem _ (List.mem_append_left _ (List.mem_of_getElem? (i := 3) rfl))) (List.mem_cons_of_mem _ (List.mem_append_left _ (List.mem_of_getElem? (i := 4) rfl)))) rfl rfl rfl (by decide +kernel) ⟨Nat.le_of_ble_eq_true rfl, Nat.le_of_ble_eq_true rfl⟩) ⟨fun a U g mk q => ⟨q.1, q.2.calling rfl rfl⟩, k_recv hK hI i_19.1 k_20 (ci := 5) rfl, fun U hU hW => ⟨rfl, kIn.of hI hK hE hS hU hW⟩⟩ rfl rfl hl.1 rfl (lv_room (Nat.le_of_ble_eq_true rfl)) dX8_startAnew_4 ⟨Nat.le_of_ble_eq_true rfl, Nat.le_of_ble_eq_true rfl⟩) hS (fun q _ h => h) (fun q h => h) (fun u t H1 locs ht hvm _ hB hz1 hk1 hS => ?_)
  obtain ⟨f_27, hI, kc_29⟩ := hB
  rw [ht] at hI
  have k_30 : f_27 h0 = .inr (8, [.int x_2, .ref (gr g h0 1), .int x_3, .int x_4, .int x_5, .long x_6, .int x_7, .ref (gr g h0 7), .int x_8, .int x_9, .int x_10, .int x_11, .int x_12, .int x_13, .int x_14, .int x_15, .int x_16, .int x_17]) := Kp.at kc_29 i_h0 (by decide) k_1
  have kp_31 := Kp.call hk0 kc_29 (by decide)
  generalize H1 = H at hI hS ⊢
  refine W.widen (k := 0) (n := 0) (Nat.le_of_ble_eq_true rfl) (Nat.le_of_ble_eq_true rfl) ?_
  refine lv_aload_n hx hb dX8_startAnew_7 rfl (lv_at hl 0 rfl) ?_
  refine lv_iload_n hx hb dX8_startAnew_8 rfl (lv_at hl 1 rfl) ?_
  refine k_put (ci := 8) (v := .int p1) (ty := .int) (C := RX8) (T := TX8) (N := 18) hx hb hts (fun _ h0_ => List.mem_cons_of_mem _ (List.mem_append_right _ (List.mem_append_left _ h0_))) tyX8 tyX8_ok nmX8 hown hK hI hS i_h0.1 k_30 rfl 2 (by decide) (hts (.fieldLink RX8 32 "DeadlineShare$Task" "weight" "I") (List.mem_cons_of_mem _ (List.mem_append_left _ (List.mem_of_getElem? (i := 5) rfl)))) (fun _ h9 => h9) rfl (by decide +kernel) rfl rfl (Nat.le_of_ble_eq_true rfl) rfl (cl_8 i_h0) dX8_startAnew_9 (fun f_32 H locs e_33 hI hS => ?_)
  have k_35 : f_32 h0 = .inr (8, [.int x_2, .ref (gr g h0 1), .int p1, .int x_4, .int x_5, .long x_6, .int x_7, .ref (gr g h0 7), .int x_8, .int x_9, .int x_10, .int x_11, .int x_12, .int x_13, .int x_14, .int x_15, .int x_16, .int x_17]) := by rw [e_33]; exact va_up_self _ _ _
  have kp_34 := Kp.put kp_31 i_h0 (by decide) e_33
  refine lv_aload_n hx hb dX8_startAnew_12 rfl (lv_at hl 0 rfl) ?_
  refine lv_iload_n hx hb dX8_startAnew_13 rfl (lv_at hl 2 rfl) ?_
  refine k_put (ci := 8) (v := .int p2) (ty := .int) (C := RX8) (T := TX8) (N := 18) hx hb hts (fun _ h0_ => List.mem_cons_of_mem _ (List.mem_append_right _ (List.mem_append_left _ h0_))) tyX8 tyX8_ok nmX8 hown hK hI hS i_h0.1 k_35 rfl 3 (by decide) (hts (.fieldLink RX8 35 "DeadlineShare$Task" "slice" "I") (List.mem_cons_of_mem _ (List.mem_append_left _ (List.mem_of_getElem? (i := 6) rfl)))) (fun _ h9 => h9) rfl (by decide +kernel) rfl rfl (Nat.le_of_ble_eq_true rfl) rfl (cl_8 i_h0) dX8_startAnew_14 (fun f_36 H locs e_37 hI hS => ?_)
  have k_39 : f_36 h0 = .inr (8, [.int x_2, .ref (gr g h0 1), .int p1, .int p2, .int x_5, .long x_6, .int x_7, .ref (gr g h0 7), .int x_8, .int x_9, .int x_10, .int x_11, .int x_12, .int x_13, .int x_14, .int x_15, .int x_16, .int x_17]) := by rw [e_37]; exact va_up_self _ _ _
  have kp_38 := Kp.put kp_34 i_h0 (by decide) e_37
  refine lv_aload_n hx hb dX8_startAnew_17 rfl (lv_at hl 0 rfl) ?_
  refine lv_iconst (v := 0) hx hb dX8_startAnew_18 (by decide) ?_
  refine k_put (ci := 8) (v := .int 0) (ty := .int) (C := RX8) (T := TX8) (N := 18) hx hb hts (fun _ h0_ => List.mem_cons_of_mem _ (List.mem_append_right _ (List.mem_append_left _ h0_))) tyX8 tyX8_ok nmX8 hown hK hI hS i_h0.1 k_39 rfl 4 (by decide) (hts (.fieldLink RX8 38 "DeadlineShare$Task" "state" "I") (List.mem_cons_of_mem _ (List.mem_append_left _ (List.mem_of_getElem? (i := 7) rfl)))) (fun _ h9 => h9) rfl (by decide +kernel) rfl rfl (Nat.le_of_ble_eq_true rfl) rfl (cl_8 i_h0) dX8_startAnew_19 (fun f_40 H locs e_41 hI hS => ?_)
  have k_43 : f_40 h0 = .inr (8, [.int x_2, .ref (gr g h0 1), .int p1, .int p2, .int 0, .long x_6, .int x_7, .ref (gr g h0 7), .int x_8, .int x_9, .int x_10, .int x_11, .int x_12, .int x_13, .int x_14, .int x_15, .int x_16, .int x_17]) := by rw [e_41]; exact va_up_self _ _ _
  have kp_42 := Kp.put kp_38 i_h0 (by decide) e_41
  refine lv_aload_n hx hb dX8_startAnew_22 rfl (lv_at hl 0 rfl) ?_
  refine lv_lconst (v := 0) hx hb dX8_startAnew_23 (by decide) ?_
  refine k_put (ci := 8) (v := .long 0) (ty := .long) (C := RX8) (T := TX8) (N := 18) hx hb hts (fun _ h0_ => List.mem_cons_of_mem _ (List.mem_append_right _ (List.mem_append_left _ h0_))) tyX8 tyX8_ok nmX8 hown hK hI hS i_h0.1 k_43 rfl 5 (by decide) (hts (.fieldLink RX8 41 "DeadlineShare$Task" "v" "J") (List.mem_cons_of_mem _ (List.mem_append_left _ (List.mem_of_getElem? (i := 8) rfl)))) (fun _ h9 => h9) rfl (by decide +kernel) rfl rfl (Nat.le_of_ble_eq_true rfl) rfl (cl_8 i_h0) dX8_startAnew_24 (fun f_44 H locs e_45 hI hS => ?_)
  have k_47 : f_44 h0 = .inr (8, [.int x_2, .ref (gr g h0 1), .int p1, .int p2, .int 0, .long 0, .int x_7, .ref (gr g h0 7), .int x_8, .int x_9, .int x_10, .int x_11, .int x_12, .int x_13, .int x_14, .int x_15, .int x_16, .int x_17]) := by rw [e_45]; exact va_up_self _ _ _
  have kp_46 := Kp.put kp_42 i_h0 (by decide) e_45
  refine lv_aload_n hx hb dX8_startAnew_27 rfl (lv_at hl 0 rfl) ?_
  refine lv_iconst (v := 0) hx hb dX8_startAnew_28 (by decide) ?_
  refine k_put (ci := 8) (v := .int 0) (ty := .int) (C := RX8) (T := TX8) (N := 18) hx hb hts (fun _ h0_ => List.mem_cons_of_mem _ (List.mem_append_right _ (List.mem_append_left _ h0_))) tyX8 tyX8_ok nmX8 hown hK hI hS i_h0.1 k_47 rfl 6 (by decide) (hts (.fieldLink RX8 45 "DeadlineShare$Task" "left" "I") (List.mem_cons_of_mem _ (List.mem_append_left _ (List.mem_of_getElem? (i := 9) rfl)))) (fun _ h9 => h9) rfl (by decide +kernel) rfl rfl (Nat.le_of_ble_eq_true rfl) rfl (cl_8 i_h0) dX8_startAnew_29 (fun f_48 H locs e_49 hI hS => ?_)
  have k_51 : f_48 h0 = .inr (8, [.int x_2, .ref (gr g h0 1), .int p1, .int p2, .int 0, .long 0, .int 0, .ref (gr g h0 7), .int x_8, .int x_9, .int x_10, .int x_11, .int x_12, .int x_13, .int x_14, .int x_15, .int x_16, .int x_17]) := by rw [e_49]; exact va_up_self _ _ _
  have kp_50 := Kp.put kp_46 i_h0 (by decide) e_49
  refine lv_aload_n hx hb dX8_startAnew_32 rfl (lv_at hl 0 rfl) ?_
  refine k_get (ci := 8) (v := .ref (gr g h0 7)) (C := RX8) (T := TX8) (N := 18) hx hb hts (fun _ h0_ => List.mem_cons_of_mem _ (List.mem_append_right _ (List.mem_append_left _ h0_))) hown hK hI i_h0.1 k_51 rfl 7 (by decide) (hts (.fieldLink RX8 21 "DeadlineShare$Task" "lag" "LDeadlineShare$Wide;") (List.mem_cons_of_mem _ (List.mem_append_left _ (List.mem_of_getElem? (i := 10) rfl)))) (fun _ h9 => h9) rfl dX8_startAnew_33 ?_
  have i_53 := kw_8_7 hG i_h0
  refine lv_lconst (v := 0) hx hb dX8_startAnew_36 (by decide) ?_
  obtain ⟨x_55, x_56, k_54⟩ := op_10 hI i_53
  refine va_callv (va_runV (As := [.long 0]) (rest := []) ⟨hx, hb, hml, hown, hts⟩ (c_X10_set l dC dI g A hG f_48 (gr g h0 7) 0 i_53) (cwV 1 hts (gi_V (fun w_ h0_ => ⟨List.mem_cons_of_mem _ (List.mem_append_right _ (List.mem_append_right _ (List.mem_append_right _ (List.mem_append_left _ h0_)))), (tb_c_X10_set w_ h0_).2⟩) (List.mem_cons_of_mem _ (List.mem_append_left _ (List.mem_of_getElem? (i := 11) rfl))) (List.mem_cons_of_mem _ (List.mem_append_left _ (List.mem_of_getElem? (i := 12) rfl))) (List.mem_cons_of_mem _ (List.mem_append_left _ (List.mem_of_getElem? (i := 13) rfl))) (List.mem_cons_of_mem _ (List.mem_append_left _ (List.mem_of_getElem? (i := 14) rfl)))) rfl rfl rfl (by decide +kernel) ⟨Nat.le_of_ble_eq_true rfl, Nat.le_of_ble_eq_true rfl⟩) ⟨fun a U g mk q => ⟨q.1, q.2.calling rfl rfl⟩, k_recv hK hI i_53.1 k_54 (ci := 10) rfl, fun U hU hW => ⟨rfl, kIn.of hI hK hE hS hU hW⟩⟩ rfl rfl hl.1 rfl (lv_room (Nat.le_of_ble_eq_true rfl)) dX8_startAnew_37 ⟨Nat.le_of_ble_eq_true rfl, Nat.le_of_ble_eq_true rfl⟩) hS (fun q _ h => h) (fun q h => h) (fun u t H1 locs ht hvm _ hB hz1 hk1 hS => ?_)
  obtain ⟨f_57, hI, kc_59⟩ := hB
  rw [ht] at hI
  have k_60 : f_57 h0 = .inr (8, [.int x_2, .ref (gr g h0 1), .int p1, .int p2, .int 0, .long 0, .int 0, .ref (gr g h0 7), .int x_8, .int x_9, .int x_10, .int x_11, .int x_12, .int x_13, .int x_14, .int x_15, .int x_16, .int x_17]) := Kp.at kc_59 i_h0 (by decide) k_51
  have kp_61 := Kp.call kp_50 kc_59 (by decide)
  generalize H1 = H at hI hS ⊢
  refine W.widen (k := 0) (n := 0) (Nat.le_of_ble_eq_true rfl) (Nat.le_of_ble_eq_true rfl) ?_
  refine lv_aload_n hx hb dX8_startAnew_40 rfl (lv_at hl 0 rfl) ?_
  refine lv_iconst (v := 1) hx hb dX8_startAnew_41 (by decide) ?_
  refine k_put (ci := 8) (v := .int 1) (ty := .int) (C := RX8) (T := TX8) (N := 18) hx hb hts (fun _ h0_ => List.mem_cons_of_mem _ (List.mem_append_right _ (List.mem_append_left _ h0_))) tyX8 tyX8_ok nmX8 hown hK hI hS i_h0.1 k_60 rfl 8 (by decide) (hts (.fieldLink RX8 52 "DeadlineShare$Task" "lagWeight" "I") (List.mem_cons_of_mem _ (List.mem_append_left _ (List.mem_of_getElem? (i := 15) rfl)))) (fun _ h9 => h9) rfl (by decide +kernel) rfl rfl (Nat.le_of_ble_eq_true rfl) rfl (cl_8 i_h0) dX8_startAnew_42 (fun f_62 H locs e_63 hI hS => ?_)
  have k_65 : f_62 h0 = .inr (8, [.int x_2, .ref (gr g h0 1), .int p1, .int p2, .int 0, .long 0, .int 0, .ref (gr g h0 7), .int 1, .int x_9, .int x_10, .int x_11, .int x_12, .int x_13, .int x_14, .int x_15, .int x_16, .int x_17]) := by rw [e_63]; exact va_up_self _ _ _
  have kp_64 := Kp.put kp_61 i_h0 (by decide) e_63
  refine lv_aload_n hx hb dX8_startAnew_45 rfl (lv_at hl 0 rfl) ?_
  refine lv_iconst (v := 0) hx hb dX8_startAnew_46 (by decide) ?_
  refine k_put (ci := 8) (v := .int 0) (ty := .int) (C := RX8) (T := TX8) (N := 18) hx hb hts (fun _ h0_ => List.mem_cons_of_mem _ (List.mem_append_right _ (List.mem_append_left _ h0_))) tyX8 tyX8_ok nmX8 hown hK hI hS i_h0.1 k_65 rfl 9 (by decide) (hts (.fieldLink RX8 55 "DeadlineShare$Task" "served" "I") (List.mem_cons_of_mem _ (List.mem_append_left _ (List.mem_of_getElem? (i := 16) rfl)))) (fun _ h9 => h9) rfl (by decide +kernel) rfl rfl (Nat.le_of_ble_eq_true rfl) rfl (cl_8 i_h0) dX8_startAnew_47 (fun f_66 H locs e_67 hI hS => ?_)
  have k_69 : f_66 h0 = .inr (8, [.int x_2, .ref (gr g h0 1), .int p1, .int p2, .int 0, .long 0, .int 0, .ref (gr g h0 7), .int 1, .int 0, .int x_10, .int x_11, .int x_12, .int x_13, .int x_14, .int x_15, .int x_16, .int x_17]) := by rw [e_67]; exact va_up_self _ _ _
  have kp_68 := Kp.put kp_64 i_h0 (by decide) e_67
  refine lv_aload_n hx hb dX8_startAnew_50 rfl (lv_at hl 0 rfl) ?_
  refine lv_iconst (v := 0) hx hb dX8_startAnew_51 (by decide) ?_
  refine k_put (ci := 8) (v := .int 0) (ty := .int) (C := RX8) (T := TX8) (N := 18) hx hb hts (fun _ h0_ => List.mem_cons_of_mem _ (List.mem_append_right _ (List.mem_append_left _ h0_))) tyX8 tyX8_ok nmX8 hown hK hI hS i_h0.1 k_69 rfl 10 (by decide) (hts (.fieldLink RX8 58 "DeadlineShare$Task" "requests" "I") (List.mem_cons_of_mem _ (List.mem_append_left _ (List.mem_of_getElem? (i := 17) rfl)))) (fun _ h9 => h9) rfl (by decide +kernel) rfl rfl (Nat.le_of_ble_eq_true rfl) rfl (cl_8 i_h0) dX8_startAnew_52 (fun f_70 H locs e_71 hI hS => ?_)
  have k_73 : f_70 h0 = .inr (8, [.int x_2, .ref (gr g h0 1), .int p1, .int p2, .int 0, .long 0, .int 0, .ref (gr g h0 7), .int 1, .int 0, .int 0, .int x_11, .int x_12, .int x_13, .int x_14, .int x_15, .int x_16, .int x_17]) := by rw [e_71]; exact va_up_self _ _ _
  have kp_72 := Kp.put kp_68 i_h0 (by decide) e_71
  refine lv_aload_n hx hb dX8_startAnew_55 rfl (lv_at hl 0 rfl) ?_
  refine lv_iconst (v := 0) hx hb dX8_startAnew_56 (by decide) ?_
  refine k_put (ci := 8) (v := .int 0) (ty := .int) (C := RX8) (T := TX8) (N := 18) hx hb hts (fun _ h0_ => List.mem_cons_of_mem _ (List.mem_append_right _ (List.mem_append_left _ h0_))) tyX8 tyX8_ok nmX8 hown hK hI hS i_h0.1 k_73 rfl 11 (by decide) (hts (.fieldLink RX8 61 "DeadlineShare$Task" "late" "I") (List.mem_cons_of_mem _ (List.mem_append_left _ (List.mem_of_getElem? (i := 18) rfl)))) (fun _ h9 => h9) rfl (by decide +kernel) rfl rfl (Nat.le_of_ble_eq_true rfl) rfl (cl_8 i_h0) dX8_startAnew_57 (fun f_74 H locs e_75 hI hS => ?_)
  have k_77 : f_74 h0 = .inr (8, [.int x_2, .ref (gr g h0 1), .int p1, .int p2, .int 0, .long 0, .int 0, .ref (gr g h0 7), .int 1, .int 0, .int 0, .int 0, .int x_12, .int x_13, .int x_14, .int x_15, .int x_16, .int x_17]) := by rw [e_75]; exact va_up_self _ _ _
  have kp_76 := Kp.put kp_72 i_h0 (by decide) e_75
  refine lv_aload_n hx hb dX8_startAnew_60 rfl (lv_at hl 0 rfl) ?_
  refine lv_iconst (v := 0) hx hb dX8_startAnew_61 (by decide) ?_
  refine k_put (ci := 8) (v := .int 0) (ty := .int) (C := RX8) (T := TX8) (N := 18) hx hb hts (fun _ h0_ => List.mem_cons_of_mem _ (List.mem_append_right _ (List.mem_append_left _ h0_))) tyX8 tyX8_ok nmX8 hown hK hI hS i_h0.1 k_77 rfl 12 (by decide) (hts (.fieldLink RX8 64 "DeadlineShare$Task" "wait" "I") (List.mem_cons_of_mem _ (List.mem_append_left _ (List.mem_of_getElem? (i := 19) rfl)))) (fun _ h9 => h9) rfl (by decide +kernel) rfl rfl (Nat.le_of_ble_eq_true rfl) rfl (cl_8 i_h0) dX8_startAnew_62 (fun f_78 H locs e_79 hI hS => ?_)
  have k_81 : f_78 h0 = .inr (8, [.int x_2, .ref (gr g h0 1), .int p1, .int p2, .int 0, .long 0, .int 0, .ref (gr g h0 7), .int 1, .int 0, .int 0, .int 0, .int 0, .int x_13, .int x_14, .int x_15, .int x_16, .int x_17]) := by rw [e_79]; exact va_up_self _ _ _
  have kp_80 := Kp.put kp_76 i_h0 (by decide) e_79
  refine lv_aload_n hx hb dX8_startAnew_65 rfl (lv_at hl 0 rfl) ?_
  refine lv_iconst (v := 0) hx hb dX8_startAnew_66 (by decide) ?_
  refine k_put (ci := 8) (v := .int 0) (ty := .int) (C := RX8) (T := TX8) (N := 18) hx hb hts (fun _ h0_ => List.mem_cons_of_mem _ (List.mem_append_right _ (List.mem_append_left _ h0_))) tyX8 tyX8_ok nmX8 hown hK hI hS i_h0.1 k_81 rfl 13 (by decide) (hts (.fieldLink RX8 67 "DeadlineShare$Task" "longest" "I") (List.mem_cons_of_mem _ (List.mem_append_left _ (List.mem_of_getElem? (i := 20) rfl)))) (fun _ h9 => h9) rfl (by decide +kernel) rfl rfl (Nat.le_of_ble_eq_true rfl) rfl (cl_8 i_h0) dX8_startAnew_67 (fun f_82 H locs e_83 hI hS => ?_)
  have k_85 : f_82 h0 = .inr (8, [.int x_2, .ref (gr g h0 1), .int p1, .int p2, .int 0, .long 0, .int 0, .ref (gr g h0 7), .int 1, .int 0, .int 0, .int 0, .int 0, .int 0, .int x_14, .int x_15, .int x_16, .int x_17]) := by rw [e_83]; exact va_up_self _ _ _
  have kp_84 := Kp.put kp_80 i_h0 (by decide) e_83
  refine lv_aload_n hx hb dX8_startAnew_70 rfl (lv_at hl 0 rfl) ?_
  refine lv_iconst (v := 0) hx hb dX8_startAnew_71 (by decide) ?_
  refine k_put (ci := 8) (v := .int 0) (ty := .int) (C := RX8) (T := TX8) (N := 18) hx hb hts (fun _ h0_ => List.mem_cons_of_mem _ (List.mem_append_right _ (List.mem_append_left _ h0_))) tyX8 tyX8_ok nmX8 hown hK hI hS i_h0.1 k_85 rfl 14 (by decide) (hts (.fieldLink RX8 70 "DeadlineShare$Task" "napTill" "I") (List.mem_cons_of_mem _ (List.mem_append_left _ (List.mem_of_getElem? (i := 21) rfl)))) (fun _ h9 => h9) rfl (by decide +kernel) rfl rfl (Nat.le_of_ble_eq_true rfl) rfl (cl_8 i_h0) dX8_startAnew_72 (fun f_86 H locs e_87 hI hS => ?_)
  have k_89 : f_86 h0 = .inr (8, [.int x_2, .ref (gr g h0 1), .int p1, .int p2, .int 0, .long 0, .int 0, .ref (gr g h0 7), .int 1, .int 0, .int 0, .int 0, .int 0, .int 0, .int 0, .int x_15, .int x_16, .int x_17]) := by rw [e_87]; exact va_up_self _ _ _
  have kp_88 := Kp.put kp_84 i_h0 (by decide) e_87
  refine lv_aload_n hx hb dX8_startAnew_75 rfl (lv_at hl 0 rfl) ?_
  refine lv_iconst (v := 0) hx hb dX8_startAnew_76 (by decide) ?_
  refine lv_iconst (v := 0) hx hb dX8_startAnew_77 (by decide) ?_
  refine va_callv (va_runV (As := [.int 0, .int 0]) (rest := []) ⟨hx, hb, hml, hown, hts⟩ (c_X8_takeQuota l dC dI g A hG f_86 h0 0 0 i_h0) (cwV 2 hts (gi_V (fun w_ h0_ => ⟨List.mem_cons_of_mem _ (List.mem_append_right _ (List.mem_append_right _ (List.mem_append_right _ (List.mem_append_right _ (List.mem_append_left _ h0_))))), (tb_c_X8_takeQuota w_ h0_).2⟩) (List.mem_cons_of_mem _ (List.mem_append_left _ (List.mem_of_getElem? (i := 22) rfl))) (List.mem_cons_of_mem _ (List.mem_append_left _ (List.mem_of_getElem? (i := 23) rfl))) (List.mem_cons_of_mem _ (List.mem_append_left _ (List.mem_of_getElem? (i := 24) rfl))) (List.mem_cons_of_mem _ (List.mem_append_left _ (List.mem_of_getElem? (i := 25) rfl)))) rfl rfl rfl (by decide +kernel) ⟨Nat.le_of_ble_eq_true rfl, Nat.le_of_ble_eq_true rfl⟩) ⟨fun a U g mk q => ⟨q.1, q.2.calling rfl rfl⟩, k_recv hK hI i_h0.1 k_89 (ci := 8) rfl, fun U hU hW => ⟨rfl, kIn.of hI hK hE hS hU hW⟩⟩ rfl rfl hl.1 rfl (lv_room (Nat.le_of_ble_eq_true rfl)) dX8_startAnew_78 ⟨Nat.le_of_ble_eq_true rfl, Nat.le_of_ble_eq_true rfl⟩) hS (fun q _ h => h) (fun q h => h) (fun u t H1 locs ht hvm _ hB hz1 hk1 hS => ?_)
  obtain ⟨f_90, hI, kc_92⟩ := hB
  rw [ht] at hI
  have kp_93 := Kp.call kp_88 kc_92 (by decide)
  generalize H1 = H at hI hS ⊢
  refine W.widen (k := 0) (n := 0) (Nat.le_of_ble_eq_true rfl) (Nat.le_of_ble_eq_true rfl) ?_
  exact W.vret hx hb hr (fun t ht hW => ⟨⟨(), rfl, trivial, ⟨f_90, k_ret ht hI, kp_93⟩⟩, hS.F ht⟩) hS.2.2 dX8_startAnew_81
theorem tw_318 : q_g (.selects RX8 yX8_startAnew yX8_startAnew) := ⟨(List.mem_append_right _ (List.mem_of_getElem? (i := 460) (by decide +kernel))), good_of_word (by decide +kernel)⟩
theorem tw_319 : q_g (.instanceMethod yX8_startAnew) := ⟨(List.mem_append_right _ (List.mem_of_getElem? (i := 459) (by decide +kernel))), good_of_word (by decide +kernel)⟩
theorem tw_320 : q_g (.methodLink RX6 65 yX8_startAnew) := ⟨(List.mem_append_right _ (List.mem_of_getElem? (i := 458) (by decide +kernel))), good_of_word (by decide +kernel)⟩
theorem tw_321 : q_g (.code yX6_addTask cX6_addTask 3 (some .int)) := ⟨(List.mem_append_right _ (List.mem_of_getElem? (i := 457) (by decide +kernel))), good_of_word (by decide +kernel)⟩
def ow_c_X6_addTask : List Cond := [.fieldLink RX6 48 "DeadlineShare$State" "count" "I", .fieldLink RX6 11 "DeadlineShare$State" "tasks" "[LDeadlineShare$Task;", .methodLink RX6 65 yX8_startAnew, .instanceMethod yX8_startAnew, .selects RX8 yX8_startAnew yX8_startAnew, .initialized RX8]
def wq_c_X6_addTask : List Cond := .code yX6_addTask cX6_addTask 3 (some .int) :: (ow_c_X6_addTask ++ (u_ws RX6 TX6 10 ++ (wq_c_X8_startAnew ++ ([] : List Cond))))
theorem tb_c_X6_addTask : ∀ w ∈ wq_c_X6_addTask, q_g w := by
  unfold wq_c_X6_addTask ow_c_X6_addTask
  exact q_cons tw_321 (q_app (q_cons tw_13 (q_cons tw_12 (q_cons tw_320 (q_cons tw_319 (q_cons tw_318 (q_cons tw_8 q_nil)))))) (q_app tu_X6 (q_app tb_c_X8_startAnew q_nil)))
set_option maxHeartbeats 4000000 in
set_option maxRecDepth 100000 in
theorem c_X6_addTask (l : Launch) (dC : Nat → ClassId) (dI : Nat → Nat → Nat) (g : kG) (A : Nat → Prop) (hG : kWf g) (f : Nat → va_E) (h0 : Nat) (p1 : Int32) (p2 : Int32) (i_h0 : ik g 6 h0) : Met l yX6_addTask wq_c_X6_addTask ({ frames := 2, cells := 0, slots := 0, locals := 44 } : Room) (va_Pc [.ref h0, .int p1, .int p2] (fun U => kIn dC dI g A f U)) (va_Qi (fun (r : Int32) (_ : Unit) => True) (fun (_ : Unit) t => ∃ f1 : Nat → va_E, Iv dC dI g A f1 t.heap ∧ Kp g [5, 6, 8, 10] f f1) A) 0 0 A := by
  refine Met.ofW (cc := cX6_addTask) (maxL := 3) (ret := (some .int)) (by decide) rfl ?_
  intro p e s m args below meth c s₁ B hml hv
  obtain ⟨rfl, hI, hK, hE⟩ := hv
  have hx := B.exec
  have hb := B.bytes
  have hr := B.returns
  have hts := atoms_spec (ws := wq_c_X6_addTask) B.pre
  have hown : s.vm.findClass RX6 = some m.cls := findClass_of_methodNamed B.named
  have hlocks := B.notSynchronized
  have hS : va_S A s.heap s.heap [] := va_S.rf
  have hk0 : Kp g [5, 6, 8, 10] f f := Kp.rf
  have hl := lv_entry ([.ref h0, .int p1, .int p2]) (n := 3) (Nat.le_of_ble_eq_true rfl)
  rw [lg_entry_eq]
  generalize (lg_sl ([.ref h0, .int p1, .int p2]) ++ List.replicate (3 - (lg_sl ([.ref h0, .int p1, .int p2])).length) Slot.unset).toArray = ls at hl ⊢
  have hl : lv_has ls 3 [(0, .ref h0), (1, .int p1), (2, .int p2)] := hl
  refine lv_aload_n hx hb dX6_addTask_0 rfl (lv_at hl 0 rfl) ?_
  obtain ⟨x_2, x_3, x_4, x_5, x_6, k_1, b_7, b_8⟩ := op_6 hI i_h0
  refine k_get (ci := 6) (v := .int x_2) (C := RX6) (T := TX6) (N := 10) hx hb hts (fun _ h0_ => List.mem_cons_of_mem _ (List.mem_append_right _ (List.mem_append_left _ h0_))) hown hK hI i_h0.1 k_1 rfl 5 (by decide) (hts (.fieldLink RX6 48 "DeadlineShare$State" "count" "I") (List.mem_cons_of_mem _ (List.mem_append_left _ (List.mem_of_getElem? (i := 0) rfl)))) (fun _ h9 => h9) rfl dX6_addTask_1 ?_
  refine lv_bipush (v := 12) hx hb dX6_addTask_4 (by decide) ?_
  refine lv_icmp_lt (tgt := 11) hx hb dX6_addTask_6 (by decide) (fun c_9 => ?_) (fun c_9 => ?_)
  · have c_9 := kc_lt rfl (by decide : Int32.toInt 12 = 12) c_9
    refine lv_aload_n hx hb dX6_addTask_11 rfl (lv_at hl 0 rfl) ?_
    refine k_get (ci := 6) (v := .ref (gr g h0 1)) (C := RX6) (T := TX6) (N := 10) hx hb hts (fun _ h0_ => List.mem_cons_of_mem _ (List.mem_append_right _ (List.mem_append_left _ h0_))) hown hK hI i_h0.1 k_1 rfl 1 (by decide) (hts (.fieldLink RX6 11 "DeadlineShare$State" "tasks" "[LDeadlineShare$Task;") (List.mem_cons_of_mem _ (List.mem_append_left _ (List.mem_of_getElem? (i := 1) rfl)))) (fun _ h9 => h9) rfl dX6_addTask_12 ?_
    have i_11 := kw_6_1 hG i_h0
    refine lv_aload_n hx hb dX6_addTask_15 rfl (lv_at hl 0 rfl) ?_
    refine k_get (ci := 6) (v := .int x_2) (C := RX6) (T := TX6) (N := 10) hx hb hts (fun _ h0_ => List.mem_cons_of_mem _ (List.mem_append_right _ (List.mem_append_left _ h0_))) hown hK hI i_h0.1 k_1 rfl 5 (by decide) (hts (.fieldLink RX6 48 "DeadlineShare$State" "count" "I") (List.mem_cons_of_mem _ (List.mem_append_left _ (List.mem_of_getElem? (i := 0) rfl)))) (fun _ h9 => h9) rfl dX6_addTask_16 ?_
    obtain ⟨q_13, k_12, b_14⟩ := op_20 hI i_11
    refine k_aald hx hb hK hI i_11.1 4 k_12 rfl (vp_in_iff.mpr (by omega)) b_14 (fun _ hj => kw_20 hG i_11 hj) dX6_addTask_19 (fun a_15 i_16 => ?_)
    refine lv_iload_n hx hb dX6_addTask_20 rfl (lv_at hl 1 rfl) ?_
    refine lv_iload_n hx hb dX6_addTask_21 rfl (lv_at hl 2 rfl) ?_
    obtain ⟨x_18, x_19, x_20, x_21, x_22, x_23, x_24, x_25, x_26, x_27, x_28, x_29, x_30, x_31, x_32, x_33, k_17⟩ := op_8 hI i_16
    refine va_callv (va_runV (As := [.int p1, .int p2]) (rest := []) ⟨hx, hb, hml, hown, hts⟩ (c_X8_startAnew l dC dI g A hG f a_15 p1 p2 i_16) (cwV 2 hts (gi_V (fun w_ h0_ => ⟨List.mem_cons_of_mem _ (List.mem_append_right _ (List.mem_append_right _ (List.mem_append_left _ h0_))), (tb_c_X8_startAnew w_ h0_).2⟩) (List.mem_cons_of_mem _ (List.mem_append_left _ (List.mem_of_getElem? (i := 2) rfl))) (List.mem_cons_of_mem _ (List.mem_append_left _ (List.mem_of_getElem? (i := 3) rfl))) (List.mem_cons_of_mem _ (List.mem_append_left _ (List.mem_of_getElem? (i := 4) rfl))) (List.mem_cons_of_mem _ (List.mem_append_left _ (List.mem_of_getElem? (i := 5) rfl)))) rfl rfl rfl (by decide +kernel) ⟨Nat.le_of_ble_eq_true rfl, Nat.le_of_ble_eq_true rfl⟩) ⟨fun a U g mk q => ⟨q.1, q.2.calling rfl rfl⟩, k_recv hK hI i_16.1 k_17 (ci := 8) rfl, fun U hU hW => ⟨rfl, kIn.of hI hK hE hS hU hW⟩⟩ rfl rfl hl.1 rfl (lv_room (Nat.le_of_ble_eq_true rfl)) dX6_addTask_22 ⟨Nat.le_of_ble_eq_true rfl, Nat.le_of_ble_eq_true rfl⟩) hS (fun q _ h => h) (fun q h => h) (fun u t H1 locs ht hvm _ hB hz1 hk1 hS => ?_)
    obtain ⟨f_34, hI, kc_36⟩ := hB
    rw [ht] at hI
    have k_37 : f_34 h0 = .inr (6, [.ref (gr g h0 0), .ref (gr g h0 1), .ref (gr g h0 2), .ref (gr g h0 3), .ref (gr g h0 4), .int x_2, .int x_3, .long x_4, .int x_5, .int x_6]) := Kp.at kc_36 i_h0 (by decide) k_1
    have k_38 : f_34 (gr g h0 1) = .inl (gc g 4, 12, .inr (.inr (.inr (.inr q_13)))) := Kp.at kc_36 i_11 (by decide) k_12
    have kp_39 := Kp.call hk0 kc_36 (by decide)
    generalize H1 = H at hI hS ⊢
    refine W.widen (k := 0) (n := 0) (Nat.le_of_ble_eq_true rfl) (Nat.le_of_ble_eq_true rfl) ?_
    refine lv_aload_n hx hb dX6_addTask_25 rfl (lv_at hl 0 rfl) ?_
    refine lv_dup hx hb dX6_addTask_26 rfl ?_
    refine k_get (ci := 6) (v := .int x_2) (C := RX6) (T := TX6) (N := 10) hx hb hts (fun _ h0_ => List.mem_cons_of_mem _ (List.mem_append_right _ (List.mem_append_left _ h0_))) hown hK hI i_h0.1 k_37 rfl 5 (by decide) (hts (.fieldLink RX6 48 "DeadlineShare$State" "count" "I") (List.mem_cons_of_mem _ (List.mem_append_left _ (List.mem_of_getElem? (i := 0) rfl)))) (fun _ h9 => h9) rfl dX6_addTask_27 ?_
    refine lv_iconst (v := 1) hx hb dX6_addTask_30 (by decide) ?_
    refine lv_iadd hx hb dX6_addTask_31 ?_
    refine lv_topi (fun v_40 ev_40 => ?_)
    have tv_40 := k_ad x_2 1
    rw [← ev_40, show Int32.toInt 1 = 1 from by decide] at tv_40
    have b_41 : 0 ≤ Int32.toInt v_40 ∧ Int32.toInt v_40 ≤ 12 := by omega
    refine k_put (ci := 6) (v := .int v_40) (ty := .int) (C := RX6) (T := TX6) (N := 10) hx hb hts (fun _ h0_ => List.mem_cons_of_mem _ (List.mem_append_right _ (List.mem_append_left _ h0_))) tyX6 tyX6_ok nmX6 hown hK hI hS i_h0.1 k_37 rfl 5 (by decide) (hts (.fieldLink RX6 48 "DeadlineShare$State" "count" "I") (List.mem_cons_of_mem _ (List.mem_append_left _ (List.mem_of_getElem? (i := 0) rfl)))) (fun _ h9 => h9) rfl (by decide +kernel) rfl rfl (Nat.le_of_ble_eq_true rfl) rfl (cl_6 i_h0 b_41) dX6_addTask_32 (fun f_42 H locs e_43 hI hS => ?_)
    have k_45 : f_42 h0 = .inr (6, [.ref (gr g h0 0), .ref (gr g h0 1), .ref (gr g h0 2), .ref (gr g h0 3), .ref (gr g h0 4), .int v_40, .int x_3, .long x_4, .int x_5, .int x_6]) := by rw [e_43]; exact va_up_self _ _ _
    have k_46 : f_42 (gr g h0 1) = .inl (gc g 4, 12, .inr (.inr (.inr (.inr q_13)))) := by rw [e_43, va_up_ne _ _ (ik_ne i_11 i_h0 (by decide))]; exact k_38
    have kp_44 := Kp.put kp_39 i_h0 (by decide) e_43
    refine lv_aload_n hx hb dX6_addTask_35 rfl (lv_at hl 0 rfl) ?_
    refine k_get (ci := 6) (v := .int v_40) (C := RX6) (T := TX6) (N := 10) hx hb hts (fun _ h0_ => List.mem_cons_of_mem _ (List.mem_append_right _ (List.mem_append_left _ h0_))) hown hK hI i_h0.1 k_45 rfl 5 (by decide) (hts (.fieldLink RX6 48 "DeadlineShare$State" "count" "I") (List.mem_cons_of_mem _ (List.mem_append_left _ (List.mem_of_getElem? (i := 0) rfl)))) (fun _ h9 => h9) rfl dX6_addTask_36 ?_
    refine lv_iconst (v := 1) hx hb dX6_addTask_39 (by decide) ?_
    refine lv_isub hx hb dX6_addTask_40 ?_
    refine lv_topi (fun v_47 ev_47 => ?_)
    have tv_47 := k_sb v_40 1
    rw [← ev_47, show Int32.toInt 1 = 1 from by decide] at tv_47
    exact W.iret (v := v_47) hx hb hr (fun t ht hW => ⟨⟨v_47, (), rfl, trivial, ⟨f_42, k_ret ht hI, kp_44⟩⟩, hS.F ht⟩) hS.2.2 dX6_addTask_41
  · have c_9 := kn_lt rfl (by decide : Int32.toInt 12 = 12) c_9
    refine lv_iconst (v := (-1)) hx hb dX6_addTask_9 (by decide) ?_
    exact W.iret (v := (-1)) hx hb hr (fun t ht hW => ⟨⟨(-1), (), rfl, trivial, ⟨f, k_ret ht hI, hk0⟩⟩, hS.F ht⟩) hS.2.2 dX6_addTask_10
theorem tw_322 : q_g (.code yX10_modulo cX10_modulo 3 (some .long)) := ⟨(List.mem_append_right _ (List.mem_of_getElem? (i := 932) (by decide +kernel))), good_of_word (by decide +kernel)⟩
def ow_c_X10_modulo : List Cond := [.fieldLink RX10 9 "DeadlineShare$Wide" "high" "J", .methodLink RX10 18 yJ9_floorMod_f86c9, .static yJ9_floorMod_f86c9, .initialized RJ9, .fieldLink RX10 15 "DeadlineShare$Wide" "low" "J"]
def wq_c_X10_modulo : List Cond := .code yX10_modulo cX10_modulo 3 (some .long) :: (ow_c_X10_modulo ++ (u_ws RX10 TX10 2 ++ (wq_c_J9_floorMod_f86c9 ++ ([] : List Cond))))
theorem tb_c_X10_modulo : ∀ w ∈ wq_c_X10_modulo, q_g w := by
  unfold wq_c_X10_modulo ow_c_X10_modulo
  exact q_cons tw_322 (q_app (q_cons tw_17 (q_cons tw_38 (q_cons tw_37 (q_cons tw_36 (q_cons tw_15 q_nil))))) (q_app tu_X10 (q_app tb_c_J9_floorMod_f86c9 q_nil)))
set_option maxHeartbeats 4000000 in
set_option maxRecDepth 100000 in
theorem c_X10_modulo (l : Launch) (dC : Nat → ClassId) (dI : Nat → Nat → Nat) (g : kG) (A : Nat → Prop) (hG : kWf g) (f : Nat → va_E) (h0 : Nat) (p1 : Int64) (i_h0 : ik g 10 h0) : Met l yX10_modulo wq_c_X10_modulo ({ frames := 1, cells := 0, slots := 0, locals := 25 } : Room) (va_Pc [.ref h0, .long p1] (fun U => kIn dC dI g A f U)) (va_Ql (fun (r : Int64) (_ : Unit) => True) (fun (_ : Unit) t => Iv dC dI g A f t.heap) A) 0 0 A := by
  refine Met.ofW (cc := cX10_modulo) (maxL := 3) (ret := (some .long)) (by decide) rfl ?_
  intro p e s m args below meth c s₁ B hml hv
  obtain ⟨rfl, hI, hK, hE⟩ := hv
  have hx := B.exec
  have hb := B.bytes
  have hr := B.returns
  have hts := atoms_spec (ws := wq_c_X10_modulo) B.pre
  have hown : s.vm.findClass RX10 = some m.cls := findClass_of_methodNamed B.named
  have hlocks := B.notSynchronized
  have hS : va_S A s.heap s.heap [] := va_S.rf
  have hl := lv_entry ([.ref h0, .long p1]) (n := 3) (Nat.le_of_ble_eq_true rfl)
  rw [lg_entry_eq]
  generalize (lg_sl ([.ref h0, .long p1]) ++ List.replicate (3 - (lg_sl ([.ref h0, .long p1])).length) Slot.unset).toArray = ls at hl ⊢
  have hl : lv_has ls 3 [(0, .ref h0), (1, .long p1)] := hl
  refine lv_lload_n hx hb dX10_modulo_0 rfl (lv_at hl 1 rfl) ?_
  refine lv_lconst (v := 0) hx hb dX10_modulo_1 (by decide) ?_
  refine W.lcmp hx hb dX10_modulo_2 ?_
  refine lv_if_le (tgt := 27) hx hb dX10_modulo_3 (by decide) (fun c_1 => ?_) (fun c_1 => ?_)
  · have c_1 := lc_le rfl (by decide : Int64.toInt 0 = 0) ((lg_cmp_le _ _).mp c_1)
    refine lv_lconst (v := 0) hx hb dX10_modulo_27 (by decide) ?_
    exact W.lret (v := 0) hx hb hr (fun t ht hW => ⟨⟨0, (), rfl, trivial, k_ret ht hI⟩, hS.F ht⟩) hS.2.2 dX10_modulo_28
  · have c_1 := ln_le rfl (by decide : Int64.toInt 0 = 0) (fun h9 => c_1 ((lg_cmp_le _ _).mpr h9))
    refine lv_aload_n hx hb dX10_modulo_6 rfl (lv_at hl 0 rfl) ?_
    obtain ⟨x_3, x_4, k_2⟩ := op_10 hI i_h0
    refine k_get (ci := 10) (v := .long x_3) (C := RX10) (T := TX10) (N := 2) hx hb hts (fun _ h0_ => List.mem_cons_of_mem _ (List.mem_append_right _ (List.mem_append_left _ h0_))) hown hK hI i_h0.1 k_2 rfl 0 (by decide) (hts (.fieldLink RX10 9 "DeadlineShare$Wide" "high" "J") (List.mem_cons_of_mem _ (List.mem_append_left _ (List.mem_of_getElem? (i := 0) rfl)))) (fun _ h9 => h9) rfl dX10_modulo_7 ?_
    refine lv_lload_n hx hb dX10_modulo_10 rfl (lv_at hl 1 rfl) ?_
    refine va_calll (va_runS (As := [.long x_3, .long p1]) (rest := []) ⟨hx, hb, hml, hown, hts⟩ (c_J9_floorMod_f86c9 l dC dI g A hG f x_3 p1 (by omega)) (va_cwS 2 hts (gi_S (fun w_ h0_ => ⟨List.mem_cons_of_mem _ (List.mem_append_right _ (List.mem_append_right _ (List.mem_append_left _ h0_))), (tb_c_J9_floorMod_f86c9 w_ h0_).2⟩) (List.mem_cons_of_mem _ (List.mem_append_left _ (List.mem_of_getElem? (i := 1) rfl))) (List.mem_cons_of_mem _ (List.mem_append_left _ (List.mem_of_getElem? (i := 2) rfl))) (List.mem_cons_of_mem _ (List.mem_append_left _ (List.mem_of_getElem? (i := 3) rfl)))) rfl rfl rfl (by decide +kernel) ⟨Nat.le_of_ble_eq_true rfl, Nat.le_of_ble_eq_true rfl⟩) ⟨fun a U g mk q => ⟨q.1, q.2.calling rfl rfl⟩, fun U hU hW => ⟨rfl, kIn.of hI hK hE hS hU hW⟩⟩ rfl rfl hl.1 rfl (lv_room (Nat.le_of_ble_eq_true rfl)) dX10_modulo_11 ⟨Nat.le_of_ble_eq_true rfl, Nat.le_of_ble_eq_true rfl⟩) hS (fun q _ h => h) (fun q h => h) (fun r_6 u t H1 locs ht hvm w_5 hB hz1 hk1 hS => ?_)
    have hI : Iv dC dI g A f t.heap := hB
    rw [ht] at hI
    generalize H1 = H at hI hS ⊢
    refine W.widen (k := 0) (n := 0) (Nat.le_of_ble_eq_true rfl) (Nat.le_of_ble_eq_true rfl) ?_
    refine lv_bipush (v := 32) hx hb dX10_modulo_14 (by decide) ?_
    refine lv_lshl hx hb dX10_modulo_16 rfl ?_
    refine lv_topl (fun v_7 ev_7 => ?_)
    refine lv_aload_n hx hb dX10_modulo_17 rfl (lv_at hl 0 rfl) ?_
    refine k_get (ci := 10) (v := .long x_4) (C := RX10) (T := TX10) (N := 2) hx hb hts (fun _ h0_ => List.mem_cons_of_mem _ (List.mem_append_right _ (List.mem_append_left _ h0_))) hown hK hI i_h0.1 k_2 rfl 1 (by decide) (hts (.fieldLink RX10 15 "DeadlineShare$Wide" "low" "J") (List.mem_cons_of_mem _ (List.mem_append_left _ (List.mem_of_getElem? (i := 4) rfl)))) (fun _ h9 => h9) rfl dX10_modulo_18 ?_
    refine lv_lor hx hb dX10_modulo_21 ?_
    refine lv_topl (fun v_8 ev_8 => ?_)
    refine lv_lload_n hx hb dX10_modulo_22 rfl (lv_at hl 1 rfl) ?_
    refine lv_lrem hx hb dX10_modulo_23 (k_ne0L (by omega)) ?_
    refine lv_topl (fun v_9 ev_9 => ?_)
    refine lv_goto (tgt := 28) hx hb dX10_modulo_24 (by decide) ?_
    exact W.lret (v := v_9) hx hb hr (fun t ht hW => ⟨⟨v_9, (), rfl, trivial, k_ret ht hI⟩, hS.F ht⟩) hS.2.2 dX10_modulo_28
theorem tw_323 : q_g (.selects RX10 yX10_modulo yX10_modulo) := ⟨(List.mem_append_right _ (List.mem_of_getElem? (i := 931) (by decide +kernel))), good_of_word (by decide +kernel)⟩
theorem tw_324 : q_g (.instanceMethod yX10_modulo) := ⟨(List.mem_append_right _ (List.mem_of_getElem? (i := 930) (by decide +kernel))), good_of_word (by decide +kernel)⟩
theorem tw_325 : q_g (.methodLink RX6 97 yX10_modulo) := ⟨(List.mem_append_right _ (List.mem_of_getElem? (i := 929) (by decide +kernel))), good_of_word (by decide +kernel)⟩
theorem tw_326 : q_g (.code yX6_restOfV cX6_restOfV 2 (some .long)) := ⟨(List.mem_append_right _ (List.mem_of_getElem? (i := 928) (by decide +kernel))), good_of_word (by decide +kernel)⟩
def ow_c_X6_restOfV : List Cond := [.methodLink RX6 86 yX6_sumUp, .instanceMethod yX6_sumUp, .selects RX6 yX6_sumUp yX6_sumUp, .initialized RX6, .fieldLink RX6 27 "DeadlineShare$State" "sum" "LDeadlineShare$Wide;", .methodLink RX6 97 yX10_modulo, .instanceMethod yX10_modulo, .selects RX10 yX10_modulo yX10_modulo, .initialized RX10]
def wq_c_X6_restOfV : List Cond := .code yX6_restOfV cX6_restOfV 2 (some .long) :: (ow_c_X6_restOfV ++ (wq_c_X6_sumUp ++ (u_ws RX6 TX6 10 ++ (wq_c_X10_modulo ++ ([] : List Cond)))))
theorem tb_c_X6_restOfV : ∀ w ∈ wq_c_X6_restOfV, q_g w := by
  unfold wq_c_X6_restOfV ow_c_X6_restOfV
  exact q_cons tw_326 (q_app (q_cons tw_50 (q_cons tw_49 (q_cons tw_48 (q_cons tw_47 (q_cons tw_30 (q_cons tw_325 (q_cons tw_324 (q_cons tw_323 (q_cons tw_26 q_nil))))))))) (q_app tb_c_X6_sumUp (q_app tu_X6 (q_app tb_c_X10_modulo q_nil))))
set_option maxHeartbeats 4000000 in
set_option maxRecDepth 100000 in
theorem c_X6_restOfV (l : Launch) (dC : Nat → ClassId) (dI : Nat → Nat → Nat) (g : kG) (A : Nat → Prop) (hG : kWf g) (f : Nat → va_E) (h0 : Nat) (i_h0 : ik g 6 h0) : Met l yX6_restOfV wq_c_X6_restOfV ({ frames := 2, cells := 0, slots := 0, locals := 48 } : Room) (va_Pc [.ref h0] (fun U => kIn dC dI g A f U)) (va_Ql (fun (r : Int64) (_ : Unit) => True) (fun (_ : Unit) t => ∃ f1 : Nat → va_E, Iv dC dI g A f1 t.heap ∧ Kp g [10] f f1) A) 0 0 A := by
  refine Met.ofW (cc := cX6_restOfV) (maxL := 2) (ret := (some .long)) (by decide) rfl ?_
  intro p e s m args below meth c s₁ B hml hv
  obtain ⟨rfl, hI, hK, hE⟩ := hv
  have hx := B.exec
  have hb := B.bytes
  have hr := B.returns
  have hts := atoms_spec (ws := wq_c_X6_restOfV) B.pre
  have hown : s.vm.findClass RX6 = some m.cls := findClass_of_methodNamed B.named
  have hlocks := B.notSynchronized
  have hS : va_S A s.heap s.heap [] := va_S.rf
  have hk0 : Kp g [10] f f := Kp.rf
  have hl := lv_entry ([.ref h0]) (n := 2) (Nat.le_of_ble_eq_true rfl)
  rw [lg_entry_eq]
  generalize (lg_sl ([.ref h0]) ++ List.replicate (2 - (lg_sl ([.ref h0])).length) Slot.unset).toArray = ls at hl ⊢
  have hl : lv_has ls 2 [(0, .ref h0)] := hl
  refine lv_aload_n hx hb dX6_restOfV_0 rfl (lv_at hl 0 rfl) ?_
  obtain ⟨x_2, x_3, x_4, x_5, x_6, k_1, b_7, b_8⟩ := op_6 hI i_h0
  refine va_calli (va_runV (As := []) (rest := []) ⟨hx, hb, hml, hown, hts⟩ (c_X6_sumUp l dC dI g A hG f h0 i_h0) (cwV 0 hts (gi_V (fun w_ h0_ => ⟨List.mem_cons_of_mem _ (List.mem_append_right _ (List.mem_append_left _ h0_)), (tb_c_X6_sumUp w_ h0_).2⟩) (List.mem_cons_of_mem _ (List.mem_append_left _ (List.mem_of_getElem? (i := 0) rfl))) (List.mem_cons_of_mem _ (List.mem_append_left _ (List.mem_of_getElem? (i := 1) rfl))) (List.mem_cons_of_mem _ (List.mem_append_left _ (List.mem_of_getElem? (i := 2) rfl))) (List.mem_cons_of_mem _ (List.mem_append_left _ (List.mem_of_getElem? (i := 3) rfl)))) rfl rfl rfl (by decide +kernel) ⟨Nat.le_of_ble_eq_true rfl, Nat.le_of_ble_eq_true rfl⟩) ⟨fun a U g mk q => ⟨q.1, q.2.calling rfl rfl⟩, k_recv hK hI i_h0.1 k_1 (ci := 6) rfl, fun U hU hW => ⟨rfl, kIn.of hI hK hE hS hU hW⟩⟩ rfl rfl hl.1 rfl (lv_room (Nat.le_of_ble_eq_true rfl)) dX6_restOfV_1 ⟨Nat.le_of_ble_eq_true rfl, Nat.le_of_ble_eq_true rfl⟩) hS (fun q _ h => h) (fun q h => h) (fun r_11 u t H1 locs ht hvm w_10 hB hz1 hk1 hS => ?_)
  obtain ⟨f_9, hI, kc_12⟩ := hB
  rw [ht] at hI
  have k_13 : f_9 h0 = .inr (6, [.ref (gr g h0 0), .ref (gr g h0 1), .ref (gr g h0 2), .ref (gr g h0 3), .ref (gr g h0 4), .int x_2, .int x_3, .long x_4, .int x_5, .int x_6]) := Kp.at kc_12 i_h0 (by decide) k_1
  have kp_14 := Kp.call hk0 kc_12 (by decide)
  generalize H1 = H at hI hS ⊢
  refine W.widen (k := 0) (n := 0) (Nat.le_of_ble_eq_true rfl) (Nat.le_of_ble_eq_true rfl) ?_
  refine lv_istore_n (lv' := [(1, .int r_11), (0, .ref h0)]) hx hb dX6_restOfV_4 rfl hl (by decide) rfl (fun ls hl => ?_)
  refine lv_aload_n hx hb dX6_restOfV_5 rfl (lv_at hl 1 rfl) ?_
  refine k_get (ci := 6) (v := .ref (gr g h0 3)) (C := RX6) (T := TX6) (N := 10) hx hb hts (fun _ h0_ => List.mem_cons_of_mem _ (List.mem_append_right _ (List.mem_append_right _ (List.mem_append_left _ h0_)))) hown hK hI i_h0.1 k_13 rfl 3 (by decide) (hts (.fieldLink RX6 27 "DeadlineShare$State" "sum" "LDeadlineShare$Wide;") (List.mem_cons_of_mem _ (List.mem_append_left _ (List.mem_of_getElem? (i := 4) rfl)))) (fun _ h9 => h9) rfl dX6_restOfV_6 ?_
  have i_16 := kw_6_3 hG i_h0
  refine lv_iload_n hx hb dX6_restOfV_9 rfl (lv_at hl 0 rfl) ?_
  refine lv_i2l (v := r_11.toInt64) hx hb dX6_restOfV_10 rfl ?_
  have t_17 := Int32.toInt_toInt64 r_11
  obtain ⟨x_19, x_20, k_18⟩ := op_10 hI i_16
  refine va_calll (va_runV (As := [.long r_11.toInt64]) (rest := []) ⟨hx, hb, hml, hown, hts⟩ (c_X10_modulo l dC dI g A hG f_9 (gr g h0 3) r_11.toInt64 i_16) (cwV 1 hts (gi_V (fun w_ h0_ => ⟨List.mem_cons_of_mem _ (List.mem_append_right _ (List.mem_append_right _ (List.mem_append_right _ (List.mem_append_left _ h0_)))), (tb_c_X10_modulo w_ h0_).2⟩) (List.mem_cons_of_mem _ (List.mem_append_left _ (List.mem_of_getElem? (i := 5) rfl))) (List.mem_cons_of_mem _ (List.mem_append_left _ (List.mem_of_getElem? (i := 6) rfl))) (List.mem_cons_of_mem _ (List.mem_append_left _ (List.mem_of_getElem? (i := 7) rfl))) (List.mem_cons_of_mem _ (List.mem_append_left _ (List.mem_of_getElem? (i := 8) rfl)))) rfl rfl rfl (by decide +kernel) ⟨Nat.le_of_ble_eq_true rfl, Nat.le_of_ble_eq_true rfl⟩) ⟨fun a U g mk q => ⟨q.1, q.2.calling rfl rfl⟩, k_recv hK hI i_16.1 k_18 (ci := 10) rfl, fun U hU hW => ⟨rfl, kIn.of hI hK hE hS hU hW⟩⟩ rfl rfl hl.1 rfl (lv_room (Nat.le_of_ble_eq_true rfl)) dX6_restOfV_11 ⟨Nat.le_of_ble_eq_true rfl, Nat.le_of_ble_eq_true rfl⟩) hS (fun q _ h => h) (fun q h => h) (fun r_22 u t H1 locs ht hvm w_21 hB hz1 hk1 hS => ?_)
  have hI : Iv dC dI g A f_9 t.heap := hB
  rw [ht] at hI
  generalize H1 = H at hI hS ⊢
  refine W.widen (k := 0) (n := 0) (Nat.le_of_ble_eq_true rfl) (Nat.le_of_ble_eq_true rfl) ?_
  exact W.lret (v := r_22) hx hb hr (fun t ht hW => ⟨⟨r_22, (), rfl, trivial, ⟨f_9, k_ret ht hI, kp_14⟩⟩, hS.F ht⟩) hS.2.2 dX6_restOfV_14
