theorem tw_210 : q_g (.code yX4_none cX4_none 2 (some .int)) := ⟨(List.mem_append_right _ (List.mem_of_getElem? (i := 384) (by decide +kernel))), good_of_word (by decide +kernel)⟩
def ow_c_X4_none : List Cond := [.fieldLink RX4 15 "DeadlineShare$Refusals" "latest" "I"]
def wq_c_X4_none : List Cond := .code yX4_none cX4_none 2 (some .int) :: (ow_c_X4_none ++ (u_ws RX4 TX4 2 ++ ([] : List Cond)))
theorem tb_c_X4_none : ∀ w ∈ wq_c_X4_none, q_g w := by
  unfold wq_c_X4_none ow_c_X4_none
  exact q_cons tw_210 (q_app (q_cons tw_208 q_nil) (q_app tu_X4 q_nil))
set_option maxHeartbeats 4000000 in
set_option maxRecDepth 100000 in
theorem c_X4_none (l : Launch) (dC : Nat → ClassId) (dI : Nat → Nat → Nat) (g : kG) (A : Nat → Prop) (hG : kWf g) (f : Nat → va_E) (h0 : Nat) (p1 : Int32) (i_h0 : ik g 4 h0) : Met l yX4_none wq_c_X4_none ({ frames := 0, cells := 0, slots := 0, locals := 0 } : Room) (va_Pc [.ref h0, .int p1] (fun U => kIn dC dI g A f U)) (va_Qi (fun (r : Int32) (_ : Unit) => True) (fun (_ : Unit) t => ∃ f1 : Nat → va_E, Iv dC dI g A f1 t.heap ∧ Kp g [4] f f1) A) 0 0 A := by
  refine Met.ofW (cc := cX4_none) (maxL := 2) (ret := (some .int)) (by decide) rfl ?_
  intro p e s m args below meth c s₁ B hml hv
  obtain ⟨rfl, hI, hK, hE⟩ := hv
  have hx := B.exec
  have hb := B.bytes
  have hr := B.returns
  have hts := atoms_spec (ws := wq_c_X4_none) B.pre
  have hown : s.vm.findClass RX4 = some m.cls := findClass_of_methodNamed B.named
  have hlocks := B.notSynchronized
  have hS : va_S A s.heap s.heap [] := va_S.rf
  have hk0 : Kp g [4] f f := Kp.rf
  have hl := lv_entry ([.ref h0, .int p1]) (n := 2) (Nat.le_of_ble_eq_true rfl)
  rw [lg_entry_eq]
  generalize (lg_sl ([.ref h0, .int p1]) ++ List.replicate (2 - (lg_sl ([.ref h0, .int p1])).length) Slot.unset).toArray = ls at hl ⊢
  have hl : lv_has ls 2 [(0, .ref h0), (1, .int p1)] := hl
  refine lv_aload_n hx hb dX4_none_0 rfl (lv_at hl 0 rfl) ?_
  refine lv_iconst (v := 0) hx hb dX4_none_1 (by decide) ?_
  obtain ⟨x_2, k_1⟩ := op_4 hI i_h0
  refine k_put (ci := 4) (v := .int 0) (ty := .int) (C := RX4) (T := TX4) (N := 2) hx hb hts (fun _ h0_ => List.mem_cons_of_mem _ (List.mem_append_right _ (List.mem_append_left _ h0_))) tyX4 tyX4_ok nmX4 hown hK hI hS i_h0.1 k_1 rfl 1 (by decide) (hts (.fieldLink RX4 15 "DeadlineShare$Refusals" "latest" "I") (List.mem_cons_of_mem _ (List.mem_append_left _ (List.mem_of_getElem? (i := 0) rfl)))) (fun _ h9 => h9) rfl (by decide +kernel) rfl rfl (Nat.le_of_ble_eq_true rfl) rfl (cl_4 i_h0) dX4_none_2 (fun f_3 H locs e_4 hI hS => ?_)
  have k_6 : f_3 h0 = .inr (4, [.ref (gr g h0 0), .int 0]) := by rw [e_4]; exact va_up_self _ _ _
  have kp_5 := Kp.put hk0 i_h0 (by decide) e_4
  refine lv_iload_n hx hb dX4_none_5 rfl (lv_at hl 1 rfl) ?_
  exact W.iret (v := p1) hx hb hr (fun t ht hW => ⟨⟨p1, (), rfl, trivial, ⟨f_3, k_ret ht hI, kp_5⟩⟩, hS.F ht⟩) hS.2.2 dX4_none_6
theorem tw_211 : q_g (.code yX4_countOf cX4_countOf 2 (some .int)) := ⟨(List.mem_append_right _ (List.mem_of_getElem? (i := 1080) (by decide +kernel))), good_of_word (by decide +kernel)⟩
def ow_c_X4_countOf : List Cond := [.fieldLink RX4 9 "DeadlineShare$Refusals" "counts" "[I", .methodLink RX4 19 yX4_placeOf, .static yX4_placeOf, .initialized RX4]
def wq_c_X4_countOf : List Cond := .code yX4_countOf cX4_countOf 2 (some .int) :: (ow_c_X4_countOf ++ (u_ws RX4 TX4 2 ++ (wq_c_X4_placeOf ++ ([] : List Cond))))
theorem tb_c_X4_countOf : ∀ w ∈ wq_c_X4_countOf, q_g w := by
  unfold wq_c_X4_countOf ow_c_X4_countOf
  exact q_cons tw_211 (q_app (q_cons tw_207 (q_cons tw_206 (q_cons tw_205 (q_cons tw_204 q_nil)))) (q_app tu_X4 (q_app tb_c_X4_placeOf q_nil)))
set_option maxHeartbeats 4000000 in
set_option maxRecDepth 100000 in
theorem c_X4_countOf (l : Launch) (dC : Nat → ClassId) (dI : Nat → Nat → Nat) (g : kG) (A : Nat → Prop) (hG : kWf g) (f : Nat → va_E) (h0 : Nat) (p1 : Int32) (i_h0 : ik g 4 h0) : Met l yX4_countOf wq_c_X4_countOf ({ frames := 1, cells := 0, slots := 0, locals := 20 } : Room) (va_Pc [.ref h0, .int p1] (fun U => kIn dC dI g A f U)) (va_Qi (fun (r : Int32) (_ : Unit) => True) (fun (_ : Unit) t => Iv dC dI g A f t.heap) A) 0 0 A := by
  refine Met.ofW (cc := cX4_countOf) (maxL := 2) (ret := (some .int)) (by decide) rfl ?_
  intro p e s m args below meth c s₁ B hml hv
  obtain ⟨rfl, hI, hK, hE⟩ := hv
  have hx := B.exec
  have hb := B.bytes
  have hr := B.returns
  have hts := atoms_spec (ws := wq_c_X4_countOf) B.pre
  have hown : s.vm.findClass RX4 = some m.cls := findClass_of_methodNamed B.named
  have hlocks := B.notSynchronized
  have hS : va_S A s.heap s.heap [] := va_S.rf
  have hl := lv_entry ([.ref h0, .int p1]) (n := 2) (Nat.le_of_ble_eq_true rfl)
  rw [lg_entry_eq]
  generalize (lg_sl ([.ref h0, .int p1]) ++ List.replicate (2 - (lg_sl ([.ref h0, .int p1])).length) Slot.unset).toArray = ls at hl ⊢
  have hl : lv_has ls 2 [(0, .ref h0), (1, .int p1)] := hl
  refine lv_aload_n hx hb dX4_countOf_0 rfl (lv_at hl 0 rfl) ?_
  obtain ⟨x_2, k_1⟩ := op_4 hI i_h0
  refine k_get (ci := 4) (v := .ref (gr g h0 0)) (C := RX4) (T := TX4) (N := 2) hx hb hts (fun _ h0_ => List.mem_cons_of_mem _ (List.mem_append_right _ (List.mem_append_left _ h0_))) hown hK hI i_h0.1 k_1 rfl 0 (by decide) (hts (.fieldLink RX4 9 "DeadlineShare$Refusals" "counts" "[I") (List.mem_cons_of_mem _ (List.mem_append_left _ (List.mem_of_getElem? (i := 0) rfl)))) (fun _ h9 => h9) rfl dX4_countOf_1 ?_
  have i_4 := kw_4_0 hG i_h0
  refine lv_iload_n hx hb dX4_countOf_4 rfl (lv_at hl 1 rfl) ?_
  refine va_calli (va_runS (As := [.int p1]) (rest := [.ref (gr g h0 0)]) ⟨hx, hb, hml, hown, hts⟩ (c_X4_placeOf l dC dI g A hG f p1) (va_cwS 1 hts (gi_S (fun w_ h0_ => ⟨List.mem_cons_of_mem _ (List.mem_append_right _ (List.mem_append_right _ (List.mem_append_left _ h0_))), (tb_c_X4_placeOf w_ h0_).2⟩) (List.mem_cons_of_mem _ (List.mem_append_left _ (List.mem_of_getElem? (i := 1) rfl))) (List.mem_cons_of_mem _ (List.mem_append_left _ (List.mem_of_getElem? (i := 2) rfl))) (List.mem_cons_of_mem _ (List.mem_append_left _ (List.mem_of_getElem? (i := 3) rfl)))) rfl rfl rfl (by decide +kernel) ⟨Nat.le_of_ble_eq_true rfl, Nat.le_of_ble_eq_true rfl⟩) ⟨fun a U g mk q => ⟨q.1, q.2.calling rfl rfl⟩, fun U hU hW => ⟨rfl, kIn.of hI hK hE hS hU hW⟩⟩ rfl rfl hl.1 rfl (lv_room (Nat.le_of_ble_eq_true rfl)) dX4_countOf_5 ⟨Nat.le_of_ble_eq_true rfl, Nat.le_of_ble_eq_true rfl⟩) hS (fun q _ h => h) (fun q h => h) (fun r_6 u t H1 locs ht hvm w_5 hB hz1 hk1 hS => ?_)
  have hI : Iv dC dI g A f t.heap := hB
  rw [ht] at hI
  generalize H1 = H at hI hS ⊢
  refine W.widen (k := 0) (n := 0) (Nat.le_of_ble_eq_true rfl) (Nat.le_of_ble_eq_true rfl) ?_
  have w_5 : 0 ≤ r_6.toInt ∧ r_6.toInt < 5 := w_5
  obtain ⟨q_8, k_7⟩ := op_28 hI i_4
  refine k_iald hx hb hK hI i_4.1 0 k_7 rfl (vp_in_iff.mpr (by omega)) dX4_countOf_8 ?_
  refine lv_topi (fun v_9 ev_9 => ?_)
  exact W.iret (v := v_9) hx hb hr (fun t ht hW => ⟨⟨v_9, (), rfl, trivial, k_ret ht hI⟩, hS.F ht⟩) hS.2.2 dX4_countOf_9
theorem tw_212 : q_g (.code yX5_isThere cX5_isThere 1 (some .boolean)) := ⟨(List.mem_append_right _ (List.mem_of_getElem? (i := 758) (by decide +kernel))), good_of_word (by decide +kernel)⟩
def ow_c_X5_isThere : List Cond := [.fieldLink RX5 28 "DeadlineShare$Script" "size" "I"]
def wq_c_X5_isThere : List Cond := .code yX5_isThere cX5_isThere 1 (some .boolean) :: (ow_c_X5_isThere ++ (u_ws RX5 TX5 5 ++ ([] : List Cond)))
theorem tb_c_X5_isThere : ∀ w ∈ wq_c_X5_isThere, q_g w := by
  unfold wq_c_X5_isThere ow_c_X5_isThere
  exact q_cons tw_212 (q_app (q_cons tw_110 q_nil) (q_app tu_X5 q_nil))
set_option maxHeartbeats 4000000 in
set_option maxRecDepth 100000 in
theorem c_X5_isThere (l : Launch) (dC : Nat → ClassId) (dI : Nat → Nat → Nat) (g : kG) (A : Nat → Prop) (hG : kWf g) (f : Nat → va_E) (h0 : Nat) (i_h0 : ik g 5 h0) : Met l yX5_isThere wq_c_X5_isThere ({ frames := 0, cells := 0, slots := 0, locals := 0 } : Room) (va_Pc [.ref h0] (fun U => kIn dC dI g A f U)) (va_Qi (fun (r : Int32) (_ : Unit) => True) (fun (_ : Unit) t => Iv dC dI g A f t.heap) A) 0 0 A := by
  refine Met.ofW (cc := cX5_isThere) (maxL := 1) (ret := (some .boolean)) (by decide) rfl ?_
  intro p e s m args below meth c s₁ B hml hv
  obtain ⟨rfl, hI, hK, hE⟩ := hv
  have hx := B.exec
  have hb := B.bytes
  have hr := B.returns
  have hts := atoms_spec (ws := wq_c_X5_isThere) B.pre
  have hown : s.vm.findClass RX5 = some m.cls := findClass_of_methodNamed B.named
  have hlocks := B.notSynchronized
  have hS : va_S A s.heap s.heap [] := va_S.rf
  have hl := lv_entry ([.ref h0]) (n := 1) (Nat.le_of_ble_eq_true rfl)
  rw [lg_entry_eq]
  generalize (lg_sl ([.ref h0]) ++ List.replicate (1 - (lg_sl ([.ref h0])).length) Slot.unset).toArray = ls at hl ⊢
  have hl : lv_has ls 1 [(0, .ref h0)] := hl
  refine lv_aload_n hx hb dX5_isThere_0 rfl (lv_at hl 0 rfl) ?_
  obtain ⟨x_2, x_3, x_4, x_5, k_1, b_6, b_7⟩ := op_5 hI i_h0
  refine k_get (ci := 5) (v := .int x_2) (C := RX5) (T := TX5) (N := 5) hx hb hts (fun _ h0_ => List.mem_cons_of_mem _ (List.mem_append_right _ (List.mem_append_left _ h0_))) hown hK hI i_h0.1 k_1 rfl 1 (by decide) (hts (.fieldLink RX5 28 "DeadlineShare$Script" "size" "I") (List.mem_cons_of_mem _ (List.mem_append_left _ (List.mem_of_getElem? (i := 0) rfl)))) (fun _ h9 => h9) rfl dX5_isThere_1 ?_
  refine lv_if_le (tgt := 11) hx hb dX5_isThere_4 (by decide) (fun c_8 => ?_) (fun c_8 => ?_)
  · have c_8 := kc_le rfl (by decide : Int32.toInt 0 = 0) c_8
    refine lv_iconst (v := 0) hx hb dX5_isThere_11 (by decide) ?_
    exact W.zret (v := 0) hx hb hr rfl (fun t ht hW => ⟨⟨0, (), rfl, trivial, k_ret ht hI⟩, hS.F ht⟩) hS.2.2 dX5_isThere_12
  · have c_8 := kn_le rfl (by decide : Int32.toInt 0 = 0) c_8
    refine lv_iconst (v := 1) hx hb dX5_isThere_7 (by decide) ?_
    refine lv_goto (tgt := 12) hx hb dX5_isThere_8 (by decide) ?_
    exact W.zret (v := 1) hx hb hr rfl (fun t ht hW => ⟨⟨1, (), rfl, trivial, k_ret ht hI⟩, hS.F ht⟩) hS.2.2 dX5_isThere_12
theorem tw_213 : q_g (.code yX5_kindOf cX5_kindOf 2 (some .int)) := ⟨(List.mem_append_right _ (List.mem_of_getElem? (i := 739) (by decide +kernel))), good_of_word (by decide +kernel)⟩
def ow_c_X5_kindOf : List Cond := [.fieldLink RX5 28 "DeadlineShare$Script" "size" "I", .fieldLink RX5 11 "DeadlineShare$Script" "steps" "[I"]
def wq_c_X5_kindOf : List Cond := .code yX5_kindOf cX5_kindOf 2 (some .int) :: (ow_c_X5_kindOf ++ (u_ws RX5 TX5 5 ++ ([] : List Cond)))
theorem tb_c_X5_kindOf : ∀ w ∈ wq_c_X5_kindOf, q_g w := by
  unfold wq_c_X5_kindOf ow_c_X5_kindOf
  exact q_cons tw_213 (q_app (q_cons tw_110 (q_cons tw_115 q_nil)) (q_app tu_X5 q_nil))
set_option maxHeartbeats 4000000 in
set_option maxRecDepth 100000 in
theorem c_X5_kindOf (l : Launch) (dC : Nat → ClassId) (dI : Nat → Nat → Nat) (g : kG) (A : Nat → Prop) (hG : kWf g) (f : Nat → va_E) (h0 : Nat) (p1 : Int32) (i_h0 : ik g 5 h0) : Met l yX5_kindOf wq_c_X5_kindOf ({ frames := 0, cells := 0, slots := 0, locals := 0 } : Room) (va_Pc [.ref h0, .int p1] (fun U => kIn dC dI g A f U)) (va_Qi (fun (r : Int32) (_ : Unit) => True) (fun (_ : Unit) t => Iv dC dI g A f t.heap) A) 0 0 A := by
  refine Met.ofW (cc := cX5_kindOf) (maxL := 2) (ret := (some .int)) (by decide) rfl ?_
  intro p e s m args below meth c s₁ B hml hv
  obtain ⟨rfl, hI, hK, hE⟩ := hv
  have hx := B.exec
  have hb := B.bytes
  have hr := B.returns
  have hts := atoms_spec (ws := wq_c_X5_kindOf) B.pre
  have hown : s.vm.findClass RX5 = some m.cls := findClass_of_methodNamed B.named
  have hlocks := B.notSynchronized
  have hS : va_S A s.heap s.heap [] := va_S.rf
  have hl := lv_entry ([.ref h0, .int p1]) (n := 2) (Nat.le_of_ble_eq_true rfl)
  rw [lg_entry_eq]
  generalize (lg_sl ([.ref h0, .int p1]) ++ List.replicate (2 - (lg_sl ([.ref h0, .int p1])).length) Slot.unset).toArray = ls at hl ⊢
  have hl : lv_has ls 2 [(0, .ref h0), (1, .int p1)] := hl
  refine lv_iload_n hx hb dX5_kindOf_0 rfl (lv_at hl 1 rfl) ?_
  refine lv_if_lt (tgt := 24) hx hb dX5_kindOf_1 (by decide) (fun c_1 => ?_) (fun c_1 => ?_)
  · have c_1 := kc_lt rfl (by decide : Int32.toInt 0 = 0) c_1
    refine lv_iconst (v := (-1)) hx hb dX5_kindOf_24 (by decide) ?_
    exact W.iret (v := (-1)) hx hb hr (fun t ht hW => ⟨⟨(-1), (), rfl, trivial, k_ret ht hI⟩, hS.F ht⟩) hS.2.2 dX5_kindOf_25
  · have c_1 := kn_lt rfl (by decide : Int32.toInt 0 = 0) c_1
    refine lv_iload_n hx hb dX5_kindOf_4 rfl (lv_at hl 1 rfl) ?_
    refine lv_aload_n hx hb dX5_kindOf_5 rfl (lv_at hl 0 rfl) ?_
    obtain ⟨x_3, x_4, x_5, x_6, k_2, b_7, b_8⟩ := op_5 hI i_h0
    refine k_get (ci := 5) (v := .int x_3) (C := RX5) (T := TX5) (N := 5) hx hb hts (fun _ h0_ => List.mem_cons_of_mem _ (List.mem_append_right _ (List.mem_append_left _ h0_))) hown hK hI i_h0.1 k_2 rfl 1 (by decide) (hts (.fieldLink RX5 28 "DeadlineShare$Script" "size" "I") (List.mem_cons_of_mem _ (List.mem_append_left _ (List.mem_of_getElem? (i := 0) rfl)))) (fun _ h9 => h9) rfl dX5_kindOf_6 ?_
    refine lv_icmp_ge (tgt := 24) hx hb dX5_kindOf_9 (by decide) (fun c_9 => ?_) (fun c_9 => ?_)
    · have c_9 := kc_le rfl rfl c_9
      refine lv_iconst (v := (-1)) hx hb dX5_kindOf_24 (by decide) ?_
      exact W.iret (v := (-1)) hx hb hr (fun t ht hW => ⟨⟨(-1), (), rfl, trivial, k_ret ht hI⟩, hS.F ht⟩) hS.2.2 dX5_kindOf_25
    · have c_9 := kn_le rfl rfl c_9
      refine lv_aload_n hx hb dX5_kindOf_12 rfl (lv_at hl 0 rfl) ?_
      refine k_get (ci := 5) (v := .ref (gr g h0 0)) (C := RX5) (T := TX5) (N := 5) hx hb hts (fun _ h0_ => List.mem_cons_of_mem _ (List.mem_append_right _ (List.mem_append_left _ h0_))) hown hK hI i_h0.1 k_2 rfl 0 (by decide) (hts (.fieldLink RX5 11 "DeadlineShare$Script" "steps" "[I") (List.mem_cons_of_mem _ (List.mem_append_left _ (List.mem_of_getElem? (i := 1) rfl)))) (fun _ h9 => h9) rfl dX5_kindOf_13 ?_
      have i_11 := kw_5_0 hG i_h0
      refine lv_iload_n hx hb dX5_kindOf_16 rfl (lv_at hl 1 rfl) ?_
      obtain ⟨q_13, k_12⟩ := op_24 hI i_11
      refine k_iald hx hb hK hI i_11.1 0 k_12 rfl (vp_in_iff.mpr (by omega)) dX5_kindOf_17 ?_
      refine lv_topi (fun v_14 ev_14 => ?_)
      refine lv_bipush (v := 8) hx hb dX5_kindOf_18 (by decide) ?_
      refine lv_ishr hx hb dX5_kindOf_20 ?_
      refine lv_topi (fun v_15 ev_15 => ?_)
      refine lv_goto (tgt := 25) hx hb dX5_kindOf_21 (by decide) ?_
      exact W.iret (v := v_15) hx hb hr (fun t ht hW => ⟨⟨v_15, (), rfl, trivial, k_ret ht hI⟩, hS.F ht⟩) hS.2.2 dX5_kindOf_25
theorem tw_214 : q_g (.code yX5_numberOf cX5_numberOf 2 (some .int)) := ⟨(List.mem_append_right _ (List.mem_of_getElem? (i := 735) (by decide +kernel))), good_of_word (by decide +kernel)⟩
def ow_c_X5_numberOf : List Cond := [.fieldLink RX5 28 "DeadlineShare$Script" "size" "I", .fieldLink RX5 11 "DeadlineShare$Script" "steps" "[I"]
def wq_c_X5_numberOf : List Cond := .code yX5_numberOf cX5_numberOf 2 (some .int) :: (ow_c_X5_numberOf ++ (u_ws RX5 TX5 5 ++ ([] : List Cond)))
theorem tb_c_X5_numberOf : ∀ w ∈ wq_c_X5_numberOf, q_g w := by
  unfold wq_c_X5_numberOf ow_c_X5_numberOf
  exact q_cons tw_214 (q_app (q_cons tw_110 (q_cons tw_115 q_nil)) (q_app tu_X5 q_nil))
set_option maxHeartbeats 4000000 in
set_option maxRecDepth 100000 in
theorem c_X5_numberOf (l : Launch) (dC : Nat → ClassId) (dI : Nat → Nat → Nat) (g : kG) (A : Nat → Prop) (hG : kWf g) (f : Nat → va_E) (h0 : Nat) (p1 : Int32) (i_h0 : ik g 5 h0) : Met l yX5_numberOf wq_c_X5_numberOf ({ frames := 0, cells := 0, slots := 0, locals := 0 } : Room) (va_Pc [.ref h0, .int p1] (fun U => kIn dC dI g A f U)) (va_Qi (fun (r : Int32) (_ : Unit) => True) (fun (_ : Unit) t => Iv dC dI g A f t.heap) A) 0 0 A := by
  refine Met.ofW (cc := cX5_numberOf) (maxL := 2) (ret := (some .int)) (by decide) rfl ?_
  intro p e s m args below meth c s₁ B hml hv
  obtain ⟨rfl, hI, hK, hE⟩ := hv
  have hx := B.exec
  have hb := B.bytes
  have hr := B.returns
  have hts := atoms_spec (ws := wq_c_X5_numberOf) B.pre
  have hown : s.vm.findClass RX5 = some m.cls := findClass_of_methodNamed B.named
  have hlocks := B.notSynchronized
  have hS : va_S A s.heap s.heap [] := va_S.rf
  have hl := lv_entry ([.ref h0, .int p1]) (n := 2) (Nat.le_of_ble_eq_true rfl)
  rw [lg_entry_eq]
  generalize (lg_sl ([.ref h0, .int p1]) ++ List.replicate (2 - (lg_sl ([.ref h0, .int p1])).length) Slot.unset).toArray = ls at hl ⊢
  have hl : lv_has ls 2 [(0, .ref h0), (1, .int p1)] := hl
  refine lv_iload_n hx hb dX5_numberOf_0 rfl (lv_at hl 1 rfl) ?_
  refine lv_if_lt (tgt := 25) hx hb dX5_numberOf_1 (by decide) (fun c_1 => ?_) (fun c_1 => ?_)
  · have c_1 := kc_lt rfl (by decide : Int32.toInt 0 = 0) c_1
    refine lv_iconst (v := 0) hx hb dX5_numberOf_25 (by decide) ?_
    exact W.iret (v := 0) hx hb hr (fun t ht hW => ⟨⟨0, (), rfl, trivial, k_ret ht hI⟩, hS.F ht⟩) hS.2.2 dX5_numberOf_26
  · have c_1 := kn_lt rfl (by decide : Int32.toInt 0 = 0) c_1
    refine lv_iload_n hx hb dX5_numberOf_4 rfl (lv_at hl 1 rfl) ?_
    refine lv_aload_n hx hb dX5_numberOf_5 rfl (lv_at hl 0 rfl) ?_
    obtain ⟨x_3, x_4, x_5, x_6, k_2, b_7, b_8⟩ := op_5 hI i_h0
    refine k_get (ci := 5) (v := .int x_3) (C := RX5) (T := TX5) (N := 5) hx hb hts (fun _ h0_ => List.mem_cons_of_mem _ (List.mem_append_right _ (List.mem_append_left _ h0_))) hown hK hI i_h0.1 k_2 rfl 1 (by decide) (hts (.fieldLink RX5 28 "DeadlineShare$Script" "size" "I") (List.mem_cons_of_mem _ (List.mem_append_left _ (List.mem_of_getElem? (i := 0) rfl)))) (fun _ h9 => h9) rfl dX5_numberOf_6 ?_
    refine lv_icmp_ge (tgt := 25) hx hb dX5_numberOf_9 (by decide) (fun c_9 => ?_) (fun c_9 => ?_)
    · have c_9 := kc_le rfl rfl c_9
      refine lv_iconst (v := 0) hx hb dX5_numberOf_25 (by decide) ?_
      exact W.iret (v := 0) hx hb hr (fun t ht hW => ⟨⟨0, (), rfl, trivial, k_ret ht hI⟩, hS.F ht⟩) hS.2.2 dX5_numberOf_26
    · have c_9 := kn_le rfl rfl c_9
      refine lv_aload_n hx hb dX5_numberOf_12 rfl (lv_at hl 0 rfl) ?_
      refine k_get (ci := 5) (v := .ref (gr g h0 0)) (C := RX5) (T := TX5) (N := 5) hx hb hts (fun _ h0_ => List.mem_cons_of_mem _ (List.mem_append_right _ (List.mem_append_left _ h0_))) hown hK hI i_h0.1 k_2 rfl 0 (by decide) (hts (.fieldLink RX5 11 "DeadlineShare$Script" "steps" "[I") (List.mem_cons_of_mem _ (List.mem_append_left _ (List.mem_of_getElem? (i := 1) rfl)))) (fun _ h9 => h9) rfl dX5_numberOf_13 ?_
      have i_11 := kw_5_0 hG i_h0
      refine lv_iload_n hx hb dX5_numberOf_16 rfl (lv_at hl 1 rfl) ?_
      obtain ⟨q_13, k_12⟩ := op_24 hI i_11
      refine k_iald hx hb hK hI i_11.1 0 k_12 rfl (vp_in_iff.mpr (by omega)) dX5_numberOf_17 ?_
      refine lv_topi (fun v_14 ev_14 => ?_)
      refine lv_sipush (v := 255) hx hb dX5_numberOf_18 (by decide) ?_
      refine lv_iand hx hb dX5_numberOf_21 ?_
      refine lv_topi (fun v_15 ev_15 => ?_)
      refine lv_goto (tgt := 26) hx hb dX5_numberOf_22 (by decide) ?_
      exact W.iret (v := v_15) hx hb hr (fun t ht hW => ⟨⟨v_15, (), rfl, trivial, k_ret ht hI⟩, hS.F ht⟩) hS.2.2 dX5_numberOf_26
theorem tw_215 : q_g (.code yX5_isEnded cX5_isEnded 1 (some .boolean)) := ⟨(List.mem_append_right _ (List.mem_of_getElem? (i := 731) (by decide +kernel))), good_of_word (by decide +kernel)⟩
def ow_c_X5_isEnded : List Cond := [.fieldLink RX5 32 "DeadlineShare$Script" "at" "I", .fieldLink RX5 28 "DeadlineShare$Script" "size" "I"]
def wq_c_X5_isEnded : List Cond := .code yX5_isEnded cX5_isEnded 1 (some .boolean) :: (ow_c_X5_isEnded ++ (u_ws RX5 TX5 5 ++ ([] : List Cond)))
theorem tb_c_X5_isEnded : ∀ w ∈ wq_c_X5_isEnded, q_g w := by
  unfold wq_c_X5_isEnded ow_c_X5_isEnded
  exact q_cons tw_215 (q_app (q_cons tw_109 (q_cons tw_110 q_nil)) (q_app tu_X5 q_nil))
set_option maxHeartbeats 4000000 in
set_option maxRecDepth 100000 in
theorem c_X5_isEnded (l : Launch) (dC : Nat → ClassId) (dI : Nat → Nat → Nat) (g : kG) (A : Nat → Prop) (hG : kWf g) (f : Nat → va_E) (h0 : Nat) (i_h0 : ik g 5 h0) : Met l yX5_isEnded wq_c_X5_isEnded ({ frames := 0, cells := 0, slots := 0, locals := 0 } : Room) (va_Pc [.ref h0] (fun U => kIn dC dI g A f U)) (va_Qi (fun (r : Int32) (_ : Unit) => True) (fun (_ : Unit) t => Iv dC dI g A f t.heap) A) 0 0 A := by
  refine Met.ofW (cc := cX5_isEnded) (maxL := 1) (ret := (some .boolean)) (by decide) rfl ?_
  intro p e s m args below meth c s₁ B hml hv
  obtain ⟨rfl, hI, hK, hE⟩ := hv
  have hx := B.exec
  have hb := B.bytes
  have hr := B.returns
  have hts := atoms_spec (ws := wq_c_X5_isEnded) B.pre
  have hown : s.vm.findClass RX5 = some m.cls := findClass_of_methodNamed B.named
  have hlocks := B.notSynchronized
  have hS : va_S A s.heap s.heap [] := va_S.rf
  have hl := lv_entry ([.ref h0]) (n := 1) (Nat.le_of_ble_eq_true rfl)
  rw [lg_entry_eq]
  generalize (lg_sl ([.ref h0]) ++ List.replicate (1 - (lg_sl ([.ref h0])).length) Slot.unset).toArray = ls at hl ⊢
  have hl : lv_has ls 1 [(0, .ref h0)] := hl
  refine lv_aload_n hx hb dX5_isEnded_0 rfl (lv_at hl 0 rfl) ?_
  obtain ⟨x_2, x_3, x_4, x_5, k_1, b_6, b_7⟩ := op_5 hI i_h0
  refine k_get (ci := 5) (v := .int x_3) (C := RX5) (T := TX5) (N := 5) hx hb hts (fun _ h0_ => List.mem_cons_of_mem _ (List.mem_append_right _ (List.mem_append_left _ h0_))) hown hK hI i_h0.1 k_1 rfl 2 (by decide) (hts (.fieldLink RX5 32 "DeadlineShare$Script" "at" "I") (List.mem_cons_of_mem _ (List.mem_append_left _ (List.mem_of_getElem? (i := 0) rfl)))) (fun _ h9 => h9) rfl dX5_isEnded_1 ?_
  refine lv_aload_n hx hb dX5_isEnded_4 rfl (lv_at hl 0 rfl) ?_
  refine k_get (ci := 5) (v := .int x_2) (C := RX5) (T := TX5) (N := 5) hx hb hts (fun _ h0_ => List.mem_cons_of_mem _ (List.mem_append_right _ (List.mem_append_left _ h0_))) hown hK hI i_h0.1 k_1 rfl 1 (by decide) (hts (.fieldLink RX5 28 "DeadlineShare$Script" "size" "I") (List.mem_cons_of_mem _ (List.mem_append_left _ (List.mem_of_getElem? (i := 1) rfl)))) (fun _ h9 => h9) rfl dX5_isEnded_5 ?_
  refine lv_icmp_lt (tgt := 15) hx hb dX5_isEnded_8 (by decide) (fun c_8 => ?_) (fun c_8 => ?_)
  · have c_8 := kc_lt rfl rfl c_8
    refine lv_iconst (v := 0) hx hb dX5_isEnded_15 (by decide) ?_
    exact W.zret (v := 0) hx hb hr rfl (fun t ht hW => ⟨⟨0, (), rfl, trivial, k_ret ht hI⟩, hS.F ht⟩) hS.2.2 dX5_isEnded_16
  · have c_8 := kn_lt rfl rfl c_8
    refine lv_iconst (v := 1) hx hb dX5_isEnded_11 (by decide) ?_
    refine lv_goto (tgt := 16) hx hb dX5_isEnded_12 (by decide) ?_
    exact W.zret (v := 1) hx hb hr rfl (fun t ht hW => ⟨⟨1, (), rfl, trivial, k_ret ht hI⟩, hS.F ht⟩) hS.2.2 dX5_isEnded_16
theorem tw_216 : q_g (.selects RX5 yX5_kindOf yX5_kindOf) := ⟨(List.mem_append_right _ (List.mem_of_getElem? (i := 738) (by decide +kernel))), good_of_word (by decide +kernel)⟩
theorem tw_217 : q_g (.instanceMethod yX5_kindOf) := ⟨(List.mem_append_right _ (List.mem_of_getElem? (i := 737) (by decide +kernel))), good_of_word (by decide +kernel)⟩
theorem tw_218 : q_g (.methodLink RX5 47 yX5_kindOf) := ⟨(List.mem_append_right _ (List.mem_of_getElem? (i := 749) (by decide +kernel))), good_of_word (by decide +kernel)⟩
theorem tw_219 : q_g (.code yX5_holdsByRun cX5_holdsByRun 1 (some .boolean)) := ⟨(List.mem_append_right _ (List.mem_of_getElem? (i := 908) (by decide +kernel))), good_of_word (by decide +kernel)⟩
def ow_c_X5_holdsByRun : List Cond := [.fieldLink RX5 32 "DeadlineShare$Script" "at" "I", .methodLink RX5 47 yX5_kindOf, .instanceMethod yX5_kindOf, .selects RX5 yX5_kindOf yX5_kindOf, .initialized RX5]
def wq_c_X5_holdsByRun : List Cond := .code yX5_holdsByRun cX5_holdsByRun 1 (some .boolean) :: (ow_c_X5_holdsByRun ++ (u_ws RX5 TX5 5 ++ (wq_c_X5_kindOf ++ ([] : List Cond))))
theorem tb_c_X5_holdsByRun : ∀ w ∈ wq_c_X5_holdsByRun, q_g w := by
  unfold wq_c_X5_holdsByRun ow_c_X5_holdsByRun
  exact q_cons tw_219 (q_app (q_cons tw_109 (q_cons tw_218 (q_cons tw_217 (q_cons tw_216 (q_cons tw_133 q_nil))))) (q_app tu_X5 (q_app tb_c_X5_kindOf q_nil)))
set_option maxHeartbeats 4000000 in
set_option maxRecDepth 100000 in
theorem c_X5_holdsByRun (l : Launch) (dC : Nat → ClassId) (dI : Nat → Nat → Nat) (g : kG) (A : Nat → Prop) (hG : kWf g) (f : Nat → va_E) (h0 : Nat) (i_h0 : ik g 5 h0) : Met l yX5_holdsByRun wq_c_X5_holdsByRun ({ frames := 1, cells := 0, slots := 0, locals := 21 } : Room) (va_Pc [.ref h0] (fun U => kIn dC dI g A f U)) (va_Qi (fun (r : Int32) (_ : Unit) => True) (fun (_ : Unit) t => Iv dC dI g A f t.heap) A) 0 0 A := by
  refine Met.ofW (cc := cX5_holdsByRun) (maxL := 1) (ret := (some .boolean)) (by decide) rfl ?_
  intro p e s m args below meth c s₁ B hml hv
  obtain ⟨rfl, hI, hK, hE⟩ := hv
  have hx := B.exec
  have hb := B.bytes
  have hr := B.returns
  have hts := atoms_spec (ws := wq_c_X5_holdsByRun) B.pre
  have hown : s.vm.findClass RX5 = some m.cls := findClass_of_methodNamed B.named
  have hlocks := B.notSynchronized
  have hS : va_S A s.heap s.heap [] := va_S.rf
  have hl := lv_entry ([.ref h0]) (n := 1) (Nat.le_of_ble_eq_true rfl)
  rw [lg_entry_eq]
  generalize (lg_sl ([.ref h0]) ++ List.replicate (1 - (lg_sl ([.ref h0])).length) Slot.unset).toArray = ls at hl ⊢
  have hl : lv_has ls 1 [(0, .ref h0)] := hl
  refine lv_aload_n hx hb dX5_holdsByRun_0 rfl (lv_at hl 0 rfl) ?_
  refine lv_aload_n hx hb dX5_holdsByRun_1 rfl (lv_at hl 0 rfl) ?_
  obtain ⟨x_2, x_3, x_4, x_5, k_1, b_6, b_7⟩ := op_5 hI i_h0
  refine k_get (ci := 5) (v := .int x_3) (C := RX5) (T := TX5) (N := 5) hx hb hts (fun _ h0_ => List.mem_cons_of_mem _ (List.mem_append_right _ (List.mem_append_left _ h0_))) hown hK hI i_h0.1 k_1 rfl 2 (by decide) (hts (.fieldLink RX5 32 "DeadlineShare$Script" "at" "I") (List.mem_cons_of_mem _ (List.mem_append_left _ (List.mem_of_getElem? (i := 0) rfl)))) (fun _ h9 => h9) rfl dX5_holdsByRun_2 ?_
  refine va_calli (va_runV (As := [.int x_3]) (rest := []) ⟨hx, hb, hml, hown, hts⟩ (c_X5_kindOf l dC dI g A hG f h0 x_3 i_h0) (cwV 1 hts (gi_V (fun w_ h0_ => ⟨List.mem_cons_of_mem _ (List.mem_append_right _ (List.mem_append_right _ (List.mem_append_left _ h0_))), (tb_c_X5_kindOf w_ h0_).2⟩) (List.mem_cons_of_mem _ (List.mem_append_left _ (List.mem_of_getElem? (i := 1) rfl))) (List.mem_cons_of_mem _ (List.mem_append_left _ (List.mem_of_getElem? (i := 2) rfl))) (List.mem_cons_of_mem _ (List.mem_append_left _ (List.mem_of_getElem? (i := 3) rfl))) (List.mem_cons_of_mem _ (List.mem_append_left _ (List.mem_of_getElem? (i := 4) rfl)))) rfl rfl rfl (by decide +kernel) ⟨Nat.le_of_ble_eq_true rfl, Nat.le_of_ble_eq_true rfl⟩) ⟨fun a U g mk q => ⟨q.1, q.2.calling rfl rfl⟩, k_recv hK hI i_h0.1 k_1 (ci := 5) rfl, fun U hU hW => ⟨rfl, kIn.of hI hK hE hS hU hW⟩⟩ rfl rfl hl.1 rfl (lv_room (Nat.le_of_ble_eq_true rfl)) dX5_holdsByRun_5 ⟨Nat.le_of_ble_eq_true rfl, Nat.le_of_ble_eq_true rfl⟩) hS (fun q _ h => h) (fun q h => h) (fun r_9 u t H1 locs ht hvm w_8 hB hz1 hk1 hS => ?_)
  have hI : Iv dC dI g A f t.heap := hB
  rw [ht] at hI
  generalize H1 = H at hI hS ⊢
  refine W.widen (k := 0) (n := 0) (Nat.le_of_ble_eq_true rfl) (Nat.le_of_ble_eq_true rfl) ?_
  refine lv_if_ne (tgt := 15) hx hb dX5_holdsByRun_8 (by decide) (fun c_10 => ?_) (fun c_10 => ?_)
  · have c_10 := kn_eq rfl (by decide : Int32.toInt 0 = 0) c_10
    refine lv_iconst (v := 0) hx hb dX5_holdsByRun_15 (by decide) ?_
    exact W.zret (v := 0) hx hb hr rfl (fun t ht hW => ⟨⟨0, (), rfl, trivial, k_ret ht hI⟩, hS.F ht⟩) hS.2.2 dX5_holdsByRun_16
  · have c_10 := kc_eq rfl (by decide : Int32.toInt 0 = 0) c_10
    refine lv_iconst (v := 1) hx hb dX5_holdsByRun_11 (by decide) ?_
    refine lv_goto (tgt := 16) hx hb dX5_holdsByRun_12 (by decide) ?_
    exact W.zret (v := 1) hx hb hr rfl (fun t ht hW => ⟨⟨1, (), rfl, trivial, k_ret ht hI⟩, hS.F ht⟩) hS.2.2 dX5_holdsByRun_16
theorem tw_220 : q_g (.code yX5_isRunOver cX5_isRunOver 1 (some .boolean)) := ⟨(List.mem_append_right _ (List.mem_of_getElem? (i := 874) (by decide +kernel))), good_of_word (by decide +kernel)⟩
def ow_c_X5_isRunOver : List Cond := [.fieldLink RX5 35 "DeadlineShare$Script" "toRun" "I", .fieldLink RX5 32 "DeadlineShare$Script" "at" "I"]
def wq_c_X5_isRunOver : List Cond := .code yX5_isRunOver cX5_isRunOver 1 (some .boolean) :: (ow_c_X5_isRunOver ++ (u_ws RX5 TX5 5 ++ ([] : List Cond)))
theorem tb_c_X5_isRunOver : ∀ w ∈ wq_c_X5_isRunOver, q_g w := by
  unfold wq_c_X5_isRunOver ow_c_X5_isRunOver
  exact q_cons tw_220 (q_app (q_cons tw_108 (q_cons tw_109 q_nil)) (q_app tu_X5 q_nil))
set_option maxHeartbeats 4000000 in
set_option maxRecDepth 100000 in
theorem c_X5_isRunOver (l : Launch) (dC : Nat → ClassId) (dI : Nat → Nat → Nat) (g : kG) (A : Nat → Prop) (hG : kWf g) (f : Nat → va_E) (h0 : Nat) (i_h0 : ik g 5 h0) : Met l yX5_isRunOver wq_c_X5_isRunOver ({ frames := 0, cells := 0, slots := 0, locals := 0 } : Room) (va_Pc [.ref h0] (fun U => kIn dC dI g A f U)) (va_Qi (fun (r : Int32) (_ : Unit) => True) (fun (_ : Unit) t => ∃ f1 : Nat → va_E, Iv dC dI g A f1 t.heap ∧ Kp g [5] f f1) A) 0 0 A := by
  refine Met.ofW (cc := cX5_isRunOver) (maxL := 1) (ret := (some .boolean)) (by decide) rfl ?_
  intro p e s m args below meth c s₁ B hml hv
  obtain ⟨rfl, hI, hK, hE⟩ := hv
  have hx := B.exec
  have hb := B.bytes
  have hr := B.returns
  have hts := atoms_spec (ws := wq_c_X5_isRunOver) B.pre
  have hown : s.vm.findClass RX5 = some m.cls := findClass_of_methodNamed B.named
  have hlocks := B.notSynchronized
  have hS : va_S A s.heap s.heap [] := va_S.rf
  have hk0 : Kp g [5] f f := Kp.rf
  have hl := lv_entry ([.ref h0]) (n := 1) (Nat.le_of_ble_eq_true rfl)
  rw [lg_entry_eq]
  generalize (lg_sl ([.ref h0]) ++ List.replicate (1 - (lg_sl ([.ref h0])).length) Slot.unset).toArray = ls at hl ⊢
  have hl : lv_has ls 1 [(0, .ref h0)] := hl
  refine lv_aload_n hx hb dX5_isRunOver_0 rfl (lv_at hl 0 rfl) ?_
  refine lv_dup hx hb dX5_isRunOver_1 rfl ?_
  obtain ⟨x_2, x_3, x_4, x_5, k_1, b_6, b_7⟩ := op_5 hI i_h0
  refine k_get (ci := 5) (v := .int x_4) (C := RX5) (T := TX5) (N := 5) hx hb hts (fun _ h0_ => List.mem_cons_of_mem _ (List.mem_append_right _ (List.mem_append_left _ h0_))) hown hK hI i_h0.1 k_1 rfl 3 (by decide) (hts (.fieldLink RX5 35 "DeadlineShare$Script" "toRun" "I") (List.mem_cons_of_mem _ (List.mem_append_left _ (List.mem_of_getElem? (i := 0) rfl)))) (fun _ h9 => h9) rfl dX5_isRunOver_2 ?_
  refine lv_iconst (v := 1) hx hb dX5_isRunOver_5 (by decide) ?_
  refine lv_isub hx hb dX5_isRunOver_6 ?_
  refine lv_topi (fun v_8 ev_8 => ?_)
  have tv_8 := k_sb x_4 1
  rw [← ev_8, show Int32.toInt 1 = 1 from by decide] at tv_8
  refine k_put (ci := 5) (v := .int v_8) (ty := .int) (C := RX5) (T := TX5) (N := 5) hx hb hts (fun _ h0_ => List.mem_cons_of_mem _ (List.mem_append_right _ (List.mem_append_left _ h0_))) tyX5 tyX5_ok nmX5 hown hK hI hS i_h0.1 k_1 rfl 3 (by decide) (hts (.fieldLink RX5 35 "DeadlineShare$Script" "toRun" "I") (List.mem_cons_of_mem _ (List.mem_append_left _ (List.mem_of_getElem? (i := 0) rfl)))) (fun _ h9 => h9) rfl (by decide +kernel) rfl rfl (Nat.le_of_ble_eq_true rfl) rfl (cl_5 i_h0 (by omega)) dX5_isRunOver_7 (fun f_9 H locs e_10 hI hS => ?_)
  have k_12 : f_9 h0 = .inr (5, [.ref (gr g h0 0), .int x_2, .int x_3, .int v_8, .int x_5]) := by rw [e_10]; exact va_up_self _ _ _
  have kp_11 := Kp.put hk0 i_h0 (by decide) e_10
  refine lv_aload_n hx hb dX5_isRunOver_10 rfl (lv_at hl 0 rfl) ?_
  refine k_get (ci := 5) (v := .int v_8) (C := RX5) (T := TX5) (N := 5) hx hb hts (fun _ h0_ => List.mem_cons_of_mem _ (List.mem_append_right _ (List.mem_append_left _ h0_))) hown hK hI i_h0.1 k_12 rfl 3 (by decide) (hts (.fieldLink RX5 35 "DeadlineShare$Script" "toRun" "I") (List.mem_cons_of_mem _ (List.mem_append_left _ (List.mem_of_getElem? (i := 0) rfl)))) (fun _ h9 => h9) rfl dX5_isRunOver_11 ?_
  refine lv_if_le (tgt := 19) hx hb dX5_isRunOver_14 (by decide) (fun c_13 => ?_) (fun c_13 => ?_)
  · have c_13 := kc_le rfl (by decide : Int32.toInt 0 = 0) c_13
    refine lv_aload_n hx hb dX5_isRunOver_19 rfl (lv_at hl 0 rfl) ?_
    refine lv_dup hx hb dX5_isRunOver_20 rfl ?_
    refine k_get (ci := 5) (v := .int x_3) (C := RX5) (T := TX5) (N := 5) hx hb hts (fun _ h0_ => List.mem_cons_of_mem _ (List.mem_append_right _ (List.mem_append_left _ h0_))) hown hK hI i_h0.1 k_12 rfl 2 (by decide) (hts (.fieldLink RX5 32 "DeadlineShare$Script" "at" "I") (List.mem_cons_of_mem _ (List.mem_append_left _ (List.mem_of_getElem? (i := 1) rfl)))) (fun _ h9 => h9) rfl dX5_isRunOver_21 ?_
    refine lv_iconst (v := 1) hx hb dX5_isRunOver_24 (by decide) ?_
    refine lv_iadd hx hb dX5_isRunOver_25 ?_
    refine lv_topi (fun v_14 ev_14 => ?_)
    have tv_14 := k_ad x_3 1
    rw [← ev_14, show Int32.toInt 1 = 1 from by decide] at tv_14
    refine k_put (ci := 5) (v := .int v_14) (ty := .int) (C := RX5) (T := TX5) (N := 5) hx hb hts (fun _ h0_ => List.mem_cons_of_mem _ (List.mem_append_right _ (List.mem_append_left _ h0_))) tyX5 tyX5_ok nmX5 hown hK hI hS i_h0.1 k_12 rfl 2 (by decide) (hts (.fieldLink RX5 32 "DeadlineShare$Script" "at" "I") (List.mem_cons_of_mem _ (List.mem_append_left _ (List.mem_of_getElem? (i := 1) rfl)))) (fun _ h9 => h9) rfl (by decide +kernel) rfl rfl (Nat.le_of_ble_eq_true rfl) rfl (cl_5 i_h0 (by omega)) dX5_isRunOver_26 (fun f_15 H locs e_16 hI hS => ?_)
    have k_18 : f_15 h0 = .inr (5, [.ref (gr g h0 0), .int x_2, .int v_14, .int v_8, .int x_5]) := by rw [e_16]; exact va_up_self _ _ _
    have kp_17 := Kp.put kp_11 i_h0 (by decide) e_16
    refine lv_iconst (v := 1) hx hb dX5_isRunOver_29 (by decide) ?_
    exact W.zret (v := 1) hx hb hr rfl (fun t ht hW => ⟨⟨1, (), rfl, trivial, ⟨f_15, k_ret ht hI, kp_17⟩⟩, hS.F ht⟩) hS.2.2 dX5_isRunOver_30
  · have c_13 := kn_le rfl (by decide : Int32.toInt 0 = 0) c_13
    refine lv_iconst (v := 0) hx hb dX5_isRunOver_17 (by decide) ?_
    exact W.zret (v := 0) hx hb hr rfl (fun t ht hW => ⟨⟨0, (), rfl, trivial, ⟨f_9, k_ret ht hI, kp_11⟩⟩, hS.F ht⟩) hS.2.2 dX5_isRunOver_18
theorem tw_221 : q_g (.selects RX5 yX5_numberOf yX5_numberOf) := ⟨(List.mem_append_right _ (List.mem_of_getElem? (i := 734) (by decide +kernel))), good_of_word (by decide +kernel)⟩
theorem tw_222 : q_g (.instanceMethod yX5_numberOf) := ⟨(List.mem_append_right _ (List.mem_of_getElem? (i := 733) (by decide +kernel))), good_of_word (by decide +kernel)⟩
theorem tw_223 : q_g (.methodLink RX5 51 yX5_numberOf) := ⟨(List.mem_append_right _ (List.mem_of_getElem? (i := 748) (by decide +kernel))), good_of_word (by decide +kernel)⟩
theorem tw_224 : q_g (.code yX5_turnBack cX5_turnBack 2 none) := ⟨(List.mem_append_right _ (List.mem_of_getElem? (i := 747) (by decide +kernel))), good_of_word (by decide +kernel)⟩
def ow_c_X5_turnBack : List Cond := [.fieldLink RX5 38 "DeadlineShare$Script" "timesBack" "I", .fieldLink RX5 32 "DeadlineShare$Script" "at" "I", .methodLink RX5 51 yX5_numberOf, .instanceMethod yX5_numberOf, .selects RX5 yX5_numberOf yX5_numberOf, .initialized RX5, .methodLink RX5 47 yX5_kindOf, .instanceMethod yX5_kindOf, .selects RX5 yX5_kindOf yX5_kindOf]
def wq_c_X5_turnBack : List Cond := .code yX5_turnBack cX5_turnBack 2 none :: (ow_c_X5_turnBack ++ (u_ws RX5 TX5 5 ++ (wq_c_X5_numberOf ++ (wq_c_X5_kindOf ++ ([] : List Cond)))))
theorem tb_c_X5_turnBack : ∀ w ∈ wq_c_X5_turnBack, q_g w := by
  unfold wq_c_X5_turnBack ow_c_X5_turnBack
  exact q_cons tw_224 (q_app (q_cons tw_107 (q_cons tw_109 (q_cons tw_223 (q_cons tw_222 (q_cons tw_221 (q_cons tw_133 (q_cons tw_218 (q_cons tw_217 (q_cons tw_216 q_nil))))))))) (q_app tu_X5 (q_app tb_c_X5_numberOf (q_app tb_c_X5_kindOf q_nil))))
set_option maxHeartbeats 4000000 in
set_option maxRecDepth 100000 in
theorem c_X5_turnBack (l : Launch) (dC : Nat → ClassId) (dI : Nat → Nat → Nat) (g : kG) (A : Nat → Prop) (hG : kWf g) (f : Nat → va_E) (h0 : Nat) (i_h0 : ik g 5 h0) : Met l yX5_turnBack wq_c_X5_turnBack ({ frames := 1, cells := 0, slots := 0, locals := 21 } : Room) (va_Pc [.ref h0] (fun U => kIn dC dI g A f U)) (va_Qv (fun (_ : Unit) => True) (fun (_ : Unit) t => ∃ f1 : Nat → va_E, Iv dC dI g A f1 t.heap ∧ Kp g [5] f f1) A) 0 0 A := by
  refine Met.ofW (cc := cX5_turnBack) (maxL := 2) (ret := none) (by decide) rfl ?_
  intro p e s m args below meth c s₁ B hml hv
  obtain ⟨rfl, hI, hK, hE⟩ := hv
  have hx := B.exec
  have hb := B.bytes
  have hr := B.returns
  have hts := atoms_spec (ws := wq_c_X5_turnBack) B.pre
  have hown : s.vm.findClass RX5 = some m.cls := findClass_of_methodNamed B.named
  have hlocks := B.notSynchronized
  have hS : va_S A s.heap s.heap [] := va_S.rf
  have hk0 : Kp g [5] f f := Kp.rf
  have hl := lv_entry ([.ref h0]) (n := 2) (Nat.le_of_ble_eq_true rfl)
  rw [lg_entry_eq]
  generalize (lg_sl ([.ref h0]) ++ List.replicate (2 - (lg_sl ([.ref h0])).length) Slot.unset).toArray = ls at hl ⊢
  have hl : lv_has ls 2 [(0, .ref h0)] := hl
  refine lv_aload_n hx hb dX5_turnBack_0 rfl (lv_at hl 0 rfl) ?_
  obtain ⟨x_2, x_3, x_4, x_5, k_1, b_6, b_7⟩ := op_5 hI i_h0
  refine k_get (ci := 5) (v := .int x_5) (C := RX5) (T := TX5) (N := 5) hx hb hts (fun _ h0_ => List.mem_cons_of_mem _ (List.mem_append_right _ (List.mem_append_left _ h0_))) hown hK hI i_h0.1 k_1 rfl 4 (by decide) (hts (.fieldLink RX5 38 "DeadlineShare$Script" "timesBack" "I") (List.mem_cons_of_mem _ (List.mem_append_left _ (List.mem_of_getElem? (i := 0) rfl)))) (fun _ h9 => h9) rfl dX5_turnBack_1 ?_
  refine lv_aload_n hx hb dX5_turnBack_4 rfl (lv_at hl 0 rfl) ?_
  refine lv_aload_n hx hb dX5_turnBack_5 rfl (lv_at hl 0 rfl) ?_
  refine k_get (ci := 5) (v := .int x_3) (C := RX5) (T := TX5) (N := 5) hx hb hts (fun _ h0_ => List.mem_cons_of_mem _ (List.mem_append_right _ (List.mem_append_left _ h0_))) hown hK hI i_h0.1 k_1 rfl 2 (by decide) (hts (.fieldLink RX5 32 "DeadlineShare$Script" "at" "I") (List.mem_cons_of_mem _ (List.mem_append_left _ (List.mem_of_getElem? (i := 1) rfl)))) (fun _ h9 => h9) rfl dX5_turnBack_6 ?_
  refine va_calli (va_runV (As := [.int x_3]) (rest := [.int x_5]) ⟨hx, hb, hml, hown, hts⟩ (c_X5_numberOf l dC dI g A hG f h0 x_3 i_h0) (cwV 1 hts (gi_V (fun w_ h0_ => ⟨List.mem_cons_of_mem _ (List.mem_append_right _ (List.mem_append_right _ (List.mem_append_left _ h0_))), (tb_c_X5_numberOf w_ h0_).2⟩) (List.mem_cons_of_mem _ (List.mem_append_left _ (List.mem_of_getElem? (i := 2) rfl))) (List.mem_cons_of_mem _ (List.mem_append_left _ (List.mem_of_getElem? (i := 3) rfl))) (List.mem_cons_of_mem _ (List.mem_append_left _ (List.mem_of_getElem? (i := 4) rfl))) (List.mem_cons_of_mem _ (List.mem_append_left _ (List.mem_of_getElem? (i := 5) rfl)))) rfl rfl rfl (by decide +kernel) ⟨Nat.le_of_ble_eq_true rfl, Nat.le_of_ble_eq_true rfl⟩) ⟨fun a U g mk q => ⟨q.1, q.2.calling rfl rfl⟩, k_recv hK hI i_h0.1 k_1 (ci := 5) rfl, fun U hU hW => ⟨rfl, kIn.of hI hK hE hS hU hW⟩⟩ rfl rfl hl.1 rfl (lv_room (Nat.le_of_ble_eq_true rfl)) dX5_turnBack_9 ⟨Nat.le_of_ble_eq_true rfl, Nat.le_of_ble_eq_true rfl⟩) hS (fun q _ h => h) (fun q h => h) (fun r_9 u t H1 locs ht hvm w_8 hB hz1 hk1 hS => ?_)
  have hI : Iv dC dI g A f t.heap := hB
  rw [ht] at hI
  generalize H1 = H at hI hS ⊢
  refine W.widen (k := 0) (n := 0) (Nat.le_of_ble_eq_true rfl) (Nat.le_of_ble_eq_true rfl) ?_
  refine lv_icmp_lt (tgt := 31) hx hb dX5_turnBack_12 (by decide) (fun c_10 => ?_) (fun c_10 => ?_)
  · have c_10 := kc_lt rfl rfl c_10
    refine lv_aload_n hx hb dX5_turnBack_31 rfl (lv_at hl 0 rfl) ?_
    refine lv_dup hx hb dX5_turnBack_32 rfl ?_
    refine k_get (ci := 5) (v := .int x_5) (C := RX5) (T := TX5) (N := 5) hx hb hts (fun _ h0_ => List.mem_cons_of_mem _ (List.mem_append_right _ (List.mem_append_left _ h0_))) hown hK hI i_h0.1 k_1 rfl 4 (by decide) (hts (.fieldLink RX5 38 "DeadlineShare$Script" "timesBack" "I") (List.mem_cons_of_mem _ (List.mem_append_left _ (List.mem_of_getElem? (i := 0) rfl)))) (fun _ h9 => h9) rfl dX5_turnBack_33 ?_
    refine lv_iconst (v := 1) hx hb dX5_turnBack_36 (by decide) ?_
    refine lv_iadd hx hb dX5_turnBack_37 ?_
    refine lv_topi (fun v_11 ev_11 => ?_)
    have tv_11 := k_ad x_5 1
    rw [← ev_11, show Int32.toInt 1 = 1 from by decide] at tv_11
    refine k_put (ci := 5) (v := .int v_11) (ty := .int) (C := RX5) (T := TX5) (N := 5) hx hb hts (fun _ h0_ => List.mem_cons_of_mem _ (List.mem_append_right _ (List.mem_append_left _ h0_))) tyX5 tyX5_ok nmX5 hown hK hI hS i_h0.1 k_1 rfl 4 (by decide) (hts (.fieldLink RX5 38 "DeadlineShare$Script" "timesBack" "I") (List.mem_cons_of_mem _ (List.mem_append_left _ (List.mem_of_getElem? (i := 0) rfl)))) (fun _ h9 => h9) rfl (by decide +kernel) rfl rfl (Nat.le_of_ble_eq_true rfl) rfl (cl_5 i_h0 (by omega)) dX5_turnBack_38 (fun f_12 H locs e_13 hI hS => ?_)
    have k_15 : f_12 h0 = .inr (5, [.ref (gr g h0 0), .int x_2, .int x_3, .int x_4, .int v_11]) := by rw [e_13]; exact va_up_self _ _ _
    have kp_14 := Kp.put hk0 i_h0 (by decide) e_13
    refine lv_aload_n hx hb dX5_turnBack_41 rfl (lv_at hl 0 rfl) ?_
    refine k_get (ci := 5) (v := .int x_3) (C := RX5) (T := TX5) (N := 5) hx hb hts (fun _ h0_ => List.mem_cons_of_mem _ (List.mem_append_right _ (List.mem_append_left _ h0_))) hown hK hI i_h0.1 k_15 rfl 2 (by decide) (hts (.fieldLink RX5 32 "DeadlineShare$Script" "at" "I") (List.mem_cons_of_mem _ (List.mem_append_left _ (List.mem_of_getElem? (i := 1) rfl)))) (fun _ h9 => h9) rfl dX5_turnBack_42 ?_
    refine lv_istore_n (lv' := [(1, .int x_3), (0, .ref h0)]) hx hb dX5_turnBack_45 rfl hl (by decide) rfl (fun ls hl => ?_)
    have K_46 : ∀ (nn : Nat) (y_16 : Int32) (H : Heap) (locs : List Loc) (ls : Array Slot), y_16.toInt.toNat < nn → Iv dC dI g A f_12 H → va_S A s.heap H locs → lv_has ls 2 [(1, .int y_16), (0, .ref h0)] → W p l e (headSpec wq_c_X5_turnBack ({ frames := 1, cells := 0, slots := 0, locals := 21 } : Room)).room s m ([.ref h0].toArray) below meth c H locs 0 0 (MQ below (va_Qv (fun (_ : Unit) => True) (fun (_ : Unit) t => ∃ f1 : Nat → va_E, Iv dC dI g A f1 t.heap ∧ Kp g [5] f f1) A) ([.ref h0].toArray) s 0 0 A) (F0 m 46 ls []) := by
      intro nn
      induction nn with
      | zero => intro y_16 H locs ls m_17; exact absurd m_17 (Nat.not_lt_zero _)
      | succ nn ih =>
        intro y_16 H locs ls m_17 hI hS  hl
        have g_18 := Int32.toInt_lt y_16
        have g_19 := Int32.le_toInt y_16
        refine lv_iload_n hx hb dX5_turnBack_46 rfl (lv_at hl 0 rfl) ?_
        refine lv_if_le (tgt := 67) hx hb dX5_turnBack_47 (by decide) (fun c_20 => ?_) (fun c_20 => ?_)
        · have c_20 := kc_le rfl (by decide : Int32.toInt 0 = 0) c_20
          refine lv_aload_n hx hb dX5_turnBack_67 rfl (lv_at hl 1 rfl) ?_
          refine lv_iload_n hx hb dX5_turnBack_68 rfl (lv_at hl 0 rfl) ?_
          refine k_put (ci := 5) (v := .int y_16) (ty := .int) (C := RX5) (T := TX5) (N := 5) hx hb hts (fun _ h0_ => List.mem_cons_of_mem _ (List.mem_append_right _ (List.mem_append_left _ h0_))) tyX5 tyX5_ok nmX5 hown hK hI hS i_h0.1 k_15 rfl 2 (by decide) (hts (.fieldLink RX5 32 "DeadlineShare$Script" "at" "I") (List.mem_cons_of_mem _ (List.mem_append_left _ (List.mem_of_getElem? (i := 1) rfl)))) (fun _ h9 => h9) rfl (by decide +kernel) rfl rfl (Nat.le_of_ble_eq_true rfl) rfl (cl_5 i_h0 (by omega)) dX5_turnBack_69 (fun f_21 H locs e_22 hI hS => ?_)
          have k_24 : f_21 h0 = .inr (5, [.ref (gr g h0 0), .int x_2, .int y_16, .int x_4, .int v_11]) := by rw [e_22]; exact va_up_self _ _ _
          have kp_23 := Kp.put kp_14 i_h0 (by decide) e_22
          exact W.vret hx hb hr (fun t ht hW => ⟨⟨(), rfl, trivial, ⟨f_21, k_ret ht hI, kp_23⟩⟩, hS.F ht⟩) hS.2.2 dX5_turnBack_72
        · have c_20 := kn_le rfl (by decide : Int32.toInt 0 = 0) c_20
          refine lv_aload_n hx hb dX5_turnBack_50 rfl (lv_at hl 1 rfl) ?_
          refine lv_iload_n hx hb dX5_turnBack_51 rfl (lv_at hl 0 rfl) ?_
          refine lv_iconst (v := 1) hx hb dX5_turnBack_52 (by decide) ?_
          refine lv_isub hx hb dX5_turnBack_53 ?_
          refine lv_topi (fun v_25 ev_25 => ?_)
          have tv_25 := k_sb y_16 1
          rw [← ev_25, show Int32.toInt 1 = 1 from by decide] at tv_25
          refine va_calli (va_runV (As := [.int v_25]) (rest := []) ⟨hx, hb, hml, hown, hts⟩ (c_X5_kindOf l dC dI g A hG f_12 h0 v_25 i_h0) (cwV 1 hts (gi_V (fun w_ h0_ => ⟨List.mem_cons_of_mem _ (List.mem_append_right _ (List.mem_append_right _ (List.mem_append_right _ (List.mem_append_left _ h0_)))), (tb_c_X5_kindOf w_ h0_).2⟩) (List.mem_cons_of_mem _ (List.mem_append_left _ (List.mem_of_getElem? (i := 6) rfl))) (List.mem_cons_of_mem _ (List.mem_append_left _ (List.mem_of_getElem? (i := 7) rfl))) (List.mem_cons_of_mem _ (List.mem_append_left _ (List.mem_of_getElem? (i := 8) rfl))) (List.mem_cons_of_mem _ (List.mem_append_left _ (List.mem_of_getElem? (i := 5) rfl)))) rfl rfl rfl (by decide +kernel) ⟨Nat.le_of_ble_eq_true rfl, Nat.le_of_ble_eq_true rfl⟩) ⟨fun a U g mk q => ⟨q.1, q.2.calling rfl rfl⟩, k_recv hK hI i_h0.1 k_15 (ci := 5) rfl, fun U hU hW => ⟨rfl, kIn.of hI hK hE hS hU hW⟩⟩ rfl rfl hl.1 rfl (lv_room (Nat.le_of_ble_eq_true rfl)) dX5_turnBack_54 ⟨Nat.le_of_ble_eq_true rfl, Nat.le_of_ble_eq_true rfl⟩) hS (fun q _ h => h) (fun q h => h) (fun r_27 u t H1 locs ht hvm w_26 hB hz1 hk1 hS => ?_)
          have hI : Iv dC dI g A f_12 t.heap := hB
          rw [ht] at hI
          generalize H1 = H at hI hS ⊢
          refine W.widen (k := 0) (n := 0) (Nat.le_of_ble_eq_true rfl) (Nat.le_of_ble_eq_true rfl) ?_
          refine lv_iconst (v := 4) hx hb dX5_turnBack_57 (by decide) ?_
          refine lv_icmp_eq (tgt := 67) hx hb dX5_turnBack_58 (by decide) (fun c_28 => ?_) (fun c_28 => ?_)
          · have c_28 := kc_eq rfl (by decide : Int32.toInt 4 = 4) c_28
            refine lv_aload_n hx hb dX5_turnBack_67 rfl (lv_at hl 1 rfl) ?_
            refine lv_iload_n hx hb dX5_turnBack_68 rfl (lv_at hl 0 rfl) ?_
            refine k_put (ci := 5) (v := .int y_16) (ty := .int) (C := RX5) (T := TX5) (N := 5) hx hb hts (fun _ h0_ => List.mem_cons_of_mem _ (List.mem_append_right _ (List.mem_append_left _ h0_))) tyX5 tyX5_ok nmX5 hown hK hI hS i_h0.1 k_15 rfl 2 (by decide) (hts (.fieldLink RX5 32 "DeadlineShare$Script" "at" "I") (List.mem_cons_of_mem _ (List.mem_append_left _ (List.mem_of_getElem? (i := 1) rfl)))) (fun _ h9 => h9) rfl (by decide +kernel) rfl rfl (Nat.le_of_ble_eq_true rfl) rfl (cl_5 i_h0 (by omega)) dX5_turnBack_69 (fun f_29 H locs e_30 hI hS => ?_)
            have k_32 : f_29 h0 = .inr (5, [.ref (gr g h0 0), .int x_2, .int y_16, .int x_4, .int v_11]) := by rw [e_30]; exact va_up_self _ _ _
            have kp_31 := Kp.put kp_14 i_h0 (by decide) e_30
            exact W.vret hx hb hr (fun t ht hW => ⟨⟨(), rfl, trivial, ⟨f_29, k_ret ht hI, kp_31⟩⟩, hS.F ht⟩) hS.2.2 dX5_turnBack_72
          · have c_28 := kn_eq rfl (by decide : Int32.toInt 4 = 4) c_28
            obtain ⟨v_33, ev_33⟩ : ∃ y : Int32, y = y_16 + Int32.ofInt (-1) := ⟨_, rfl⟩
            refine lv_iinc (v := v_33) (lv' := [(1, .int v_33), (0, .ref h0)]) hx hb dX5_turnBack_61 hl (k := 0) rfl ev_33.symm (by decide) rfl (fun ls hl => ?_)
            have tv_33 := k_dec y_16
            rw [← ev_33] at tv_33
            refine lv_goto (tgt := 46) hx hb dX5_turnBack_64 (by decide) ?_
            exact ih v_33 _ _ _ (by omega) hI hS  (lv_sub hl [0, 1] rfl)
    exact K_46 _ x_3 _ _ _ (Nat.lt_succ_self _) hI hS  (lv_sub hl [0, 1] rfl)
  · have c_10 := kn_lt rfl rfl c_10
    refine lv_aload_n hx hb dX5_turnBack_15 rfl (lv_at hl 0 rfl) ?_
    refine lv_iconst (v := 0) hx hb dX5_turnBack_16 (by decide) ?_
    refine k_put (ci := 5) (v := .int 0) (ty := .int) (C := RX5) (T := TX5) (N := 5) hx hb hts (fun _ h0_ => List.mem_cons_of_mem _ (List.mem_append_right _ (List.mem_append_left _ h0_))) tyX5 tyX5_ok nmX5 hown hK hI hS i_h0.1 k_1 rfl 4 (by decide) (hts (.fieldLink RX5 38 "DeadlineShare$Script" "timesBack" "I") (List.mem_cons_of_mem _ (List.mem_append_left _ (List.mem_of_getElem? (i := 0) rfl)))) (fun _ h9 => h9) rfl (by decide +kernel) rfl rfl (Nat.le_of_ble_eq_true rfl) rfl (cl_5 i_h0 (by omega)) dX5_turnBack_17 (fun f_34 H locs e_35 hI hS => ?_)
    have k_37 : f_34 h0 = .inr (5, [.ref (gr g h0 0), .int x_2, .int x_3, .int x_4, .int 0]) := by rw [e_35]; exact va_up_self _ _ _
    have kp_36 := Kp.put hk0 i_h0 (by decide) e_35
    refine lv_aload_n hx hb dX5_turnBack_20 rfl (lv_at hl 0 rfl) ?_
    refine lv_dup hx hb dX5_turnBack_21 rfl ?_
    refine k_get (ci := 5) (v := .int x_3) (C := RX5) (T := TX5) (N := 5) hx hb hts (fun _ h0_ => List.mem_cons_of_mem _ (List.mem_append_right _ (List.mem_append_left _ h0_))) hown hK hI i_h0.1 k_37 rfl 2 (by decide) (hts (.fieldLink RX5 32 "DeadlineShare$Script" "at" "I") (List.mem_cons_of_mem _ (List.mem_append_left _ (List.mem_of_getElem? (i := 1) rfl)))) (fun _ h9 => h9) rfl dX5_turnBack_22 ?_
    refine lv_iconst (v := 1) hx hb dX5_turnBack_25 (by decide) ?_
    refine lv_iadd hx hb dX5_turnBack_26 ?_
    refine lv_topi (fun v_38 ev_38 => ?_)
    have tv_38 := k_ad x_3 1
    rw [← ev_38, show Int32.toInt 1 = 1 from by decide] at tv_38
    refine k_put (ci := 5) (v := .int v_38) (ty := .int) (C := RX5) (T := TX5) (N := 5) hx hb hts (fun _ h0_ => List.mem_cons_of_mem _ (List.mem_append_right _ (List.mem_append_left _ h0_))) tyX5 tyX5_ok nmX5 hown hK hI hS i_h0.1 k_37 rfl 2 (by decide) (hts (.fieldLink RX5 32 "DeadlineShare$Script" "at" "I") (List.mem_cons_of_mem _ (List.mem_append_left _ (List.mem_of_getElem? (i := 1) rfl)))) (fun _ h9 => h9) rfl (by decide +kernel) rfl rfl (Nat.le_of_ble_eq_true rfl) rfl (cl_5 i_h0 (by omega)) dX5_turnBack_27 (fun f_39 H locs e_40 hI hS => ?_)
    have k_42 : f_39 h0 = .inr (5, [.ref (gr g h0 0), .int x_2, .int v_38, .int x_4, .int 0]) := by rw [e_40]; exact va_up_self _ _ _
    have kp_41 := Kp.put kp_36 i_h0 (by decide) e_40
    exact W.vret hx hb hr (fun t ht hW => ⟨⟨(), rfl, trivial, ⟨f_39, k_ret ht hI, kp_41⟩⟩, hS.F ht⟩) hS.2.2 dX5_turnBack_30
theorem tw_225 : q_g (.code yX7_add cX7_add 2 none) := ⟨(List.mem_append_right _ (List.mem_of_getElem? (i := 400) (by decide +kernel))), good_of_word (by decide +kernel)⟩
def ow_c_X7_add : List Cond := [.fieldLink RX7 15 "DeadlineShare$Tape" "length" "I", .fieldLink RX7 11 "DeadlineShare$Tape" "bytes" "[B"]
def wq_c_X7_add : List Cond := .code yX7_add cX7_add 2 none :: (ow_c_X7_add ++ (u_ws RX7 TX7 2 ++ ([] : List Cond)))
theorem tb_c_X7_add : ∀ w ∈ wq_c_X7_add, q_g w := by
  unfold wq_c_X7_add ow_c_X7_add
  exact q_cons tw_225 (q_app (q_cons tw_190 (q_cons tw_189 q_nil)) (q_app tu_X7 q_nil))
set_option maxHeartbeats 4000000 in
set_option maxRecDepth 100000 in
theorem c_X7_add (l : Launch) (dC : Nat → ClassId) (dI : Nat → Nat → Nat) (g : kG) (A : Nat → Prop) (hG : kWf g) (f : Nat → va_E) (h0 : Nat) (p1 : Int32) (i_h0 : ik g 7 h0) : Met l yX7_add wq_c_X7_add ({ frames := 0, cells := 0, slots := 0, locals := 0 } : Room) (va_Pc [.ref h0, .int p1] (fun U => kIn dC dI g A f U)) (va_Qv (fun (_ : Unit) => True) (fun (_ : Unit) t => ∃ f1 : Nat → va_E, Iv dC dI g A f1 t.heap ∧ Kp g [7, 25] f f1) A) 0 0 A := by
  refine Met.ofW (cc := cX7_add) (maxL := 2) (ret := none) (by decide) rfl ?_
  intro p e s m args below meth c s₁ B hml hv
  obtain ⟨rfl, hI, hK, hE⟩ := hv
  have hx := B.exec
  have hb := B.bytes
  have hr := B.returns
  have hts := atoms_spec (ws := wq_c_X7_add) B.pre
  have hown : s.vm.findClass RX7 = some m.cls := findClass_of_methodNamed B.named
  have hlocks := B.notSynchronized
  have hS : va_S A s.heap s.heap [] := va_S.rf
  have hk0 : Kp g [7, 25] f f := Kp.rf
  have hl := lv_entry ([.ref h0, .int p1]) (n := 2) (Nat.le_of_ble_eq_true rfl)
  rw [lg_entry_eq]
  generalize (lg_sl ([.ref h0, .int p1]) ++ List.replicate (2 - (lg_sl ([.ref h0, .int p1])).length) Slot.unset).toArray = ls at hl ⊢
  have hl : lv_has ls 2 [(0, .ref h0), (1, .int p1)] := hl
  refine lv_aload_n hx hb dX7_add_0 rfl (lv_at hl 0 rfl) ?_
  obtain ⟨x_2, k_1⟩ := op_7 hI i_h0
  refine k_get (ci := 7) (v := .int x_2) (C := RX7) (T := TX7) (N := 2) hx hb hts (fun _ h0_ => List.mem_cons_of_mem _ (List.mem_append_right _ (List.mem_append_left _ h0_))) hown hK hI i_h0.1 k_1 rfl 1 (by decide) (hts (.fieldLink RX7 15 "DeadlineShare$Tape" "length" "I") (List.mem_cons_of_mem _ (List.mem_append_left _ (List.mem_of_getElem? (i := 0) rfl)))) (fun _ h9 => h9) rfl dX7_add_1 ?_
  refine lv_if_lt (tgt := 38) hx hb dX7_add_4 (by decide) (fun c_3 => ?_) (fun c_3 => ?_)
  · have c_3 := kc_lt rfl (by decide : Int32.toInt 0 = 0) c_3
    exact W.vret hx hb hr (fun t ht hW => ⟨⟨(), rfl, trivial, ⟨f, k_ret ht hI, hk0⟩⟩, hS.F ht⟩) hS.2.2 dX7_add_38
  · have c_3 := kn_lt rfl (by decide : Int32.toInt 0 = 0) c_3
    refine lv_aload_n hx hb dX7_add_7 rfl (lv_at hl 0 rfl) ?_
    refine k_get (ci := 7) (v := .int x_2) (C := RX7) (T := TX7) (N := 2) hx hb hts (fun _ h0_ => List.mem_cons_of_mem _ (List.mem_append_right _ (List.mem_append_left _ h0_))) hown hK hI i_h0.1 k_1 rfl 1 (by decide) (hts (.fieldLink RX7 15 "DeadlineShare$Tape" "length" "I") (List.mem_cons_of_mem _ (List.mem_append_left _ (List.mem_of_getElem? (i := 0) rfl)))) (fun _ h9 => h9) rfl dX7_add_8 ?_
    refine lv_sipush (v := 200) hx hb dX7_add_11 (by decide) ?_
    refine lv_icmp_ge (tgt := 38) hx hb dX7_add_14 (by decide) (fun c_4 => ?_) (fun c_4 => ?_)
    · have c_4 := kc_le (by decide : Int32.toInt 200 = 200) rfl c_4
      exact W.vret hx hb hr (fun t ht hW => ⟨⟨(), rfl, trivial, ⟨f, k_ret ht hI, hk0⟩⟩, hS.F ht⟩) hS.2.2 dX7_add_38
    · have c_4 := kn_le (by decide : Int32.toInt 200 = 200) rfl c_4
      refine lv_aload_n hx hb dX7_add_17 rfl (lv_at hl 0 rfl) ?_
      refine k_get (ci := 7) (v := .ref (gr g h0 0)) (C := RX7) (T := TX7) (N := 2) hx hb hts (fun _ h0_ => List.mem_cons_of_mem _ (List.mem_append_right _ (List.mem_append_left _ h0_))) hown hK hI i_h0.1 k_1 rfl 0 (by decide) (hts (.fieldLink RX7 11 "DeadlineShare$Tape" "bytes" "[B") (List.mem_cons_of_mem _ (List.mem_append_left _ (List.mem_of_getElem? (i := 1) rfl)))) (fun _ h9 => h9) rfl dX7_add_18 ?_
      have i_6 := kw_7_0 hG i_h0
      refine lv_aload_n hx hb dX7_add_21 rfl (lv_at hl 0 rfl) ?_
      refine k_get (ci := 7) (v := .int x_2) (C := RX7) (T := TX7) (N := 2) hx hb hts (fun _ h0_ => List.mem_cons_of_mem _ (List.mem_append_right _ (List.mem_append_left _ h0_))) hown hK hI i_h0.1 k_1 rfl 1 (by decide) (hts (.fieldLink RX7 15 "DeadlineShare$Tape" "length" "I") (List.mem_cons_of_mem _ (List.mem_append_left _ (List.mem_of_getElem? (i := 0) rfl)))) (fun _ h9 => h9) rfl dX7_add_22 ?_
      refine lv_iload_n hx hb dX7_add_25 rfl (lv_at hl 1 rfl) ?_
      refine lv_i2b (v := p1.toInt8.toInt32) hx hb dX7_add_26 rfl ?_
      obtain ⟨q_8, k_7⟩ := op_25 hI i_6
      refine k_bast hx hb hK hI hS i_6.1 2 k_7 rfl (vp_in_iff.mpr (by omega)) (cl_25 i_6) dX7_add_27 (fun f_9 H locs e_10 hI hS => ?_)
      generalize eq_11 : upd q_8 (Int32.toNatClampNeg x_2) (vp_nar .byte p1.toInt8.toInt32) = q_11 at e_10
      have k_13 : f_9 h0 = .inr (7, [.ref (gr g h0 0), .int x_2]) := by rw [e_10, va_up_ne _ _ (ik_ne i_h0 i_6 (by decide))]; exact k_1
      have k_14 : f_9 (gr g h0 0) = .inl (gc g 2, 200, .inl q_11) := by rw [e_10]; exact va_up_self _ _ _
      have kp_12 := Kp.put hk0 i_6 (by decide) e_10
      refine lv_aload_n hx hb dX7_add_28 rfl (lv_at hl 0 rfl) ?_
      refine lv_dup hx hb dX7_add_29 rfl ?_
      refine k_get (ci := 7) (v := .int x_2) (C := RX7) (T := TX7) (N := 2) hx hb hts (fun _ h0_ => List.mem_cons_of_mem _ (List.mem_append_right _ (List.mem_append_left _ h0_))) hown hK hI i_h0.1 k_13 rfl 1 (by decide) (hts (.fieldLink RX7 15 "DeadlineShare$Tape" "length" "I") (List.mem_cons_of_mem _ (List.mem_append_left _ (List.mem_of_getElem? (i := 0) rfl)))) (fun _ h9 => h9) rfl dX7_add_30 ?_
      refine lv_iconst (v := 1) hx hb dX7_add_33 (by decide) ?_
      refine lv_iadd hx hb dX7_add_34 ?_
      refine lv_topi (fun v_15 ev_15 => ?_)
      have tv_15 := k_ad x_2 1
      rw [← ev_15, show Int32.toInt 1 = 1 from by decide] at tv_15
      refine k_put (ci := 7) (v := .int v_15) (ty := .int) (C := RX7) (T := TX7) (N := 2) hx hb hts (fun _ h0_ => List.mem_cons_of_mem _ (List.mem_append_right _ (List.mem_append_left _ h0_))) tyX7 tyX7_ok nmX7 hown hK hI hS i_h0.1 k_13 rfl 1 (by decide) (hts (.fieldLink RX7 15 "DeadlineShare$Tape" "length" "I") (List.mem_cons_of_mem _ (List.mem_append_left _ (List.mem_of_getElem? (i := 0) rfl)))) (fun _ h9 => h9) rfl (by decide +kernel) rfl rfl (Nat.le_of_ble_eq_true rfl) rfl (cl_7 i_h0) dX7_add_35 (fun f_16 H locs e_17 hI hS => ?_)
      have k_19 : f_16 h0 = .inr (7, [.ref (gr g h0 0), .int v_15]) := by rw [e_17]; exact va_up_self _ _ _
      have k_20 : f_16 (gr g h0 0) = .inl (gc g 2, 200, .inl q_11) := by rw [e_17, va_up_ne _ _ (ik_ne i_6 i_h0 (by decide))]; exact k_14
      have kp_18 := Kp.put kp_12 i_h0 (by decide) e_17
      exact W.vret hx hb hr (fun t ht hW => ⟨⟨(), rfl, trivial, ⟨f_16, k_ret ht hI, kp_18⟩⟩, hS.F ht⟩) hS.2.2 dX7_add_38
theorem tw_226 : q_g (.selects RX7 yX7_add yX7_add) := ⟨(List.mem_append_right _ (List.mem_of_getElem? (i := 399) (by decide +kernel))), good_of_word (by decide +kernel)⟩
theorem tw_227 : q_g (.instanceMethod yX7_add) := ⟨(List.mem_append_right _ (List.mem_of_getElem? (i := 398) (by decide +kernel))), good_of_word (by decide +kernel)⟩
theorem tw_228 : q_g (.methodLink RX7 19 yX7_add) := ⟨(List.mem_append_right _ (List.mem_of_getElem? (i := 397) (by decide +kernel))), good_of_word (by decide +kernel)⟩
theorem tw_229 : q_g (.code yX7_addNumber cX7_addNumber 2 none) := ⟨(List.mem_append_right _ (List.mem_of_getElem? (i := 774) (by decide +kernel))), good_of_word (by decide +kernel)⟩
def ow_c_X7_addNumber : List Cond := [.methodLink RX7 19 yX7_add, .instanceMethod yX7_add, .selects RX7 yX7_add yX7_add, .initialized RX7]
def wq_c_X7_addNumber : List Cond := .code yX7_addNumber cX7_addNumber 2 none :: (ow_c_X7_addNumber ++ (wq_c_X7_add ++ ([] : List Cond)))
theorem tb_c_X7_addNumber : ∀ w ∈ wq_c_X7_addNumber, q_g w := by
  unfold wq_c_X7_addNumber ow_c_X7_addNumber
  exact q_cons tw_229 (q_app (q_cons tw_228 (q_cons tw_227 (q_cons tw_226 (q_cons tw_192 q_nil)))) (q_app tb_c_X7_add q_nil))
set_option maxHeartbeats 4000000 in
set_option maxRecDepth 100000 in
theorem c_X7_addNumber (l : Launch) (dC : Nat → ClassId) (dI : Nat → Nat → Nat) (g : kG) (A : Nat → Prop) (hG : kWf g) (f : Nat → va_E) (h0 : Nat) (p1 : Int32) (i_h0 : ik g 7 h0) : Met l yX7_addNumber wq_c_X7_addNumber ({ frames := 1, cells := 0, slots := 0, locals := 21 } : Room) (va_Pc [.ref h0, .int p1] (fun U => kIn dC dI g A f U)) (va_Qv (fun (_ : Unit) => True) (fun (_ : Unit) t => ∃ f1 : Nat → va_E, Iv dC dI g A f1 t.heap ∧ Kp g [7, 25] f f1) A) 0 0 A := by
  refine Met.ofW (cc := cX7_addNumber) (maxL := 2) (ret := none) (by decide) rfl ?_
  intro p e s m args below meth c s₁ B hml hv
  obtain ⟨rfl, hI, hK, hE⟩ := hv
  have hx := B.exec
  have hb := B.bytes
  have hr := B.returns
  have hts := atoms_spec (ws := wq_c_X7_addNumber) B.pre
  have hown : s.vm.findClass RX7 = some m.cls := findClass_of_methodNamed B.named
  have hlocks := B.notSynchronized
  have hS : va_S A s.heap s.heap [] := va_S.rf
  have hk0 : Kp g [7, 25] f f := Kp.rf
  have hl := lv_entry ([.ref h0, .int p1]) (n := 2) (Nat.le_of_ble_eq_true rfl)
  rw [lg_entry_eq]
  generalize (lg_sl ([.ref h0, .int p1]) ++ List.replicate (2 - (lg_sl ([.ref h0, .int p1])).length) Slot.unset).toArray = ls at hl ⊢
  have hl : lv_has ls 2 [(0, .ref h0), (1, .int p1)] := hl
  refine lv_iload_n hx hb dX7_addNumber_0 rfl (lv_at hl 1 rfl) ?_
  refine lv_bipush (v := 10) hx hb dX7_addNumber_1 (by decide) ?_
  have J_20 : ∀ (f_1 : Nat → va_E) (H : Heap) (locs : List Loc) (ls : Array Slot), Iv dC dI g A f_1 H → va_S A s.heap H locs → Kp g [7, 25] f f_1 → lv_has ls 2 [(0, .ref h0), (1, .int p1)] → W p l e (headSpec wq_c_X7_addNumber ({ frames := 1, cells := 0, slots := 0, locals := 21 } : Room)).room s m ([.ref h0, .int p1].toArray) below meth c H locs 0 0 (MQ below (va_Qv (fun (_ : Unit) => True) (fun (_ : Unit) t => ∃ f1 : Nat → va_E, Iv dC dI g A f1 t.heap ∧ Kp g [7, 25] f f1) A) ([.ref h0, .int p1].toArray) s 0 0 A) (F0 m 20 ls []) := by
    intro f_1 H locs ls hI hS kp_2 hl
    refine lv_aload_n hx hb dX7_addNumber_20 rfl (lv_at hl 0 rfl) ?_
    refine lv_bipush (v := 48) hx hb dX7_addNumber_21 (by decide) ?_
    refine lv_iload_n hx hb dX7_addNumber_23 rfl (lv_at hl 1 rfl) ?_
    refine lv_bipush (v := 10) hx hb dX7_addNumber_24 (by decide) ?_
    refine lv_irem hx hb dX7_addNumber_26 (by decide) ?_
    refine lv_topi (fun v_3 ev_3 => ?_)
    refine lv_iadd hx hb dX7_addNumber_27 ?_
    refine lv_topi (fun v_4 ev_4 => ?_)
    have tv_4 := k_ad 48 v_3
    rw [← ev_4, show Int32.toInt 48 = 48 from by decide] at tv_4
    obtain ⟨x_6, k_5⟩ := op_7 hI i_h0
    refine va_callv (va_runV (As := [.int v_4]) (rest := []) ⟨hx, hb, hml, hown, hts⟩ (c_X7_add l dC dI g A hG f_1 h0 v_4 i_h0) (cwV 1 hts (gi_V (fun w_ h0_ => ⟨List.mem_cons_of_mem _ (List.mem_append_right _ (List.mem_append_left _ h0_)), (tb_c_X7_add w_ h0_).2⟩) (List.mem_cons_of_mem _ (List.mem_append_left _ (List.mem_of_getElem? (i := 0) rfl))) (List.mem_cons_of_mem _ (List.mem_append_left _ (List.mem_of_getElem? (i := 1) rfl))) (List.mem_cons_of_mem _ (List.mem_append_left _ (List.mem_of_getElem? (i := 2) rfl))) (List.mem_cons_of_mem _ (List.mem_append_left _ (List.mem_of_getElem? (i := 3) rfl)))) rfl rfl rfl (by decide +kernel) ⟨Nat.le_of_ble_eq_true rfl, Nat.le_of_ble_eq_true rfl⟩) ⟨fun a U g mk q => ⟨q.1, q.2.calling rfl rfl⟩, k_recv hK hI i_h0.1 k_5 (ci := 7) rfl, fun U hU hW => ⟨rfl, kIn.of hI hK hE hS hU hW⟩⟩ rfl rfl hl.1 rfl (lv_room (Nat.le_of_ble_eq_true rfl)) dX7_addNumber_28 ⟨Nat.le_of_ble_eq_true rfl, Nat.le_of_ble_eq_true rfl⟩) hS (fun q _ h => h) (fun q h => h) (fun u t H1 locs ht hvm _ hB hz1 hk1 hS => ?_)
    obtain ⟨f_7, hI, kc_9⟩ := hB
    rw [ht] at hI
    have kp_11 := Kp.call kp_2 kc_9 (by decide)
    generalize H1 = H at hI hS ⊢
    refine W.widen (k := 0) (n := 0) (Nat.le_of_ble_eq_true rfl) (Nat.le_of_ble_eq_true rfl) ?_
    exact W.vret hx hb hr (fun t ht hW => ⟨⟨(), rfl, trivial, ⟨f_7, k_ret ht hI, kp_11⟩⟩, hS.F ht⟩) hS.2.2 dX7_addNumber_31
  refine lv_icmp_lt (tgt := 20) hx hb dX7_addNumber_3 (by decide) (fun c_12 => ?_) (fun c_12 => ?_)
  · have c_12 := kc_lt rfl (by decide : Int32.toInt 10 = 10) c_12
    exact J_20 f _ _ _ hI hS hk0 (lv_sub hl [0, 1] rfl)
  · have c_12 := kn_lt rfl (by decide : Int32.toInt 10 = 10) c_12
    refine lv_aload_n hx hb dX7_addNumber_6 rfl (lv_at hl 0 rfl) ?_
    refine lv_bipush (v := 48) hx hb dX7_addNumber_7 (by decide) ?_
    refine lv_iload_n hx hb dX7_addNumber_9 rfl (lv_at hl 1 rfl) ?_
    refine lv_bipush (v := 10) hx hb dX7_addNumber_10 (by decide) ?_
    refine lv_idiv hx hb dX7_addNumber_12 (by decide) ?_
    refine lv_topi (fun v_13 ev_13 => ?_)
    refine lv_bipush (v := 10) hx hb dX7_addNumber_13 (by decide) ?_
    refine lv_irem hx hb dX7_addNumber_15 (by decide) ?_
    refine lv_topi (fun v_14 ev_14 => ?_)
    refine lv_iadd hx hb dX7_addNumber_16 ?_
    refine lv_topi (fun v_15 ev_15 => ?_)
    have tv_15 := k_ad 48 v_14
    rw [← ev_15, show Int32.toInt 48 = 48 from by decide] at tv_15
    obtain ⟨x_17, k_16⟩ := op_7 hI i_h0
    refine va_callv (va_runV (As := [.int v_15]) (rest := []) ⟨hx, hb, hml, hown, hts⟩ (c_X7_add l dC dI g A hG f h0 v_15 i_h0) (cwV 1 hts (gi_V (fun w_ h0_ => ⟨List.mem_cons_of_mem _ (List.mem_append_right _ (List.mem_append_left _ h0_)), (tb_c_X7_add w_ h0_).2⟩) (List.mem_cons_of_mem _ (List.mem_append_left _ (List.mem_of_getElem? (i := 0) rfl))) (List.mem_cons_of_mem _ (List.mem_append_left _ (List.mem_of_getElem? (i := 1) rfl))) (List.mem_cons_of_mem _ (List.mem_append_left _ (List.mem_of_getElem? (i := 2) rfl))) (List.mem_cons_of_mem _ (List.mem_append_left _ (List.mem_of_getElem? (i := 3) rfl)))) rfl rfl rfl (by decide +kernel) ⟨Nat.le_of_ble_eq_true rfl, Nat.le_of_ble_eq_true rfl⟩) ⟨fun a U g mk q => ⟨q.1, q.2.calling rfl rfl⟩, k_recv hK hI i_h0.1 k_16 (ci := 7) rfl, fun U hU hW => ⟨rfl, kIn.of hI hK hE hS hU hW⟩⟩ rfl rfl hl.1 rfl (lv_room (Nat.le_of_ble_eq_true rfl)) dX7_addNumber_17 ⟨Nat.le_of_ble_eq_true rfl, Nat.le_of_ble_eq_true rfl⟩) hS (fun q _ h => h) (fun q h => h) (fun u t H1 locs ht hvm _ hB hz1 hk1 hS => ?_)
    obtain ⟨f_18, hI, kc_20⟩ := hB
    rw [ht] at hI
    have kp_22 := Kp.call hk0 kc_20 (by decide)
    generalize H1 = H at hI hS ⊢
    refine W.widen (k := 0) (n := 0) (Nat.le_of_ble_eq_true rfl) (Nat.le_of_ble_eq_true rfl) ?_
    exact J_20 f_18 _ _ _ hI hS kp_22 (lv_sub hl [0, 1] rfl)
theorem tw_230 : q_g (.code yX8_takeQuota cX8_takeQuota 3 none) := ⟨(List.mem_append_right _ (List.mem_of_getElem? (i := 474) (by decide +kernel))), good_of_word (by decide +kernel)⟩
def ow_c_X8_takeQuota : List Cond := [.fieldLink RX8 87 "DeadlineShare$Task" "quota" "I", .fieldLink RX8 90 "DeadlineShare$Task" "period" "I", .fieldLink RX8 84 "DeadlineShare$Task" "budget" "I"]
def wq_c_X8_takeQuota : List Cond := .code yX8_takeQuota cX8_takeQuota 3 none :: (ow_c_X8_takeQuota ++ (u_ws RX8 TX8 18 ++ ([] : List Cond)))
theorem tb_c_X8_takeQuota : ∀ w ∈ wq_c_X8_takeQuota, q_g w := by
  unfold wq_c_X8_takeQuota ow_c_X8_takeQuota
  exact q_cons tw_230 (q_app (q_cons tw_119 (q_cons tw_118 (q_cons tw_120 q_nil))) (q_app tu_X8 q_nil))
set_option maxHeartbeats 4000000 in
set_option maxRecDepth 100000 in
theorem c_X8_takeQuota (l : Launch) (dC : Nat → ClassId) (dI : Nat → Nat → Nat) (g : kG) (A : Nat → Prop) (hG : kWf g) (f : Nat → va_E) (h0 : Nat) (p1 : Int32) (p2 : Int32) (i_h0 : ik g 8 h0) : Met l yX8_takeQuota wq_c_X8_takeQuota ({ frames := 0, cells := 0, slots := 0, locals := 0 } : Room) (va_Pc [.ref h0, .int p1, .int p2] (fun U => kIn dC dI g A f U)) (va_Qv (fun (_ : Unit) => True) (fun (_ : Unit) t => ∃ f1 : Nat → va_E, Iv dC dI g A f1 t.heap ∧ Kp g [8] f f1) A) 0 0 A := by
  refine Met.ofW (cc := cX8_takeQuota) (maxL := 3) (ret := none) (by decide) rfl ?_
  intro p e s m args below meth c s₁ B hml hv
  obtain ⟨rfl, hI, hK, hE⟩ := hv
  have hx := B.exec
  have hb := B.bytes
  have hr := B.returns
  have hts := atoms_spec (ws := wq_c_X8_takeQuota) B.pre
  have hown : s.vm.findClass RX8 = some m.cls := findClass_of_methodNamed B.named
  have hlocks := B.notSynchronized
  have hS : va_S A s.heap s.heap [] := va_S.rf
  have hk0 : Kp g [8] f f := Kp.rf
  have hl := lv_entry ([.ref h0, .int p1, .int p2]) (n := 3) (Nat.le_of_ble_eq_true rfl)
  rw [lg_entry_eq]
  generalize (lg_sl ([.ref h0, .int p1, .int p2]) ++ List.replicate (3 - (lg_sl ([.ref h0, .int p1, .int p2])).length) Slot.unset).toArray = ls at hl ⊢
  have hl : lv_has ls 3 [(0, .ref h0), (1, .int p1), (2, .int p2)] := hl
  refine lv_aload_n hx hb dX8_takeQuota_0 rfl (lv_at hl 0 rfl) ?_
  refine lv_iload_n hx hb dX8_takeQuota_1 rfl (lv_at hl 1 rfl) ?_
  obtain ⟨x_2, x_3, x_4, x_5, x_6, x_7, x_8, x_9, x_10, x_11, x_12, x_13, x_14, x_15, x_16, x_17, k_1⟩ := op_8 hI i_h0
  refine k_put (ci := 8) (v := .int p1) (ty := .int) (C := RX8) (T := TX8) (N := 18) hx hb hts (fun _ h0_ => List.mem_cons_of_mem _ (List.mem_append_right _ (List.mem_append_left _ h0_))) tyX8 tyX8_ok nmX8 hown hK hI hS i_h0.1 k_1 rfl 16 (by decide) (hts (.fieldLink RX8 87 "DeadlineShare$Task" "quota" "I") (List.mem_cons_of_mem _ (List.mem_append_left _ (List.mem_of_getElem? (i := 0) rfl)))) (fun _ h9 => h9) rfl (by decide +kernel) rfl rfl (Nat.le_of_ble_eq_true rfl) rfl (cl_8 i_h0) dX8_takeQuota_2 (fun f_18 H locs e_19 hI hS => ?_)
  have k_21 : f_18 h0 = .inr (8, [.int x_2, .ref (gr g h0 1), .int x_3, .int x_4, .int x_5, .long x_6, .int x_7, .ref (gr g h0 7), .int x_8, .int x_9, .int x_10, .int x_11, .int x_12, .int x_13, .int x_14, .int x_15, .int p1, .int x_17]) := by rw [e_19]; exact va_up_self _ _ _
  have kp_20 := Kp.put hk0 i_h0 (by decide) e_19
  refine lv_aload_n hx hb dX8_takeQuota_5 rfl (lv_at hl 0 rfl) ?_
  refine lv_iload_n hx hb dX8_takeQuota_6 rfl (lv_at hl 1 rfl) ?_
  refine lv_if_le (tgt := 14) hx hb dX8_takeQuota_7 (by decide) (fun c_22 => ?_) (fun c_22 => ?_)
  · have c_22 := kc_le rfl (by decide : Int32.toInt 0 = 0) c_22
    refine lv_iconst (v := 0) hx hb dX8_takeQuota_14 (by decide) ?_
    refine k_put (ci := 8) (v := .int 0) (ty := .int) (C := RX8) (T := TX8) (N := 18) hx hb hts (fun _ h0_ => List.mem_cons_of_mem _ (List.mem_append_right _ (List.mem_append_left _ h0_))) tyX8 tyX8_ok nmX8 hown hK hI hS i_h0.1 k_21 rfl 17 (by decide) (hts (.fieldLink RX8 90 "DeadlineShare$Task" "period" "I") (List.mem_cons_of_mem _ (List.mem_append_left _ (List.mem_of_getElem? (i := 1) rfl)))) (fun _ h9 => h9) rfl (by decide +kernel) rfl rfl (Nat.le_of_ble_eq_true rfl) rfl (cl_8 i_h0) dX8_takeQuota_15 (fun f_23 H locs e_24 hI hS => ?_)
    have k_26 : f_23 h0 = .inr (8, [.int x_2, .ref (gr g h0 1), .int x_3, .int x_4, .int x_5, .long x_6, .int x_7, .ref (gr g h0 7), .int x_8, .int x_9, .int x_10, .int x_11, .int x_12, .int x_13, .int x_14, .int x_15, .int p1, .int 0]) := by rw [e_24]; exact va_up_self _ _ _
    have kp_25 := Kp.put kp_20 i_h0 (by decide) e_24
    refine lv_aload_n hx hb dX8_takeQuota_18 rfl (lv_at hl 0 rfl) ?_
    refine lv_iload_n hx hb dX8_takeQuota_19 rfl (lv_at hl 1 rfl) ?_
    refine lv_if_le (tgt := 27) hx hb dX8_takeQuota_20 (by decide) (fun c_27 => ?_) (fun c_27 => ?_)
    · have c_27 := kc_le rfl (by decide : Int32.toInt 0 = 0) c_27
      refine lv_iconst (v := (-1)) hx hb dX8_takeQuota_27 (by decide) ?_
      refine k_put (ci := 8) (v := .int (-1)) (ty := .int) (C := RX8) (T := TX8) (N := 18) hx hb hts (fun _ h0_ => List.mem_cons_of_mem _ (List.mem_append_right _ (List.mem_append_left _ h0_))) tyX8 tyX8_ok nmX8 hown hK hI hS i_h0.1 k_26 rfl 15 (by decide) (hts (.fieldLink RX8 84 "DeadlineShare$Task" "budget" "I") (List.mem_cons_of_mem _ (List.mem_append_left _ (List.mem_of_getElem? (i := 2) rfl)))) (fun _ h9 => h9) rfl (by decide +kernel) rfl rfl (Nat.le_of_ble_eq_true rfl) rfl (cl_8 i_h0) dX8_takeQuota_28 (fun f_28 H locs e_29 hI hS => ?_)
      have k_31 : f_28 h0 = .inr (8, [.int x_2, .ref (gr g h0 1), .int x_3, .int x_4, .int x_5, .long x_6, .int x_7, .ref (gr g h0 7), .int x_8, .int x_9, .int x_10, .int x_11, .int x_12, .int x_13, .int x_14, .int (-1), .int p1, .int 0]) := by rw [e_29]; exact va_up_self _ _ _
      have kp_30 := Kp.put kp_25 i_h0 (by decide) e_29
      exact W.vret hx hb hr (fun t ht hW => ⟨⟨(), rfl, trivial, ⟨f_28, k_ret ht hI, kp_30⟩⟩, hS.F ht⟩) hS.2.2 dX8_takeQuota_31
    · have c_27 := kn_le rfl (by decide : Int32.toInt 0 = 0) c_27
      refine lv_iload_n hx hb dX8_takeQuota_23 rfl (lv_at hl 1 rfl) ?_
      refine lv_goto (tgt := 28) hx hb dX8_takeQuota_24 (by decide) ?_
      refine k_put (ci := 8) (v := .int p1) (ty := .int) (C := RX8) (T := TX8) (N := 18) hx hb hts (fun _ h0_ => List.mem_cons_of_mem _ (List.mem_append_right _ (List.mem_append_left _ h0_))) tyX8 tyX8_ok nmX8 hown hK hI hS i_h0.1 k_26 rfl 15 (by decide) (hts (.fieldLink RX8 84 "DeadlineShare$Task" "budget" "I") (List.mem_cons_of_mem _ (List.mem_append_left _ (List.mem_of_getElem? (i := 2) rfl)))) (fun _ h9 => h9) rfl (by decide +kernel) rfl rfl (Nat.le_of_ble_eq_true rfl) rfl (cl_8 i_h0) dX8_takeQuota_28 (fun f_32 H locs e_33 hI hS => ?_)
      have k_35 : f_32 h0 = .inr (8, [.int x_2, .ref (gr g h0 1), .int x_3, .int x_4, .int x_5, .long x_6, .int x_7, .ref (gr g h0 7), .int x_8, .int x_9, .int x_10, .int x_11, .int x_12, .int x_13, .int x_14, .int p1, .int p1, .int 0]) := by rw [e_33]; exact va_up_self _ _ _
      have kp_34 := Kp.put kp_25 i_h0 (by decide) e_33
      exact W.vret hx hb hr (fun t ht hW => ⟨⟨(), rfl, trivial, ⟨f_32, k_ret ht hI, kp_34⟩⟩, hS.F ht⟩) hS.2.2 dX8_takeQuota_31
  · have c_22 := kn_le rfl (by decide : Int32.toInt 0 = 0) c_22
    refine lv_iload_n hx hb dX8_takeQuota_10 rfl (lv_at hl 2 rfl) ?_
    refine lv_goto (tgt := 15) hx hb dX8_takeQuota_11 (by decide) ?_
    refine k_put (ci := 8) (v := .int p2) (ty := .int) (C := RX8) (T := TX8) (N := 18) hx hb hts (fun _ h0_ => List.mem_cons_of_mem _ (List.mem_append_right _ (List.mem_append_left _ h0_))) tyX8 tyX8_ok nmX8 hown hK hI hS i_h0.1 k_21 rfl 17 (by decide) (hts (.fieldLink RX8 90 "DeadlineShare$Task" "period" "I") (List.mem_cons_of_mem _ (List.mem_append_left _ (List.mem_of_getElem? (i := 1) rfl)))) (fun _ h9 => h9) rfl (by decide +kernel) rfl rfl (Nat.le_of_ble_eq_true rfl) rfl (cl_8 i_h0) dX8_takeQuota_15 (fun f_36 H locs e_37 hI hS => ?_)
    have k_39 : f_36 h0 = .inr (8, [.int x_2, .ref (gr g h0 1), .int x_3, .int x_4, .int x_5, .long x_6, .int x_7, .ref (gr g h0 7), .int x_8, .int x_9, .int x_10, .int x_11, .int x_12, .int x_13, .int x_14, .int x_15, .int p1, .int p2]) := by rw [e_37]; exact va_up_self _ _ _
    have kp_38 := Kp.put kp_20 i_h0 (by decide) e_37
    refine lv_aload_n hx hb dX8_takeQuota_18 rfl (lv_at hl 0 rfl) ?_
    refine lv_iload_n hx hb dX8_takeQuota_19 rfl (lv_at hl 1 rfl) ?_
    refine lv_if_le (tgt := 27) hx hb dX8_takeQuota_20 (by decide) (fun c_40 => ?_) (fun c_40 => ?_)
    · have c_40 := kc_le rfl (by decide : Int32.toInt 0 = 0) c_40
      refine lv_iconst (v := (-1)) hx hb dX8_takeQuota_27 (by decide) ?_
      refine k_put (ci := 8) (v := .int (-1)) (ty := .int) (C := RX8) (T := TX8) (N := 18) hx hb hts (fun _ h0_ => List.mem_cons_of_mem _ (List.mem_append_right _ (List.mem_append_left _ h0_))) tyX8 tyX8_ok nmX8 hown hK hI hS i_h0.1 k_39 rfl 15 (by decide) (hts (.fieldLink RX8 84 "DeadlineShare$Task" "budget" "I") (List.mem_cons_of_mem _ (List.mem_append_left _ (List.mem_of_getElem? (i := 2) rfl)))) (fun _ h9 => h9) rfl (by decide +kernel) rfl rfl (Nat.le_of_ble_eq_true rfl) rfl (cl_8 i_h0) dX8_takeQuota_28 (fun f_41 H locs e_42 hI hS => ?_)
      have k_44 : f_41 h0 = .inr (8, [.int x_2, .ref (gr g h0 1), .int x_3, .int x_4, .int x_5, .long x_6, .int x_7, .ref (gr g h0 7), .int x_8, .int x_9, .int x_10, .int x_11, .int x_12, .int x_13, .int x_14, .int (-1), .int p1, .int p2]) := by rw [e_42]; exact va_up_self _ _ _
      have kp_43 := Kp.put kp_38 i_h0 (by decide) e_42
      exact W.vret hx hb hr (fun t ht hW => ⟨⟨(), rfl, trivial, ⟨f_41, k_ret ht hI, kp_43⟩⟩, hS.F ht⟩) hS.2.2 dX8_takeQuota_31
    · have c_40 := kn_le rfl (by decide : Int32.toInt 0 = 0) c_40
      refine lv_iload_n hx hb dX8_takeQuota_23 rfl (lv_at hl 1 rfl) ?_
      refine lv_goto (tgt := 28) hx hb dX8_takeQuota_24 (by decide) ?_
      refine k_put (ci := 8) (v := .int p1) (ty := .int) (C := RX8) (T := TX8) (N := 18) hx hb hts (fun _ h0_ => List.mem_cons_of_mem _ (List.mem_append_right _ (List.mem_append_left _ h0_))) tyX8 tyX8_ok nmX8 hown hK hI hS i_h0.1 k_39 rfl 15 (by decide) (hts (.fieldLink RX8 84 "DeadlineShare$Task" "budget" "I") (List.mem_cons_of_mem _ (List.mem_append_left _ (List.mem_of_getElem? (i := 2) rfl)))) (fun _ h9 => h9) rfl (by decide +kernel) rfl rfl (Nat.le_of_ble_eq_true rfl) rfl (cl_8 i_h0) dX8_takeQuota_28 (fun f_45 H locs e_46 hI hS => ?_)
      have k_48 : f_45 h0 = .inr (8, [.int x_2, .ref (gr g h0 1), .int x_3, .int x_4, .int x_5, .long x_6, .int x_7, .ref (gr g h0 7), .int x_8, .int x_9, .int x_10, .int x_11, .int x_12, .int x_13, .int x_14, .int p1, .int p1, .int p2]) := by rw [e_46]; exact va_up_self _ _ _
      have kp_47 := Kp.put kp_38 i_h0 (by decide) e_46
      exact W.vret hx hb hr (fun t ht hW => ⟨⟨(), rfl, trivial, ⟨f_45, k_ret ht hI, kp_47⟩⟩, hS.F ht⟩) hS.2.2 dX8_takeQuota_31
theorem tw_231 : q_g (.selects RX8 yX8_takeQuota yX8_takeQuota) := ⟨(List.mem_append_right _ (List.mem_of_getElem? (i := 473) (by decide +kernel))), good_of_word (by decide +kernel)⟩
theorem tw_232 : q_g (.instanceMethod yX8_takeQuota) := ⟨(List.mem_append_right _ (List.mem_of_getElem? (i := 472) (by decide +kernel))), good_of_word (by decide +kernel)⟩
theorem tw_233 : q_g (.methodLink RX8 73 yX8_takeQuota) := ⟨(List.mem_append_right _ (List.mem_of_getElem? (i := 471) (by decide +kernel))), good_of_word (by decide +kernel)⟩
theorem tw_234 : q_g (.methodLink RX8 48 yX10_set) := ⟨(List.mem_append_right _ (List.mem_of_getElem? (i := 466) (by decide +kernel))), good_of_word (by decide +kernel)⟩
theorem tw_235 : q_g (.selects RX5 yX5_drop yX5_drop) := ⟨(List.mem_append_right _ (List.mem_of_getElem? (i := 464) (by decide +kernel))), good_of_word (by decide +kernel)⟩
theorem tw_236 : q_g (.instanceMethod yX5_drop) := ⟨(List.mem_append_right _ (List.mem_of_getElem? (i := 463) (by decide +kernel))), good_of_word (by decide +kernel)⟩
theorem tw_237 : q_g (.methodLink RX8 29 yX5_drop) := ⟨(List.mem_append_right _ (List.mem_of_getElem? (i := 462) (by decide +kernel))), good_of_word (by decide +kernel)⟩
theorem tw_238 : q_g (.code yX8_startAnew cX8_startAnew 3 none) := ⟨(List.mem_append_right _ (List.mem_of_getElem? (i := 461) (by decide +kernel))), good_of_word (by decide +kernel)⟩
def ow_c_X8_startAnew : List Cond := [.fieldLink RX8 12 "DeadlineShare$Task" "script" "LDeadlineShare$Script;", .methodLink RX8 29 yX5_drop, .instanceMethod yX5_drop, .selects RX5 yX5_drop yX5_drop, .initialized RX5, .fieldLink RX8 32 "DeadlineShare$Task" "weight" "I", .fieldLink RX8 35 "DeadlineShare$Task" "slice" "I", .fieldLink RX8 38 "DeadlineShare$Task" "state" "I", .fieldLink RX8 41 "DeadlineShare$Task" "v" "J", .fieldLink RX8 45 "DeadlineShare$Task" "left" "I", .fieldLink RX8 21 "DeadlineShare$Task" "lag" "LDeadlineShare$Wide;", .methodLink RX8 48 yX10_set, .instanceMethod yX10_set, .selects RX10 yX10_set yX10_set, .initialized RX10, .fieldLink RX8 52 "DeadlineShare$Task" "lagWeight" "I", .fieldLink RX8 55 "DeadlineShare$Task" "served" "I", .fieldLink RX8 58 "DeadlineShare$Task" "requests" "I", .fieldLink RX8 61 "DeadlineShare$Task" "late" "I", .fieldLink RX8 64 "DeadlineShare$Task" "wait" "I", .fieldLink RX8 67 "DeadlineShare$Task" "longest" "I", .fieldLink RX8 70 "DeadlineShare$Task" "napTill" "I", .methodLink RX8 73 yX8_takeQuota, .instanceMethod yX8_takeQuota, .selects RX8 yX8_takeQuota yX8_takeQuota, .initialized RX8]
def wq_c_X8_startAnew : List Cond := .code yX8_startAnew cX8_startAnew 3 none :: (ow_c_X8_startAnew ++ (u_ws RX8 TX8 18 ++ (wq_c_X5_drop ++ (wq_c_X10_set ++ (wq_c_X8_takeQuota ++ ([] : List Cond))))))
theorem tb_c_X8_startAnew : ∀ w ∈ wq_c_X8_startAnew, q_g w := by
  unfold wq_c_X8_startAnew ow_c_X8_startAnew
  exact q_cons tw_238 (q_app (q_cons tw_137 (q_cons tw_237 (q_cons tw_236 (q_cons tw_235 (q_cons tw_133 (q_cons tw_57 (q_cons tw_132 (q_cons tw_5 (q_cons tw_59 (q_cons tw_58 (q_cons tw_131 (q_cons tw_234 (q_cons tw_28 (q_cons tw_27 (q_cons tw_26 (q_cons tw_127 (q_cons tw_126 (q_cons tw_125 (q_cons tw_124 (q_cons tw_123 (q_cons tw_122 (q_cons tw_121 (q_cons tw_233 (q_cons tw_232 (q_cons tw_231 (q_cons tw_8 q_nil)))))))))))))))))))))))))) (q_app tu_X8 (q_app tb_c_X5_drop (q_app tb_c_X10_set (q_app tb_c_X8_takeQuota q_nil)))))
set_option maxHeartbeats 4000000 in
set_option maxRecDepth 100000 in
theorem c_X8_startAnew (l : Launch) (dC : Nat → ClassId) (dI : Nat → Nat → Nat) (g : kG) (A : Nat → Prop) (hG : kWf g) (f : Nat → va_E) (h0 : Nat) (p1 : Int32) (p2 : Int32) (i_h0 : ik g 8 h0) : Met l yX8_startAnew wq_c_X8_startAnew ({ frames := 1, cells := 0, slots := 0, locals := 22 } : Room) (va_Pc [.ref h0, .int p1, .int p2] (fun U => kIn dC dI g A f U)) (va_Qv (fun (_ : Unit) => True) (fun (_ : Unit) t => ∃ f1 : Nat → va_E, Iv dC dI g A f1 t.heap ∧ Kp g [5, 8, 10] f f1) A) 0 0 A := by
  refine Met.ofW (cc := cX8_startAnew) (maxL := 3) (ret := none) (by decide) rfl ?_
  intro p e s m args below meth c s₁ B hml hv
  obtain ⟨rfl, hI, hK, hE⟩ := hv
  have hx := B.exec
  have hb := B.bytes
  have hr := B.returns
  have hts := atoms_spec (ws := wq_c_X8_startAnew) B.pre
  have hown : s.vm.findClass RX8 = some m.cls := findClass_of_methodNamed B.named
  have hlocks := B.notSynchronized
  have hS : va_S A s.heap s.heap [] := va_S.rf
  have hk0 : Kp g [5, 8, 10] f f := Kp.rf
  have hl := lv_entry ([.ref h0, .int p1, .int p2]) (n := 3) (Nat.le_of_ble_eq_true rfl)
  rw [lg_entry_eq]
  generalize (lg_sl ([.ref h0, .int p1, .int p2]) ++ List.replicate (3 - (lg_sl ([.ref h0, .int p1, .int p2])).length) Slot.unset).toArray = ls at hl ⊢
  have hl : lv_has ls 3 [(0, .ref h0), (1, .int p1), (2, .int p2)] := hl
  refine lv_aload_n hx hb dX8_startAnew_0 rfl (lv_at hl 0 rfl) ?_
  obtain ⟨x_2, x_3, x_4, x_5, x_6, x_7, x_8, x_9, x_10, x_11, x_12, x_13, x_14, x_15, x_16, x_17, k_1⟩ := op_8 hI i_h0
  refine k_get (ci := 8) (v := .ref (gr g h0 1)) (C := RX8) (T := TX8) (N := 18) hx hb hts (fun _ h0_ => List.mem_cons_of_mem _ (List.mem_append_right _ (List.mem_append_left _ h0_))) hown hK hI i_h0.1 k_1 rfl 1 (by decide) (hts (.fieldLink RX8 12 "DeadlineShare$Task" "script" "LDeadlineShare$Script;") (List.mem_cons_of_mem _ (List.mem_append_left _ (List.mem_of_getElem? (i := 0) rfl)))) (fun _ h9 => h9) rfl dX8_startAnew_1 ?_
  have i_19 := kw_8_1 hG i_h0
  obtain ⟨x_21, x_22, x_23, x_24, k_20, b_25, b_26⟩ := op_5 hI i_19
  refine va_callv (va_runV (As := []) (rest := []) ⟨hx, hb, hml, hown, hts⟩ (c_X5_drop l dC dI g A hG f (gr g h0 1) i_19) (cwV 0 hts (gi_V (fun w_ h0_ => ⟨List.mem_cons_of_mem _ (List.mem_append_right _ (List.mem_append_right _ (List.mem_append_left _ h0_))), (tb_c_X5_drop w_ h0_).2⟩) (List.mem_cons_of_mem _ (List.mem_append_left _ (List.mem_of_getElem? (i := 1) rfl))) (List.mem_cons_of_mem _ (List.mem_append_left _ (List.mem_of_getElem? (i := 2) rfl))) (List.mem_cons_of_mem _ (List.mem_append_left _ (List.mem_of_getElem? (i := 3) rfl))) (List.mem_cons_of_mem _ (List.mem_append_left _ (List.mem_of_getElem? (i := 4) rfl)))) rfl rfl rfl (by decide +kernel) ⟨Nat.le_of_ble_eq_true rfl, Nat.le_of_ble_eq_true rfl⟩) ⟨fun a U g mk q => ⟨q.1, q.2.calling rfl rfl⟩, k_recv hK hI i_19.1 k_20 (ci := 5) rfl, fun U hU hW => ⟨rfl, kIn.of hI hK hE hS hU hW⟩⟩ rfl rfl hl.1 rfl (lv_room (Nat.le_of_ble_eq_true rfl)) dX8_startAnew_4 ⟨Nat.le_of_ble_eq_true rfl, Nat.le_of_ble_eq_true rfl⟩) hS (fun q _ h => h) (fun q h => h) (fun u t H1 locs ht hvm _ hB hz1 hk1 hS => ?_)
  obtain ⟨f_27, hI, kc_29⟩ := hB
  rw [ht] at hI
  have k_31 : f_27 h0 = .inr (8, [.int x_2, .ref (gr g h0 1), .int x_3, .int x_4, .int x_5, .long x_6, .int x_7, .ref (gr g h0 7), .int x_8, .int x_9, .int x_10, .int x_11, .int x_12, .int x_13, .int x_14, .int x_15, .int x_16, .int x_17]) := Kp.at kc_29 i_h0 (by decide) k_1
  have kp_32 := Kp.call hk0 kc_29 (by decide)
  generalize H1 = H at hI hS ⊢
  refine W.widen (k := 0) (n := 0) (Nat.le_of_ble_eq_true rfl) (Nat.le_of_ble_eq_true rfl) ?_
  refine lv_aload_n hx hb dX8_startAnew_7 rfl (lv_at hl 0 rfl) ?_
  refine lv_iload_n hx hb dX8_startAnew_8 rfl (lv_at hl 1 rfl) ?_
  refine k_put (ci := 8) (v := .int p1) (ty := .int) (C := RX8) (T := TX8) (N := 18) hx hb hts (fun _ h0_ => List.mem_cons_of_mem _ (List.mem_append_right _ (List.mem_append_left _ h0_))) tyX8 tyX8_ok nmX8 hown hK hI hS i_h0.1 k_31 rfl 2 (by decide) (hts (.fieldLink RX8 32 "DeadlineShare$Task" "weight" "I") (List.mem_cons_of_mem _ (List.mem_append_left _ (List.mem_of_getElem? (i := 5) rfl)))) (fun _ h9 => h9) rfl (by decide +kernel) rfl rfl (Nat.le_of_ble_eq_true rfl) rfl (cl_8 i_h0) dX8_startAnew_9 (fun f_33 H locs e_34 hI hS => ?_)
  have k_36 : f_33 h0 = .inr (8, [.int x_2, .ref (gr g h0 1), .int p1, .int x_4, .int x_5, .long x_6, .int x_7, .ref (gr g h0 7), .int x_8, .int x_9, .int x_10, .int x_11, .int x_12, .int x_13, .int x_14, .int x_15, .int x_16, .int x_17]) := by rw [e_34]; exact va_up_self _ _ _
  have kp_35 := Kp.put kp_32 i_h0 (by decide) e_34
  refine lv_aload_n hx hb dX8_startAnew_12 rfl (lv_at hl 0 rfl) ?_
  refine lv_iload_n hx hb dX8_startAnew_13 rfl (lv_at hl 2 rfl) ?_
  refine k_put (ci := 8) (v := .int p2) (ty := .int) (C := RX8) (T := TX8) (N := 18) hx hb hts (fun _ h0_ => List.mem_cons_of_mem _ (List.mem_append_right _ (List.mem_append_left _ h0_))) tyX8 tyX8_ok nmX8 hown hK hI hS i_h0.1 k_36 rfl 3 (by decide) (hts (.fieldLink RX8 35 "DeadlineShare$Task" "slice" "I") (List.mem_cons_of_mem _ (List.mem_append_left _ (List.mem_of_getElem? (i := 6) rfl)))) (fun _ h9 => h9) rfl (by decide +kernel) rfl rfl (Nat.le_of_ble_eq_true rfl) rfl (cl_8 i_h0) dX8_startAnew_14 (fun f_37 H locs e_38 hI hS => ?_)
  have k_40 : f_37 h0 = .inr (8, [.int x_2, .ref (gr g h0 1), .int p1, .int p2, .int x_5, .long x_6, .int x_7, .ref (gr g h0 7), .int x_8, .int x_9, .int x_10, .int x_11, .int x_12, .int x_13, .int x_14, .int x_15, .int x_16, .int x_17]) := by rw [e_38]; exact va_up_self _ _ _
  have kp_39 := Kp.put kp_35 i_h0 (by decide) e_38
  refine lv_aload_n hx hb dX8_startAnew_17 rfl (lv_at hl 0 rfl) ?_
  refine lv_iconst (v := 0) hx hb dX8_startAnew_18 (by decide) ?_
  refine k_put (ci := 8) (v := .int 0) (ty := .int) (C := RX8) (T := TX8) (N := 18) hx hb hts (fun _ h0_ => List.mem_cons_of_mem _ (List.mem_append_right _ (List.mem_append_left _ h0_))) tyX8 tyX8_ok nmX8 hown hK hI hS i_h0.1 k_40 rfl 4 (by decide) (hts (.fieldLink RX8 38 "DeadlineShare$Task" "state" "I") (List.mem_cons_of_mem _ (List.mem_append_left _ (List.mem_of_getElem? (i := 7) rfl)))) (fun _ h9 => h9) rfl (by decide +kernel) rfl rfl (Nat.le_of_ble_eq_true rfl) rfl (cl_8 i_h0) dX8_startAnew_19 (fun f_41 H locs e_42 hI hS => ?_)
  have k_44 : f_41 h0 = .inr (8, [.int x_2, .ref (gr g h0 1), .int p1, .int p2, .int 0, .long x_6, .int x_7, .ref (gr g h0 7), .int x_8, .int x_9, .int x_10, .int x_11, .int x_12, .int x_13, .int x_14, .int x_15, .int x_16, .int x_17]) := by rw [e_42]; exact va_up_self _ _ _
  have kp_43 := Kp.put kp_39 i_h0 (by decide) e_42
  refine lv_aload_n hx hb dX8_startAnew_22 rfl (lv_at hl 0 rfl) ?_
  refine lv_lconst (v := 0) hx hb dX8_startAnew_23 (by decide) ?_
  refine k_put (ci := 8) (v := .long 0) (ty := .long) (C := RX8) (T := TX8) (N := 18) hx hb hts (fun _ h0_ => List.mem_cons_of_mem _ (List.mem_append_right _ (List.mem_append_left _ h0_))) tyX8 tyX8_ok nmX8 hown hK hI hS i_h0.1 k_44 rfl 5 (by decide) (hts (.fieldLink RX8 41 "DeadlineShare$Task" "v" "J") (List.mem_cons_of_mem _ (List.mem_append_left _ (List.mem_of_getElem? (i := 8) rfl)))) (fun _ h9 => h9) rfl (by decide +kernel) rfl rfl (Nat.le_of_ble_eq_true rfl) rfl (cl_8 i_h0) dX8_startAnew_24 (fun f_45 H locs e_46 hI hS => ?_)
  have k_48 : f_45 h0 = .inr (8, [.int x_2, .ref (gr g h0 1), .int p1, .int p2, .int 0, .long 0, .int x_7, .ref (gr g h0 7), .int x_8, .int x_9, .int x_10, .int x_11, .int x_12, .int x_13, .int x_14, .int x_15, .int x_16, .int x_17]) := by rw [e_46]; exact va_up_self _ _ _
  have kp_47 := Kp.put kp_43 i_h0 (by decide) e_46
  refine lv_aload_n hx hb dX8_startAnew_27 rfl (lv_at hl 0 rfl) ?_
  refine lv_iconst (v := 0) hx hb dX8_startAnew_28 (by decide) ?_
  refine k_put (ci := 8) (v := .int 0) (ty := .int) (C := RX8) (T := TX8) (N := 18) hx hb hts (fun _ h0_ => List.mem_cons_of_mem _ (List.mem_append_right _ (List.mem_append_left _ h0_))) tyX8 tyX8_ok nmX8 hown hK hI hS i_h0.1 k_48 rfl 6 (by decide) (hts (.fieldLink RX8 45 "DeadlineShare$Task" "left" "I") (List.mem_cons_of_mem _ (List.mem_append_left _ (List.mem_of_getElem? (i := 9) rfl)))) (fun _ h9 => h9) rfl (by decide +kernel) rfl rfl (Nat.le_of_ble_eq_true rfl) rfl (cl_8 i_h0) dX8_startAnew_29 (fun f_49 H locs e_50 hI hS => ?_)
  have k_52 : f_49 h0 = .inr (8, [.int x_2, .ref (gr g h0 1), .int p1, .int p2, .int 0, .long 0, .int 0, .ref (gr g h0 7), .int x_8, .int x_9, .int x_10, .int x_11, .int x_12, .int x_13, .int x_14, .int x_15, .int x_16, .int x_17]) := by rw [e_50]; exact va_up_self _ _ _
  have kp_51 := Kp.put kp_47 i_h0 (by decide) e_50
  refine lv_aload_n hx hb dX8_startAnew_32 rfl (lv_at hl 0 rfl) ?_
  refine k_get (ci := 8) (v := .ref (gr g h0 7)) (C := RX8) (T := TX8) (N := 18) hx hb hts (fun _ h0_ => List.mem_cons_of_mem _ (List.mem_append_right _ (List.mem_append_left _ h0_))) hown hK hI i_h0.1 k_52 rfl 7 (by decide) (hts (.fieldLink RX8 21 "DeadlineShare$Task" "lag" "LDeadlineShare$Wide;") (List.mem_cons_of_mem _ (List.mem_append_left _ (List.mem_of_getElem? (i := 10) rfl)))) (fun _ h9 => h9) rfl dX8_startAnew_33 ?_
  have i_54 := kw_8_7 hG i_h0
  refine lv_lconst (v := 0) hx hb dX8_startAnew_36 (by decide) ?_
  obtain ⟨x_56, x_57, k_55⟩ := op_10 hI i_54
  refine va_callv (va_runV (As := [.long 0]) (rest := []) ⟨hx, hb, hml, hown, hts⟩ (c_X10_set l dC dI g A hG f_49 (gr g h0 7) 0 i_54) (cwV 1 hts (gi_V (fun w_ h0_ => ⟨List.mem_cons_of_mem _ (List.mem_append_right _ (List.mem_append_right _ (List.mem_append_right _ (List.mem_append_left _ h0_)))), (tb_c_X10_set w_ h0_).2⟩) (List.mem_cons_of_mem _ (List.mem_append_left _ (List.mem_of_getElem? (i := 11) rfl))) (List.mem_cons_of_mem _ (List.mem_append_left _ (List.mem_of_getElem? (i := 12) rfl))) (List.mem_cons_of_mem _ (List.mem_append_left _ (List.mem_of_getElem? (i := 13) rfl))) (List.mem_cons_of_mem _ (List.mem_append_left _ (List.mem_of_getElem? (i := 14) rfl)))) rfl rfl rfl (by decide +kernel) ⟨Nat.le_of_ble_eq_true rfl, Nat.le_of_ble_eq_true rfl⟩) ⟨fun a U g mk q => ⟨q.1, q.2.calling rfl rfl⟩, k_recv hK hI i_54.1 k_55 (ci := 10) rfl, fun U hU hW => ⟨rfl, kIn.of hI hK hE hS hU hW⟩⟩ rfl rfl hl.1 rfl (lv_room (Nat.le_of_ble_eq_true rfl)) dX8_startAnew_37 ⟨Nat.le_of_ble_eq_true rfl, Nat.le_of_ble_eq_true rfl⟩) hS (fun q _ h => h) (fun q h => h) (fun u t H1 locs ht hvm _ hB hz1 hk1 hS => ?_)
  obtain ⟨f_58, hI, kc_60⟩ := hB
  rw [ht] at hI
  have k_62 : f_58 h0 = .inr (8, [.int x_2, .ref (gr g h0 1), .int p1, .int p2, .int 0, .long 0, .int 0, .ref (gr g h0 7), .int x_8, .int x_9, .int x_10, .int x_11, .int x_12, .int x_13, .int x_14, .int x_15, .int x_16, .int x_17]) := Kp.at kc_60 i_h0 (by decide) k_52
  have kp_63 := Kp.call kp_51 kc_60 (by decide)
  generalize H1 = H at hI hS ⊢
  refine W.widen (k := 0) (n := 0) (Nat.le_of_ble_eq_true rfl) (Nat.le_of_ble_eq_true rfl) ?_
  refine lv_aload_n hx hb dX8_startAnew_40 rfl (lv_at hl 0 rfl) ?_
  refine lv_iconst (v := 1) hx hb dX8_startAnew_41 (by decide) ?_
  refine k_put (ci := 8) (v := .int 1) (ty := .int) (C := RX8) (T := TX8) (N := 18) hx hb hts (fun _ h0_ => List.mem_cons_of_mem _ (List.mem_append_right _ (List.mem_append_left _ h0_))) tyX8 tyX8_ok nmX8 hown hK hI hS i_h0.1 k_62 rfl 8 (by decide) (hts (.fieldLink RX8 52 "DeadlineShare$Task" "lagWeight" "I") (List.mem_cons_of_mem _ (List.mem_append_left _ (List.mem_of_getElem? (i := 15) rfl)))) (fun _ h9 => h9) rfl (by decide +kernel) rfl rfl (Nat.le_of_ble_eq_true rfl) rfl (cl_8 i_h0) dX8_startAnew_42 (fun f_64 H locs e_65 hI hS => ?_)
  have k_67 : f_64 h0 = .inr (8, [.int x_2, .ref (gr g h0 1), .int p1, .int p2, .int 0, .long 0, .int 0, .ref (gr g h0 7), .int 1, .int x_9, .int x_10, .int x_11, .int x_12, .int x_13, .int x_14, .int x_15, .int x_16, .int x_17]) := by rw [e_65]; exact va_up_self _ _ _
  have kp_66 := Kp.put kp_63 i_h0 (by decide) e_65
  refine lv_aload_n hx hb dX8_startAnew_45 rfl (lv_at hl 0 rfl) ?_
  refine lv_iconst (v := 0) hx hb dX8_startAnew_46 (by decide) ?_
  refine k_put (ci := 8) (v := .int 0) (ty := .int) (C := RX8) (T := TX8) (N := 18) hx hb hts (fun _ h0_ => List.mem_cons_of_mem _ (List.mem_append_right _ (List.mem_append_left _ h0_))) tyX8 tyX8_ok nmX8 hown hK hI hS i_h0.1 k_67 rfl 9 (by decide) (hts (.fieldLink RX8 55 "DeadlineShare$Task" "served" "I") (List.mem_cons_of_mem _ (List.mem_append_left _ (List.mem_of_getElem? (i := 16) rfl)))) (fun _ h9 => h9) rfl (by decide +kernel) rfl rfl (Nat.le_of_ble_eq_true rfl) rfl (cl_8 i_h0) dX8_startAnew_47 (fun f_68 H locs e_69 hI hS => ?_)
  have k_71 : f_68 h0 = .inr (8, [.int x_2, .ref (gr g h0 1), .int p1, .int p2, .int 0, .long 0, .int 0, .ref (gr g h0 7), .int 1, .int 0, .int x_10, .int x_11, .int x_12, .int x_13, .int x_14, .int x_15, .int x_16, .int x_17]) := by rw [e_69]; exact va_up_self _ _ _
  have kp_70 := Kp.put kp_66 i_h0 (by decide) e_69
  refine lv_aload_n hx hb dX8_startAnew_50 rfl (lv_at hl 0 rfl) ?_
  refine lv_iconst (v := 0) hx hb dX8_startAnew_51 (by decide) ?_
  refine k_put (ci := 8) (v := .int 0) (ty := .int) (C := RX8) (T := TX8) (N := 18) hx hb hts (fun _ h0_ => List.mem_cons_of_mem _ (List.mem_append_right _ (List.mem_append_left _ h0_))) tyX8 tyX8_ok nmX8 hown hK hI hS i_h0.1 k_71 rfl 10 (by decide) (hts (.fieldLink RX8 58 "DeadlineShare$Task" "requests" "I") (List.mem_cons_of_mem _ (List.mem_append_left _ (List.mem_of_getElem? (i := 17) rfl)))) (fun _ h9 => h9) rfl (by decide +kernel) rfl rfl (Nat.le_of_ble_eq_true rfl) rfl (cl_8 i_h0) dX8_startAnew_52 (fun f_72 H locs e_73 hI hS => ?_)
  have k_75 : f_72 h0 = .inr (8, [.int x_2, .ref (gr g h0 1), .int p1, .int p2, .int 0, .long 0, .int 0, .ref (gr g h0 7), .int 1, .int 0, .int 0, .int x_11, .int x_12, .int x_13, .int x_14, .int x_15, .int x_16, .int x_17]) := by rw [e_73]; exact va_up_self _ _ _
  have kp_74 := Kp.put kp_70 i_h0 (by decide) e_73
  refine lv_aload_n hx hb dX8_startAnew_55 rfl (lv_at hl 0 rfl) ?_
  refine lv_iconst (v := 0) hx hb dX8_startAnew_56 (by decide) ?_
  refine k_put (ci := 8) (v := .int 0) (ty := .int) (C := RX8) (T := TX8) (N := 18) hx hb hts (fun _ h0_ => List.mem_cons_of_mem _ (List.mem_append_right _ (List.mem_append_left _ h0_))) tyX8 tyX8_ok nmX8 hown hK hI hS i_h0.1 k_75 rfl 11 (by decide) (hts (.fieldLink RX8 61 "DeadlineShare$Task" "late" "I") (List.mem_cons_of_mem _ (List.mem_append_left _ (List.mem_of_getElem? (i := 18) rfl)))) (fun _ h9 => h9) rfl (by decide +kernel) rfl rfl (Nat.le_of_ble_eq_true rfl) rfl (cl_8 i_h0) dX8_startAnew_57 (fun f_76 H locs e_77 hI hS => ?_)
  have k_79 : f_76 h0 = .inr (8, [.int x_2, .ref (gr g h0 1), .int p1, .int p2, .int 0, .long 0, .int 0, .ref (gr g h0 7), .int 1, .int 0, .int 0, .int 0, .int x_12, .int x_13, .int x_14, .int x_15, .int x_16, .int x_17]) := by rw [e_77]; exact va_up_self _ _ _
  have kp_78 := Kp.put kp_74 i_h0 (by decide) e_77
  refine lv_aload_n hx hb dX8_startAnew_60 rfl (lv_at hl 0 rfl) ?_
  refine lv_iconst (v := 0) hx hb dX8_startAnew_61 (by decide) ?_
  refine k_put (ci := 8) (v := .int 0) (ty := .int) (C := RX8) (T := TX8) (N := 18) hx hb hts (fun _ h0_ => List.mem_cons_of_mem _ (List.mem_append_right _ (List.mem_append_left _ h0_))) tyX8 tyX8_ok nmX8 hown hK hI hS i_h0.1 k_79 rfl 12 (by decide) (hts (.fieldLink RX8 64 "DeadlineShare$Task" "wait" "I") (List.mem_cons_of_mem _ (List.mem_append_left _ (List.mem_of_getElem? (i := 19) rfl)))) (fun _ h9 => h9) rfl (by decide +kernel) rfl rfl (Nat.le_of_ble_eq_true rfl) rfl (cl_8 i_h0) dX8_startAnew_62 (fun f_80 H locs e_81 hI hS => ?_)
  have k_83 : f_80 h0 = .inr (8, [.int x_2, .ref (gr g h0 1), .int p1, .int p2, .int 0, .long 0, .int 0, .ref (gr g h0 7), .int 1, .int 0, .int 0, .int 0, .int 0, .int x_13, .int x_14, .int x_15, .int x_16, .int x_17]) := by rw [e_81]; exact va_up_self _ _ _
  have kp_82 := Kp.put kp_78 i_h0 (by decide) e_81
  refine lv_aload_n hx hb dX8_startAnew_65 rfl (lv_at hl 0 rfl) ?_
  refine lv_iconst (v := 0) hx hb dX8_startAnew_66 (by decide) ?_
  refine k_put (ci := 8) (v := .int 0) (ty := .int) (C := RX8) (T := TX8) (N := 18) hx hb hts (fun _ h0_ => List.mem_cons_of_mem _ (List.mem_append_right _ (List.mem_append_left _ h0_))) tyX8 tyX8_ok nmX8 hown hK hI hS i_h0.1 k_83 rfl 13 (by decide) (hts (.fieldLink RX8 67 "DeadlineShare$Task" "longest" "I") (List.mem_cons_of_mem _ (List.mem_append_left _ (List.mem_of_getElem? (i := 20) rfl)))) (fun _ h9 => h9) rfl (by decide +kernel) rfl rfl (Nat.le_of_ble_eq_true rfl) rfl (cl_8 i_h0) dX8_startAnew_67 (fun f_84 H locs e_85 hI hS => ?_)
  have k_87 : f_84 h0 = .inr (8, [.int x_2, .ref (gr g h0 1), .int p1, .int p2, .int 0, .long 0, .int 0, .ref (gr g h0 7), .int 1, .int 0, .int 0, .int 0, .int 0, .int 0, .int x_14, .int x_15, .int x_16, .int x_17]) := by rw [e_85]; exact va_up_self _ _ _
  have kp_86 := Kp.put kp_82 i_h0 (by decide) e_85
  refine lv_aload_n hx hb dX8_startAnew_70 rfl (lv_at hl 0 rfl) ?_
  refine lv_iconst (v := 0) hx hb dX8_startAnew_71 (by decide) ?_
  refine k_put (ci := 8) (v := .int 0) (ty := .int) (C := RX8) (T := TX8) (N := 18) hx hb hts (fun _ h0_ => List.mem_cons_of_mem _ (List.mem_append_right _ (List.mem_append_left _ h0_))) tyX8 tyX8_ok nmX8 hown hK hI hS i_h0.1 k_87 rfl 14 (by decide) (hts (.fieldLink RX8 70 "DeadlineShare$Task" "napTill" "I") (List.mem_cons_of_mem _ (List.mem_append_left _ (List.mem_of_getElem? (i := 21) rfl)))) (fun _ h9 => h9) rfl (by decide +kernel) rfl rfl (Nat.le_of_ble_eq_true rfl) rfl (cl_8 i_h0) dX8_startAnew_72 (fun f_88 H locs e_89 hI hS => ?_)
  have k_91 : f_88 h0 = .inr (8, [.int x_2, .ref (gr g h0 1), .int p1, .int p2, .int 0, .long 0, .int 0, .ref (gr g h0 7), .int 1, .int 0, .int 0, .int 0, .int 0, .int 0, .int 0, .int x_15, .int x_16, .int x_17]) := by rw [e_89]; exact va_up_self _ _ _
  have kp_90 := Kp.put kp_86 i_h0 (by decide) e_89
  refine lv_aload_n hx hb dX8_startAnew_75 rfl (lv_at hl 0 rfl) ?_
  refine lv_iconst (v := 0) hx hb dX8_startAnew_76 (by decide) ?_
  refine lv_iconst (v := 0) hx hb dX8_startAnew_77 (by decide) ?_
  refine va_callv (va_runV (As := [.int 0, .int 0]) (rest := []) ⟨hx, hb, hml, hown, hts⟩ (c_X8_takeQuota l dC dI g A hG f_88 h0 0 0 i_h0) (cwV 2 hts (gi_V (fun w_ h0_ => ⟨List.mem_cons_of_mem _ (List.mem_append_right _ (List.mem_append_right _ (List.mem_append_right _ (List.mem_append_right _ (List.mem_append_left _ h0_))))), (tb_c_X8_takeQuota w_ h0_).2⟩) (List.mem_cons_of_mem _ (List.mem_append_left _ (List.mem_of_getElem? (i := 22) rfl))) (List.mem_cons_of_mem _ (List.mem_append_left _ (List.mem_of_getElem? (i := 23) rfl))) (List.mem_cons_of_mem _ (List.mem_append_left _ (List.mem_of_getElem? (i := 24) rfl))) (List.mem_cons_of_mem _ (List.mem_append_left _ (List.mem_of_getElem? (i := 25) rfl)))) rfl rfl rfl (by decide +kernel) ⟨Nat.le_of_ble_eq_true rfl, Nat.le_of_ble_eq_true rfl⟩) ⟨fun a U g mk q => ⟨q.1, q.2.calling rfl rfl⟩, k_recv hK hI i_h0.1 k_91 (ci := 8) rfl, fun U hU hW => ⟨rfl, kIn.of hI hK hE hS hU hW⟩⟩ rfl rfl hl.1 rfl (lv_room (Nat.le_of_ble_eq_true rfl)) dX8_startAnew_78 ⟨Nat.le_of_ble_eq_true rfl, Nat.le_of_ble_eq_true rfl⟩) hS (fun q _ h => h) (fun q h => h) (fun u t H1 locs ht hvm _ hB hz1 hk1 hS => ?_)
  obtain ⟨f_92, hI, kc_94⟩ := hB
  rw [ht] at hI
  have kp_96 := Kp.call kp_90 kc_94 (by decide)
  generalize H1 = H at hI hS ⊢
  refine W.widen (k := 0) (n := 0) (Nat.le_of_ble_eq_true rfl) (Nat.le_of_ble_eq_true rfl) ?_
  exact W.vret hx hb hr (fun t ht hW => ⟨⟨(), rfl, trivial, ⟨f_92, k_ret ht hI, kp_96⟩⟩, hS.F ht⟩) hS.2.2 dX8_startAnew_81
theorem tw_239 : q_g (.selects RX8 yX8_startAnew yX8_startAnew) := ⟨(List.mem_append_right _ (List.mem_of_getElem? (i := 460) (by decide +kernel))), good_of_word (by decide +kernel)⟩
theorem tw_240 : q_g (.instanceMethod yX8_startAnew) := ⟨(List.mem_append_right _ (List.mem_of_getElem? (i := 459) (by decide +kernel))), good_of_word (by decide +kernel)⟩
theorem tw_241 : q_g (.methodLink RX6 65 yX8_startAnew) := ⟨(List.mem_append_right _ (List.mem_of_getElem? (i := 458) (by decide +kernel))), good_of_word (by decide +kernel)⟩
theorem tw_242 : q_g (.code yX6_addTask cX6_addTask 3 (some .int)) := ⟨(List.mem_append_right _ (List.mem_of_getElem? (i := 457) (by decide +kernel))), good_of_word (by decide +kernel)⟩
def ow_c_X6_addTask : List Cond := [.fieldLink RX6 48 "DeadlineShare$State" "count" "I", .fieldLink RX6 11 "DeadlineShare$State" "tasks" "[LDeadlineShare$Task;", .methodLink RX6 65 yX8_startAnew, .instanceMethod yX8_startAnew, .selects RX8 yX8_startAnew yX8_startAnew, .initialized RX8]
def wq_c_X6_addTask : List Cond := .code yX6_addTask cX6_addTask 3 (some .int) :: (ow_c_X6_addTask ++ (u_ws RX6 TX6 10 ++ (wq_c_X8_startAnew ++ ([] : List Cond))))
theorem tb_c_X6_addTask : ∀ w ∈ wq_c_X6_addTask, q_g w := by
  unfold wq_c_X6_addTask ow_c_X6_addTask
  exact q_cons tw_242 (q_app (q_cons tw_13 (q_cons tw_12 (q_cons tw_241 (q_cons tw_240 (q_cons tw_239 (q_cons tw_8 q_nil)))))) (q_app tu_X6 (q_app tb_c_X8_startAnew q_nil)))
set_option maxHeartbeats 4000000 in
set_option maxRecDepth 100000 in
theorem c_X6_addTask (l : Launch) (dC : Nat → ClassId) (dI : Nat → Nat → Nat) (g : kG) (A : Nat → Prop) (hG : kWf g) (f : Nat → va_E) (h0 : Nat) (p1 : Int32) (p2 : Int32) (i_h0 : ik g 6 h0) : Met l yX6_addTask wq_c_X6_addTask ({ frames := 2, cells := 0, slots := 0, locals := 44 } : Room) (va_Pc [.ref h0, .int p1, .int p2] (fun U => kIn dC dI g A f U)) (va_Qi (fun (r : Int32) (_ : Unit) => True) (fun (_ : Unit) t => ∃ f1 : Nat → va_E, Iv dC dI g A f1 t.heap ∧ Kp g [5, 6, 8, 10] f f1) A) 0 0 A := by
  refine Met.ofW (cc := cX6_addTask) (maxL := 3) (ret := (some .int)) (by decide) rfl ?_
  intro p e s m args below meth c s₁ B hml hv
  obtain ⟨rfl, hI, hK, hE⟩ := hv
  have hx := B.exec
  have hb := B.bytes
  have hr := B.returns
  have hts := atoms_spec (ws := wq_c_X6_addTask) B.pre
  have hown : s.vm.findClass RX6 = some m.cls := findClass_of_methodNamed B.named
  have hlocks := B.notSynchronized
  have hS : va_S A s.heap s.heap [] := va_S.rf
  have hk0 : Kp g [5, 6, 8, 10] f f := Kp.rf
  have hl := lv_entry ([.ref h0, .int p1, .int p2]) (n := 3) (Nat.le_of_ble_eq_true rfl)
  rw [lg_entry_eq]
  generalize (lg_sl ([.ref h0, .int p1, .int p2]) ++ List.replicate (3 - (lg_sl ([.ref h0, .int p1, .int p2])).length) Slot.unset).toArray = ls at hl ⊢
  have hl : lv_has ls 3 [(0, .ref h0), (1, .int p1), (2, .int p2)] := hl
  refine lv_aload_n hx hb dX6_addTask_0 rfl (lv_at hl 0 rfl) ?_
  obtain ⟨x_2, x_3, x_4, x_5, x_6, k_1, b_7, b_8⟩ := op_6 hI i_h0
  refine k_get (ci := 6) (v := .int x_2) (C := RX6) (T := TX6) (N := 10) hx hb hts (fun _ h0_ => List.mem_cons_of_mem _ (List.mem_append_right _ (List.mem_append_left _ h0_))) hown hK hI i_h0.1 k_1 rfl 5 (by decide) (hts (.fieldLink RX6 48 "DeadlineShare$State" "count" "I") (List.mem_cons_of_mem _ (List.mem_append_left _ (List.mem_of_getElem? (i := 0) rfl)))) (fun _ h9 => h9) rfl dX6_addTask_1 ?_
  refine lv_bipush (v := 12) hx hb dX6_addTask_4 (by decide) ?_
  refine lv_icmp_lt (tgt := 11) hx hb dX6_addTask_6 (by decide) (fun c_9 => ?_) (fun c_9 => ?_)
  · have c_9 := kc_lt rfl (by decide : Int32.toInt 12 = 12) c_9
    refine lv_aload_n hx hb dX6_addTask_11 rfl (lv_at hl 0 rfl) ?_
    refine k_get (ci := 6) (v := .ref (gr g h0 1)) (C := RX6) (T := TX6) (N := 10) hx hb hts (fun _ h0_ => List.mem_cons_of_mem _ (List.mem_append_right _ (List.mem_append_left _ h0_))) hown hK hI i_h0.1 k_1 rfl 1 (by decide) (hts (.fieldLink RX6 11 "DeadlineShare$State" "tasks" "[LDeadlineShare$Task;") (List.mem_cons_of_mem _ (List.mem_append_left _ (List.mem_of_getElem? (i := 1) rfl)))) (fun _ h9 => h9) rfl dX6_addTask_12 ?_
    have i_11 := kw_6_1 hG i_h0
    refine lv_aload_n hx hb dX6_addTask_15 rfl (lv_at hl 0 rfl) ?_
    refine k_get (ci := 6) (v := .int x_2) (C := RX6) (T := TX6) (N := 10) hx hb hts (fun _ h0_ => List.mem_cons_of_mem _ (List.mem_append_right _ (List.mem_append_left _ h0_))) hown hK hI i_h0.1 k_1 rfl 5 (by decide) (hts (.fieldLink RX6 48 "DeadlineShare$State" "count" "I") (List.mem_cons_of_mem _ (List.mem_append_left _ (List.mem_of_getElem? (i := 0) rfl)))) (fun _ h9 => h9) rfl dX6_addTask_16 ?_
    obtain ⟨q_13, k_12, b_14⟩ := op_20 hI i_11
    refine k_aald hx hb hK hI i_11.1 4 k_12 rfl (vp_in_iff.mpr (by omega)) b_14 (fun _ hj => kw_20 hG i_11 hj) dX6_addTask_19 (fun a_15 i_16 => ?_)
    refine lv_iload_n hx hb dX6_addTask_20 rfl (lv_at hl 1 rfl) ?_
    refine lv_iload_n hx hb dX6_addTask_21 rfl (lv_at hl 2 rfl) ?_
    obtain ⟨x_18, x_19, x_20, x_21, x_22, x_23, x_24, x_25, x_26, x_27, x_28, x_29, x_30, x_31, x_32, x_33, k_17⟩ := op_8 hI i_16
    refine va_callv (va_runV (As := [.int p1, .int p2]) (rest := []) ⟨hx, hb, hml, hown, hts⟩ (c_X8_startAnew l dC dI g A hG f a_15 p1 p2 i_16) (cwV 2 hts (gi_V (fun w_ h0_ => ⟨List.mem_cons_of_mem _ (List.mem_append_right _ (List.mem_append_right _ (List.mem_append_left _ h0_))), (tb_c_X8_startAnew w_ h0_).2⟩) (List.mem_cons_of_mem _ (List.mem_append_left _ (List.mem_of_getElem? (i := 2) rfl))) (List.mem_cons_of_mem _ (List.mem_append_left _ (List.mem_of_getElem? (i := 3) rfl))) (List.mem_cons_of_mem _ (List.mem_append_left _ (List.mem_of_getElem? (i := 4) rfl))) (List.mem_cons_of_mem _ (List.mem_append_left _ (List.mem_of_getElem? (i := 5) rfl)))) rfl rfl rfl (by decide +kernel) ⟨Nat.le_of_ble_eq_true rfl, Nat.le_of_ble_eq_true rfl⟩) ⟨fun a U g mk q => ⟨q.1, q.2.calling rfl rfl⟩, k_recv hK hI i_16.1 k_17 (ci := 8) rfl, fun U hU hW => ⟨rfl, kIn.of hI hK hE hS hU hW⟩⟩ rfl rfl hl.1 rfl (lv_room (Nat.le_of_ble_eq_true rfl)) dX6_addTask_22 ⟨Nat.le_of_ble_eq_true rfl, Nat.le_of_ble_eq_true rfl⟩) hS (fun q _ h => h) (fun q h => h) (fun u t H1 locs ht hvm _ hB hz1 hk1 hS => ?_)
    obtain ⟨f_34, hI, kc_36⟩ := hB
    rw [ht] at hI
    have k_38 : f_34 h0 = .inr (6, [.ref (gr g h0 0), .ref (gr g h0 1), .ref (gr g h0 2), .ref (gr g h0 3), .ref (gr g h0 4), .int x_2, .int x_3, .long x_4, .int x_5, .int x_6]) := Kp.at kc_36 i_h0 (by decide) k_1
    have k_39 : f_34 (gr g h0 1) = .inl (gc g 4, 12, .inr (.inr (.inr (.inr q_13)))) := Kp.at kc_36 i_11 (by decide) k_12
    have kp_40 := Kp.call hk0 kc_36 (by decide)
    generalize H1 = H at hI hS ⊢
    refine W.widen (k := 0) (n := 0) (Nat.le_of_ble_eq_true rfl) (Nat.le_of_ble_eq_true rfl) ?_
    refine lv_aload_n hx hb dX6_addTask_25 rfl (lv_at hl 0 rfl) ?_
    refine lv_dup hx hb dX6_addTask_26 rfl ?_
    refine k_get (ci := 6) (v := .int x_2) (C := RX6) (T := TX6) (N := 10) hx hb hts (fun _ h0_ => List.mem_cons_of_mem _ (List.mem_append_right _ (List.mem_append_left _ h0_))) hown hK hI i_h0.1 k_38 rfl 5 (by decide) (hts (.fieldLink RX6 48 "DeadlineShare$State" "count" "I") (List.mem_cons_of_mem _ (List.mem_append_left _ (List.mem_of_getElem? (i := 0) rfl)))) (fun _ h9 => h9) rfl dX6_addTask_27 ?_
    refine lv_iconst (v := 1) hx hb dX6_addTask_30 (by decide) ?_
    refine lv_iadd hx hb dX6_addTask_31 ?_
    refine lv_topi (fun v_41 ev_41 => ?_)
    have tv_41 := k_ad x_2 1
    rw [← ev_41, show Int32.toInt 1 = 1 from by decide] at tv_41
    have b_42 : 0 ≤ Int32.toInt v_41 ∧ Int32.toInt v_41 ≤ 12 := by omega
    refine k_put (ci := 6) (v := .int v_41) (ty := .int) (C := RX6) (T := TX6) (N := 10) hx hb hts (fun _ h0_ => List.mem_cons_of_mem _ (List.mem_append_right _ (List.mem_append_left _ h0_))) tyX6 tyX6_ok nmX6 hown hK hI hS i_h0.1 k_38 rfl 5 (by decide) (hts (.fieldLink RX6 48 "DeadlineShare$State" "count" "I") (List.mem_cons_of_mem _ (List.mem_append_left _ (List.mem_of_getElem? (i := 0) rfl)))) (fun _ h9 => h9) rfl (by decide +kernel) rfl rfl (Nat.le_of_ble_eq_true rfl) rfl (cl_6 i_h0 b_42) dX6_addTask_32 (fun f_43 H locs e_44 hI hS => ?_)
    have k_46 : f_43 h0 = .inr (6, [.ref (gr g h0 0), .ref (gr g h0 1), .ref (gr g h0 2), .ref (gr g h0 3), .ref (gr g h0 4), .int v_41, .int x_3, .long x_4, .int x_5, .int x_6]) := by rw [e_44]; exact va_up_self _ _ _
    have k_47 : f_43 (gr g h0 1) = .inl (gc g 4, 12, .inr (.inr (.inr (.inr q_13)))) := by rw [e_44, va_up_ne _ _ (ik_ne i_11 i_h0 (by decide))]; exact k_39
    have kp_45 := Kp.put kp_40 i_h0 (by decide) e_44
    refine lv_aload_n hx hb dX6_addTask_35 rfl (lv_at hl 0 rfl) ?_
    refine k_get (ci := 6) (v := .int v_41) (C := RX6) (T := TX6) (N := 10) hx hb hts (fun _ h0_ => List.mem_cons_of_mem _ (List.mem_append_right _ (List.mem_append_left _ h0_))) hown hK hI i_h0.1 k_46 rfl 5 (by decide) (hts (.fieldLink RX6 48 "DeadlineShare$State" "count" "I") (List.mem_cons_of_mem _ (List.mem_append_left _ (List.mem_of_getElem? (i := 0) rfl)))) (fun _ h9 => h9) rfl dX6_addTask_36 ?_
    refine lv_iconst (v := 1) hx hb dX6_addTask_39 (by decide) ?_
    refine lv_isub hx hb dX6_addTask_40 ?_
    refine lv_topi (fun v_48 ev_48 => ?_)
    have tv_48 := k_sb v_41 1
    rw [← ev_48, show Int32.toInt 1 = 1 from by decide] at tv_48
    exact W.iret (v := v_48) hx hb hr (fun t ht hW => ⟨⟨v_48, (), rfl, trivial, ⟨f_43, k_ret ht hI, kp_45⟩⟩, hS.F ht⟩) hS.2.2 dX6_addTask_41
  · have c_9 := kn_lt rfl (by decide : Int32.toInt 12 = 12) c_9
    refine lv_iconst (v := (-1)) hx hb dX6_addTask_9 (by decide) ?_
    exact W.iret (v := (-1)) hx hb hr (fun t ht hW => ⟨⟨(-1), (), rfl, trivial, ⟨f, k_ret ht hI, hk0⟩⟩, hS.F ht⟩) hS.2.2 dX6_addTask_10
theorem tw_243 : q_g (.code yX10_modulo cX10_modulo 3 (some .long)) := ⟨(List.mem_append_right _ (List.mem_of_getElem? (i := 932) (by decide +kernel))), good_of_word (by decide +kernel)⟩
def ow_c_X10_modulo : List Cond := [.fieldLink RX10 9 "DeadlineShare$Wide" "high" "J", .methodLink RX10 18 yJ9_floorMod_f86c9, .static yJ9_floorMod_f86c9, .initialized RJ9, .fieldLink RX10 15 "DeadlineShare$Wide" "low" "J"]
def wq_c_X10_modulo : List Cond := .code yX10_modulo cX10_modulo 3 (some .long) :: (ow_c_X10_modulo ++ (u_ws RX10 TX10 2 ++ (wq_c_J9_floorMod_f86c9 ++ ([] : List Cond))))
theorem tb_c_X10_modulo : ∀ w ∈ wq_c_X10_modulo, q_g w := by
  unfold wq_c_X10_modulo ow_c_X10_modulo
  exact q_cons tw_243 (q_app (q_cons tw_17 (q_cons tw_38 (q_cons tw_37 (q_cons tw_36 (q_cons tw_15 q_nil))))) (q_app tu_X10 (q_app tb_c_J9_floorMod_f86c9 q_nil)))
set_option maxHeartbeats 4000000 in
set_option maxRecDepth 100000 in
theorem c_X10_modulo (l : Launch) (dC : Nat → ClassId) (dI : Nat → Nat → Nat) (g : kG) (A : Nat → Prop) (hG : kWf g) (f : Nat → va_E) (h0 : Nat) (p1 : Int64) (i_h0 : ik g 10 h0) : Met l yX10_modulo wq_c_X10_modulo ({ frames := 1, cells := 0, slots := 0, locals := 25 } : Room) (va_Pc [.ref h0, .long p1] (fun U => kIn dC dI g A f U)) (va_Ql (fun (r : Int64) (_ : Unit) => True) (fun (_ : Unit) t => Iv dC dI g A f t.heap) A) 0 0 A := by
  refine Met.ofW (cc := cX10_modulo) (maxL := 3) (ret := (some .long)) (by decide) rfl ?_
  intro p e s m args below meth c s₁ B hml hv
  obtain ⟨rfl, hI, hK, hE⟩ := hv
  have hx := B.exec
  have hb := B.bytes
  have hr := B.returns
  have hts := atoms_spec (ws := wq_c_X10_modulo) B.pre
  have hown : s.vm.findClass RX10 = some m.cls := findClass_of_methodNamed B.named
  have hlocks := B.notSynchronized
  have hS : va_S A s.heap s.heap [] := va_S.rf
  have hl := lv_entry ([.ref h0, .long p1]) (n := 3) (Nat.le_of_ble_eq_true rfl)
  rw [lg_entry_eq]
  generalize (lg_sl ([.ref h0, .long p1]) ++ List.replicate (3 - (lg_sl ([.ref h0, .long p1])).length) Slot.unset).toArray = ls at hl ⊢
  have hl : lv_has ls 3 [(0, .ref h0), (1, .long p1)] := hl
  refine lv_lload_n hx hb dX10_modulo_0 rfl (lv_at hl 1 rfl) ?_
  refine lv_lconst (v := 0) hx hb dX10_modulo_1 (by decide) ?_
  refine W.lcmp hx hb dX10_modulo_2 ?_
  refine lv_if_le (tgt := 27) hx hb dX10_modulo_3 (by decide) (fun c_1 => ?_) (fun c_1 => ?_)
  · have c_1 := lc_le rfl (by decide : Int64.toInt 0 = 0) ((lg_cmp_le _ _).mp c_1)
    refine lv_lconst (v := 0) hx hb dX10_modulo_27 (by decide) ?_
    exact W.lret (v := 0) hx hb hr (fun t ht hW => ⟨⟨0, (), rfl, trivial, k_ret ht hI⟩, hS.F ht⟩) hS.2.2 dX10_modulo_28
  · have c_1 := ln_le rfl (by decide : Int64.toInt 0 = 0) (fun h9 => c_1 ((lg_cmp_le _ _).mpr h9))
    refine lv_aload_n hx hb dX10_modulo_6 rfl (lv_at hl 0 rfl) ?_
    obtain ⟨x_3, x_4, k_2⟩ := op_10 hI i_h0
    refine k_get (ci := 10) (v := .long x_3) (C := RX10) (T := TX10) (N := 2) hx hb hts (fun _ h0_ => List.mem_cons_of_mem _ (List.mem_append_right _ (List.mem_append_left _ h0_))) hown hK hI i_h0.1 k_2 rfl 0 (by decide) (hts (.fieldLink RX10 9 "DeadlineShare$Wide" "high" "J") (List.mem_cons_of_mem _ (List.mem_append_left _ (List.mem_of_getElem? (i := 0) rfl)))) (fun _ h9 => h9) rfl dX10_modulo_7 ?_
    refine lv_lload_n hx hb dX10_modulo_10 rfl (lv_at hl 1 rfl) ?_
    refine va_calll (va_runS (As := [.long x_3, .long p1]) (rest := []) ⟨hx, hb, hml, hown, hts⟩ (c_J9_floorMod_f86c9 l dC dI g A hG f x_3 p1 (by omega)) (va_cwS 2 hts (gi_S (fun w_ h0_ => ⟨List.mem_cons_of_mem _ (List.mem_append_right _ (List.mem_append_right _ (List.mem_append_left _ h0_))), (tb_c_J9_floorMod_f86c9 w_ h0_).2⟩) (List.mem_cons_of_mem _ (List.mem_append_left _ (List.mem_of_getElem? (i := 1) rfl))) (List.mem_cons_of_mem _ (List.mem_append_left _ (List.mem_of_getElem? (i := 2) rfl))) (List.mem_cons_of_mem _ (List.mem_append_left _ (List.mem_of_getElem? (i := 3) rfl)))) rfl rfl rfl (by decide +kernel) ⟨Nat.le_of_ble_eq_true rfl, Nat.le_of_ble_eq_true rfl⟩) ⟨fun a U g mk q => ⟨q.1, q.2.calling rfl rfl⟩, fun U hU hW => ⟨rfl, kIn.of hI hK hE hS hU hW⟩⟩ rfl rfl hl.1 rfl (lv_room (Nat.le_of_ble_eq_true rfl)) dX10_modulo_11 ⟨Nat.le_of_ble_eq_true rfl, Nat.le_of_ble_eq_true rfl⟩) hS (fun q _ h => h) (fun q h => h) (fun r_6 u t H1 locs ht hvm w_5 hB hz1 hk1 hS => ?_)
    have hI : Iv dC dI g A f t.heap := hB
    rw [ht] at hI
    generalize H1 = H at hI hS ⊢
    refine W.widen (k := 0) (n := 0) (Nat.le_of_ble_eq_true rfl) (Nat.le_of_ble_eq_true rfl) ?_
    refine lv_bipush (v := 32) hx hb dX10_modulo_14 (by decide) ?_
    refine lv_lshl hx hb dX10_modulo_16 rfl ?_
    refine lv_topl (fun v_7 ev_7 => ?_)
    refine lv_aload_n hx hb dX10_modulo_17 rfl (lv_at hl 0 rfl) ?_
    refine k_get (ci := 10) (v := .long x_4) (C := RX10) (T := TX10) (N := 2) hx hb hts (fun _ h0_ => List.mem_cons_of_mem _ (List.mem_append_right _ (List.mem_append_left _ h0_))) hown hK hI i_h0.1 k_2 rfl 1 (by decide) (hts (.fieldLink RX10 15 "DeadlineShare$Wide" "low" "J") (List.mem_cons_of_mem _ (List.mem_append_left _ (List.mem_of_getElem? (i := 4) rfl)))) (fun _ h9 => h9) rfl dX10_modulo_18 ?_
    refine lv_lor hx hb dX10_modulo_21 ?_
    refine lv_topl (fun v_8 ev_8 => ?_)
    refine lv_lload_n hx hb dX10_modulo_22 rfl (lv_at hl 1 rfl) ?_
    refine lv_lrem hx hb dX10_modulo_23 (k_ne0L (by omega)) ?_
    refine lv_topl (fun v_9 ev_9 => ?_)
    refine lv_goto (tgt := 28) hx hb dX10_modulo_24 (by decide) ?_
    exact W.lret (v := v_9) hx hb hr (fun t ht hW => ⟨⟨v_9, (), rfl, trivial, k_ret ht hI⟩, hS.F ht⟩) hS.2.2 dX10_modulo_28
theorem tw_244 : q_g (.selects RX10 yX10_modulo yX10_modulo) := ⟨(List.mem_append_right _ (List.mem_of_getElem? (i := 931) (by decide +kernel))), good_of_word (by decide +kernel)⟩
theorem tw_245 : q_g (.instanceMethod yX10_modulo) := ⟨(List.mem_append_right _ (List.mem_of_getElem? (i := 930) (by decide +kernel))), good_of_word (by decide +kernel)⟩
theorem tw_246 : q_g (.methodLink RX6 97 yX10_modulo) := ⟨(List.mem_append_right _ (List.mem_of_getElem? (i := 929) (by decide +kernel))), good_of_word (by decide +kernel)⟩
theorem tw_247 : q_g (.code yX6_restOfV cX6_restOfV 2 (some .long)) := ⟨(List.mem_append_right _ (List.mem_of_getElem? (i := 928) (by decide +kernel))), good_of_word (by decide +kernel)⟩
def ow_c_X6_restOfV : List Cond := [.methodLink RX6 86 yX6_sumUp, .instanceMethod yX6_sumUp, .selects RX6 yX6_sumUp yX6_sumUp, .initialized RX6, .fieldLink RX6 27 "DeadlineShare$State" "sum" "LDeadlineShare$Wide;", .methodLink RX6 97 yX10_modulo, .instanceMethod yX10_modulo, .selects RX10 yX10_modulo yX10_modulo, .initialized RX10]
def wq_c_X6_restOfV : List Cond := .code yX6_restOfV cX6_restOfV 2 (some .long) :: (ow_c_X6_restOfV ++ (wq_c_X6_sumUp ++ (u_ws RX6 TX6 10 ++ (wq_c_X10_modulo ++ ([] : List Cond)))))
theorem tb_c_X6_restOfV : ∀ w ∈ wq_c_X6_restOfV, q_g w := by
  unfold wq_c_X6_restOfV ow_c_X6_restOfV
  exact q_cons tw_247 (q_app (q_cons tw_50 (q_cons tw_49 (q_cons tw_48 (q_cons tw_47 (q_cons tw_30 (q_cons tw_246 (q_cons tw_245 (q_cons tw_244 (q_cons tw_26 q_nil))))))))) (q_app tb_c_X6_sumUp (q_app tu_X6 (q_app tb_c_X10_modulo q_nil))))
set_option maxHeartbeats 4000000 in
set_option maxRecDepth 100000 in
theorem c_X6_restOfV (l : Launch) (dC : Nat → ClassId) (dI : Nat → Nat → Nat) (g : kG) (A : Nat → Prop) (hG : kWf g) (f : Nat → va_E) (h0 : Nat) (i_h0 : ik g 6 h0) : Met l yX6_restOfV wq_c_X6_restOfV ({ frames := 2, cells := 0, slots := 0, locals := 48 } : Room) (va_Pc [.ref h0] (fun U => kIn dC dI g A f U)) (va_Ql (fun (r : Int64) (_ : Unit) => True) (fun (_ : Unit) t => ∃ f1 : Nat → va_E, Iv dC dI g A f1 t.heap ∧ Kp g [10] f f1) A) 0 0 A := by
  refine Met.ofW (cc := cX6_restOfV) (maxL := 2) (ret := (some .long)) (by decide) rfl ?_
  intro p e s m args below meth c s₁ B hml hv
  obtain ⟨rfl, hI, hK, hE⟩ := hv
  have hx := B.exec
  have hb := B.bytes
  have hr := B.returns
  have hts := atoms_spec (ws := wq_c_X6_restOfV) B.pre
  have hown : s.vm.findClass RX6 = some m.cls := findClass_of_methodNamed B.named
  have hlocks := B.notSynchronized
  have hS : va_S A s.heap s.heap [] := va_S.rf
  have hk0 : Kp g [10] f f := Kp.rf
  have hl := lv_entry ([.ref h0]) (n := 2) (Nat.le_of_ble_eq_true rfl)
  rw [lg_entry_eq]
  generalize (lg_sl ([.ref h0]) ++ List.replicate (2 - (lg_sl ([.ref h0])).length) Slot.unset).toArray = ls at hl ⊢
  have hl : lv_has ls 2 [(0, .ref h0)] := hl
  refine lv_aload_n hx hb dX6_restOfV_0 rfl (lv_at hl 0 rfl) ?_
  obtain ⟨x_2, x_3, x_4, x_5, x_6, k_1, b_7, b_8⟩ := op_6 hI i_h0
  refine va_calli (va_runV (As := []) (rest := []) ⟨hx, hb, hml, hown, hts⟩ (c_X6_sumUp l dC dI g A hG f h0 i_h0) (cwV 0 hts (gi_V (fun w_ h0_ => ⟨List.mem_cons_of_mem _ (List.mem_append_right _ (List.mem_append_left _ h0_)), (tb_c_X6_sumUp w_ h0_).2⟩) (List.mem_cons_of_mem _ (List.mem_append_left _ (List.mem_of_getElem? (i := 0) rfl))) (List.mem_cons_of_mem _ (List.mem_append_left _ (List.mem_of_getElem? (i := 1) rfl))) (List.mem_cons_of_mem _ (List.mem_append_left _ (List.mem_of_getElem? (i := 2) rfl))) (List.mem_cons_of_mem _ (List.mem_append_left _ (List.mem_of_getElem? (i := 3) rfl)))) rfl rfl rfl (by decide +kernel) ⟨Nat.le_of_ble_eq_true rfl, Nat.le_of_ble_eq_true rfl⟩) ⟨fun a U g mk q => ⟨q.1, q.2.calling rfl rfl⟩, k_recv hK hI i_h0.1 k_1 (ci := 6) rfl, fun U hU hW => ⟨rfl, kIn.of hI hK hE hS hU hW⟩⟩ rfl rfl hl.1 rfl (lv_room (Nat.le_of_ble_eq_true rfl)) dX6_restOfV_1 ⟨Nat.le_of_ble_eq_true rfl, Nat.le_of_ble_eq_true rfl⟩) hS (fun q _ h => h) (fun q h => h) (fun r_11 u t H1 locs ht hvm w_10 hB hz1 hk1 hS => ?_)
  obtain ⟨f_9, hI, kc_12⟩ := hB
  rw [ht] at hI
  have k_14 : f_9 h0 = .inr (6, [.ref (gr g h0 0), .ref (gr g h0 1), .ref (gr g h0 2), .ref (gr g h0 3), .ref (gr g h0 4), .int x_2, .int x_3, .long x_4, .int x_5, .int x_6]) := Kp.at kc_12 i_h0 (by decide) k_1
  have kp_15 := Kp.call hk0 kc_12 (by decide)
  generalize H1 = H at hI hS ⊢
  refine W.widen (k := 0) (n := 0) (Nat.le_of_ble_eq_true rfl) (Nat.le_of_ble_eq_true rfl) ?_
  refine lv_istore_n (lv' := [(1, .int r_11), (0, .ref h0)]) hx hb dX6_restOfV_4 rfl hl (by decide) rfl (fun ls hl => ?_)
  refine lv_aload_n hx hb dX6_restOfV_5 rfl (lv_at hl 1 rfl) ?_
  refine k_get (ci := 6) (v := .ref (gr g h0 3)) (C := RX6) (T := TX6) (N := 10) hx hb hts (fun _ h0_ => List.mem_cons_of_mem _ (List.mem_append_right _ (List.mem_append_right _ (List.mem_append_left _ h0_)))) hown hK hI i_h0.1 k_14 rfl 3 (by decide) (hts (.fieldLink RX6 27 "DeadlineShare$State" "sum" "LDeadlineShare$Wide;") (List.mem_cons_of_mem _ (List.mem_append_left _ (List.mem_of_getElem? (i := 4) rfl)))) (fun _ h9 => h9) rfl dX6_restOfV_6 ?_
  have i_17 := kw_6_3 hG i_h0
  refine lv_iload_n hx hb dX6_restOfV_9 rfl (lv_at hl 0 rfl) ?_
  refine lv_i2l (v := r_11.toInt64) hx hb dX6_restOfV_10 rfl ?_
  have t_18 := Int32.toInt_toInt64 r_11
  obtain ⟨x_20, x_21, k_19⟩ := op_10 hI i_17
  refine va_calll (va_runV (As := [.long r_11.toInt64]) (rest := []) ⟨hx, hb, hml, hown, hts⟩ (c_X10_modulo l dC dI g A hG f_9 (gr g h0 3) r_11.toInt64 i_17) (cwV 1 hts (gi_V (fun w_ h0_ => ⟨List.mem_cons_of_mem _ (List.mem_append_right _ (List.mem_append_right _ (List.mem_append_right _ (List.mem_append_left _ h0_)))), (tb_c_X10_modulo w_ h0_).2⟩) (List.mem_cons_of_mem _ (List.mem_append_left _ (List.mem_of_getElem? (i := 5) rfl))) (List.mem_cons_of_mem _ (List.mem_append_left _ (List.mem_of_getElem? (i := 6) rfl))) (List.mem_cons_of_mem _ (List.mem_append_left _ (List.mem_of_getElem? (i := 7) rfl))) (List.mem_cons_of_mem _ (List.mem_append_left _ (List.mem_of_getElem? (i := 8) rfl)))) rfl rfl rfl (by decide +kernel) ⟨Nat.le_of_ble_eq_true rfl, Nat.le_of_ble_eq_true rfl⟩) ⟨fun a U g mk q => ⟨q.1, q.2.calling rfl rfl⟩, k_recv hK hI i_17.1 k_19 (ci := 10) rfl, fun U hU hW => ⟨rfl, kIn.of hI hK hE hS hU hW⟩⟩ rfl rfl hl.1 rfl (lv_room (Nat.le_of_ble_eq_true rfl)) dX6_restOfV_11 ⟨Nat.le_of_ble_eq_true rfl, Nat.le_of_ble_eq_true rfl⟩) hS (fun q _ h => h) (fun q h => h) (fun r_23 u t H1 locs ht hvm w_22 hB hz1 hk1 hS => ?_)
  have hI : Iv dC dI g A f_9 t.heap := hB
  rw [ht] at hI
  generalize H1 = H at hI hS ⊢
  refine W.widen (k := 0) (n := 0) (Nat.le_of_ble_eq_true rfl) (Nat.le_of_ble_eq_true rfl) ?_
  exact W.lret (v := r_23) hx hb hr (fun t ht hW => ⟨⟨r_23, (), rfl, trivial, ⟨f_9, k_ret ht hI, kp_15⟩⟩, hS.F ht⟩) hS.2.2 dX6_restOfV_14
theorem tw_248 : q_g (.code yX10_multiply cX10_multiply 5 none) := ⟨(List.mem_append_right _ (List.mem_of_getElem? (i := 526) (by decide +kernel))), good_of_word (by decide +kernel)⟩
def ow_c_X10_multiply : List Cond := [.fieldLink RX10 15 "DeadlineShare$Wide" "low" "J", .fieldLink RX10 9 "DeadlineShare$Wide" "high" "J", .constantLong RX10 13 (4294967295)]
def wq_c_X10_multiply : List Cond := .code yX10_multiply cX10_multiply 5 none :: (ow_c_X10_multiply ++ (u_ws RX10 TX10 2 ++ ([] : List Cond)))
theorem tb_c_X10_multiply : ∀ w ∈ wq_c_X10_multiply, q_g w := by
  unfold wq_c_X10_multiply ow_c_X10_multiply
  exact q_cons tw_248 (q_app (q_cons tw_15 (q_cons tw_17 (q_cons tw_16 q_nil))) (q_app tu_X10 q_nil))
set_option maxHeartbeats 4000000 in
set_option maxRecDepth 100000 in
theorem c_X10_multiply (l : Launch) (dC : Nat → ClassId) (dI : Nat → Nat → Nat) (g : kG) (A : Nat → Prop) (hG : kWf g) (f : Nat → va_E) (h0 : Nat) (p1 : Int64) (i_h0 : ik g 10 h0) : Met l yX10_multiply wq_c_X10_multiply ({ frames := 0, cells := 0, slots := 0, locals := 0 } : Room) (va_Pc [.ref h0, .long p1] (fun U => kIn dC dI g A f U)) (va_Qv (fun (_ : Unit) => True) (fun (_ : Unit) t => ∃ f1 : Nat → va_E, Iv dC dI g A f1 t.heap ∧ Kp g [10] f f1) A) 0 0 A := by
  refine Met.ofW (cc := cX10_multiply) (maxL := 5) (ret := none) (by decide) rfl ?_
  intro p e s m args below meth c s₁ B hml hv
  obtain ⟨rfl, hI, hK, hE⟩ := hv
  have hx := B.exec
  have hb := B.bytes
  have hr := B.returns
  have hts := atoms_spec (ws := wq_c_X10_multiply) B.pre
  have hown : s.vm.findClass RX10 = some m.cls := findClass_of_methodNamed B.named
  have hlocks := B.notSynchronized
  have hS : va_S A s.heap s.heap [] := va_S.rf
  have hk0 : Kp g [10] f f := Kp.rf
  have hl := lv_entry ([.ref h0, .long p1]) (n := 5) (Nat.le_of_ble_eq_true rfl)
  rw [lg_entry_eq]
  generalize (lg_sl ([.ref h0, .long p1]) ++ List.replicate (5 - (lg_sl ([.ref h0, .long p1])).length) Slot.unset).toArray = ls at hl ⊢
  have hl : lv_has ls 5 [(0, .ref h0), (1, .long p1)] := hl
  refine lv_lload_n hx hb dX10_multiply_0 rfl (lv_at hl 1 rfl) ?_
  refine lv_aload_n hx hb dX10_multiply_1 rfl (lv_at hl 0 rfl) ?_
  obtain ⟨x_2, x_3, k_1⟩ := op_10 hI i_h0
  refine k_get (ci := 10) (v := .long x_3) (C := RX10) (T := TX10) (N := 2) hx hb hts (fun _ h0_ => List.mem_cons_of_mem _ (List.mem_append_right _ (List.mem_append_left _ h0_))) hown hK hI i_h0.1 k_1 rfl 1 (by decide) (hts (.fieldLink RX10 15 "DeadlineShare$Wide" "low" "J") (List.mem_cons_of_mem _ (List.mem_append_left _ (List.mem_of_getElem? (i := 0) rfl)))) (fun _ h9 => h9) rfl dX10_multiply_2 ?_
  refine lv_lmul hx hb dX10_multiply_5 ?_
  refine lv_topl (fun v_4 ev_4 => ?_)
  refine lv_lstore_n (lv' := [(3, .long v_4), (0, .ref h0), (1, .long p1)]) hx hb dX10_multiply_6 rfl hl (by decide) rfl (fun ls hl => ?_)
  refine lv_aload_n hx hb dX10_multiply_7 rfl (lv_at hl 1 rfl) ?_
  refine lv_lload_n hx hb dX10_multiply_8 rfl (lv_at hl 2 rfl) ?_
  refine lv_aload_n hx hb dX10_multiply_9 rfl (lv_at hl 1 rfl) ?_
  refine k_get (ci := 10) (v := .long x_2) (C := RX10) (T := TX10) (N := 2) hx hb hts (fun _ h0_ => List.mem_cons_of_mem _ (List.mem_append_right _ (List.mem_append_left _ h0_))) hown hK hI i_h0.1 k_1 rfl 0 (by decide) (hts (.fieldLink RX10 9 "DeadlineShare$Wide" "high" "J") (List.mem_cons_of_mem _ (List.mem_append_left _ (List.mem_of_getElem? (i := 1) rfl)))) (fun _ h9 => h9) rfl dX10_multiply_10 ?_
  refine lv_lmul hx hb dX10_multiply_13 ?_
  refine lv_topl (fun v_5 ev_5 => ?_)
  refine lv_lload_n hx hb dX10_multiply_14 rfl (lv_at hl 0 rfl) ?_
  refine lv_bipush (v := 32) hx hb dX10_multiply_15 (by decide) ?_
  refine lv_lshr hx hb dX10_multiply_17 rfl ?_
  refine lv_topl (fun v_6 ev_6 => ?_)
  refine lv_ladd hx hb dX10_multiply_18 ?_
  refine lv_topl (fun v_7 ev_7 => ?_)
  refine k_put (ci := 10) (v := .long v_7) (ty := .long) (C := RX10) (T := TX10) (N := 2) hx hb hts (fun _ h0_ => List.mem_cons_of_mem _ (List.mem_append_right _ (List.mem_append_left _ h0_))) tyX10 tyX10_ok nmX10 hown hK hI hS i_h0.1 k_1 rfl 0 (by decide) (hts (.fieldLink RX10 9 "DeadlineShare$Wide" "high" "J") (List.mem_cons_of_mem _ (List.mem_append_left _ (List.mem_of_getElem? (i := 1) rfl)))) (fun _ h9 => h9) rfl (by decide +kernel) rfl rfl (Nat.le_of_ble_eq_true rfl) rfl (cl_10 i_h0) dX10_multiply_19 (fun f_8 H locs e_9 hI hS => ?_)
  have k_11 : f_8 h0 = .inr (10, [.long v_7, .long x_3]) := by rw [e_9]; exact va_up_self _ _ _
  have kp_10 := Kp.put hk0 i_h0 (by decide) e_9
  refine lv_aload_n hx hb dX10_multiply_22 rfl (lv_at hl 1 rfl) ?_
  refine lv_lload_n hx hb dX10_multiply_23 rfl (lv_at hl 0 rfl) ?_
  refine lv_ldc2 hx hb hown (hts (.constantLong RX10 13 (4294967295)) (List.mem_cons_of_mem _ (List.mem_append_left _ (List.mem_of_getElem? (i := 2) rfl)))) dX10_multiply_24 ?_
  refine lv_land hx hb dX10_multiply_27 ?_
  refine lv_topl (fun v_12 ev_12 => ?_)
  refine k_put (ci := 10) (v := .long v_12) (ty := .long) (C := RX10) (T := TX10) (N := 2) hx hb hts (fun _ h0_ => List.mem_cons_of_mem _ (List.mem_append_right _ (List.mem_append_left _ h0_))) tyX10 tyX10_ok nmX10 hown hK hI hS i_h0.1 k_11 rfl 1 (by decide) (hts (.fieldLink RX10 15 "DeadlineShare$Wide" "low" "J") (List.mem_cons_of_mem _ (List.mem_append_left _ (List.mem_of_getElem? (i := 0) rfl)))) (fun _ h9 => h9) rfl (by decide +kernel) rfl rfl (Nat.le_of_ble_eq_true rfl) rfl (cl_10 i_h0) dX10_multiply_28 (fun f_13 H locs e_14 hI hS => ?_)
  have k_16 : f_13 h0 = .inr (10, [.long v_7, .long v_12]) := by rw [e_14]; exact va_up_self _ _ _
  have kp_15 := Kp.put kp_10 i_h0 (by decide) e_14
  exact W.vret hx hb hr (fun t ht hW => ⟨⟨(), rfl, trivial, ⟨f_13, k_ret ht hI, kp_15⟩⟩, hS.F ht⟩) hS.2.2 dX10_multiply_31
theorem tw_249 : q_g (.selects RX10 yX10_multiply yX10_multiply) := ⟨(List.mem_append_right _ (List.mem_of_getElem? (i := 525) (by decide +kernel))), good_of_word (by decide +kernel)⟩
theorem tw_250 : q_g (.instanceMethod yX10_multiply) := ⟨(List.mem_append_right _ (List.mem_of_getElem? (i := 524) (by decide +kernel))), good_of_word (by decide +kernel)⟩
theorem tw_251 : q_g (.methodLink RX6 101 yX10_multiply) := ⟨(List.mem_append_right _ (List.mem_of_getElem? (i := 523) (by decide +kernel))), good_of_word (by decide +kernel)⟩
theorem tw_252 : q_g (.code yX6_putLag cX6_putLag 4 none) := ⟨(List.mem_append_right _ (List.mem_of_getElem? (i := 561) (by decide +kernel))), good_of_word (by decide +kernel)⟩
def ow_c_X6_putLag : List Cond := [.methodLink RX6 75 yX10_set, .instanceMethod yX10_set, .selects RX10 yX10_set yX10_set, .initialized RX10, .fieldLink RX6 48 "DeadlineShare$State" "count" "I", .fieldLink RX6 72 "DeadlineShare$Task" "weight" "I", .methodLink RX6 101 yX10_multiply, .instanceMethod yX10_multiply, .selects RX10 yX10_multiply yX10_multiply, .fieldLink RX6 11 "DeadlineShare$State" "tasks" "[LDeadlineShare$Task;", .fieldLink RX6 69 "DeadlineShare$Task" "state" "I", .fieldLink RX6 79 "DeadlineShare$Task" "v" "J", .methodLink RX6 82 yX10_addTimes, .instanceMethod yX10_addTimes, .selects RX10 yX10_addTimes yX10_addTimes]
def wq_c_X6_putLag : List Cond := .code yX6_putLag cX6_putLag 4 none :: (ow_c_X6_putLag ++ (wq_c_X10_set ++ (u_ws RX6 TX6 10 ++ (u_ws RX8 TX8 18 ++ (wq_c_X10_multiply ++ (wq_c_X10_addTimes ++ ([] : List Cond)))))))
theorem tb_c_X6_putLag : ∀ w ∈ wq_c_X6_putLag, q_g w := by
  unfold wq_c_X6_putLag ow_c_X6_putLag
  exact q_cons tw_252 (q_app (q_cons tw_29 (q_cons tw_28 (q_cons tw_27 (q_cons tw_26 (q_cons tw_13 (q_cons tw_23 (q_cons tw_251 (q_cons tw_250 (q_cons tw_249 (q_cons tw_12 (q_cons tw_24 (q_cons tw_7 (q_cons tw_22 (q_cons tw_21 (q_cons tw_20 q_nil))))))))))))))) (q_app tb_c_X10_set (q_app tu_X6 (q_app tu_X8 (q_app tb_c_X10_multiply (q_app tb_c_X10_addTimes q_nil))))))
set_option maxHeartbeats 4000000 in
set_option maxRecDepth 100000 in
theorem c_X6_putLag (l : Launch) (dC : Nat → ClassId) (dI : Nat → Nat → Nat) (g : kG) (A : Nat → Prop) (hG : kWf g) (f : Nat → va_E) (h0 : Nat) (p1 : Nat) (p2 : Nat) (i_h0 : ik g 6 h0) (i_p1 : ik g 8 p1) (i_p2 : ik g 10 p2) : Met l yX6_putLag wq_c_X6_putLag ({ frames := 1, cells := 0, slots := 0, locals := 26 } : Room) (va_Pc [.ref h0, .ref p1, .ref p2] (fun U => kIn dC dI g A f U)) (va_Qv (fun (_ : Unit) => True) (fun (_ : Unit) t => ∃ f1 : Nat → va_E, Iv dC dI g A f1 t.heap ∧ Kp g [10] f f1) A) 0 0 A := by
  refine Met.ofW (cc := cX6_putLag) (maxL := 4) (ret := none) (by decide) rfl ?_
  intro p e s m args below meth c s₁ B hml hv
  obtain ⟨rfl, hI, hK, hE⟩ := hv
  have hx := B.exec
  have hb := B.bytes
  have hr := B.returns
  have hts := atoms_spec (ws := wq_c_X6_putLag) B.pre
  have hown : s.vm.findClass RX6 = some m.cls := findClass_of_methodNamed B.named
  have hlocks := B.notSynchronized
  have hS : va_S A s.heap s.heap [] := va_S.rf
  have hk0 : Kp g [10] f f := Kp.rf
  have hl := lv_entry ([.ref h0, .ref p1, .ref p2]) (n := 4) (Nat.le_of_ble_eq_true rfl)
  rw [lg_entry_eq]
  generalize (lg_sl ([.ref h0, .ref p1, .ref p2]) ++ List.replicate (4 - (lg_sl ([.ref h0, .ref p1, .ref p2])).length) Slot.unset).toArray = ls at hl ⊢
  have hl : lv_has ls 4 [(0, .ref h0), (1, .ref p1), (2, .ref p2)] := hl
  refine lv_aload_n hx hb dX6_putLag_0 rfl (lv_at hl 2 rfl) ?_
  refine lv_lconst (v := 0) hx hb dX6_putLag_1 (by decide) ?_
  obtain ⟨x_2, x_3, k_1⟩ := op_10 hI i_p2
  refine va_callv (va_runV (As := [.long 0]) (rest := []) ⟨hx, hb, hml, hown, hts⟩ (c_X10_set l dC dI g A hG f p2 0 i_p2) (cwV 1 hts (gi_V (fun w_ h0_ => ⟨List.mem_cons_of_mem _ (List.mem_append_right _ (List.mem_append_left _ h0_)), (tb_c_X10_set w_ h0_).2⟩) (List.mem_cons_of_mem _ (List.mem_append_left _ (List.mem_of_getElem? (i := 0) rfl))) (List.mem_cons_of_mem _ (List.mem_append_left _ (List.mem_of_getElem? (i := 1) rfl))) (List.mem_cons_of_mem _ (List.mem_append_left _ (List.mem_of_getElem? (i := 2) rfl))) (List.mem_cons_of_mem _ (List.mem_append_left _ (List.mem_of_getElem? (i := 3) rfl)))) rfl rfl rfl (by decide +kernel) ⟨Nat.le_of_ble_eq_true rfl, Nat.le_of_ble_eq_true rfl⟩) ⟨fun a U g mk q => ⟨q.1, q.2.calling rfl rfl⟩, k_recv hK hI i_p2.1 k_1 (ci := 10) rfl, fun U hU hW => ⟨rfl, kIn.of hI hK hE hS hU hW⟩⟩ rfl rfl hl.1 rfl (lv_room (Nat.le_of_ble_eq_true rfl)) dX6_putLag_2 ⟨Nat.le_of_ble_eq_true rfl, Nat.le_of_ble_eq_true rfl⟩) hS (fun q _ h => h) (fun q h => h) (fun u t H1 locs ht hvm _ hB hz1 hk1 hS => ?_)
  obtain ⟨f_4, hI, kc_6⟩ := hB
  rw [ht] at hI
  have kp_8 := Kp.call hk0 kc_6 (by decide)
  generalize H1 = H at hI hS ⊢
  refine W.widen (k := 0) (n := 0) (Nat.le_of_ble_eq_true rfl) (Nat.le_of_ble_eq_true rfl) ?_
  refine lv_iconst (v := 0) hx hb dX6_putLag_5 (by decide) ?_
  refine lv_istore_n (lv' := [(3, .int 0), (0, .ref h0), (1, .ref p1), (2, .ref p2)]) hx hb dX6_putLag_6 rfl hl (by decide) rfl (fun ls hl => ?_)
  have K_7 : ∀ (nn : Nat) (y_9 : Int32) (f_10 : Nat → va_E) (H : Heap) (locs : List Loc) (ls : Array Slot), (12 - y_9.toInt).toNat < nn → Iv dC dI g A f_10 H → va_S A s.heap H locs → Kp g [10] f f_10 → 0 ≤ y_9.toInt → lv_has ls 4 [(3, .int y_9), (0, .ref h0), (1, .ref p1), (2, .ref p2)] → W p l e (headSpec wq_c_X6_putLag ({ frames := 1, cells := 0, slots := 0, locals := 26 } : Room)).room s m ([.ref h0, .ref p1, .ref p2].toArray) below meth c H locs 0 0 (MQ below (va_Qv (fun (_ : Unit) => True) (fun (_ : Unit) t => ∃ f1 : Nat → va_E, Iv dC dI g A f1 t.heap ∧ Kp g [10] f f1) A) ([.ref h0, .ref p1, .ref p2].toArray) s 0 0 A) (F0 m 7 ls []) := by
    intro nn
    induction nn with
    | zero => intro y_9 f_10 H locs ls m_13; exact absurd m_13 (Nat.not_lt_zero _)
    | succ nn ih =>
      intro y_9 f_10 H locs ls m_13 hI hS kp_11 t_12 hl
      have g_14 := Int32.toInt_lt y_9
      have g_15 := Int32.le_toInt y_9
      refine lv_iload_n hx hb dX6_putLag_7 rfl (lv_at hl 0 rfl) ?_
      refine lv_aload_n hx hb dX6_putLag_8 rfl (lv_at hl 1 rfl) ?_
      obtain ⟨x_17, x_18, x_19, x_20, x_21, k_16, b_22, b_23⟩ := op_6 hI i_h0
      refine k_get (ci := 6) (v := .int x_17) (C := RX6) (T := TX6) (N := 10) hx hb hts (fun _ h0_ => List.mem_cons_of_mem _ (List.mem_append_right _ (List.mem_append_right _ (List.mem_append_left _ h0_)))) hown hK hI i_h0.1 k_16 rfl 5 (by decide) (hts (.fieldLink RX6 48 "DeadlineShare$State" "count" "I") (List.mem_cons_of_mem _ (List.mem_append_left _ (List.mem_of_getElem? (i := 4) rfl)))) (fun _ h9 => h9) rfl dX6_putLag_9 ?_
      refine lv_icmp_ge (tgt := 76) hx hb dX6_putLag_12 (by decide) (fun c_24 => ?_) (fun c_24 => ?_)
      · have c_24 := kc_le rfl rfl c_24
        refine lv_aload_n hx hb dX6_putLag_76 rfl (lv_at hl 3 rfl) ?_
        refine lv_aload_n hx hb dX6_putLag_77 rfl (lv_at hl 2 rfl) ?_
        obtain ⟨x_26, x_27, x_28, x_29, x_30, x_31, x_32, x_33, x_34, x_35, x_36, x_37, x_38, x_39, x_40, x_41, k_25⟩ := op_8 hI i_p1
        refine k_get (ci := 8) (v := .int x_27) (C := RX8) (T := TX8) (N := 18) hx hb hts (fun _ h0_ => List.mem_cons_of_mem _ (List.mem_append_right _ (List.mem_append_right _ (List.mem_append_right _ (List.mem_append_left _ h0_))))) hown hK hI i_p1.1 k_25 rfl 2 (by decide) (hts (.fieldLink RX6 72 "DeadlineShare$Task" "weight" "I") (List.mem_cons_of_mem _ (List.mem_append_left _ (List.mem_of_getElem? (i := 5) rfl)))) (fun _ h9 => h9) rfl dX6_putLag_78 ?_
        refine lv_i2l (v := x_27.toInt64) hx hb dX6_putLag_81 rfl ?_
        have t_42 := Int32.toInt_toInt64 x_27
        obtain ⟨x_44, x_45, k_43⟩ := op_10 hI i_p2
        refine va_callv (va_runV (As := [.long x_27.toInt64]) (rest := []) ⟨hx, hb, hml, hown, hts⟩ (c_X10_multiply l dC dI g A hG f_10 p2 x_27.toInt64 i_p2) (cwV 1 hts (gi_V (fun w_ h0_ => ⟨List.mem_cons_of_mem _ (List.mem_append_right _ (List.mem_append_right _ (List.mem_append_right _ (List.mem_append_right _ (List.mem_append_left _ h0_))))), (tb_c_X10_multiply w_ h0_).2⟩) (List.mem_cons_of_mem _ (List.mem_append_left _ (List.mem_of_getElem? (i := 6) rfl))) (List.mem_cons_of_mem _ (List.mem_append_left _ (List.mem_of_getElem? (i := 7) rfl))) (List.mem_cons_of_mem _ (List.mem_append_left _ (List.mem_of_getElem? (i := 8) rfl))) (List.mem_cons_of_mem _ (List.mem_append_left _ (List.mem_of_getElem? (i := 3) rfl)))) rfl rfl rfl (by decide +kernel) ⟨Nat.le_of_ble_eq_true rfl, Nat.le_of_ble_eq_true rfl⟩) ⟨fun a U g mk q => ⟨q.1, q.2.calling rfl rfl⟩, k_recv hK hI i_p2.1 k_43 (ci := 10) rfl, fun U hU hW => ⟨rfl, kIn.of hI hK hE hS hU hW⟩⟩ rfl rfl hl.1 rfl (lv_room (Nat.le_of_ble_eq_true rfl)) dX6_putLag_82 ⟨Nat.le_of_ble_eq_true rfl, Nat.le_of_ble_eq_true rfl⟩) hS (fun q _ h => h) (fun q h => h) (fun u t H1 locs ht hvm _ hB hz1 hk1 hS => ?_)
        obtain ⟨f_46, hI, kc_48⟩ := hB
        rw [ht] at hI
        have k_50 : f_46 h0 = .inr (6, [.ref (gr g h0 0), .ref (gr g h0 1), .ref (gr g h0 2), .ref (gr g h0 3), .ref (gr g h0 4), .int x_17, .int x_18, .long x_19, .int x_20, .int x_21]) := Kp.at kc_48 i_h0 (by decide) k_16
        have k_51 : f_46 p1 = .inr (8, [.int x_26, .ref (gr g p1 1), .int x_27, .int x_28, .int x_29, .long x_30, .int x_31, .ref (gr g p1 7), .int x_32, .int x_33, .int x_34, .int x_35, .int x_36, .int x_37, .int x_38, .int x_39, .int x_40, .int x_41]) := Kp.at kc_48 i_p1 (by decide) k_25
        have kp_52 := Kp.call kp_11 kc_48 (by decide)
        generalize H1 = H at hI hS ⊢
        refine W.widen (k := 0) (n := 0) (Nat.le_of_ble_eq_true rfl) (Nat.le_of_ble_eq_true rfl) ?_
        exact W.vret hx hb hr (fun t ht hW => ⟨⟨(), rfl, trivial, ⟨f_46, k_ret ht hI, kp_52⟩⟩, hS.F ht⟩) hS.2.2 dX6_putLag_85
      · have c_24 := kn_le rfl rfl c_24
        refine lv_aload_n hx hb dX6_putLag_15 rfl (lv_at hl 1 rfl) ?_
        refine k_get (ci := 6) (v := .ref (gr g h0 1)) (C := RX6) (T := TX6) (N := 10) hx hb hts (fun _ h0_ => List.mem_cons_of_mem _ (List.mem_append_right _ (List.mem_append_right _ (List.mem_append_left _ h0_)))) hown hK hI i_h0.1 k_16 rfl 1 (by decide) (hts (.fieldLink RX6 11 "DeadlineShare$State" "tasks" "[LDeadlineShare$Task;") (List.mem_cons_of_mem _ (List.mem_append_left _ (List.mem_of_getElem? (i := 9) rfl)))) (fun _ h9 => h9) rfl dX6_putLag_16 ?_
        have i_54 := kw_6_1 hG i_h0
        refine lv_iload_n hx hb dX6_putLag_19 rfl (lv_at hl 0 rfl) ?_
        obtain ⟨q_56, k_55, b_57⟩ := op_20 hI i_54
        refine k_aald hx hb hK hI i_54.1 4 k_55 rfl (vp_in_iff.mpr (by omega)) b_57 (fun _ hj => kw_20 hG i_54 hj) dX6_putLag_20 (fun a_58 i_59 => ?_)
        obtain ⟨x_61, x_62, x_63, x_64, x_65, x_66, x_67, x_68, x_69, x_70, x_71, x_72, x_73, x_74, x_75, x_76, k_60⟩ := op_8 hI i_59
        refine k_get (ci := 8) (v := .int x_64) (C := RX8) (T := TX8) (N := 18) hx hb hts (fun _ h0_ => List.mem_cons_of_mem _ (List.mem_append_right _ (List.mem_append_right _ (List.mem_append_right _ (List.mem_append_left _ h0_))))) hown hK hI i_59.1 k_60 rfl 4 (by decide) (hts (.fieldLink RX6 69 "DeadlineShare$Task" "state" "I") (List.mem_cons_of_mem _ (List.mem_append_left _ (List.mem_of_getElem? (i := 10) rfl)))) (fun _ h9 => h9) rfl dX6_putLag_21 ?_
        refine lv_iconst (v := 1) hx hb dX6_putLag_24 (by decide) ?_
        have J_70 : ∀ (f_77 : Nat → va_E) (H : Heap) (locs : List Loc) (ls : Array Slot), Iv dC dI g A f_77 H → va_S A s.heap H locs → f_77 h0 = .inr (6, [.ref (gr g h0 0), .ref (gr g h0 1), .ref (gr g h0 2), .ref (gr g h0 3), .ref (gr g h0 4), .int x_17, .int x_18, .long x_19, .int x_20, .int x_21]) → f_77 (gr g h0 1) = .inl (gc g 4, 12, .inr (.inr (.inr (.inr q_56)))) → f_77 a_58 = .inr (8, [.int x_61, .ref (gr g a_58 1), .int x_62, .int x_63, .int x_64, .long x_65, .int x_66, .ref (gr g a_58 7), .int x_67, .int x_68, .int x_69, .int x_70, .int x_71, .int x_72, .int x_73, .int x_74, .int x_75, .int x_76]) → Kp g [10] f f_77 → lv_has ls 4 [(3, .int y_9), (0, .ref h0), (1, .ref p1), (2, .ref p2)] → W p l e (headSpec wq_c_X6_putLag ({ frames := 1, cells := 0, slots := 0, locals := 26 } : Room)).room s m ([.ref h0, .ref p1, .ref p2].toArray) below meth c H locs 0 0 (MQ below (va_Qv (fun (_ : Unit) => True) (fun (_ : Unit) t => ∃ f1 : Nat → va_E, Iv dC dI g A f1 t.heap ∧ Kp g [10] f f1) A) ([.ref h0, .ref p1, .ref p2].toArray) s 0 0 A) (F0 m 70 ls []) := by
          intro f_77 H locs ls hI hS k_78 k_79 k_80 kp_81 hl
          obtain ⟨v_82, ev_82⟩ : ∃ y : Int32, y = y_9 + Int32.ofInt 1 := ⟨_, rfl⟩
          refine lv_iinc (v := v_82) (lv' := [(3, .int v_82), (0, .ref h0), (1, .ref p1), (2, .ref p2)]) hx hb dX6_putLag_70 hl (k := 0) rfl ev_82.symm (by decide) rfl (fun ls hl => ?_)
          have tv_82 := k_inc y_9
          rw [← ev_82] at tv_82
          refine lv_goto (tgt := 7) hx hb dX6_putLag_73 (by decide) ?_
          exact ih v_82 f_77 _ _ _ (by omega) hI hS kp_81 (by first | omega | decide) (lv_sub hl [0, 1, 2, 3] rfl)
        refine lv_icmp_ne (tgt := 70) hx hb dX6_putLag_25 (by decide) (fun c_83 => ?_) (fun c_83 => ?_)
        · have c_83 := kn_eq rfl (by decide : Int32.toInt 1 = 1) c_83
          exact J_70 f_10 _ _ _ hI hS k_16 k_55 k_60 kp_11 (lv_sub hl [0, 1, 2, 3] rfl)
        · have c_83 := kc_eq rfl (by decide : Int32.toInt 1 = 1) c_83
          refine lv_aload_n hx hb dX6_putLag_28 rfl (lv_at hl 3 rfl) ?_
          refine lv_aload_n hx hb dX6_putLag_29 rfl (lv_at hl 1 rfl) ?_
          refine k_get (ci := 6) (v := .ref (gr g h0 1)) (C := RX6) (T := TX6) (N := 10) hx hb hts (fun _ h0_ => List.mem_cons_of_mem _ (List.mem_append_right _ (List.mem_append_right _ (List.mem_append_left _ h0_)))) hown hK hI i_h0.1 k_16 rfl 1 (by decide) (hts (.fieldLink RX6 11 "DeadlineShare$State" "tasks" "[LDeadlineShare$Task;") (List.mem_cons_of_mem _ (List.mem_append_left _ (List.mem_of_getElem? (i := 9) rfl)))) (fun _ h9 => h9) rfl dX6_putLag_30 ?_
          refine lv_iload_n hx hb dX6_putLag_33 rfl (lv_at hl 0 rfl) ?_
          refine k_aald hx hb hK hI i_54.1 4 k_55 rfl (vp_in_iff.mpr (by omega)) b_57 (fun _ hj => kw_20 hG i_54 hj) dX6_putLag_34 (fun a_86 i_87 => ?_)
          obtain ⟨x_89, x_90, x_91, x_92, x_93, x_94, x_95, x_96, x_97, x_98, x_99, x_100, x_101, x_102, x_103, x_104, k_88⟩ := op_8 hI i_87
          refine k_get (ci := 8) (v := .int x_90) (C := RX8) (T := TX8) (N := 18) hx hb hts (fun _ h0_ => List.mem_cons_of_mem _ (List.mem_append_right _ (List.mem_append_right _ (List.mem_append_right _ (List.mem_append_left _ h0_))))) hown hK hI i_87.1 k_88 rfl 2 (by decide) (hts (.fieldLink RX6 72 "DeadlineShare$Task" "weight" "I") (List.mem_cons_of_mem _ (List.mem_append_left _ (List.mem_of_getElem? (i := 5) rfl)))) (fun _ h9 => h9) rfl dX6_putLag_35 ?_
          refine lv_i2l (v := x_90.toInt64) hx hb dX6_putLag_38 rfl ?_
          have t_105 := Int32.toInt_toInt64 x_90
          refine lv_aload_n hx hb dX6_putLag_39 rfl (lv_at hl 1 rfl) ?_
          refine k_get (ci := 6) (v := .ref (gr g h0 1)) (C := RX6) (T := TX6) (N := 10) hx hb hts (fun _ h0_ => List.mem_cons_of_mem _ (List.mem_append_right _ (List.mem_append_right _ (List.mem_append_left _ h0_)))) hown hK hI i_h0.1 k_16 rfl 1 (by decide) (hts (.fieldLink RX6 11 "DeadlineShare$State" "tasks" "[LDeadlineShare$Task;") (List.mem_cons_of_mem _ (List.mem_append_left _ (List.mem_of_getElem? (i := 9) rfl)))) (fun _ h9 => h9) rfl dX6_putLag_40 ?_
          refine lv_iload_n hx hb dX6_putLag_43 rfl (lv_at hl 0 rfl) ?_
          refine k_aald hx hb hK hI i_54.1 4 k_55 rfl (vp_in_iff.mpr (by omega)) b_57 (fun _ hj => kw_20 hG i_54 hj) dX6_putLag_44 (fun a_108 i_109 => ?_)
          obtain ⟨x_111, x_112, x_113, x_114, x_115, x_116, x_117, x_118, x_119, x_120, x_121, x_122, x_123, x_124, x_125, x_126, k_110⟩ := op_8 hI i_109
          refine k_get (ci := 8) (v := .long x_115) (C := RX8) (T := TX8) (N := 18) hx hb hts (fun _ h0_ => List.mem_cons_of_mem _ (List.mem_append_right _ (List.mem_append_right _ (List.mem_append_right _ (List.mem_append_left _ h0_))))) hown hK hI i_109.1 k_110 rfl 5 (by decide) (hts (.fieldLink RX6 79 "DeadlineShare$Task" "v" "J") (List.mem_cons_of_mem _ (List.mem_append_left _ (List.mem_of_getElem? (i := 11) rfl)))) (fun _ h9 => h9) rfl dX6_putLag_45 ?_
          obtain ⟨x_128, x_129, k_127⟩ := op_10 hI i_p2
          refine va_callv (va_runV (As := [.long x_90.toInt64, .long x_115]) (rest := []) ⟨hx, hb, hml, hown, hts⟩ (c_X10_addTimes l dC dI g A hG f_10 p2 x_90.toInt64 x_115 i_p2) (cwV 2 hts (gi_V (fun w_ h0_ => ⟨List.mem_cons_of_mem _ (List.mem_append_right _ (List.mem_append_right _ (List.mem_append_right _ (List.mem_append_right _ (List.mem_append_right _ (List.mem_append_left _ h0_)))))), (tb_c_X10_addTimes w_ h0_).2⟩) (List.mem_cons_of_mem _ (List.mem_append_left _ (List.mem_of_getElem? (i := 12) rfl))) (List.mem_cons_of_mem _ (List.mem_append_left _ (List.mem_of_getElem? (i := 13) rfl))) (List.mem_cons_of_mem _ (List.mem_append_left _ (List.mem_of_getElem? (i := 14) rfl))) (List.mem_cons_of_mem _ (List.mem_append_left _ (List.mem_of_getElem? (i := 3) rfl)))) rfl rfl rfl (by decide +kernel) ⟨Nat.le_of_ble_eq_true rfl, Nat.le_of_ble_eq_true rfl⟩) ⟨fun a U g mk q => ⟨q.1, q.2.calling rfl rfl⟩, k_recv hK hI i_p2.1 k_127 (ci := 10) rfl, fun U hU hW => ⟨rfl, kIn.of hI hK hE hS hU hW⟩⟩ rfl rfl hl.1 rfl (lv_room (Nat.le_of_ble_eq_true rfl)) dX6_putLag_48 ⟨Nat.le_of_ble_eq_true rfl, Nat.le_of_ble_eq_true rfl⟩) hS (fun q _ h => h) (fun q h => h) (fun u t H1 locs ht hvm _ hB hz1 hk1 hS => ?_)
          obtain ⟨f_130, hI, kc_132⟩ := hB
          rw [ht] at hI
          have k_134 : f_130 h0 = .inr (6, [.ref (gr g h0 0), .ref (gr g h0 1), .ref (gr g h0 2), .ref (gr g h0 3), .ref (gr g h0 4), .int x_17, .int x_18, .long x_19, .int x_20, .int x_21]) := Kp.at kc_132 i_h0 (by decide) k_16
          have k_135 : f_130 (gr g h0 1) = .inl (gc g 4, 12, .inr (.inr (.inr (.inr q_56)))) := Kp.at kc_132 i_54 (by decide) k_55
          have k_136 : f_130 a_58 = .inr (8, [.int x_61, .ref (gr g a_58 1), .int x_62, .int x_63, .int x_64, .long x_65, .int x_66, .ref (gr g a_58 7), .int x_67, .int x_68, .int x_69, .int x_70, .int x_71, .int x_72, .int x_73, .int x_74, .int x_75, .int x_76]) := Kp.at kc_132 i_59 (by decide) k_60
          have k_137 : f_130 a_86 = .inr (8, [.int x_89, .ref (gr g a_86 1), .int x_90, .int x_91, .int x_92, .long x_93, .int x_94, .ref (gr g a_86 7), .int x_95, .int x_96, .int x_97, .int x_98, .int x_99, .int x_100, .int x_101, .int x_102, .int x_103, .int x_104]) := Kp.at kc_132 i_87 (by decide) k_88
          have k_138 : f_130 a_108 = .inr (8, [.int x_111, .ref (gr g a_108 1), .int x_112, .int x_113, .int x_114, .long x_115, .int x_116, .ref (gr g a_108 7), .int x_117, .int x_118, .int x_119, .int x_120, .int x_121, .int x_122, .int x_123, .int x_124, .int x_125, .int x_126]) := Kp.at kc_132 i_109 (by decide) k_110
          have kp_139 := Kp.call kp_11 kc_132 (by decide)
          generalize H1 = H at hI hS ⊢
          refine W.widen (k := 0) (n := 0) (Nat.le_of_ble_eq_true rfl) (Nat.le_of_ble_eq_true rfl) ?_
          refine lv_aload_n hx hb dX6_putLag_51 rfl (lv_at hl 3 rfl) ?_
          refine lv_aload_n hx hb dX6_putLag_52 rfl (lv_at hl 1 rfl) ?_
          refine k_get (ci := 6) (v := .ref (gr g h0 1)) (C := RX6) (T := TX6) (N := 10) hx hb hts (fun _ h0_ => List.mem_cons_of_mem _ (List.mem_append_right _ (List.mem_append_right _ (List.mem_append_left _ h0_)))) hown hK hI i_h0.1 k_134 rfl 1 (by decide) (hts (.fieldLink RX6 11 "DeadlineShare$State" "tasks" "[LDeadlineShare$Task;") (List.mem_cons_of_mem _ (List.mem_append_left _ (List.mem_of_getElem? (i := 9) rfl)))) (fun _ h9 => h9) rfl dX6_putLag_53 ?_
          refine lv_iload_n hx hb dX6_putLag_56 rfl (lv_at hl 0 rfl) ?_
          refine k_aald hx hb hK hI i_54.1 4 k_135 rfl (vp_in_iff.mpr (by omega)) b_57 (fun _ hj => kw_20 hG i_54 hj) dX6_putLag_57 (fun a_142 i_143 => ?_)
          obtain ⟨x_145, x_146, x_147, x_148, x_149, x_150, x_151, x_152, x_153, x_154, x_155, x_156, x_157, x_158, x_159, x_160, k_144⟩ := op_8 hI i_143
          refine k_get (ci := 8) (v := .int x_146) (C := RX8) (T := TX8) (N := 18) hx hb hts (fun _ h0_ => List.mem_cons_of_mem _ (List.mem_append_right _ (List.mem_append_right _ (List.mem_append_right _ (List.mem_append_left _ h0_))))) hown hK hI i_143.1 k_144 rfl 2 (by decide) (hts (.fieldLink RX6 72 "DeadlineShare$Task" "weight" "I") (List.mem_cons_of_mem _ (List.mem_append_left _ (List.mem_of_getElem? (i := 5) rfl)))) (fun _ h9 => h9) rfl dX6_putLag_58 ?_
          refine lv_ineg hx hb dX6_putLag_61 ?_
          refine lv_topi (fun v_161 ev_161 => ?_)
          refine lv_i2l (v := v_161.toInt64) hx hb dX6_putLag_62 rfl ?_
          have t_162 := Int32.toInt_toInt64 v_161
          refine lv_aload_n hx hb dX6_putLag_63 rfl (lv_at hl 2 rfl) ?_
          obtain ⟨x_164, x_165, x_166, x_167, x_168, x_169, x_170, x_171, x_172, x_173, x_174, x_175, x_176, x_177, x_178, x_179, k_163⟩ := op_8 hI i_p1
          refine k_get (ci := 8) (v := .long x_168) (C := RX8) (T := TX8) (N := 18) hx hb hts (fun _ h0_ => List.mem_cons_of_mem _ (List.mem_append_right _ (List.mem_append_right _ (List.mem_append_right _ (List.mem_append_left _ h0_))))) hown hK hI i_p1.1 k_163 rfl 5 (by decide) (hts (.fieldLink RX6 79 "DeadlineShare$Task" "v" "J") (List.mem_cons_of_mem _ (List.mem_append_left _ (List.mem_of_getElem? (i := 11) rfl)))) (fun _ h9 => h9) rfl dX6_putLag_64 ?_
          obtain ⟨x_181, x_182, k_180⟩ := op_10 hI i_p2
          refine va_callv (va_runV (As := [.long v_161.toInt64, .long x_168]) (rest := []) ⟨hx, hb, hml, hown, hts⟩ (c_X10_addTimes l dC dI g A hG f_130 p2 v_161.toInt64 x_168 i_p2) (cwV 2 hts (gi_V (fun w_ h0_ => ⟨List.mem_cons_of_mem _ (List.mem_append_right _ (List.mem_append_right _ (List.mem_append_right _ (List.mem_append_right _ (List.mem_append_right _ (List.mem_append_left _ h0_)))))), (tb_c_X10_addTimes w_ h0_).2⟩) (List.mem_cons_of_mem _ (List.mem_append_left _ (List.mem_of_getElem? (i := 12) rfl))) (List.mem_cons_of_mem _ (List.mem_append_left _ (List.mem_of_getElem? (i := 13) rfl))) (List.mem_cons_of_mem _ (List.mem_append_left _ (List.mem_of_getElem? (i := 14) rfl))) (List.mem_cons_of_mem _ (List.mem_append_left _ (List.mem_of_getElem? (i := 3) rfl)))) rfl rfl rfl (by decide +kernel) ⟨Nat.le_of_ble_eq_true rfl, Nat.le_of_ble_eq_true rfl⟩) ⟨fun a U g mk q => ⟨q.1, q.2.calling rfl rfl⟩, k_recv hK hI i_p2.1 k_180 (ci := 10) rfl, fun U hU hW => ⟨rfl, kIn.of hI hK hE hS hU hW⟩⟩ rfl rfl hl.1 rfl (lv_room (Nat.le_of_ble_eq_true rfl)) dX6_putLag_67 ⟨Nat.le_of_ble_eq_true rfl, Nat.le_of_ble_eq_true rfl⟩) hS (fun q _ h => h) (fun q h => h) (fun u t H1 locs ht hvm _ hB hz1 hk1 hS => ?_)
          obtain ⟨f_183, hI, kc_185⟩ := hB
          rw [ht] at hI
          have k_187 : f_183 h0 = .inr (6, [.ref (gr g h0 0), .ref (gr g h0 1), .ref (gr g h0 2), .ref (gr g h0 3), .ref (gr g h0 4), .int x_17, .int x_18, .long x_19, .int x_20, .int x_21]) := Kp.at kc_185 i_h0 (by decide) k_134
          have k_188 : f_183 (gr g h0 1) = .inl (gc g 4, 12, .inr (.inr (.inr (.inr q_56)))) := Kp.at kc_185 i_54 (by decide) k_135
          have k_189 : f_183 a_58 = .inr (8, [.int x_61, .ref (gr g a_58 1), .int x_62, .int x_63, .int x_64, .long x_65, .int x_66, .ref (gr g a_58 7), .int x_67, .int x_68, .int x_69, .int x_70, .int x_71, .int x_72, .int x_73, .int x_74, .int x_75, .int x_76]) := Kp.at kc_185 i_59 (by decide) k_136
          have k_190 : f_183 a_86 = .inr (8, [.int x_89, .ref (gr g a_86 1), .int x_90, .int x_91, .int x_92, .long x_93, .int x_94, .ref (gr g a_86 7), .int x_95, .int x_96, .int x_97, .int x_98, .int x_99, .int x_100, .int x_101, .int x_102, .int x_103, .int x_104]) := Kp.at kc_185 i_87 (by decide) k_137
          have k_191 : f_183 a_108 = .inr (8, [.int x_111, .ref (gr g a_108 1), .int x_112, .int x_113, .int x_114, .long x_115, .int x_116, .ref (gr g a_108 7), .int x_117, .int x_118, .int x_119, .int x_120, .int x_121, .int x_122, .int x_123, .int x_124, .int x_125, .int x_126]) := Kp.at kc_185 i_109 (by decide) k_138
          have k_192 : f_183 a_142 = .inr (8, [.int x_145, .ref (gr g a_142 1), .int x_146, .int x_147, .int x_148, .long x_149, .int x_150, .ref (gr g a_142 7), .int x_151, .int x_152, .int x_153, .int x_154, .int x_155, .int x_156, .int x_157, .int x_158, .int x_159, .int x_160]) := Kp.at kc_185 i_143 (by decide) k_144
          have k_193 : f_183 p1 = .inr (8, [.int x_164, .ref (gr g p1 1), .int x_165, .int x_166, .int x_167, .long x_168, .int x_169, .ref (gr g p1 7), .int x_170, .int x_171, .int x_172, .int x_173, .int x_174, .int x_175, .int x_176, .int x_177, .int x_178, .int x_179]) := Kp.at kc_185 i_p1 (by decide) k_163
          have kp_194 := Kp.call kp_139 kc_185 (by decide)
          generalize H1 = H at hI hS ⊢
          refine W.widen (k := 0) (n := 0) (Nat.le_of_ble_eq_true rfl) (Nat.le_of_ble_eq_true rfl) ?_
          exact J_70 f_183 _ _ _ hI hS k_187 k_188 k_189 kp_194 (lv_sub hl [0, 1, 2, 3] rfl)
  exact K_7 _ 0 f_4 _ _ _ (Nat.lt_succ_self _) hI hS kp_8 (by first | omega | decide) (lv_sub hl [0, 1, 2, 3] rfl)
theorem tw_253 : q_g (.selects RX6 yX6_putLag yX6_putLag) := ⟨(List.mem_append_left _ (List.mem_of_getElem? (i := 1) (by decide +kernel))), good_of_word (by decide +kernel)⟩
theorem tw_254 : q_g (.instanceMethod yX6_putLag) := ⟨(List.mem_append_right _ (List.mem_of_getElem? (i := 560) (by decide +kernel))), good_of_word (by decide +kernel)⟩
theorem tw_255 : q_g (.methodLink RX6 104 yX6_putLag) := ⟨(List.mem_append_right _ (List.mem_of_getElem? (i := 558) (by decide +kernel))), good_of_word (by decide +kernel)⟩
theorem tw_256 : q_g (.fieldLink RX6 31 "DeadlineShare$State" "part" "LDeadlineShare$Wide;") := ⟨(List.mem_append_right _ (List.mem_of_getElem? (i := 235) (by decide +kernel))), good_of_word (by decide +kernel)⟩
theorem tw_257 : q_g (.code yX6_lagTimesW cX6_lagTimesW 2 (some .long)) := ⟨(List.mem_append_right _ (List.mem_of_getElem? (i := 919) (by decide +kernel))), good_of_word (by decide +kernel)⟩
def ow_c_X6_lagTimesW : List Cond := [.fieldLink RX6 31 "DeadlineShare$State" "part" "LDeadlineShare$Wide;", .methodLink RX6 104 yX6_putLag, .instanceMethod yX6_putLag, .selects RX6 yX6_putLag yX6_putLag, .initialized RX6, .methodLink RX6 93 yX10_asLong, .instanceMethod yX10_asLong, .selects RX10 yX10_asLong yX10_asLong, .initialized RX10]
def wq_c_X6_lagTimesW : List Cond := .code yX6_lagTimesW cX6_lagTimesW 2 (some .long) :: (ow_c_X6_lagTimesW ++ (u_ws RX6 TX6 10 ++ (wq_c_X6_putLag ++ (wq_c_X10_asLong ++ ([] : List Cond)))))
theorem tb_c_X6_lagTimesW : ∀ w ∈ wq_c_X6_lagTimesW, q_g w := by
  unfold wq_c_X6_lagTimesW ow_c_X6_lagTimesW
  exact q_cons tw_257 (q_app (q_cons tw_256 (q_cons tw_255 (q_cons tw_254 (q_cons tw_253 (q_cons tw_47 (q_cons tw_43 (q_cons tw_42 (q_cons tw_41 (q_cons tw_26 q_nil))))))))) (q_app tu_X6 (q_app tb_c_X6_putLag (q_app tb_c_X10_asLong q_nil))))
set_option maxHeartbeats 4000000 in
set_option maxRecDepth 100000 in
theorem c_X6_lagTimesW (l : Launch) (dC : Nat → ClassId) (dI : Nat → Nat → Nat) (g : kG) (A : Nat → Prop) (hG : kWf g) (f : Nat → va_E) (h0 : Nat) (p1 : Nat) (i_h0 : ik g 6 h0) (i_p1 : ik g 8 p1) : Met l yX6_lagTimesW wq_c_X6_lagTimesW ({ frames := 2, cells := 0, slots := 0, locals := 49 } : Room) (va_Pc [.ref h0, .ref p1] (fun U => kIn dC dI g A f U)) (va_Ql (fun (r : Int64) (_ : Unit) => True) (fun (_ : Unit) t => ∃ f1 : Nat → va_E, Iv dC dI g A f1 t.heap ∧ Kp g [10] f f1) A) 0 0 A := by
  refine Met.ofW (cc := cX6_lagTimesW) (maxL := 2) (ret := (some .long)) (by decide) rfl ?_
  intro p e s m args below meth c s₁ B hml hv
  obtain ⟨rfl, hI, hK, hE⟩ := hv
  have hx := B.exec
  have hb := B.bytes
  have hr := B.returns
  have hts := atoms_spec (ws := wq_c_X6_lagTimesW) B.pre
  have hown : s.vm.findClass RX6 = some m.cls := findClass_of_methodNamed B.named
  have hlocks := B.notSynchronized
  have hS : va_S A s.heap s.heap [] := va_S.rf
  have hk0 : Kp g [10] f f := Kp.rf
  have hl := lv_entry ([.ref h0, .ref p1]) (n := 2) (Nat.le_of_ble_eq_true rfl)
  rw [lg_entry_eq]
  generalize (lg_sl ([.ref h0, .ref p1]) ++ List.replicate (2 - (lg_sl ([.ref h0, .ref p1])).length) Slot.unset).toArray = ls at hl ⊢
  have hl : lv_has ls 2 [(0, .ref h0), (1, .ref p1)] := hl
  refine lv_aload_n hx hb dX6_lagTimesW_0 rfl (lv_at hl 0 rfl) ?_
  refine lv_aload_n hx hb dX6_lagTimesW_1 rfl (lv_at hl 1 rfl) ?_
  refine lv_aload_n hx hb dX6_lagTimesW_2 rfl (lv_at hl 0 rfl) ?_
  obtain ⟨x_2, x_3, x_4, x_5, x_6, k_1, b_7, b_8⟩ := op_6 hI i_h0
  refine k_get (ci := 6) (v := .ref (gr g h0 4)) (C := RX6) (T := TX6) (N := 10) hx hb hts (fun _ h0_ => List.mem_cons_of_mem _ (List.mem_append_right _ (List.mem_append_left _ h0_))) hown hK hI i_h0.1 k_1 rfl 4 (by decide) (hts (.fieldLink RX6 31 "DeadlineShare$State" "part" "LDeadlineShare$Wide;") (List.mem_cons_of_mem _ (List.mem_append_left _ (List.mem_of_getElem? (i := 0) rfl)))) (fun _ h9 => h9) rfl dX6_lagTimesW_3 ?_
  have i_10 := kw_6_4 hG i_h0
  refine va_callv (va_runV (As := [.ref p1, .ref (gr g h0 4)]) (rest := []) ⟨hx, hb, hml, hown, hts⟩ (c_X6_putLag l dC dI g A hG f h0 p1 (gr g h0 4) i_h0 i_p1 i_10) (cwV 2 hts (gi_V (fun w_ h0_ => ⟨List.mem_cons_of_mem _ (List.mem_append_right _ (List.mem_append_right _ (List.mem_append_left _ h0_))), (tb_c_X6_putLag w_ h0_).2⟩) (List.mem_cons_of_mem _ (List.mem_append_left _ (List.mem_of_getElem? (i := 1) rfl))) (List.mem_cons_of_mem _ (List.mem_append_left _ (List.mem_of_getElem? (i := 2) rfl))) (List.mem_cons_of_mem _ (List.mem_append_left _ (List.mem_of_getElem? (i := 3) rfl))) (List.mem_cons_of_mem _ (List.mem_append_left _ (List.mem_of_getElem? (i := 4) rfl)))) rfl rfl rfl (by decide +kernel) ⟨Nat.le_of_ble_eq_true rfl, Nat.le_of_ble_eq_true rfl⟩) ⟨fun a U g mk q => ⟨q.1, q.2.calling rfl rfl⟩, k_recv hK hI i_h0.1 k_1 (ci := 6) rfl, fun U hU hW => ⟨rfl, kIn.of hI hK hE hS hU hW⟩⟩ rfl rfl hl.1 rfl (lv_room (Nat.le_of_ble_eq_true rfl)) dX6_lagTimesW_6 ⟨Nat.le_of_ble_eq_true rfl, Nat.le_of_ble_eq_true rfl⟩) hS (fun q _ h => h) (fun q h => h) (fun u t H1 locs ht hvm _ hB hz1 hk1 hS => ?_)
  obtain ⟨f_11, hI, kc_13⟩ := hB
  rw [ht] at hI
  have k_15 : f_11 h0 = .inr (6, [.ref (gr g h0 0), .ref (gr g h0 1), .ref (gr g h0 2), .ref (gr g h0 3), .ref (gr g h0 4), .int x_2, .int x_3, .long x_4, .int x_5, .int x_6]) := Kp.at kc_13 i_h0 (by decide) k_1
  have kp_16 := Kp.call hk0 kc_13 (by decide)
  generalize H1 = H at hI hS ⊢
  refine W.widen (k := 0) (n := 0) (Nat.le_of_ble_eq_true rfl) (Nat.le_of_ble_eq_true rfl) ?_
  refine lv_aload_n hx hb dX6_lagTimesW_9 rfl (lv_at hl 0 rfl) ?_
  refine k_get (ci := 6) (v := .ref (gr g h0 4)) (C := RX6) (T := TX6) (N := 10) hx hb hts (fun _ h0_ => List.mem_cons_of_mem _ (List.mem_append_right _ (List.mem_append_left _ h0_))) hown hK hI i_h0.1 k_15 rfl 4 (by decide) (hts (.fieldLink RX6 31 "DeadlineShare$State" "part" "LDeadlineShare$Wide;") (List.mem_cons_of_mem _ (List.mem_append_left _ (List.mem_of_getElem? (i := 0) rfl)))) (fun _ h9 => h9) rfl dX6_lagTimesW_10 ?_
  obtain ⟨x_20, x_21, k_19⟩ := op_10 hI i_10
  refine va_calll (va_runV (As := []) (rest := []) ⟨hx, hb, hml, hown, hts⟩ (c_X10_asLong l dC dI g A hG f_11 (gr g h0 4) i_10) (cwV 0 hts (gi_V (fun w_ h0_ => ⟨List.mem_cons_of_mem _ (List.mem_append_right _ (List.mem_append_right _ (List.mem_append_right _ (List.mem_append_left _ h0_)))), (tb_c_X10_asLong w_ h0_).2⟩) (List.mem_cons_of_mem _ (List.mem_append_left _ (List.mem_of_getElem? (i := 5) rfl))) (List.mem_cons_of_mem _ (List.mem_append_left _ (List.mem_of_getElem? (i := 6) rfl))) (List.mem_cons_of_mem _ (List.mem_append_left _ (List.mem_of_getElem? (i := 7) rfl))) (List.mem_cons_of_mem _ (List.mem_append_left _ (List.mem_of_getElem? (i := 8) rfl)))) rfl rfl rfl (by decide +kernel) ⟨Nat.le_of_ble_eq_true rfl, Nat.le_of_ble_eq_true rfl⟩) ⟨fun a U g mk q => ⟨q.1, q.2.calling rfl rfl⟩, k_recv hK hI i_10.1 k_19 (ci := 10) rfl, fun U hU hW => ⟨rfl, kIn.of hI hK hE hS hU hW⟩⟩ rfl rfl hl.1 rfl (lv_room (Nat.le_of_ble_eq_true rfl)) dX6_lagTimesW_13 ⟨Nat.le_of_ble_eq_true rfl, Nat.le_of_ble_eq_true rfl⟩) hS (fun q _ h => h) (fun q h => h) (fun r_23 u t H1 locs ht hvm w_22 hB hz1 hk1 hS => ?_)
  have hI : Iv dC dI g A f_11 t.heap := hB
  rw [ht] at hI
  generalize H1 = H at hI hS ⊢
  refine W.widen (k := 0) (n := 0) (Nat.le_of_ble_eq_true rfl) (Nat.le_of_ble_eq_true rfl) ?_
  exact W.lret (v := r_23) hx hb hr (fun t ht hW => ⟨⟨r_23, (), rfl, trivial, ⟨f_11, k_ret ht hI, kp_16⟩⟩, hS.F ht⟩) hS.2.2 dX6_lagTimesW_16
theorem tw_258 : q_g (.methodLink RX6 119 Lib.MathLoose.max_long.x) := ⟨(List.mem_append_right _ (List.mem_of_getElem? (i := 1061) (by decide +kernel))), good_of_word (by decide +kernel)⟩
theorem tw_259 : q_g (.code Lib.MathLoose.min_long.x Lib.MathLoose.min_long.code 4 (some .long)) := ⟨(List.mem_append_right _ (List.mem_of_getElem? (i := 1064) (by decide +kernel))), good_of_word (by decide +kernel)⟩
theorem tw_260 : q_g (.static Lib.MathLoose.min_long.x) := ⟨(List.mem_append_right _ (List.mem_of_getElem? (i := 1063) (by decide +kernel))), good_of_word (by decide +kernel)⟩
theorem tw_261 : q_g (.methodLink RX6 125 Lib.MathLoose.min_long.x) := ⟨(List.mem_append_right _ (List.mem_of_getElem? (i := 1062) (by decide +kernel))), good_of_word (by decide +kernel)⟩
theorem tw_262 : q_g (.constantLong RX6 117 (267711444)) := ⟨(List.mem_append_right _ (List.mem_of_getElem? (i := 1060) (by decide +kernel))), good_of_word (by decide +kernel)⟩
theorem tw_263 : q_g (.constantLong RX6 115 (5)) := ⟨(List.mem_append_right _ (List.mem_of_getElem? (i := 1059) (by decide +kernel))), good_of_word (by decide +kernel)⟩
theorem tw_264 : q_g (.methodLink RX6 108 yX6_weightOfAll) := ⟨(List.mem_append_right _ (List.mem_of_getElem? (i := 491) (by decide +kernel))), good_of_word (by decide +kernel)⟩
theorem tw_265 : q_g (.code yX6_lagEdge cX6_lagEdge 8 (some .long)) := ⟨(List.mem_append_right _ (List.mem_of_getElem? (i := 1058) (by decide +kernel))), good_of_word (by decide +kernel)⟩
def ow_c_X6_lagEdge : List Cond := [.methodLink RX6 108 yX6_weightOfAll, .instanceMethod yX6_weightOfAll, .selects RX6 yX6_weightOfAll yX6_weightOfAll, .initialized RX6, .fieldLink RX6 48 "DeadlineShare$State" "count" "I", .fieldLink RX6 11 "DeadlineShare$State" "tasks" "[LDeadlineShare$Task;", .methodLink RX6 111 yX8_isOn, .instanceMethod yX8_isOn, .selects RX8 yX8_isOn yX8_isOn, .initialized RX8, .fieldLink RX6 31 "DeadlineShare$State" "part" "LDeadlineShare$Wide;", .methodLink RX6 104 yX6_putLag, .instanceMethod yX6_putLag, .selects RX6 yX6_putLag yX6_putLag, .constantLong RX6 115 (5), .methodLink RX6 101 yX10_multiply, .instanceMethod yX10_multiply, .selects RX10 yX10_multiply yX10_multiply, .initialized RX10, .methodLink RX6 90 yX10_divide, .instanceMethod yX10_divide, .selects RX10 yX10_divide yX10_divide, .constantLong RX6 117 (267711444), .methodLink RX6 93 yX10_asLong, .instanceMethod yX10_asLong, .selects RX10 yX10_asLong yX10_asLong, .methodLink RX6 125 Lib.MathLoose.min_long.x, .static Lib.MathLoose.min_long.x, .initialized "java/lang/Math", .code Lib.MathLoose.min_long.x Lib.MathLoose.min_long.code 4 (some .long), .methodLink RX6 119 Lib.MathLoose.max_long.x, .static Lib.MathLoose.max_long.x, .code Lib.MathLoose.max_long.x Lib.MathLoose.max_long.code 4 (some .long)]
def wq_c_X6_lagEdge : List Cond := .code yX6_lagEdge cX6_lagEdge 8 (some .long) :: (ow_c_X6_lagEdge ++ (wq_c_X6_weightOfAll ++ (u_ws RX6 TX6 10 ++ (wq_c_X8_isOn ++ (wq_c_X6_putLag ++ (wq_c_X10_multiply ++ (wq_c_X10_divide ++ (wq_c_X10_asLong ++ ([] : List Cond)))))))))
theorem tb_c_X6_lagEdge : ∀ w ∈ wq_c_X6_lagEdge, q_g w := by
  unfold wq_c_X6_lagEdge ow_c_X6_lagEdge
  exact q_cons tw_265 (q_app (q_cons tw_264 (q_cons tw_88 (q_cons tw_87 (q_cons tw_47 (q_cons tw_13 (q_cons tw_12 (q_cons tw_11 (q_cons tw_10 (q_cons tw_9 (q_cons tw_8 (q_cons tw_256 (q_cons tw_255 (q_cons tw_254 (q_cons tw_253 (q_cons tw_263 (q_cons tw_251 (q_cons tw_250 (q_cons tw_249 (q_cons tw_26 (q_cons tw_46 (q_cons tw_45 (q_cons tw_44 (q_cons tw_262 (q_cons tw_43 (q_cons tw_42 (q_cons tw_41 (q_cons tw_261 (q_cons tw_260 (q_cons tw_154 (q_cons tw_259 (q_cons tw_258 (q_cons tw_184 (q_cons tw_183 q_nil))))))))))))))))))))))))))))))))) (q_app tb_c_X6_weightOfAll (q_app tu_X6 (q_app tb_c_X8_isOn (q_app tb_c_X6_putLag (q_app tb_c_X10_multiply (q_app tb_c_X10_divide (q_app tb_c_X10_asLong q_nil))))))))
set_option maxHeartbeats 4000000 in
set_option maxRecDepth 100000 in
theorem c_X6_lagEdge (l : Launch) (dC : Nat → ClassId) (dI : Nat → Nat → Nat) (g : kG) (A : Nat → Prop) (hG : kWf g) (f : Nat → va_E) (h0 : Nat) (p1 : Int64) (p2 : Int32) (i_h0 : ik g 6 h0) : Met l yX6_lagEdge wq_c_X6_lagEdge ({ frames := 2, cells := 0, slots := 0, locals := 49 } : Room) (va_Pc [.ref h0, .long p1, .int p2] (fun U => kIn dC dI g A f U)) (va_Ql (fun (r : Int64) (_ : Unit) => True) (fun (_ : Unit) t => ∃ f1 : Nat → va_E, Iv dC dI g A f1 t.heap ∧ Kp g [10] f f1) A) 0 0 A := by
  refine Met.ofW (cc := cX6_lagEdge) (maxL := 8) (ret := (some .long)) (by decide) rfl ?_
  intro p e s m args below meth c s₁ B hml hv
  obtain ⟨rfl, hI, hK, hE⟩ := hv
  have hx := B.exec
  have hb := B.bytes
  have hr := B.returns
  have hts := atoms_spec (ws := wq_c_X6_lagEdge) B.pre
  have hown : s.vm.findClass RX6 = some m.cls := findClass_of_methodNamed B.named
  have hlocks := B.notSynchronized
  have hS : va_S A s.heap s.heap [] := va_S.rf
  have hk0 : Kp g [10] f f := Kp.rf
  have hl := lv_entry ([.ref h0, .long p1, .int p2]) (n := 8) (Nat.le_of_ble_eq_true rfl)
  rw [lg_entry_eq]
  generalize (lg_sl ([.ref h0, .long p1, .int p2]) ++ List.replicate (8 - (lg_sl ([.ref h0, .long p1, .int p2])).length) Slot.unset).toArray = ls at hl ⊢
  have hl : lv_has ls 8 [(0, .ref h0), (1, .long p1), (3, .int p2)] := hl
  refine lv_aload_n hx hb dX6_lagEdge_0 rfl (lv_at hl 0 rfl) ?_
  obtain ⟨x_2, x_3, x_4, x_5, x_6, k_1, b_7, b_8⟩ := op_6 hI i_h0
  refine va_calli (va_runV (As := []) (rest := []) ⟨hx, hb, hml, hown, hts⟩ (c_X6_weightOfAll l dC dI g A hG f h0 i_h0) (cwV 0 hts (gi_V (fun w_ h0_ => ⟨List.mem_cons_of_mem _ (List.mem_append_right _ (List.mem_append_left _ h0_)), (tb_c_X6_weightOfAll w_ h0_).2⟩) (List.mem_cons_of_mem _ (List.mem_append_left _ (List.mem_of_getElem? (i := 0) rfl))) (List.mem_cons_of_mem _ (List.mem_append_left _ (List.mem_of_getElem? (i := 1) rfl))) (List.mem_cons_of_mem _ (List.mem_append_left _ (List.mem_of_getElem? (i := 2) rfl))) (List.mem_cons_of_mem _ (List.mem_append_left _ (List.mem_of_getElem? (i := 3) rfl)))) rfl rfl rfl (by decide +kernel) ⟨Nat.le_of_ble_eq_true rfl, Nat.le_of_ble_eq_true rfl⟩) ⟨fun a U g mk q => ⟨q.1, q.2.calling rfl rfl⟩, k_recv hK hI i_h0.1 k_1 (ci := 6) rfl, fun U hU hW => ⟨rfl, kIn.of hI hK hE hS hU hW⟩⟩ rfl rfl hl.1 rfl (lv_room (Nat.le_of_ble_eq_true rfl)) dX6_lagEdge_1 ⟨Nat.le_of_ble_eq_true rfl, Nat.le_of_ble_eq_true rfl⟩) hS (fun q _ h => h) (fun q h => h) (fun r_10 u t H1 locs ht hvm w_9 hB hz1 hk1 hS => ?_)
  have hI : Iv dC dI g A f t.heap := hB
  rw [ht] at hI
  generalize H1 = H at hI hS ⊢
  refine W.widen (k := 0) (n := 0) (Nat.le_of_ble_eq_true rfl) (Nat.le_of_ble_eq_true rfl) ?_
  refine lv_istore (lv' := [(4, .int r_10), (0, .ref h0), (1, .long p1), (3, .int p2)]) hx hb dX6_lagEdge_4 hl (by decide) rfl (fun ls hl => ?_)
  refine lv_lload_n hx hb dX6_lagEdge_6 rfl (lv_at hl 2 rfl) ?_
  refine lv_lstore (lv' := [(5, .long p1), (4, .int r_10), (0, .ref h0), (1, .long p1), (3, .int p2)]) hx hb dX6_lagEdge_7 hl (by decide) rfl (fun ls hl => ?_)
  refine lv_iconst (v := 0) hx hb dX6_lagEdge_9 (by decide) ?_
  refine lv_istore (lv' := [(7, .int 0), (5, .long p1), (4, .int r_10), (0, .ref h0), (1, .long p1), (3, .int p2)]) hx hb dX6_lagEdge_10 hl (by decide) rfl (fun ls hl => ?_)
  have K_12 : ∀ (nn : Nat) (y_11 : Int32) (y_12 : Int64) (f_13 : Nat → va_E) (H : Heap) (locs : List Loc) (ls : Array Slot), (12 - y_11.toInt).toNat < nn → Iv dC dI g A f_13 H → va_S A s.heap H locs → f_13 h0 = .inr (6, [.ref (gr g h0 0), .ref (gr g h0 1), .ref (gr g h0 2), .ref (gr g h0 3), .ref (gr g h0 4), .int x_2, .int x_3, .long x_4, .int x_5, .int x_6]) → Kp g [10] f f_13 → 0 ≤ y_11.toInt → lv_has ls 8 [(7, .int y_11), (5, .long y_12), (4, .int r_10), (0, .ref h0), (1, .long p1), (3, .int p2)] → W p l e (headSpec wq_c_X6_lagEdge ({ frames := 2, cells := 0, slots := 0, locals := 49 } : Room)).room s m ([.ref h0, .long p1, .int p2].toArray) below meth c H locs 0 0 (MQ below (va_Ql (fun (r : Int64) (_ : Unit) => True) (fun (_ : Unit) t => ∃ f1 : Nat → va_E, Iv dC dI g A f1 t.heap ∧ Kp g [10] f f1) A) ([.ref h0, .long p1, .int p2].toArray) s 0 0 A) (F0 m 12 ls []) := by
    intro nn
    induction nn with
    | zero => intro y_11 y_12 f_13 H locs ls m_17; exact absurd m_17 (Nat.not_lt_zero _)
    | succ nn ih =>
      intro y_11 y_12 f_13 H locs ls m_17 hI hS k_14 kp_15 t_16 hl
      have g_18 := Int32.toInt_lt y_11
      have g_19 := Int32.le_toInt y_11
      refine lv_iload hx hb dX6_lagEdge_12 (lv_at hl 0 rfl) ?_
      refine lv_aload_n hx hb dX6_lagEdge_14 rfl (lv_at hl 3 rfl) ?_
      refine k_get (ci := 6) (v := .int x_2) (C := RX6) (T := TX6) (N := 10) hx hb hts (fun _ h0_ => List.mem_cons_of_mem _ (List.mem_append_right _ (List.mem_append_right _ (List.mem_append_left _ h0_)))) hown hK hI i_h0.1 k_14 rfl 5 (by decide) (hts (.fieldLink RX6 48 "DeadlineShare$State" "count" "I") (List.mem_cons_of_mem _ (List.mem_append_left _ (List.mem_of_getElem? (i := 4) rfl)))) (fun _ h9 => h9) rfl dX6_lagEdge_15 ?_
      refine lv_icmp_ge (tgt := 118) hx hb dX6_lagEdge_18 (by decide) (fun c_20 => ?_) (fun c_20 => ?_)
      · have c_20 := kc_le rfl rfl c_20
        refine lv_lload hx hb dX6_lagEdge_118 (lv_at hl 1 rfl) ?_
        exact W.lret (v := y_12) hx hb hr (fun t ht hW => ⟨⟨y_12, (), rfl, trivial, ⟨f_13, k_ret ht hI, kp_15⟩⟩, hS.F ht⟩) hS.2.2 dX6_lagEdge_120
      · have c_20 := kn_le rfl rfl c_20
        refine lv_aload_n hx hb dX6_lagEdge_21 rfl (lv_at hl 3 rfl) ?_
        refine k_get (ci := 6) (v := .ref (gr g h0 1)) (C := RX6) (T := TX6) (N := 10) hx hb hts (fun _ h0_ => List.mem_cons_of_mem _ (List.mem_append_right _ (List.mem_append_right _ (List.mem_append_left _ h0_)))) hown hK hI i_h0.1 k_14 rfl 1 (by decide) (hts (.fieldLink RX6 11 "DeadlineShare$State" "tasks" "[LDeadlineShare$Task;") (List.mem_cons_of_mem _ (List.mem_append_left _ (List.mem_of_getElem? (i := 5) rfl)))) (fun _ h9 => h9) rfl dX6_lagEdge_22 ?_
        have i_22 := kw_6_1 hG i_h0
        refine lv_iload hx hb dX6_lagEdge_25 (lv_at hl 0 rfl) ?_
        obtain ⟨q_24, k_23, b_25⟩ := op_20 hI i_22
        refine k_aald hx hb hK hI i_22.1 4 k_23 rfl (vp_in_iff.mpr (by omega)) b_25 (fun _ hj => kw_20 hG i_22 hj) dX6_lagEdge_27 (fun a_26 i_27 => ?_)
        obtain ⟨x_29, x_30, x_31, x_32, x_33, x_34, x_35, x_36, x_37, x_38, x_39, x_40, x_41, x_42, x_43, x_44, k_28⟩ := op_8 hI i_27
        refine va_calli (va_runV (As := []) (rest := []) ⟨hx, hb, hml, hown, hts⟩ (c_X8_isOn l dC dI g A hG f_13 a_26 i_27) (cwV 0 hts (gi_V (fun w_ h0_ => ⟨List.mem_cons_of_mem _ (List.mem_append_right _ (List.mem_append_right _ (List.mem_append_right _ (List.mem_append_left _ h0_)))), (tb_c_X8_isOn w_ h0_).2⟩) (List.mem_cons_of_mem _ (List.mem_append_left _ (List.mem_of_getElem? (i := 6) rfl))) (List.mem_cons_of_mem _ (List.mem_append_left _ (List.mem_of_getElem? (i := 7) rfl))) (List.mem_cons_of_mem _ (List.mem_append_left _ (List.mem_of_getElem? (i := 8) rfl))) (List.mem_cons_of_mem _ (List.mem_append_left _ (List.mem_of_getElem? (i := 9) rfl)))) rfl rfl rfl (by decide +kernel) ⟨Nat.le_of_ble_eq_true rfl, Nat.le_of_ble_eq_true rfl⟩) ⟨fun a U g mk q => ⟨q.1, q.2.calling rfl rfl⟩, k_recv hK hI i_27.1 k_28 (ci := 8) rfl, fun U hU hW => ⟨rfl, kIn.of hI hK hE hS hU hW⟩⟩ rfl rfl hl.1 rfl (lv_room (Nat.le_of_ble_eq_true rfl)) dX6_lagEdge_28 ⟨Nat.le_of_ble_eq_true rfl, Nat.le_of_ble_eq_true rfl⟩) hS (fun q _ h => h) (fun q h => h) (fun r_46 u t H1 locs ht hvm w_45 hB hz1 hk1 hS => ?_)
        have hI : Iv dC dI g A f_13 t.heap := hB
        rw [ht] at hI
        generalize H1 = H at hI hS ⊢
        refine W.widen (k := 0) (n := 0) (Nat.le_of_ble_eq_true rfl) (Nat.le_of_ble_eq_true rfl) ?_
        have J_112 : ∀ (y_47 : Int64) (f_48 : Nat → va_E) (H : Heap) (locs : List Loc) (ls : Array Slot), Iv dC dI g A f_48 H → va_S A s.heap H locs → f_48 h0 = .inr (6, [.ref (gr g h0 0), .ref (gr g h0 1), .ref (gr g h0 2), .ref (gr g h0 3), .ref (gr g h0 4), .int x_2, .int x_3, .long x_4, .int x_5, .int x_6]) → f_48 (gr g h0 1) = .inl (gc g 4, 12, .inr (.inr (.inr (.inr q_24)))) → f_48 a_26 = .inr (8, [.int x_29, .ref (gr g a_26 1), .int x_30, .int x_31, .int x_32, .long x_33, .int x_34, .ref (gr g a_26 7), .int x_35, .int x_36, .int x_37, .int x_38, .int x_39, .int x_40, .int x_41, .int x_42, .int x_43, .int x_44]) → Kp g [10] f f_48 → lv_has ls 8 [(7, .int y_11), (5, .long y_47), (4, .int r_10), (0, .ref h0), (1, .long p1), (3, .int p2)] → W p l e (headSpec wq_c_X6_lagEdge ({ frames := 2, cells := 0, slots := 0, locals := 49 } : Room)).room s m ([.ref h0, .long p1, .int p2].toArray) below meth c H locs 0 0 (MQ below (va_Ql (fun (r : Int64) (_ : Unit) => True) (fun (_ : Unit) t => ∃ f1 : Nat → va_E, Iv dC dI g A f1 t.heap ∧ Kp g [10] f f1) A) ([.ref h0, .long p1, .int p2].toArray) s 0 0 A) (F0 m 112 ls []) := by
          intro y_47 f_48 H locs ls hI hS k_49 k_50 k_51 kp_52 hl
          obtain ⟨v_53, ev_53⟩ : ∃ y : Int32, y = y_11 + Int32.ofInt 1 := ⟨_, rfl⟩
          refine lv_iinc (v := v_53) (lv' := [(7, .int v_53), (5, .long y_47), (4, .int r_10), (0, .ref h0), (1, .long p1), (3, .int p2)]) hx hb dX6_lagEdge_112 hl (k := 0) rfl ev_53.symm (by decide) rfl (fun ls hl => ?_)
          have tv_53 := k_inc y_11
          rw [← ev_53] at tv_53
          refine lv_goto (tgt := 12) hx hb dX6_lagEdge_115 (by decide) ?_
          exact ih v_53 y_47 f_48 _ _ _ (by omega) hI hS k_49 kp_52 (by first | omega | decide) (lv_sub hl [0, 1, 2, 3, 4, 5] rfl)
        refine lv_if_eq (tgt := 112) hx hb dX6_lagEdge_31 (by decide) (fun c_54 => ?_) (fun c_54 => ?_)
        · have c_54 := kc_eq rfl (by decide : Int32.toInt 0 = 0) c_54
          exact J_112 y_12 f_13 _ _ _ hI hS k_14 k_23 k_28 kp_15 (lv_sub hl [0, 1, 2, 3, 4, 5] rfl)
        · have c_54 := kn_eq rfl (by decide : Int32.toInt 0 = 0) c_54
          refine lv_aload_n hx hb dX6_lagEdge_34 rfl (lv_at hl 3 rfl) ?_
          refine lv_aload_n hx hb dX6_lagEdge_35 rfl (lv_at hl 3 rfl) ?_
          refine k_get (ci := 6) (v := .ref (gr g h0 1)) (C := RX6) (T := TX6) (N := 10) hx hb hts (fun _ h0_ => List.mem_cons_of_mem _ (List.mem_append_right _ (List.mem_append_right _ (List.mem_append_left _ h0_)))) hown hK hI i_h0.1 k_14 rfl 1 (by decide) (hts (.fieldLink RX6 11 "DeadlineShare$State" "tasks" "[LDeadlineShare$Task;") (List.mem_cons_of_mem _ (List.mem_append_left _ (List.mem_of_getElem? (i := 5) rfl)))) (fun _ h9 => h9) rfl dX6_lagEdge_36 ?_
          refine lv_iload hx hb dX6_lagEdge_39 (lv_at hl 0 rfl) ?_
          refine k_aald hx hb hK hI i_22.1 4 k_23 rfl (vp_in_iff.mpr (by omega)) b_25 (fun _ hj => kw_20 hG i_22 hj) dX6_lagEdge_41 (fun a_57 i_58 => ?_)
          refine lv_aload_n hx hb dX6_lagEdge_42 rfl (lv_at hl 3 rfl) ?_
          refine k_get (ci := 6) (v := .ref (gr g h0 4)) (C := RX6) (T := TX6) (N := 10) hx hb hts (fun _ h0_ => List.mem_cons_of_mem _ (List.mem_append_right _ (List.mem_append_right _ (List.mem_append_left _ h0_)))) hown hK hI i_h0.1 k_14 rfl 4 (by decide) (hts (.fieldLink RX6 31 "DeadlineShare$State" "part" "LDeadlineShare$Wide;") (List.mem_cons_of_mem _ (List.mem_append_left _ (List.mem_of_getElem? (i := 10) rfl)))) (fun _ h9 => h9) rfl dX6_lagEdge_43 ?_
          have i_60 := kw_6_4 hG i_h0
          refine va_callv (va_runV (As := [.ref a_57, .ref (gr g h0 4)]) (rest := []) ⟨hx, hb, hml, hown, hts⟩ (c_X6_putLag l dC dI g A hG f_13 h0 a_57 (gr g h0 4) i_h0 i_58 i_60) (cwV 2 hts (gi_V (fun w_ h0_ => ⟨List.mem_cons_of_mem _ (List.mem_append_right _ (List.mem_append_right _ (List.mem_append_right _ (List.mem_append_right _ (List.mem_append_left _ h0_))))), (tb_c_X6_putLag w_ h0_).2⟩) (List.mem_cons_of_mem _ (List.mem_append_left _ (List.mem_of_getElem? (i := 11) rfl))) (List.mem_cons_of_mem _ (List.mem_append_left _ (List.mem_of_getElem? (i := 12) rfl))) (List.mem_cons_of_mem _ (List.mem_append_left _ (List.mem_of_getElem? (i := 13) rfl))) (List.mem_cons_of_mem _ (List.mem_append_left _ (List.mem_of_getElem? (i := 3) rfl)))) rfl rfl rfl (by decide +kernel) ⟨Nat.le_of_ble_eq_true rfl, Nat.le_of_ble_eq_true rfl⟩) ⟨fun a U g mk q => ⟨q.1, q.2.calling rfl rfl⟩, k_recv hK hI i_h0.1 k_14 (ci := 6) rfl, fun U hU hW => ⟨rfl, kIn.of hI hK hE hS hU hW⟩⟩ rfl rfl hl.1 rfl (lv_room (Nat.le_of_ble_eq_true rfl)) dX6_lagEdge_46 ⟨Nat.le_of_ble_eq_true rfl, Nat.le_of_ble_eq_true rfl⟩) hS (fun q _ h => h) (fun q h => h) (fun u t H1 locs ht hvm _ hB hz1 hk1 hS => ?_)
          obtain ⟨f_61, hI, kc_63⟩ := hB
          rw [ht] at hI
          have k_65 : f_61 h0 = .inr (6, [.ref (gr g h0 0), .ref (gr g h0 1), .ref (gr g h0 2), .ref (gr g h0 3), .ref (gr g h0 4), .int x_2, .int x_3, .long x_4, .int x_5, .int x_6]) := Kp.at kc_63 i_h0 (by decide) k_14
          have k_66 : f_61 (gr g h0 1) = .inl (gc g 4, 12, .inr (.inr (.inr (.inr q_24)))) := Kp.at kc_63 i_22 (by decide) k_23
          have k_67 : f_61 a_26 = .inr (8, [.int x_29, .ref (gr g a_26 1), .int x_30, .int x_31, .int x_32, .long x_33, .int x_34, .ref (gr g a_26 7), .int x_35, .int x_36, .int x_37, .int x_38, .int x_39, .int x_40, .int x_41, .int x_42, .int x_43, .int x_44]) := Kp.at kc_63 i_27 (by decide) k_28
          have kp_68 := Kp.call kp_15 kc_63 (by decide)
          generalize H1 = H at hI hS ⊢
          refine W.widen (k := 0) (n := 0) (Nat.le_of_ble_eq_true rfl) (Nat.le_of_ble_eq_true rfl) ?_
          refine lv_aload_n hx hb dX6_lagEdge_49 rfl (lv_at hl 3 rfl) ?_
          refine k_get (ci := 6) (v := .ref (gr g h0 4)) (C := RX6) (T := TX6) (N := 10) hx hb hts (fun _ h0_ => List.mem_cons_of_mem _ (List.mem_append_right _ (List.mem_append_right _ (List.mem_append_left _ h0_)))) hown hK hI i_h0.1 k_65 rfl 4 (by decide) (hts (.fieldLink RX6 31 "DeadlineShare$State" "part" "LDeadlineShare$Wide;") (List.mem_cons_of_mem _ (List.mem_append_left _ (List.mem_of_getElem? (i := 10) rfl)))) (fun _ h9 => h9) rfl dX6_lagEdge_50 ?_
          refine lv_ldc2 hx hb hown (hts (.constantLong RX6 115 (5)) (List.mem_cons_of_mem _ (List.mem_append_left _ (List.mem_of_getElem? (i := 14) rfl)))) dX6_lagEdge_53 ?_
          obtain ⟨x_72, x_73, k_71⟩ := op_10 hI i_60
          refine va_callv (va_runV (As := [.long 5]) (rest := []) ⟨hx, hb, hml, hown, hts⟩ (c_X10_multiply l dC dI g A hG f_61 (gr g h0 4) 5 i_60) (cwV 1 hts (gi_V (fun w_ h0_ => ⟨List.mem_cons_of_mem _ (List.mem_append_right _ (List.mem_append_right _ (List.mem_append_right _ (List.mem_append_right _ (List.mem_append_right _ (List.mem_append_left _ h0_)))))), (tb_c_X10_multiply w_ h0_).2⟩) (List.mem_cons_of_mem _ (List.mem_append_left _ (List.mem_of_getElem? (i := 15) rfl))) (List.mem_cons_of_mem _ (List.mem_append_left _ (List.mem_of_getElem? (i := 16) rfl))) (List.mem_cons_of_mem _ (List.mem_append_left _ (List.mem_of_getElem? (i := 17) rfl))) (List.mem_cons_of_mem _ (List.mem_append_left _ (List.mem_of_getElem? (i := 18) rfl)))) rfl rfl rfl (by decide +kernel) ⟨Nat.le_of_ble_eq_true rfl, Nat.le_of_ble_eq_true rfl⟩) ⟨fun a U g mk q => ⟨q.1, q.2.calling rfl rfl⟩, k_recv hK hI i_60.1 k_71 (ci := 10) rfl, fun U hU hW => ⟨rfl, kIn.of hI hK hE hS hU hW⟩⟩ rfl rfl hl.1 rfl (lv_room (Nat.le_of_ble_eq_true rfl)) dX6_lagEdge_56 ⟨Nat.le_of_ble_eq_true rfl, Nat.le_of_ble_eq_true rfl⟩) hS (fun q _ h => h) (fun q h => h) (fun u t H1 locs ht hvm _ hB hz1 hk1 hS => ?_)
          obtain ⟨f_74, hI, kc_76⟩ := hB
          rw [ht] at hI
          have k_78 : f_74 h0 = .inr (6, [.ref (gr g h0 0), .ref (gr g h0 1), .ref (gr g h0 2), .ref (gr g h0 3), .ref (gr g h0 4), .int x_2, .int x_3, .long x_4, .int x_5, .int x_6]) := Kp.at kc_76 i_h0 (by decide) k_65
          have k_79 : f_74 (gr g h0 1) = .inl (gc g 4, 12, .inr (.inr (.inr (.inr q_24)))) := Kp.at kc_76 i_22 (by decide) k_66
          have k_80 : f_74 a_26 = .inr (8, [.int x_29, .ref (gr g a_26 1), .int x_30, .int x_31, .int x_32, .long x_33, .int x_34, .ref (gr g a_26 7), .int x_35, .int x_36, .int x_37, .int x_38, .int x_39, .int x_40, .int x_41, .int x_42, .int x_43, .int x_44]) := Kp.at kc_76 i_27 (by decide) k_67
          have kp_81 := Kp.call kp_68 kc_76 (by decide)
          generalize H1 = H at hI hS ⊢
          refine W.widen (k := 0) (n := 0) (Nat.le_of_ble_eq_true rfl) (Nat.le_of_ble_eq_true rfl) ?_
          refine lv_aload_n hx hb dX6_lagEdge_59 rfl (lv_at hl 3 rfl) ?_
          refine k_get (ci := 6) (v := .ref (gr g h0 4)) (C := RX6) (T := TX6) (N := 10) hx hb hts (fun _ h0_ => List.mem_cons_of_mem _ (List.mem_append_right _ (List.mem_append_right _ (List.mem_append_left _ h0_)))) hown hK hI i_h0.1 k_78 rfl 4 (by decide) (hts (.fieldLink RX6 31 "DeadlineShare$State" "part" "LDeadlineShare$Wide;") (List.mem_cons_of_mem _ (List.mem_append_left _ (List.mem_of_getElem? (i := 10) rfl)))) (fun _ h9 => h9) rfl dX6_lagEdge_60 ?_
          refine lv_iload hx hb dX6_lagEdge_63 (lv_at hl 2 rfl) ?_
          refine lv_i2l (v := r_10.toInt64) hx hb dX6_lagEdge_65 rfl ?_
          have t_84 := Int32.toInt_toInt64 r_10
          obtain ⟨x_86, x_87, k_85⟩ := op_10 hI i_60
          refine va_callv (va_runV (As := [.long r_10.toInt64]) (rest := []) ⟨hx, hb, hml, hown, hts⟩ (c_X10_divide l dC dI g A hG f_74 (gr g h0 4) r_10.toInt64 i_60) (cwV 1 hts (gi_V (fun w_ h0_ => ⟨List.mem_cons_of_mem _ (List.mem_append_right _ (List.mem_append_right _ (List.mem_append_right _ (List.mem_append_right _ (List.mem_append_right _ (List.mem_append_right _ (List.mem_append_left _ h0_))))))), (tb_c_X10_divide w_ h0_).2⟩) (List.mem_cons_of_mem _ (List.mem_append_left _ (List.mem_of_getElem? (i := 19) rfl))) (List.mem_cons_of_mem _ (List.mem_append_left _ (List.mem_of_getElem? (i := 20) rfl))) (List.mem_cons_of_mem _ (List.mem_append_left _ (List.mem_of_getElem? (i := 21) rfl))) (List.mem_cons_of_mem _ (List.mem_append_left _ (List.mem_of_getElem? (i := 18) rfl)))) rfl rfl rfl (by decide +kernel) ⟨Nat.le_of_ble_eq_true rfl, Nat.le_of_ble_eq_true rfl⟩) ⟨fun a U g mk q => ⟨q.1, q.2.calling rfl rfl⟩, k_recv hK hI i_60.1 k_85 (ci := 10) rfl, fun U hU hW => ⟨rfl, kIn.of hI hK hE hS hU hW⟩⟩ rfl rfl hl.1 rfl (lv_room (Nat.le_of_ble_eq_true rfl)) dX6_lagEdge_66 ⟨Nat.le_of_ble_eq_true rfl, Nat.le_of_ble_eq_true rfl⟩) hS (fun q _ h => h) (fun q h => h) (fun u t H1 locs ht hvm _ hB hz1 hk1 hS => ?_)
          obtain ⟨f_88, hI, kc_90⟩ := hB
          rw [ht] at hI
          have k_92 : f_88 h0 = .inr (6, [.ref (gr g h0 0), .ref (gr g h0 1), .ref (gr g h0 2), .ref (gr g h0 3), .ref (gr g h0 4), .int x_2, .int x_3, .long x_4, .int x_5, .int x_6]) := Kp.at kc_90 i_h0 (by decide) k_78
          have k_93 : f_88 (gr g h0 1) = .inl (gc g 4, 12, .inr (.inr (.inr (.inr q_24)))) := Kp.at kc_90 i_22 (by decide) k_79
          have k_94 : f_88 a_26 = .inr (8, [.int x_29, .ref (gr g a_26 1), .int x_30, .int x_31, .int x_32, .long x_33, .int x_34, .ref (gr g a_26 7), .int x_35, .int x_36, .int x_37, .int x_38, .int x_39, .int x_40, .int x_41, .int x_42, .int x_43, .int x_44]) := Kp.at kc_90 i_27 (by decide) k_80
          have kp_95 := Kp.call kp_81 kc_90 (by decide)
          generalize H1 = H at hI hS ⊢
          refine W.widen (k := 0) (n := 0) (Nat.le_of_ble_eq_true rfl) (Nat.le_of_ble_eq_true rfl) ?_
          refine lv_aload_n hx hb dX6_lagEdge_69 rfl (lv_at hl 3 rfl) ?_
          refine k_get (ci := 6) (v := .ref (gr g h0 4)) (C := RX6) (T := TX6) (N := 10) hx hb hts (fun _ h0_ => List.mem_cons_of_mem _ (List.mem_append_right _ (List.mem_append_right _ (List.mem_append_left _ h0_)))) hown hK hI i_h0.1 k_92 rfl 4 (by decide) (hts (.fieldLink RX6 31 "DeadlineShare$State" "part" "LDeadlineShare$Wide;") (List.mem_cons_of_mem _ (List.mem_append_left _ (List.mem_of_getElem? (i := 10) rfl)))) (fun _ h9 => h9) rfl dX6_lagEdge_70 ?_
          refine lv_ldc2 hx hb hown (hts (.constantLong RX6 117 (267711444)) (List.mem_cons_of_mem _ (List.mem_append_left _ (List.mem_of_getElem? (i := 22) rfl)))) dX6_lagEdge_73 ?_
          obtain ⟨x_99, x_100, k_98⟩ := op_10 hI i_60
          refine va_callv (va_runV (As := [.long 267711444]) (rest := []) ⟨hx, hb, hml, hown, hts⟩ (c_X10_divide l dC dI g A hG f_88 (gr g h0 4) 267711444 i_60) (cwV 1 hts (gi_V (fun w_ h0_ => ⟨List.mem_cons_of_mem _ (List.mem_append_right _ (List.mem_append_right _ (List.mem_append_right _ (List.mem_append_right _ (List.mem_append_right _ (List.mem_append_right _ (List.mem_append_left _ h0_))))))), (tb_c_X10_divide w_ h0_).2⟩) (List.mem_cons_of_mem _ (List.mem_append_left _ (List.mem_of_getElem? (i := 19) rfl))) (List.mem_cons_of_mem _ (List.mem_append_left _ (List.mem_of_getElem? (i := 20) rfl))) (List.mem_cons_of_mem _ (List.mem_append_left _ (List.mem_of_getElem? (i := 21) rfl))) (List.mem_cons_of_mem _ (List.mem_append_left _ (List.mem_of_getElem? (i := 18) rfl)))) rfl rfl rfl (by decide +kernel) ⟨Nat.le_of_ble_eq_true rfl, Nat.le_of_ble_eq_true rfl⟩) ⟨fun a U g mk q => ⟨q.1, q.2.calling rfl rfl⟩, k_recv hK hI i_60.1 k_98 (ci := 10) rfl, fun U hU hW => ⟨rfl, kIn.of hI hK hE hS hU hW⟩⟩ rfl rfl hl.1 rfl (lv_room (Nat.le_of_ble_eq_true rfl)) dX6_lagEdge_76 ⟨Nat.le_of_ble_eq_true rfl, Nat.le_of_ble_eq_true rfl⟩) hS (fun q _ h => h) (fun q h => h) (fun u t H1 locs ht hvm _ hB hz1 hk1 hS => ?_)
          obtain ⟨f_101, hI, kc_103⟩ := hB
          rw [ht] at hI
          have k_105 : f_101 h0 = .inr (6, [.ref (gr g h0 0), .ref (gr g h0 1), .ref (gr g h0 2), .ref (gr g h0 3), .ref (gr g h0 4), .int x_2, .int x_3, .long x_4, .int x_5, .int x_6]) := Kp.at kc_103 i_h0 (by decide) k_92
          have k_106 : f_101 (gr g h0 1) = .inl (gc g 4, 12, .inr (.inr (.inr (.inr q_24)))) := Kp.at kc_103 i_22 (by decide) k_93
          have k_107 : f_101 a_26 = .inr (8, [.int x_29, .ref (gr g a_26 1), .int x_30, .int x_31, .int x_32, .long x_33, .int x_34, .ref (gr g a_26 7), .int x_35, .int x_36, .int x_37, .int x_38, .int x_39, .int x_40, .int x_41, .int x_42, .int x_43, .int x_44]) := Kp.at kc_103 i_27 (by decide) k_94
          have kp_108 := Kp.call kp_95 kc_103 (by decide)
          generalize H1 = H at hI hS ⊢
          refine W.widen (k := 0) (n := 0) (Nat.le_of_ble_eq_true rfl) (Nat.le_of_ble_eq_true rfl) ?_
          refine lv_iload_n hx hb dX6_lagEdge_79 rfl (lv_at hl 5 rfl) ?_
          have J_110 : ∀ (y_109 : Int64) (H : Heap) (locs : List Loc) (ls : Array Slot), Iv dC dI g A f_101 H → va_S A s.heap H locs → lv_has ls 8 [(7, .int y_11), (5, .long y_12), (4, .int r_10), (0, .ref h0), (1, .long p1), (3, .int p2)] → W p l e (headSpec wq_c_X6_lagEdge ({ frames := 2, cells := 0, slots := 0, locals := 49 } : Room)).room s m ([.ref h0, .long p1, .int p2].toArray) below meth c H locs 0 0 (MQ below (va_Ql (fun (r : Int64) (_ : Unit) => True) (fun (_ : Unit) t => ∃ f1 : Nat → va_E, Iv dC dI g A f1 t.heap ∧ Kp g [10] f f1) A) ([.ref h0, .long p1, .int p2].toArray) s 0 0 A) (F0 m 110 ls [.long y_109]) := by
            intro y_109 H locs ls hI hS  hl
            refine lv_lstore (lv' := [(5, .long y_109), (7, .int y_11), (4, .int r_10), (0, .ref h0), (1, .long p1), (3, .int p2)]) hx hb dX6_lagEdge_110 hl (by decide) rfl (fun ls hl => ?_)
            exact J_112 y_109 f_101 _ _ _ hI hS k_105 k_106 k_107 kp_108 (lv_sub hl [1, 0, 2, 3, 4, 5] rfl)
          refine lv_if_eq (tgt := 98) hx hb dX6_lagEdge_80 (by decide) (fun c_110 => ?_) (fun c_110 => ?_)
          · have c_110 := kc_eq rfl (by decide : Int32.toInt 0 = 0) c_110
            refine lv_lload hx hb dX6_lagEdge_98 (lv_at hl 1 rfl) ?_
            refine lv_aload_n hx hb dX6_lagEdge_100 rfl (lv_at hl 3 rfl) ?_
            refine k_get (ci := 6) (v := .ref (gr g h0 4)) (C := RX6) (T := TX6) (N := 10) hx hb hts (fun _ h0_ => List.mem_cons_of_mem _ (List.mem_append_right _ (List.mem_append_right _ (List.mem_append_left _ h0_)))) hown hK hI i_h0.1 k_105 rfl 4 (by decide) (hts (.fieldLink RX6 31 "DeadlineShare$State" "part" "LDeadlineShare$Wide;") (List.mem_cons_of_mem _ (List.mem_append_left _ (List.mem_of_getElem? (i := 10) rfl)))) (fun _ h9 => h9) rfl dX6_lagEdge_101 ?_
            obtain ⟨x_114, x_115, k_113⟩ := op_10 hI i_60
            refine va_calll (va_runV (As := []) (rest := [.long y_12]) ⟨hx, hb, hml, hown, hts⟩ (c_X10_asLong l dC dI g A hG f_101 (gr g h0 4) i_60) (cwV 0 hts (gi_V (fun w_ h0_ => ⟨List.mem_cons_of_mem _ (List.mem_append_right _ (List.mem_append_right _ (List.mem_append_right _ (List.mem_append_right _ (List.mem_append_right _ (List.mem_append_right _ (List.mem_append_right _ (List.mem_append_left _ h0_)))))))), (tb_c_X10_asLong w_ h0_).2⟩) (List.mem_cons_of_mem _ (List.mem_append_left _ (List.mem_of_getElem? (i := 23) rfl))) (List.mem_cons_of_mem _ (List.mem_append_left _ (List.mem_of_getElem? (i := 24) rfl))) (List.mem_cons_of_mem _ (List.mem_append_left _ (List.mem_of_getElem? (i := 25) rfl))) (List.mem_cons_of_mem _ (List.mem_append_left _ (List.mem_of_getElem? (i := 18) rfl)))) rfl rfl rfl (by decide +kernel) ⟨Nat.le_of_ble_eq_true rfl, Nat.le_of_ble_eq_true rfl⟩) ⟨fun a U g mk q => ⟨q.1, q.2.calling rfl rfl⟩, k_recv hK hI i_60.1 k_113 (ci := 10) rfl, fun U hU hW => ⟨rfl, kIn.of hI hK hE hS hU hW⟩⟩ rfl rfl hl.1 rfl (lv_room (Nat.le_of_ble_eq_true rfl)) dX6_lagEdge_104 ⟨Nat.le_of_ble_eq_true rfl, Nat.le_of_ble_eq_true rfl⟩) hS (fun q _ h => h) (fun q h => h) (fun r_117 u t H1 locs ht hvm w_116 hB hz1 hk1 hS => ?_)
            have hI : Iv dC dI g A f_101 t.heap := hB
            rw [ht] at hI
            generalize H1 = H at hI hS ⊢
            refine W.widen (k := 0) (n := 0) (Nat.le_of_ble_eq_true rfl) (Nat.le_of_ble_eq_true rfl) ?_
            refine va_mmin_long hx hb (by rw [hml]; exact hl.1.symm) hown (hts (.methodLink RX6 125 Lib.MathLoose.min_long.x) (List.mem_cons_of_mem _ (List.mem_append_left _ (List.mem_of_getElem? (i := 26) rfl)))) (hts (.static Lib.MathLoose.min_long.x) (List.mem_cons_of_mem _ (List.mem_append_left _ (List.mem_of_getElem? (i := 27) rfl)))) (hts (.initialized "java/lang/Math") (List.mem_cons_of_mem _ (List.mem_append_left _ (List.mem_of_getElem? (i := 28) rfl)))) (hts (.code Lib.MathLoose.min_long.x Lib.MathLoose.min_long.code 4 (some .long)) (List.mem_cons_of_mem _ (List.mem_append_left _ (List.mem_of_getElem? (i := 29) rfl)))) (Nat.le_of_ble_eq_true rfl) (Nat.le_of_ble_eq_true rfl) (Nat.le_of_ble_eq_true rfl) (Nat.le_of_ble_eq_true rfl) dX6_lagEdge_107 ?_
            refine lv_topl (fun v_118 ev_118 => ?_)
            exact J_110 v_118 _ _ _ hI hS  (lv_sub hl [0, 1, 2, 3, 4, 5] rfl)
          · have c_110 := kn_eq rfl (by decide : Int32.toInt 0 = 0) c_110
            refine lv_lload hx hb dX6_lagEdge_83 (lv_at hl 1 rfl) ?_
            refine lv_aload_n hx hb dX6_lagEdge_85 rfl (lv_at hl 3 rfl) ?_
            refine k_get (ci := 6) (v := .ref (gr g h0 4)) (C := RX6) (T := TX6) (N := 10) hx hb hts (fun _ h0_ => List.mem_cons_of_mem _ (List.mem_append_right _ (List.mem_append_right _ (List.mem_append_left _ h0_)))) hown hK hI i_h0.1 k_105 rfl 4 (by decide) (hts (.fieldLink RX6 31 "DeadlineShare$State" "part" "LDeadlineShare$Wide;") (List.mem_cons_of_mem _ (List.mem_append_left _ (List.mem_of_getElem? (i := 10) rfl)))) (fun _ h9 => h9) rfl dX6_lagEdge_86 ?_
            obtain ⟨x_122, x_123, k_121⟩ := op_10 hI i_60
            refine va_calll (va_runV (As := []) (rest := [.long y_12]) ⟨hx, hb, hml, hown, hts⟩ (c_X10_asLong l dC dI g A hG f_101 (gr g h0 4) i_60) (cwV 0 hts (gi_V (fun w_ h0_ => ⟨List.mem_cons_of_mem _ (List.mem_append_right _ (List.mem_append_right _ (List.mem_append_right _ (List.mem_append_right _ (List.mem_append_right _ (List.mem_append_right _ (List.mem_append_right _ (List.mem_append_left _ h0_)))))))), (tb_c_X10_asLong w_ h0_).2⟩) (List.mem_cons_of_mem _ (List.mem_append_left _ (List.mem_of_getElem? (i := 23) rfl))) (List.mem_cons_of_mem _ (List.mem_append_left _ (List.mem_of_getElem? (i := 24) rfl))) (List.mem_cons_of_mem _ (List.mem_append_left _ (List.mem_of_getElem? (i := 25) rfl))) (List.mem_cons_of_mem _ (List.mem_append_left _ (List.mem_of_getElem? (i := 18) rfl)))) rfl rfl rfl (by decide +kernel) ⟨Nat.le_of_ble_eq_true rfl, Nat.le_of_ble_eq_true rfl⟩) ⟨fun a U g mk q => ⟨q.1, q.2.calling rfl rfl⟩, k_recv hK hI i_60.1 k_121 (ci := 10) rfl, fun U hU hW => ⟨rfl, kIn.of hI hK hE hS hU hW⟩⟩ rfl rfl hl.1 rfl (lv_room (Nat.le_of_ble_eq_true rfl)) dX6_lagEdge_89 ⟨Nat.le_of_ble_eq_true rfl, Nat.le_of_ble_eq_true rfl⟩) hS (fun q _ h => h) (fun q h => h) (fun r_125 u t H1 locs ht hvm w_124 hB hz1 hk1 hS => ?_)
            have hI : Iv dC dI g A f_101 t.heap := hB
            rw [ht] at hI
            generalize H1 = H at hI hS ⊢
            refine W.widen (k := 0) (n := 0) (Nat.le_of_ble_eq_true rfl) (Nat.le_of_ble_eq_true rfl) ?_
            refine va_mmax_long hx hb (by rw [hml]; exact hl.1.symm) hown (hts (.methodLink RX6 119 Lib.MathLoose.max_long.x) (List.mem_cons_of_mem _ (List.mem_append_left _ (List.mem_of_getElem? (i := 30) rfl)))) (hts (.static Lib.MathLoose.max_long.x) (List.mem_cons_of_mem _ (List.mem_append_left _ (List.mem_of_getElem? (i := 31) rfl)))) (hts (.initialized "java/lang/Math") (List.mem_cons_of_mem _ (List.mem_append_left _ (List.mem_of_getElem? (i := 28) rfl)))) (hts (.code Lib.MathLoose.max_long.x Lib.MathLoose.max_long.code 4 (some .long)) (List.mem_cons_of_mem _ (List.mem_append_left _ (List.mem_of_getElem? (i := 32) rfl)))) (Nat.le_of_ble_eq_true rfl) (Nat.le_of_ble_eq_true rfl) (Nat.le_of_ble_eq_true rfl) (Nat.le_of_ble_eq_true rfl) dX6_lagEdge_92 ?_
            refine lv_topl (fun v_126 ev_126 => ?_)
            refine lv_goto (tgt := 110) hx hb dX6_lagEdge_95 (by decide) ?_
            exact J_110 v_126 _ _ _ hI hS  (lv_sub hl [0, 1, 2, 3, 4, 5] rfl)
  exact K_12 _ 0 p1 f _ _ _ (Nat.lt_succ_self _) hI hS k_1 hk0 (by first | omega | decide) (lv_sub hl [0, 1, 2, 3, 4, 5] rfl)
theorem tw_266 : q_g (.code yX6_howManyAre cX6_howManyAre 4 (some .int)) := ⟨(List.mem_append_right _ (List.mem_of_getElem? (i := 1072) (by decide +kernel))), good_of_word (by decide +kernel)⟩
def ow_c_X6_howManyAre : List Cond := [.fieldLink RX6 48 "DeadlineShare$State" "count" "I", .fieldLink RX6 11 "DeadlineShare$State" "tasks" "[LDeadlineShare$Task;", .fieldLink RX6 69 "DeadlineShare$Task" "state" "I"]
def wq_c_X6_howManyAre : List Cond := .code yX6_howManyAre cX6_howManyAre 4 (some .int) :: (ow_c_X6_howManyAre ++ (u_ws RX6 TX6 10 ++ (u_ws RX8 TX8 18 ++ ([] : List Cond))))
theorem tb_c_X6_howManyAre : ∀ w ∈ wq_c_X6_howManyAre, q_g w := by
  unfold wq_c_X6_howManyAre ow_c_X6_howManyAre
  exact q_cons tw_266 (q_app (q_cons tw_13 (q_cons tw_12 (q_cons tw_24 q_nil))) (q_app tu_X6 (q_app tu_X8 q_nil)))
set_option maxHeartbeats 4000000 in
set_option maxRecDepth 100000 in
theorem c_X6_howManyAre (l : Launch) (dC : Nat → ClassId) (dI : Nat → Nat → Nat) (g : kG) (A : Nat → Prop) (hG : kWf g) (f : Nat → va_E) (h0 : Nat) (p1 : Int32) (i_h0 : ik g 6 h0) : Met l yX6_howManyAre wq_c_X6_howManyAre ({ frames := 0, cells := 0, slots := 0, locals := 0 } : Room) (va_Pc [.ref h0, .int p1] (fun U => kIn dC dI g A f U)) (va_Qi (fun (r : Int32) (_ : Unit) => True) (fun (_ : Unit) t => Iv dC dI g A f t.heap) A) 0 0 A := by
  refine Met.ofW (cc := cX6_howManyAre) (maxL := 4) (ret := (some .int)) (by decide) rfl ?_
  intro p e s m args below meth c s₁ B hml hv
  obtain ⟨rfl, hI, hK, hE⟩ := hv
  have hx := B.exec
  have hb := B.bytes
  have hr := B.returns
  have hts := atoms_spec (ws := wq_c_X6_howManyAre) B.pre
  have hown : s.vm.findClass RX6 = some m.cls := findClass_of_methodNamed B.named
  have hlocks := B.notSynchronized
  have hS : va_S A s.heap s.heap [] := va_S.rf
  have hl := lv_entry ([.ref h0, .int p1]) (n := 4) (Nat.le_of_ble_eq_true rfl)
  rw [lg_entry_eq]
  generalize (lg_sl ([.ref h0, .int p1]) ++ List.replicate (4 - (lg_sl ([.ref h0, .int p1])).length) Slot.unset).toArray = ls at hl ⊢
  have hl : lv_has ls 4 [(0, .ref h0), (1, .int p1)] := hl
  refine lv_iconst (v := 0) hx hb dX6_howManyAre_0 (by decide) ?_
  refine lv_istore_n (lv' := [(2, .int 0), (0, .ref h0), (1, .int p1)]) hx hb dX6_howManyAre_1 rfl hl (by decide) rfl (fun ls hl => ?_)
  refine lv_iconst (v := 0) hx hb dX6_howManyAre_2 (by decide) ?_
  refine lv_istore_n (lv' := [(3, .int 0), (2, .int 0), (0, .ref h0), (1, .int p1)]) hx hb dX6_howManyAre_3 rfl hl (by decide) rfl (fun ls hl => ?_)
  have K_4 : ∀ (nn : Nat) (y_1 : Int32) (y_2 : Int32) (H : Heap) (locs : List Loc) (ls : Array Slot), (12 - y_1.toInt).toNat < nn → Iv dC dI g A f H → va_S A s.heap H locs → 0 ≤ y_1.toInt → lv_has ls 4 [(3, .int y_1), (2, .int y_2), (0, .ref h0), (1, .int p1)] → W p l e (headSpec wq_c_X6_howManyAre ({ frames := 0, cells := 0, slots := 0, locals := 0 } : Room)).room s m ([.ref h0, .int p1].toArray) below meth c H locs 0 0 (MQ below (va_Qi (fun (r : Int32) (_ : Unit) => True) (fun (_ : Unit) t => Iv dC dI g A f t.heap) A) ([.ref h0, .int p1].toArray) s 0 0 A) (F0 m 4 ls []) := by
    intro nn
    induction nn with
    | zero => intro y_1 y_2 H locs ls m_4; exact absurd m_4 (Nat.not_lt_zero _)
    | succ nn ih =>
      intro y_1 y_2 H locs ls m_4 hI hS t_3 hl
      have g_5 := Int32.toInt_lt y_1
      have g_6 := Int32.le_toInt y_1
      refine lv_iload_n hx hb dX6_howManyAre_4 rfl (lv_at hl 0 rfl) ?_
      refine lv_aload_n hx hb dX6_howManyAre_5 rfl (lv_at hl 2 rfl) ?_
      obtain ⟨x_8, x_9, x_10, x_11, x_12, k_7, b_13, b_14⟩ := op_6 hI i_h0
      refine k_get (ci := 6) (v := .int x_8) (C := RX6) (T := TX6) (N := 10) hx hb hts (fun _ h0_ => List.mem_cons_of_mem _ (List.mem_append_right _ (List.mem_append_left _ h0_))) hown hK hI i_h0.1 k_7 rfl 5 (by decide) (hts (.fieldLink RX6 48 "DeadlineShare$State" "count" "I") (List.mem_cons_of_mem _ (List.mem_append_left _ (List.mem_of_getElem? (i := 0) rfl)))) (fun _ h9 => h9) rfl dX6_howManyAre_6 ?_
      refine lv_icmp_ge (tgt := 34) hx hb dX6_howManyAre_9 (by decide) (fun c_15 => ?_) (fun c_15 => ?_)
      · have c_15 := kc_le rfl rfl c_15
        refine lv_iload_n hx hb dX6_howManyAre_34 rfl (lv_at hl 1 rfl) ?_
        exact W.iret (v := y_2) hx hb hr (fun t ht hW => ⟨⟨y_2, (), rfl, trivial, k_ret ht hI⟩, hS.F ht⟩) hS.2.2 dX6_howManyAre_35
      · have c_15 := kn_le rfl rfl c_15
        refine lv_aload_n hx hb dX6_howManyAre_12 rfl (lv_at hl 2 rfl) ?_
        refine k_get (ci := 6) (v := .ref (gr g h0 1)) (C := RX6) (T := TX6) (N := 10) hx hb hts (fun _ h0_ => List.mem_cons_of_mem _ (List.mem_append_right _ (List.mem_append_left _ h0_))) hown hK hI i_h0.1 k_7 rfl 1 (by decide) (hts (.fieldLink RX6 11 "DeadlineShare$State" "tasks" "[LDeadlineShare$Task;") (List.mem_cons_of_mem _ (List.mem_append_left _ (List.mem_of_getElem? (i := 1) rfl)))) (fun _ h9 => h9) rfl dX6_howManyAre_13 ?_
        have i_17 := kw_6_1 hG i_h0
        refine lv_iload_n hx hb dX6_howManyAre_16 rfl (lv_at hl 0 rfl) ?_
        obtain ⟨q_19, k_18, b_20⟩ := op_20 hI i_17
        refine k_aald hx hb hK hI i_17.1 4 k_18 rfl (vp_in_iff.mpr (by omega)) b_20 (fun _ hj => kw_20 hG i_17 hj) dX6_howManyAre_17 (fun a_21 i_22 => ?_)
        obtain ⟨x_24, x_25, x_26, x_27, x_28, x_29, x_30, x_31, x_32, x_33, x_34, x_35, x_36, x_37, x_38, x_39, k_23⟩ := op_8 hI i_22
        refine k_get (ci := 8) (v := .int x_27) (C := RX8) (T := TX8) (N := 18) hx hb hts (fun _ h0_ => List.mem_cons_of_mem _ (List.mem_append_right _ (List.mem_append_right _ (List.mem_append_left _ h0_)))) hown hK hI i_22.1 k_23 rfl 4 (by decide) (hts (.fieldLink RX6 69 "DeadlineShare$Task" "state" "I") (List.mem_cons_of_mem _ (List.mem_append_left _ (List.mem_of_getElem? (i := 2) rfl)))) (fun _ h9 => h9) rfl dX6_howManyAre_18 ?_
        refine lv_iload_n hx hb dX6_howManyAre_21 rfl (lv_at hl 3 rfl) ?_
        have J_28 : ∀ (y_40 : Int32) (H : Heap) (locs : List Loc) (ls : Array Slot), Iv dC dI g A f H → va_S A s.heap H locs → lv_has ls 4 [(3, .int y_1), (2, .int y_40), (0, .ref h0), (1, .int p1)] → W p l e (headSpec wq_c_X6_howManyAre ({ frames := 0, cells := 0, slots := 0, locals := 0 } : Room)).room s m ([.ref h0, .int p1].toArray) below meth c H locs 0 0 (MQ below (va_Qi (fun (r : Int32) (_ : Unit) => True) (fun (_ : Unit) t => Iv dC dI g A f t.heap) A) ([.ref h0, .int p1].toArray) s 0 0 A) (F0 m 28 ls []) := by
          intro y_40 H locs ls hI hS  hl
          obtain ⟨v_41, ev_41⟩ : ∃ y : Int32, y = y_1 + Int32.ofInt 1 := ⟨_, rfl⟩
          refine lv_iinc (v := v_41) (lv' := [(3, .int v_41), (2, .int y_40), (0, .ref h0), (1, .int p1)]) hx hb dX6_howManyAre_28 hl (k := 0) rfl ev_41.symm (by decide) rfl (fun ls hl => ?_)
          have tv_41 := k_inc y_1
          rw [← ev_41] at tv_41
          refine lv_goto (tgt := 4) hx hb dX6_howManyAre_31 (by decide) ?_
          exact ih v_41 y_40 _ _ _ (by omega) hI hS (by first | omega | decide) (lv_sub hl [0, 1, 2, 3] rfl)
        refine lv_icmp_ne (tgt := 28) hx hb dX6_howManyAre_22 (by decide) (fun c_42 => ?_) (fun c_42 => ?_)
        · have c_42 := kn_eq rfl rfl c_42
          exact J_28 y_2 _ _ _ hI hS  (lv_sub hl [0, 1, 2, 3] rfl)
        · have c_42 := kc_eq rfl rfl c_42
          obtain ⟨v_43, ev_43⟩ : ∃ y : Int32, y = y_2 + Int32.ofInt 1 := ⟨_, rfl⟩
          refine lv_iinc (v := v_43) (lv' := [(2, .int v_43), (3, .int y_1), (0, .ref h0), (1, .int p1)]) hx hb dX6_howManyAre_25 hl (k := 1) rfl ev_43.symm (by decide) rfl (fun ls hl => ?_)
          have tv_43 := k_inc y_2
          rw [← ev_43] at tv_43
          exact J_28 v_43 _ _ _ hI hS  (lv_sub hl [1, 0, 2, 3] rfl)
  exact K_4 _ 0 0 _ _ _ (Nat.lt_succ_self _) hI hS (by first | omega | decide) (lv_sub hl [0, 1, 2, 3] rfl)
theorem tw_267 : q_g (.selects RX5 yX5_isThere yX5_isThere) := ⟨(List.mem_append_right _ (List.mem_of_getElem? (i := 757) (by decide +kernel))), good_of_word (by decide +kernel)⟩
theorem tw_268 : q_g (.instanceMethod yX5_isThere) := ⟨(List.mem_append_right _ (List.mem_of_getElem? (i := 756) (by decide +kernel))), good_of_word (by decide +kernel)⟩
theorem tw_269 : q_g (.methodLink RX6 132 yX5_isThere) := ⟨(List.mem_append_right _ (List.mem_of_getElem? (i := 870) (by decide +kernel))), good_of_word (by decide +kernel)⟩
theorem tw_270 : q_g (.fieldLink RX6 128 "DeadlineShare$Task" "script" "LDeadlineShare$Script;") := ⟨(List.mem_append_right _ (List.mem_of_getElem? (i := 153) (by decide +kernel))), good_of_word (by decide +kernel)⟩
theorem tw_271 : q_g (.code yX6_howManyHaveScripts cX6_howManyHaveScripts 3 (some .int)) := ⟨(List.mem_append_right _ (List.mem_of_getElem? (i := 1076) (by decide +kernel))), good_of_word (by decide +kernel)⟩
def ow_c_X6_howManyHaveScripts : List Cond := [.fieldLink RX6 48 "DeadlineShare$State" "count" "I", .fieldLink RX6 11 "DeadlineShare$State" "tasks" "[LDeadlineShare$Task;", .fieldLink RX6 128 "DeadlineShare$Task" "script" "LDeadlineShare$Script;", .methodLink RX6 132 yX5_isThere, .instanceMethod yX5_isThere, .selects RX5 yX5_isThere yX5_isThere, .initialized RX5]
def wq_c_X6_howManyHaveScripts : List Cond := .code yX6_howManyHaveScripts cX6_howManyHaveScripts 3 (some .int) :: (ow_c_X6_howManyHaveScripts ++ (u_ws RX6 TX6 10 ++ (u_ws RX8 TX8 18 ++ (wq_c_X5_isThere ++ ([] : List Cond)))))
theorem tb_c_X6_howManyHaveScripts : ∀ w ∈ wq_c_X6_howManyHaveScripts, q_g w := by
  unfold wq_c_X6_howManyHaveScripts ow_c_X6_howManyHaveScripts
  exact q_cons tw_271 (q_app (q_cons tw_13 (q_cons tw_12 (q_cons tw_270 (q_cons tw_269 (q_cons tw_268 (q_cons tw_267 (q_cons tw_133 q_nil))))))) (q_app tu_X6 (q_app tu_X8 (q_app tb_c_X5_isThere q_nil))))
set_option maxHeartbeats 4000000 in
set_option maxRecDepth 100000 in
theorem c_X6_howManyHaveScripts (l : Launch) (dC : Nat → ClassId) (dI : Nat → Nat → Nat) (g : kG) (A : Nat → Prop) (hG : kWf g) (f : Nat → va_E) (h0 : Nat) (i_h0 : ik g 6 h0) : Met l yX6_howManyHaveScripts wq_c_X6_howManyHaveScripts ({ frames := 1, cells := 0, slots := 0, locals := 20 } : Room) (va_Pc [.ref h0] (fun U => kIn dC dI g A f U)) (va_Qi (fun (r : Int32) (_ : Unit) => True) (fun (_ : Unit) t => Iv dC dI g A f t.heap) A) 0 0 A := by
  refine Met.ofW (cc := cX6_howManyHaveScripts) (maxL := 3) (ret := (some .int)) (by decide) rfl ?_
  intro p e s m args below meth c s₁ B hml hv
  obtain ⟨rfl, hI, hK, hE⟩ := hv
  have hx := B.exec
  have hb := B.bytes
  have hr := B.returns
  have hts := atoms_spec (ws := wq_c_X6_howManyHaveScripts) B.pre
  have hown : s.vm.findClass RX6 = some m.cls := findClass_of_methodNamed B.named
  have hlocks := B.notSynchronized
  have hS : va_S A s.heap s.heap [] := va_S.rf
  have hl := lv_entry ([.ref h0]) (n := 3) (Nat.le_of_ble_eq_true rfl)
  rw [lg_entry_eq]
  generalize (lg_sl ([.ref h0]) ++ List.replicate (3 - (lg_sl ([.ref h0])).length) Slot.unset).toArray = ls at hl ⊢
  have hl : lv_has ls 3 [(0, .ref h0)] := hl
  refine lv_iconst (v := 0) hx hb dX6_howManyHaveScripts_0 (by decide) ?_
  refine lv_istore_n (lv' := [(1, .int 0), (0, .ref h0)]) hx hb dX6_howManyHaveScripts_1 rfl hl (by decide) rfl (fun ls hl => ?_)
  refine lv_iconst (v := 0) hx hb dX6_howManyHaveScripts_2 (by decide) ?_
  refine lv_istore_n (lv' := [(2, .int 0), (1, .int 0), (0, .ref h0)]) hx hb dX6_howManyHaveScripts_3 rfl hl (by decide) rfl (fun ls hl => ?_)
  have K_4 : ∀ (nn : Nat) (y_1 : Int32) (y_2 : Int32) (H : Heap) (locs : List Loc) (ls : Array Slot), (12 - y_1.toInt).toNat < nn → Iv dC dI g A f H → va_S A s.heap H locs → 0 ≤ y_1.toInt → lv_has ls 3 [(2, .int y_1), (1, .int y_2), (0, .ref h0)] → W p l e (headSpec wq_c_X6_howManyHaveScripts ({ frames := 1, cells := 0, slots := 0, locals := 20 } : Room)).room s m ([.ref h0].toArray) below meth c H locs 0 0 (MQ below (va_Qi (fun (r : Int32) (_ : Unit) => True) (fun (_ : Unit) t => Iv dC dI g A f t.heap) A) ([.ref h0].toArray) s 0 0 A) (F0 m 4 ls []) := by
    intro nn
    induction nn with
    | zero => intro y_1 y_2 H locs ls m_4; exact absurd m_4 (Nat.not_lt_zero _)
    | succ nn ih =>
      intro y_1 y_2 H locs ls m_4 hI hS t_3 hl
      have g_5 := Int32.toInt_lt y_1
      have g_6 := Int32.le_toInt y_1
      refine lv_iload_n hx hb dX6_howManyHaveScripts_4 rfl (lv_at hl 0 rfl) ?_
      refine lv_aload_n hx hb dX6_howManyHaveScripts_5 rfl (lv_at hl 2 rfl) ?_
      obtain ⟨x_8, x_9, x_10, x_11, x_12, k_7, b_13, b_14⟩ := op_6 hI i_h0
      refine k_get (ci := 6) (v := .int x_8) (C := RX6) (T := TX6) (N := 10) hx hb hts (fun _ h0_ => List.mem_cons_of_mem _ (List.mem_append_right _ (List.mem_append_left _ h0_))) hown hK hI i_h0.1 k_7 rfl 5 (by decide) (hts (.fieldLink RX6 48 "DeadlineShare$State" "count" "I") (List.mem_cons_of_mem _ (List.mem_append_left _ (List.mem_of_getElem? (i := 0) rfl)))) (fun _ h9 => h9) rfl dX6_howManyHaveScripts_6 ?_
      refine lv_icmp_ge (tgt := 36) hx hb dX6_howManyHaveScripts_9 (by decide) (fun c_15 => ?_) (fun c_15 => ?_)
      · have c_15 := kc_le rfl rfl c_15
        refine lv_iload_n hx hb dX6_howManyHaveScripts_36 rfl (lv_at hl 1 rfl) ?_
        exact W.iret (v := y_2) hx hb hr (fun t ht hW => ⟨⟨y_2, (), rfl, trivial, k_ret ht hI⟩, hS.F ht⟩) hS.2.2 dX6_howManyHaveScripts_37
      · have c_15 := kn_le rfl rfl c_15
        refine lv_aload_n hx hb dX6_howManyHaveScripts_12 rfl (lv_at hl 2 rfl) ?_
        refine k_get (ci := 6) (v := .ref (gr g h0 1)) (C := RX6) (T := TX6) (N := 10) hx hb hts (fun _ h0_ => List.mem_cons_of_mem _ (List.mem_append_right _ (List.mem_append_left _ h0_))) hown hK hI i_h0.1 k_7 rfl 1 (by decide) (hts (.fieldLink RX6 11 "DeadlineShare$State" "tasks" "[LDeadlineShare$Task;") (List.mem_cons_of_mem _ (List.mem_append_left _ (List.mem_of_getElem? (i := 1) rfl)))) (fun _ h9 => h9) rfl dX6_howManyHaveScripts_13 ?_
        have i_17 := kw_6_1 hG i_h0
        refine lv_iload_n hx hb dX6_howManyHaveScripts_16 rfl (lv_at hl 0 rfl) ?_
        obtain ⟨q_19, k_18, b_20⟩ := op_20 hI i_17
        refine k_aald hx hb hK hI i_17.1 4 k_18 rfl (vp_in_iff.mpr (by omega)) b_20 (fun _ hj => kw_20 hG i_17 hj) dX6_howManyHaveScripts_17 (fun a_21 i_22 => ?_)
        obtain ⟨x_24, x_25, x_26, x_27, x_28, x_29, x_30, x_31, x_32, x_33, x_34, x_35, x_36, x_37, x_38, x_39, k_23⟩ := op_8 hI i_22
        refine k_get (ci := 8) (v := .ref (gr g a_21 1)) (C := RX8) (T := TX8) (N := 18) hx hb hts (fun _ h0_ => List.mem_cons_of_mem _ (List.mem_append_right _ (List.mem_append_right _ (List.mem_append_left _ h0_)))) hown hK hI i_22.1 k_23 rfl 1 (by decide) (hts (.fieldLink RX6 128 "DeadlineShare$Task" "script" "LDeadlineShare$Script;") (List.mem_cons_of_mem _ (List.mem_append_left _ (List.mem_of_getElem? (i := 2) rfl)))) (fun _ h9 => h9) rfl dX6_howManyHaveScripts_18 ?_
        have i_41 := kw_8_1 hG i_22
        obtain ⟨x_43, x_44, x_45, x_46, k_42, b_47, b_48⟩ := op_5 hI i_41
        refine va_calli (va_runV (As := []) (rest := []) ⟨hx, hb, hml, hown, hts⟩ (c_X5_isThere l dC dI g A hG f (gr g a_21 1) i_41) (cwV 0 hts (gi_V (fun w_ h0_ => ⟨List.mem_cons_of_mem _ (List.mem_append_right _ (List.mem_append_right _ (List.mem_append_right _ (List.mem_append_left _ h0_)))), (tb_c_X5_isThere w_ h0_).2⟩) (List.mem_cons_of_mem _ (List.mem_append_left _ (List.mem_of_getElem? (i := 3) rfl))) (List.mem_cons_of_mem _ (List.mem_append_left _ (List.mem_of_getElem? (i := 4) rfl))) (List.mem_cons_of_mem _ (List.mem_append_left _ (List.mem_of_getElem? (i := 5) rfl))) (List.mem_cons_of_mem _ (List.mem_append_left _ (List.mem_of_getElem? (i := 6) rfl)))) rfl rfl rfl (by decide +kernel) ⟨Nat.le_of_ble_eq_true rfl, Nat.le_of_ble_eq_true rfl⟩) ⟨fun a U g mk q => ⟨q.1, q.2.calling rfl rfl⟩, k_recv hK hI i_41.1 k_42 (ci := 5) rfl, fun U hU hW => ⟨rfl, kIn.of hI hK hE hS hU hW⟩⟩ rfl rfl hl.1 rfl (lv_room (Nat.le_of_ble_eq_true rfl)) dX6_howManyHaveScripts_21 ⟨Nat.le_of_ble_eq_true rfl, Nat.le_of_ble_eq_true rfl⟩) hS (fun q _ h => h) (fun q h => h) (fun r_50 u t H1 locs ht hvm w_49 hB hz1 hk1 hS => ?_)
        have hI : Iv dC dI g A f t.heap := hB
        rw [ht] at hI
        generalize H1 = H at hI hS ⊢
        refine W.widen (k := 0) (n := 0) (Nat.le_of_ble_eq_true rfl) (Nat.le_of_ble_eq_true rfl) ?_
        have J_30 : ∀ (y_51 : Int32) (H : Heap) (locs : List Loc) (ls : Array Slot), Iv dC dI g A f H → va_S A s.heap H locs → lv_has ls 3 [(2, .int y_1), (1, .int y_51), (0, .ref h0)] → W p l e (headSpec wq_c_X6_howManyHaveScripts ({ frames := 1, cells := 0, slots := 0, locals := 20 } : Room)).room s m ([.ref h0].toArray) below meth c H locs 0 0 (MQ below (va_Qi (fun (r : Int32) (_ : Unit) => True) (fun (_ : Unit) t => Iv dC dI g A f t.heap) A) ([.ref h0].toArray) s 0 0 A) (F0 m 30 ls []) := by
          intro y_51 H locs ls hI hS  hl
          obtain ⟨v_52, ev_52⟩ : ∃ y : Int32, y = y_1 + Int32.ofInt 1 := ⟨_, rfl⟩
          refine lv_iinc (v := v_52) (lv' := [(2, .int v_52), (1, .int y_51), (0, .ref h0)]) hx hb dX6_howManyHaveScripts_30 hl (k := 0) rfl ev_52.symm (by decide) rfl (fun ls hl => ?_)
          have tv_52 := k_inc y_1
          rw [← ev_52] at tv_52
          refine lv_goto (tgt := 4) hx hb dX6_howManyHaveScripts_33 (by decide) ?_
          exact ih v_52 y_51 _ _ _ (by omega) hI hS (by first | omega | decide) (lv_sub hl [0, 1, 2] rfl)
        refine lv_if_eq (tgt := 30) hx hb dX6_howManyHaveScripts_24 (by decide) (fun c_53 => ?_) (fun c_53 => ?_)
        · have c_53 := kc_eq rfl (by decide : Int32.toInt 0 = 0) c_53
          exact J_30 y_2 _ _ _ hI hS  (lv_sub hl [0, 1, 2] rfl)
        · have c_53 := kn_eq rfl (by decide : Int32.toInt 0 = 0) c_53
          obtain ⟨v_54, ev_54⟩ : ∃ y : Int32, y = y_2 + Int32.ofInt 1 := ⟨_, rfl⟩
          refine lv_iinc (v := v_54) (lv' := [(1, .int v_54), (2, .int y_1), (0, .ref h0)]) hx hb dX6_howManyHaveScripts_27 hl (k := 1) rfl ev_54.symm (by decide) rfl (fun ls hl => ?_)
          have tv_54 := k_inc y_2
          rw [← ev_54] at tv_54
          exact J_30 v_54 _ _ _ hI hS  (lv_sub hl [1, 0, 2] rfl)
  exact K_4 _ 0 0 _ _ _ (Nat.lt_succ_self _) hI hS (by first | omega | decide) (lv_sub hl [0, 1, 2] rfl)
theorem tw_272 : q_g (.code yX6_hasRoomFor cX6_hasRoomFor 2 (some .boolean)) := ⟨(List.mem_append_right _ (List.mem_of_getElem? (i := 490) (by decide +kernel))), good_of_word (by decide +kernel)⟩
def ow_c_X6_hasRoomFor : List Cond := [.methodLink RX6 108 yX6_weightOfAll, .instanceMethod yX6_weightOfAll, .selects RX6 yX6_weightOfAll yX6_weightOfAll, .initialized RX6]
def wq_c_X6_hasRoomFor : List Cond := .code yX6_hasRoomFor cX6_hasRoomFor 2 (some .boolean) :: (ow_c_X6_hasRoomFor ++ (wq_c_X6_weightOfAll ++ ([] : List Cond)))
theorem tb_c_X6_hasRoomFor : ∀ w ∈ wq_c_X6_hasRoomFor, q_g w := by
  unfold wq_c_X6_hasRoomFor ow_c_X6_hasRoomFor
  exact q_cons tw_272 (q_app (q_cons tw_264 (q_cons tw_88 (q_cons tw_87 (q_cons tw_47 q_nil)))) (q_app tb_c_X6_weightOfAll q_nil))
set_option maxHeartbeats 4000000 in
set_option maxRecDepth 100000 in
theorem c_X6_hasRoomFor (l : Launch) (dC : Nat → ClassId) (dI : Nat → Nat → Nat) (g : kG) (A : Nat → Prop) (hG : kWf g) (f : Nat → va_E) (h0 : Nat) (p1 : Int32) (i_h0 : ik g 6 h0) : Met l yX6_hasRoomFor wq_c_X6_hasRoomFor ({ frames := 1, cells := 0, slots := 0, locals := 22 } : Room) (va_Pc [.ref h0, .int p1] (fun U => kIn dC dI g A f U)) (va_Qi (fun (r : Int32) (_ : Unit) => True) (fun (_ : Unit) t => Iv dC dI g A f t.heap) A) 0 0 A := by
  refine Met.ofW (cc := cX6_hasRoomFor) (maxL := 2) (ret := (some .boolean)) (by decide) rfl ?_
  intro p e s m args below meth c s₁ B hml hv
  obtain ⟨rfl, hI, hK, hE⟩ := hv
  have hx := B.exec
  have hb := B.bytes
  have hr := B.returns
  have hts := atoms_spec (ws := wq_c_X6_hasRoomFor) B.pre
  have hown : s.vm.findClass RX6 = some m.cls := findClass_of_methodNamed B.named
  have hlocks := B.notSynchronized
  have hS : va_S A s.heap s.heap [] := va_S.rf
  have hl := lv_entry ([.ref h0, .int p1]) (n := 2) (Nat.le_of_ble_eq_true rfl)
  rw [lg_entry_eq]
  generalize (lg_sl ([.ref h0, .int p1]) ++ List.replicate (2 - (lg_sl ([.ref h0, .int p1])).length) Slot.unset).toArray = ls at hl ⊢
  have hl : lv_has ls 2 [(0, .ref h0), (1, .int p1)] := hl
  refine lv_aload_n hx hb dX6_hasRoomFor_0 rfl (lv_at hl 0 rfl) ?_
  obtain ⟨x_2, x_3, x_4, x_5, x_6, k_1, b_7, b_8⟩ := op_6 hI i_h0
  refine va_calli (va_runV (As := []) (rest := []) ⟨hx, hb, hml, hown, hts⟩ (c_X6_weightOfAll l dC dI g A hG f h0 i_h0) (cwV 0 hts (gi_V (fun w_ h0_ => ⟨List.mem_cons_of_mem _ (List.mem_append_right _ (List.mem_append_left _ h0_)), (tb_c_X6_weightOfAll w_ h0_).2⟩) (List.mem_cons_of_mem _ (List.mem_append_left _ (List.mem_of_getElem? (i := 0) rfl))) (List.mem_cons_of_mem _ (List.mem_append_left _ (List.mem_of_getElem? (i := 1) rfl))) (List.mem_cons_of_mem _ (List.mem_append_left _ (List.mem_of_getElem? (i := 2) rfl))) (List.mem_cons_of_mem _ (List.mem_append_left _ (List.mem_of_getElem? (i := 3) rfl)))) rfl rfl rfl (by decide +kernel) ⟨Nat.le_of_ble_eq_true rfl, Nat.le_of_ble_eq_true rfl⟩) ⟨fun a U g mk q => ⟨q.1, q.2.calling rfl rfl⟩, k_recv hK hI i_h0.1 k_1 (ci := 6) rfl, fun U hU hW => ⟨rfl, kIn.of hI hK hE hS hU hW⟩⟩ rfl rfl hl.1 rfl (lv_room (Nat.le_of_ble_eq_true rfl)) dX6_hasRoomFor_1 ⟨Nat.le_of_ble_eq_true rfl, Nat.le_of_ble_eq_true rfl⟩) hS (fun q _ h => h) (fun q h => h) (fun r_10 u t H1 locs ht hvm w_9 hB hz1 hk1 hS => ?_)
  have hI : Iv dC dI g A f t.heap := hB
  rw [ht] at hI
  generalize H1 = H at hI hS ⊢
  refine W.widen (k := 0) (n := 0) (Nat.le_of_ble_eq_true rfl) (Nat.le_of_ble_eq_true rfl) ?_
  refine lv_iload_n hx hb dX6_hasRoomFor_4 rfl (lv_at hl 1 rfl) ?_
  refine lv_iadd hx hb dX6_hasRoomFor_5 ?_
  refine lv_topi (fun v_11 ev_11 => ?_)
  have tv_11 := k_ad r_10 p1
  rw [← ev_11] at tv_11
  refine lv_bipush (v := 24) hx hb dX6_hasRoomFor_6 (by decide) ?_
  refine lv_icmp_gt (tgt := 15) hx hb dX6_hasRoomFor_8 (by decide) (fun c_12 => ?_) (fun c_12 => ?_)
  · have c_12 := kc_lt (by decide : Int32.toInt 24 = 24) rfl c_12
    refine lv_iconst (v := 0) hx hb dX6_hasRoomFor_15 (by decide) ?_
    exact W.zret (v := 0) hx hb hr rfl (fun t ht hW => ⟨⟨0, (), rfl, trivial, k_ret ht hI⟩, hS.F ht⟩) hS.2.2 dX6_hasRoomFor_16
  · have c_12 := kn_lt (by decide : Int32.toInt 24 = 24) rfl c_12
    refine lv_iconst (v := 1) hx hb dX6_hasRoomFor_11 (by decide) ?_
    refine lv_goto (tgt := 16) hx hb dX6_hasRoomFor_12 (by decide) ?_
    exact W.zret (v := 1) hx hb hr rfl (fun t ht hW => ⟨⟨1, (), rfl, trivial, k_ret ht hI⟩, hS.F ht⟩) hS.2.2 dX6_hasRoomFor_16
