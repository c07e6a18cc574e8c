theorem tw_721 : q_g (.code yX12_in cX12_in 6 (some .boolean)) := ⟨(List.mem_append_right _ (List.mem_of_getElem? (i := 1198) (by decide +kernel))), good_of_word (by decide +kernel)⟩
def ow_c_X12_in : List Cond := []
def wq_c_X12_in : List Cond := .code yX12_in cX12_in 6 (some .boolean) :: (ow_c_X12_in ++ ([] : List Cond))
theorem tb_c_X12_in : ∀ w ∈ wq_c_X12_in, q_g w := by
  unfold wq_c_X12_in ow_c_X12_in
  exact q_cons tw_721 (q_app q_nil q_nil)
set_option maxHeartbeats 4000000 in
set_option maxRecDepth 100000 in
theorem c_X12_in (l : Launch) (dC : Nat → ClassId) (dI : Nat → Nat → Nat) (g : kG) (A : Nat → Prop) (hG : kWf g) (f : Nat → va_E) (p1 : Int64) (p2 : Int64) (p3 : Int64) : Met l yX12_in wq_c_X12_in ({ frames := 0, cells := 0, slots := 0, locals := 0 } : Room) (va_Pc [.long p1, .long p2, .long p3] (fun U => kIn dC dI g A f U)) (va_Qi (fun (r : Int32) (_ : Unit) => (r.toInt = 0 ∧ (p1.toInt < p2.toInt ∨ p3.toInt < p1.toInt)) ∨ (r.toInt = 1 ∧ p2.toInt ≤ p1.toInt ∧ p1.toInt ≤ p3.toInt)) (fun (_ : Unit) t => Iv dC dI g A f t.heap) A) 0 0 A := by
  refine Met.ofW (cc := cX12_in) (maxL := 6) (ret := (some .boolean)) (by decide) rfl ?_
  intro p e s m args below meth c s₁ B hml hv
  obtain ⟨rfl, hI, hK, hE⟩ := hv
  have hx := B.exec
  have hb := B.bytes
  have hr := B.returns
  have hts := atoms_spec (ws := wq_c_X12_in) B.pre
  have hown : s.vm.findClass RX12 = some m.cls := findClass_of_methodNamed B.named
  have hlocks := B.notSynchronized
  have hS : va_S A s.heap s.heap [] := va_S.rf
  have hl := lv_entry ([.long p1, .long p2, .long p3]) (n := 6) (Nat.le_of_ble_eq_true rfl)
  rw [lg_entry_eq]
  generalize (lg_sl ([.long p1, .long p2, .long p3]) ++ List.replicate (6 - (lg_sl ([.long p1, .long p2, .long p3])).length) Slot.unset).toArray = ls at hl ⊢
  have hl : lv_has ls 6 [(0, .long p1), (2, .long p2), (4, .long p3)] := hl
  refine lv_lload_n hx hb dX12_in_0 rfl (lv_at hl 0 rfl) ?_
  refine lv_lload_n hx hb dX12_in_1 rfl (lv_at hl 1 rfl) ?_
  refine W.lcmp hx hb dX12_in_2 ?_
  refine lv_if_lt (tgt := 17) hx hb dX12_in_3 (by decide) (fun c_1 => ?_) (fun c_1 => ?_)
  · have c_1 := lc_lt rfl rfl ((lg_cmp_lt _ _).mp c_1)
    refine lv_iconst (v := 0) hx hb dX12_in_17 (by decide) ?_
    have w_2 : ((0 : Int32).toInt = 0 ∧ (p1.toInt < p2.toInt ∨ p3.toInt < p1.toInt)) ∨ ((0 : Int32).toInt = 1 ∧ p2.toInt ≤ p1.toInt ∧ p1.toInt ≤ p3.toInt) := by rw [show Int32.toInt (0) = 0 from by decide]; omega
    exact W.zret (v := 0) hx hb hr rfl (fun t ht hW => ⟨⟨0, (), rfl, w_2, k_ret ht hI⟩, hS.F ht⟩) hS.2.2 dX12_in_18
  · have c_1 := ln_lt rfl rfl (fun h9 => c_1 ((lg_cmp_lt _ _).mpr h9))
    refine lv_lload_n hx hb dX12_in_6 rfl (lv_at hl 0 rfl) ?_
    refine lv_lload hx hb dX12_in_7 (lv_at hl 2 rfl) ?_
    refine W.lcmp hx hb dX12_in_9 ?_
    refine lv_if_gt (tgt := 17) hx hb dX12_in_10 (by decide) (fun c_3 => ?_) (fun c_3 => ?_)
    · have c_3 := lc_lt rfl rfl ((lg_cmp_gt _ _).mp c_3)
      refine lv_iconst (v := 0) hx hb dX12_in_17 (by decide) ?_
      have w_4 : ((0 : Int32).toInt = 0 ∧ (p1.toInt < p2.toInt ∨ p3.toInt < p1.toInt)) ∨ ((0 : Int32).toInt = 1 ∧ p2.toInt ≤ p1.toInt ∧ p1.toInt ≤ p3.toInt) := by rw [show Int32.toInt (0) = 0 from by decide]; omega
      exact W.zret (v := 0) hx hb hr rfl (fun t ht hW => ⟨⟨0, (), rfl, w_4, k_ret ht hI⟩, hS.F ht⟩) hS.2.2 dX12_in_18
    · have c_3 := ln_lt rfl rfl (fun h9 => c_3 ((lg_cmp_gt _ _).mpr h9))
      refine lv_iconst (v := 1) hx hb dX12_in_13 (by decide) ?_
      refine lv_goto (tgt := 18) hx hb dX12_in_14 (by decide) ?_
      have w_5 : ((1 : Int32).toInt = 0 ∧ (p1.toInt < p2.toInt ∨ p3.toInt < p1.toInt)) ∨ ((1 : Int32).toInt = 1 ∧ p2.toInt ≤ p1.toInt ∧ p1.toInt ≤ p3.toInt) := by rw [show Int32.toInt (1) = 1 from by decide]; omega
      exact W.zret (v := 1) hx hb hr rfl (fun t ht hW => ⟨⟨1, (), rfl, w_5, k_ret ht hI⟩, hS.F ht⟩) hS.2.2 dX12_in_18
theorem tw_722 : q_g (.code yX12_down cX12_down 6 (some .long)) := ⟨(List.mem_append_right _ (List.mem_of_getElem? (i := 1278) (by decide +kernel))), good_of_word (by decide +kernel)⟩
def ow_c_X12_down : List Cond := []
def wq_c_X12_down : List Cond := .code yX12_down cX12_down 6 (some .long) :: (ow_c_X12_down ++ ([] : List Cond))
theorem tb_c_X12_down : ∀ w ∈ wq_c_X12_down, q_g w := by
  unfold wq_c_X12_down ow_c_X12_down
  exact q_cons tw_722 (q_app q_nil q_nil)
set_option maxHeartbeats 4000000 in
set_option maxRecDepth 100000 in
theorem c_X12_down (l : Launch) (dC : Nat → ClassId) (dI : Nat → Nat → Nat) (g : kG) (A : Nat → Prop) (hG : kWf g) (f : Nat → va_E) (p1 : Int64) (p2 : Int64) (hb9 : p2.toInt ≠ 0) : Met l yX12_down wq_c_X12_down ({ frames := 0, cells := 0, slots := 0, locals := 0 } : Room) (va_Pc [.long p1, .long p2] (fun U => kIn dC dI g A f U)) (va_Ql (fun (r : Int64) (_ : Unit) => True) (fun (_ : Unit) t => Iv dC dI g A f t.heap) A) 0 0 A := by
  refine Met.ofW (cc := cX12_down) (maxL := 6) (ret := (some .long)) (by decide) rfl ?_
  intro p e s m args below meth c s₁ B hml hv
  obtain ⟨rfl, hI, hK, hE⟩ := hv
  have hx := B.exec
  have hb := B.bytes
  have hr := B.returns
  have hts := atoms_spec (ws := wq_c_X12_down) B.pre
  have hown : s.vm.findClass RX12 = some m.cls := findClass_of_methodNamed B.named
  have hlocks := B.notSynchronized
  have hS : va_S A s.heap s.heap [] := va_S.rf
  have hl := lv_entry ([.long p1, .long p2]) (n := 6) (Nat.le_of_ble_eq_true rfl)
  rw [lg_entry_eq]
  generalize (lg_sl ([.long p1, .long p2]) ++ List.replicate (6 - (lg_sl ([.long p1, .long p2])).length) Slot.unset).toArray = ls at hl ⊢
  have hl : lv_has ls 6 [(0, .long p1), (2, .long p2)] := hl
  refine lv_lload_n hx hb dX12_down_0 rfl (lv_at hl 0 rfl) ?_
  refine lv_lload_n hx hb dX12_down_1 rfl (lv_at hl 1 rfl) ?_
  refine lv_ldiv hx hb dX12_down_2 (k_ne0L (by omega)) ?_
  refine lv_topl (fun v_1 ev_1 => ?_)
  refine lv_lstore (lv' := [(4, .long v_1), (0, .long p1), (2, .long p2)]) hx hb dX12_down_3 hl (by decide) rfl (fun ls hl => ?_)
  refine lv_lload_n hx hb dX12_down_5 rfl (lv_at hl 1 rfl) ?_
  refine lv_lload_n hx hb dX12_down_6 rfl (lv_at hl 2 rfl) ?_
  refine lv_lrem hx hb dX12_down_7 (k_ne0L (by omega)) ?_
  refine lv_topl (fun v_2 ev_2 => ?_)
  refine lv_lconst (v := 0) hx hb dX12_down_8 (by decide) ?_
  refine W.lcmp hx hb dX12_down_9 ?_
  refine lv_if_ge (tgt := 20) hx hb dX12_down_10 (by decide) (fun c_3 => ?_) (fun c_3 => ?_)
  · have c_3 := lc_le (by decide : Int64.toInt 0 = 0) rfl ((lg_cmp_ge _ _).mp c_3)
    refine lv_lload hx hb dX12_down_20 (lv_at hl 0 rfl) ?_
    exact W.lret (v := v_1) hx hb hr (fun t ht hW => ⟨⟨v_1, (), rfl, trivial, k_ret ht hI⟩, hS.F ht⟩) hS.2.2 dX12_down_22
  · have c_3 := ln_le (by decide : Int64.toInt 0 = 0) rfl (fun h9 => c_3 ((lg_cmp_ge _ _).mpr h9))
    refine lv_lload hx hb dX12_down_13 (lv_at hl 0 rfl) ?_
    refine lv_lconst (v := 1) hx hb dX12_down_15 (by decide) ?_
    refine lv_lsub hx hb dX12_down_16 ?_
    refine lv_topl (fun v_4 ev_4 => ?_)
    have tv_4 := l_sb v_1 1
    rw [← ev_4, show Int64.toInt 1 = 1 from by decide] at tv_4
    refine lv_goto (tgt := 22) hx hb dX12_down_17 (by decide) ?_
    exact W.lret (v := v_4) hx hb hr (fun t ht hW => ⟨⟨v_4, (), rfl, trivial, k_ret ht hI⟩, hS.F ht⟩) hS.2.2 dX12_down_22
theorem tu_X12 : ∀ w ∈ u_ws RX12 TX12 27, q_g w := by
  intro w h
  unfold u_ws at h
  obtain ⟨j, hj, rfl⟩ := List.mem_map.mp h
  have hj := List.mem_range.mp hj
  match j, hj with
  | 0, _ => exact ⟨(List.mem_append_right _ (List.mem_of_getElem? (i := 1124) (by decide +kernel))), good_of_word (by decide +kernel)⟩
  | 1, _ => exact ⟨(List.mem_append_right _ (List.mem_of_getElem? (i := 1126) (by decide +kernel))), good_of_word (by decide +kernel)⟩
  | 2, _ => exact ⟨(List.mem_append_right _ (List.mem_of_getElem? (i := 1128) (by decide +kernel))), good_of_word (by decide +kernel)⟩
  | 3, _ => exact ⟨(List.mem_append_right _ (List.mem_of_getElem? (i := 1130) (by decide +kernel))), good_of_word (by decide +kernel)⟩
  | 4, _ => exact ⟨(List.mem_append_right _ (List.mem_of_getElem? (i := 1132) (by decide +kernel))), good_of_word (by decide +kernel)⟩
  | 5, _ => exact ⟨(List.mem_append_right _ (List.mem_of_getElem? (i := 1134) (by decide +kernel))), good_of_word (by decide +kernel)⟩
  | 6, _ => exact ⟨(List.mem_append_right _ (List.mem_of_getElem? (i := 1136) (by decide +kernel))), good_of_word (by decide +kernel)⟩
  | 7, _ => exact ⟨(List.mem_append_right _ (List.mem_of_getElem? (i := 1138) (by decide +kernel))), good_of_word (by decide +kernel)⟩
  | 8, _ => exact ⟨(List.mem_append_right _ (List.mem_of_getElem? (i := 1140) (by decide +kernel))), good_of_word (by decide +kernel)⟩
  | 9, _ => exact ⟨(List.mem_append_right _ (List.mem_of_getElem? (i := 1142) (by decide +kernel))), good_of_word (by decide +kernel)⟩
  | 10, _ => exact ⟨(List.mem_append_right _ (List.mem_of_getElem? (i := 1144) (by decide +kernel))), good_of_word (by decide +kernel)⟩
  | 11, _ => exact ⟨(List.mem_append_right _ (List.mem_of_getElem? (i := 1146) (by decide +kernel))), good_of_word (by decide +kernel)⟩
  | 12, _ => exact ⟨(List.mem_append_right _ (List.mem_of_getElem? (i := 1148) (by decide +kernel))), good_of_word (by decide +kernel)⟩
  | 13, _ => exact ⟨(List.mem_append_right _ (List.mem_of_getElem? (i := 1150) (by decide +kernel))), good_of_word (by decide +kernel)⟩
  | 14, _ => exact ⟨(List.mem_append_right _ (List.mem_of_getElem? (i := 1152) (by decide +kernel))), good_of_word (by decide +kernel)⟩
  | 15, _ => exact ⟨(List.mem_append_right _ (List.mem_of_getElem? (i := 1154) (by decide +kernel))), good_of_word (by decide +kernel)⟩
  | 16, _ => exact ⟨(List.mem_append_right _ (List.mem_of_getElem? (i := 1156) (by decide +kernel))), good_of_word (by decide +kernel)⟩
  | 17, _ => exact ⟨(List.mem_append_right _ (List.mem_of_getElem? (i := 1158) (by decide +kernel))), good_of_word (by decide +kernel)⟩
  | 18, _ => exact ⟨(List.mem_append_right _ (List.mem_of_getElem? (i := 1160) (by decide +kernel))), good_of_word (by decide +kernel)⟩
  | 19, _ => exact ⟨(List.mem_append_right _ (List.mem_of_getElem? (i := 1162) (by decide +kernel))), good_of_word (by decide +kernel)⟩
  | 20, _ => exact ⟨(List.mem_append_right _ (List.mem_of_getElem? (i := 1164) (by decide +kernel))), good_of_word (by decide +kernel)⟩
  | 21, _ => exact ⟨(List.mem_append_right _ (List.mem_of_getElem? (i := 1166) (by decide +kernel))), good_of_word (by decide +kernel)⟩
  | 22, _ => exact ⟨(List.mem_append_right _ (List.mem_of_getElem? (i := 1168) (by decide +kernel))), good_of_word (by decide +kernel)⟩
  | 23, _ => exact ⟨(List.mem_append_right _ (List.mem_of_getElem? (i := 1170) (by decide +kernel))), good_of_word (by decide +kernel)⟩
  | 24, _ => exact ⟨(List.mem_append_right _ (List.mem_of_getElem? (i := 1172) (by decide +kernel))), good_of_word (by decide +kernel)⟩
  | 25, _ => exact ⟨(List.mem_append_right _ (List.mem_of_getElem? (i := 1174) (by decide +kernel))), good_of_word (by decide +kernel)⟩
  | 26, _ => exact ⟨(List.mem_append_right _ (List.mem_of_getElem? (i := 1176) (by decide +kernel))), good_of_word (by decide +kernel)⟩
  | (j9 + 27), h9 => exact absurd h9 (by omega)
theorem tw_723 : q_g (.fieldLink RX12 70 "DeadlineShareModel" "status" "I") := ⟨(List.mem_append_right _ (List.mem_of_getElem? (i := 1098) (by decide +kernel))), good_of_word (by decide +kernel)⟩
theorem tw_724 : q_g (.code yX12_tell cX12_tell 2 (some .int)) := ⟨(List.mem_append_right _ (List.mem_of_getElem? (i := 1190) (by decide +kernel))), good_of_word (by decide +kernel)⟩
def ow_c_X12_tell : List Cond := [.fieldLink RX12 70 "DeadlineShareModel" "status" "I"]
def wq_c_X12_tell : List Cond := .code yX12_tell cX12_tell 2 (some .int) :: (ow_c_X12_tell ++ (u_ws RX12 TX12 27 ++ ([] : List Cond)))
theorem tb_c_X12_tell : ∀ w ∈ wq_c_X12_tell, q_g w := by
  unfold wq_c_X12_tell ow_c_X12_tell
  exact q_cons tw_724 (q_app (q_cons tw_723 q_nil) (q_app tu_X12 q_nil))
set_option maxHeartbeats 4000000 in
set_option maxRecDepth 100000 in
theorem c_X12_tell (l : Launch) (dC : Nat → ClassId) (dI : Nat → Nat → Nat) (g : kG) (A : Nat → Prop) (hG : kWf g) (f : Nat → va_E) (h0 : Nat) (p1 : Int32) (z0 : Int32) (z1 : Int32) (z10 : Int32) (z12 : Int32) (z13 : Int32) (z14 : Int32) (z15 : Int32) (z16 : Int64) (z17 : Int32) (z18 : Int32) (z23 : Int32) (z24 : Int64) (z25 : Int64) (z26 : Int64) (i_h0 : ik g 12 h0) (hc0 : f h0 = .inr (12, [.int z0, .int z1, .ref (gr g h0 2), .ref (gr g h0 3), .ref (gr g h0 4), .ref (gr g h0 5), .ref (gr g h0 6), .ref (gr g h0 7), .ref (gr g h0 8), .ref (gr g h0 9), .int z10, .ref (gr g h0 11), .int z12, .int z13, .int z14, .int z15, .long z16, .int z17, .int z18, .ref (gr g h0 19), .ref (gr g h0 20), .ref (gr g h0 21), .ref (gr g h0 22), .int z23, .long z24, .long z25, .long z26])) (hc0_10 : 0 ≤ z10.toInt ∧ z10.toInt ≤ 10) (hc0_12 : 0 ≤ z12.toInt ∧ z12.toInt ≤ 200) (hc0_23 : 0 ≤ z23.toInt ∧ z23.toInt ≤ 8) : Met l yX12_tell wq_c_X12_tell ({ frames := 0, cells := 0, slots := 0, locals := 0 } : Room) (va_Pc [.ref h0, .int p1] (fun U => kIn dC dI g A f U)) (va_Qi (fun (r : Int32) (_ : Unit) => r.toInt = p1.toInt) (fun (_ : Unit) t => ∃ f1 : Nat → va_E, Iv dC dI g A f1 t.heap ∧ Kp g [12] f f1 ∧ (f1 h0 = .inr (12, [.int z0, .int 0, .ref (gr g h0 2), .ref (gr g h0 3), .ref (gr g h0 4), .ref (gr g h0 5), .ref (gr g h0 6), .ref (gr g h0 7), .ref (gr g h0 8), .ref (gr g h0 9), .int z10, .ref (gr g h0 11), .int z12, .int z13, .int z14, .int z15, .long z16, .int z17, .int z18, .ref (gr g h0 19), .ref (gr g h0 20), .ref (gr g h0 21), .ref (gr g h0 22), .int z23, .long z24, .long z25, .long z26]))) A) 0 0 A := by
  refine Met.ofW (cc := cX12_tell) (maxL := 2) (ret := (some .int)) (by decide) rfl ?_
  intro p e s m args below meth c s₁ B hml hv
  obtain ⟨rfl, hI, hK, hE⟩ := hv
  have hx := B.exec
  have hb := B.bytes
  have hr := B.returns
  have hts := atoms_spec (ws := wq_c_X12_tell) B.pre
  have hown : s.vm.findClass RX12 = some m.cls := findClass_of_methodNamed B.named
  have hlocks := B.notSynchronized
  have hS : va_S A s.heap s.heap [] := va_S.rf
  have hk0 : Kp g [12] f f := Kp.rf
  have hl := lv_entry ([.ref h0, .int p1]) (n := 2) (Nat.le_of_ble_eq_true rfl)
  rw [lg_entry_eq]
  generalize (lg_sl ([.ref h0, .int p1]) ++ List.replicate (2 - (lg_sl ([.ref h0, .int p1])).length) Slot.unset).toArray = ls at hl ⊢
  have hl : lv_has ls 2 [(0, .ref h0), (1, .int p1)] := hl
  refine lv_aload_n hx hb dX12_tell_0 rfl (lv_at hl 0 rfl) ?_
  refine lv_iconst (v := 0) hx hb dX12_tell_1 (by decide) ?_
  refine k_put (ci := 12) (v := .int 0) (ty := .int) (C := RX12) (T := TX12) (N := 27) hx hb hts (fun _ h0_ => List.mem_cons_of_mem _ (List.mem_append_right _ (List.mem_append_left _ h0_))) tyX12 tyX12_ok nmX12 hown hK hI hS i_h0.1 hc0 rfl 1 (by decide) (hts (.fieldLink RX12 70 "DeadlineShareModel" "status" "I") (List.mem_cons_of_mem _ (List.mem_append_left _ (List.mem_of_getElem? (i := 0) rfl)))) (fun _ h9 => h9) rfl (by decide +kernel) rfl rfl (Nat.le_of_ble_eq_true rfl) rfl (cl_12 i_h0 (by omega) (by omega) (by omega)) dX12_tell_2 (fun f_1 H locs e_2 hI hS => ?_)
  have k_4 : f_1 h0 = .inr (12, [.int z0, .int 0, .ref (gr g h0 2), .ref (gr g h0 3), .ref (gr g h0 4), .ref (gr g h0 5), .ref (gr g h0 6), .ref (gr g h0 7), .ref (gr g h0 8), .ref (gr g h0 9), .int z10, .ref (gr g h0 11), .int z12, .int z13, .int z14, .int z15, .long z16, .int z17, .int z18, .ref (gr g h0 19), .ref (gr g h0 20), .ref (gr g h0 21), .ref (gr g h0 22), .int z23, .long z24, .long z25, .long z26]) := by rw [e_2]; exact va_up_self _ _ _
  have kp_3 := Kp.put hk0 i_h0 (by decide) e_2
  refine lv_iload_n hx hb dX12_tell_5 rfl (lv_at hl 1 rfl) ?_
  have w_5 : p1.toInt = p1.toInt := by omega
  exact W.iret (v := p1) hx hb hr (fun t ht hW => ⟨⟨p1, (), rfl, w_5, ⟨f_1, k_ret ht hI, kp_3, k_4⟩⟩, hS.F ht⟩) hS.2.2 dX12_tell_6
theorem tw_725 : q_g (.fieldLink RX12 7 "DeadlineShareModel" "refusals" "[I") := ⟨(List.mem_append_right _ (List.mem_of_getElem? (i := 1099) (by decide +kernel))), good_of_word (by decide +kernel)⟩
theorem tw_726 : q_g (.code yX12_refuse cX12_refuse 2 (some .int)) := ⟨(List.mem_append_right _ (List.mem_of_getElem? (i := 1186) (by decide +kernel))), good_of_word (by decide +kernel)⟩
def ow_c_X12_refuse : List Cond := [.fieldLink RX12 70 "DeadlineShareModel" "status" "I", .fieldLink RX12 7 "DeadlineShareModel" "refusals" "[I"]
def wq_c_X12_refuse : List Cond := .code yX12_refuse cX12_refuse 2 (some .int) :: (ow_c_X12_refuse ++ (u_ws RX12 TX12 27 ++ ([] : List Cond)))
theorem tb_c_X12_refuse : ∀ w ∈ wq_c_X12_refuse, q_g w := by
  unfold wq_c_X12_refuse ow_c_X12_refuse
  exact q_cons tw_726 (q_app (q_cons tw_723 (q_cons tw_725 q_nil)) (q_app tu_X12 q_nil))
set_option maxHeartbeats 4000000 in
set_option maxRecDepth 100000 in
theorem c_X12_refuse (l : Launch) (dC : Nat → ClassId) (dI : Nat → Nat → Nat) (g : kG) (A : Nat → Prop) (hG : kWf g) (f : Nat → va_E) (h0 : Nat) (p1 : Int32) (z0 : Int32) (z1 : Int32) (z10 : Int32) (z12 : Int32) (z13 : Int32) (z14 : Int32) (z15 : Int32) (z16 : Int64) (z17 : Int32) (z18 : Int32) (z23 : Int32) (z24 : Int64) (z25 : Int64) (z26 : Int64) (i_h0 : ik g 12 h0) (hc0 : f h0 = .inr (12, [.int z0, .int z1, .ref (gr g h0 2), .ref (gr g h0 3), .ref (gr g h0 4), .ref (gr g h0 5), .ref (gr g h0 6), .ref (gr g h0 7), .ref (gr g h0 8), .ref (gr g h0 9), .int z10, .ref (gr g h0 11), .int z12, .int z13, .int z14, .int z15, .long z16, .int z17, .int z18, .ref (gr g h0 19), .ref (gr g h0 20), .ref (gr g h0 21), .ref (gr g h0 22), .int z23, .long z24, .long z25, .long z26])) (hc0_10 : 0 ≤ z10.toInt ∧ z10.toInt ≤ 10) (hc0_12 : 0 ≤ z12.toInt ∧ z12.toInt ≤ 200) (hc0_23 : 0 ≤ z23.toInt ∧ z23.toInt ≤ 8) (hw9 : -6 ≤ p1.toInt ∧ p1.toInt ≤ -1) : Met l yX12_refuse wq_c_X12_refuse ({ frames := 0, cells := 0, slots := 0, locals := 0 } : Room) (va_Pc [.ref h0, .int p1] (fun U => kIn dC dI g A f U)) (va_Qi (fun (r : Int32) (_ : Unit) => r.toInt = p1.toInt) (fun (_ : Unit) t => ∃ f1 : Nat → va_E, Iv dC dI g A f1 t.heap ∧ Kp g [12, 30] f f1 ∧ (f1 h0 = .inr (12, [.int z0, .int p1, .ref (gr g h0 2), .ref (gr g h0 3), .ref (gr g h0 4), .ref (gr g h0 5), .ref (gr g h0 6), .ref (gr g h0 7), .ref (gr g h0 8), .ref (gr g h0 9), .int z10, .ref (gr g h0 11), .int z12, .int z13, .int z14, .int z15, .long z16, .int z17, .int z18, .ref (gr g h0 19), .ref (gr g h0 20), .ref (gr g h0 21), .ref (gr g h0 22), .int z23, .long z24, .long z25, .long z26]))) A) 0 0 A := by
  refine Met.ofW (cc := cX12_refuse) (maxL := 2) (ret := (some .int)) (by decide) rfl ?_
  intro p e s m args below meth c s₁ B hml hv
  obtain ⟨rfl, hI, hK, hE⟩ := hv
  have hx := B.exec
  have hb := B.bytes
  have hr := B.returns
  have hts := atoms_spec (ws := wq_c_X12_refuse) B.pre
  have hown : s.vm.findClass RX12 = some m.cls := findClass_of_methodNamed B.named
  have hlocks := B.notSynchronized
  have hS : va_S A s.heap s.heap [] := va_S.rf
  have hk0 : Kp g [12, 30] f f := Kp.rf
  have hl := lv_entry ([.ref h0, .int p1]) (n := 2) (Nat.le_of_ble_eq_true rfl)
  rw [lg_entry_eq]
  generalize (lg_sl ([.ref h0, .int p1]) ++ List.replicate (2 - (lg_sl ([.ref h0, .int p1])).length) Slot.unset).toArray = ls at hl ⊢
  have hl : lv_has ls 2 [(0, .ref h0), (1, .int p1)] := hl
  refine lv_aload_n hx hb dX12_refuse_0 rfl (lv_at hl 0 rfl) ?_
  refine lv_iload_n hx hb dX12_refuse_1 rfl (lv_at hl 1 rfl) ?_
  refine k_put (ci := 12) (v := .int p1) (ty := .int) (C := RX12) (T := TX12) (N := 27) hx hb hts (fun _ h0_ => List.mem_cons_of_mem _ (List.mem_append_right _ (List.mem_append_left _ h0_))) tyX12 tyX12_ok nmX12 hown hK hI hS i_h0.1 hc0 rfl 1 (by decide) (hts (.fieldLink RX12 70 "DeadlineShareModel" "status" "I") (List.mem_cons_of_mem _ (List.mem_append_left _ (List.mem_of_getElem? (i := 0) rfl)))) (fun _ h9 => h9) rfl (by decide +kernel) rfl rfl (Nat.le_of_ble_eq_true rfl) rfl (cl_12 i_h0 (by omega) (by omega) (by omega)) dX12_refuse_2 (fun f_1 H locs e_2 hI hS => ?_)
  have k_4 : f_1 h0 = .inr (12, [.int z0, .int p1, .ref (gr g h0 2), .ref (gr g h0 3), .ref (gr g h0 4), .ref (gr g h0 5), .ref (gr g h0 6), .ref (gr g h0 7), .ref (gr g h0 8), .ref (gr g h0 9), .int z10, .ref (gr g h0 11), .int z12, .int z13, .int z14, .int z15, .long z16, .int z17, .int z18, .ref (gr g h0 19), .ref (gr g h0 20), .ref (gr g h0 21), .ref (gr g h0 22), .int z23, .long z24, .long z25, .long z26]) := by rw [e_2]; exact va_up_self _ _ _
  have kp_3 := Kp.put hk0 i_h0 (by decide) e_2
  refine lv_aload_n hx hb dX12_refuse_5 rfl (lv_at hl 0 rfl) ?_
  refine k_get (ci := 12) (v := .ref (gr g h0 2)) (C := RX12) (T := TX12) (N := 27) hx hb hts (fun _ h0_ => List.mem_cons_of_mem _ (List.mem_append_right _ (List.mem_append_left _ h0_))) hown hK hI i_h0.1 k_4 rfl 2 (by decide) (hts (.fieldLink RX12 7 "DeadlineShareModel" "refusals" "[I") (List.mem_cons_of_mem _ (List.mem_append_left _ (List.mem_of_getElem? (i := 1) rfl)))) (fun _ h9 => h9) rfl dX12_refuse_6 ?_
  have i_6 := kw_12_2 hG i_h0
  refine lv_iload_n hx hb dX12_refuse_9 rfl (lv_at hl 1 rfl) ?_
  refine lv_ineg hx hb dX12_refuse_10 ?_
  refine lv_topi (fun v_7 ev_7 => ?_)
  have tv_7 := k_ng p1
  rw [← ev_7] at tv_7
  refine lv_dup2_11 hx hb dX12_refuse_11 rfl rfl ?_
  obtain ⟨q_9, k_8⟩ := op_30 hI i_6
  refine k_iald hx hb hK hI i_6.1 0 k_8 rfl (vp_in_iff.mpr (by omega)) dX12_refuse_12 ?_
  refine lv_topi (fun v_10 ev_10 => ?_)
  refine lv_iconst (v := 1) hx hb dX12_refuse_13 (by decide) ?_
  refine lv_iadd hx hb dX12_refuse_14 ?_
  refine lv_topi (fun v_11 ev_11 => ?_)
  have tv_11 := k_ad v_10 1
  rw [← ev_11, show Int32.toInt 1 = 1 from by decide] at tv_11
  refine k_iast hx hb hK hI hS i_6.1 0 k_8 rfl (vp_in_iff.mpr (by omega)) (cl_30 i_6) dX12_refuse_15 (fun f_12 H locs e_13 hI hS => ?_)
  generalize eq_14 : upd q_9 (Int32.toNatClampNeg v_7) v_11 = q_14 at e_13
  have k_16 : f_12 h0 = .inr (12, [.int z0, .int p1, .ref (gr g h0 2), .ref (gr g h0 3), .ref (gr g h0 4), .ref (gr g h0 5), .ref (gr g h0 6), .ref (gr g h0 7), .ref (gr g h0 8), .ref (gr g h0 9), .int z10, .ref (gr g h0 11), .int z12, .int z13, .int z14, .int z15, .long z16, .int z17, .int z18, .ref (gr g h0 19), .ref (gr g h0 20), .ref (gr g h0 21), .ref (gr g h0 22), .int z23, .long z24, .long z25, .long z26]) := by rw [e_13, va_up_ne _ _ (ik_ne i_h0 i_6 (by decide))]; exact k_4
  have k_17 : f_12 (gr g h0 2) = .inl (gc g 0, 7, .inl q_14) := by rw [e_13]; exact va_up_self _ _ _
  have kp_15 := Kp.put kp_3 i_6 (by decide) e_13
  refine lv_iload_n hx hb dX12_refuse_16 rfl (lv_at hl 1 rfl) ?_
  have w_18 : p1.toInt = p1.toInt := by omega
  exact W.iret (v := p1) hx hb hr (fun t ht hW => ⟨⟨p1, (), rfl, w_18, ⟨f_12, k_ret ht hI, kp_15, k_16⟩⟩, hS.F ht⟩) hS.2.2 dX12_refuse_17
theorem tw_727 : q_g (.code yX12_at cX12_at 1 (some .int)) := ⟨(List.mem_append_right _ (List.mem_of_getElem? (i := 1229) (by decide +kernel))), good_of_word (by decide +kernel)⟩
def ow_c_X12_at : List Cond := []
def wq_c_X12_at : List Cond := .code yX12_at cX12_at 1 (some .int) :: (ow_c_X12_at ++ ([] : List Cond))
theorem tb_c_X12_at : ∀ w ∈ wq_c_X12_at, q_g w := by
  unfold wq_c_X12_at ow_c_X12_at
  exact q_cons tw_727 (q_app q_nil q_nil)
set_option maxHeartbeats 4000000 in
set_option maxRecDepth 100000 in
theorem c_X12_at (l : Launch) (dC : Nat → ClassId) (dI : Nat → Nat → Nat) (g : kG) (A : Nat → Prop) (hG : kWf g) (f : Nat → va_E) (p1 : Nat) : Met l yX12_at wq_c_X12_at ({ frames := 0, cells := 0, slots := 0, locals := 0 } : Room) (va_Pc [.int (nI p1)] (fun U => kIn dC dI g A f U)) (va_Qi (fun (r : Int32) (_ : Unit) => r = nI (6 + 43 * p1)) (fun (_ : Unit) t => Iv dC dI g A f t.heap) A) 0 0 A := by
  refine Met.ofW (cc := cX12_at) (maxL := 1) (ret := (some .int)) (by decide) rfl ?_
  intro p e s m args below meth c s₁ B hml hv
  obtain ⟨rfl, hI, hK, hE⟩ := hv
  have hx := B.exec
  have hb := B.bytes
  have hr := B.returns
  have hts := atoms_spec (ws := wq_c_X12_at) B.pre
  have hown : s.vm.findClass RX12 = some m.cls := findClass_of_methodNamed B.named
  have hlocks := B.notSynchronized
  have hS : va_S A s.heap s.heap [] := va_S.rf
  have hl := lv_entry ([.int (nI p1)]) (n := 1) (Nat.le_of_ble_eq_true rfl)
  rw [lg_entry_eq]
  generalize (lg_sl ([.int (nI p1)]) ++ List.replicate (1 - (lg_sl ([.int (nI p1)])).length) Slot.unset).toArray = ls at hl ⊢
  have hl : lv_has ls 1 [(0, .int (nI p1))] := hl
  refine lv_bipush (v := 6) hx hb dX12_at_0 (by decide) ?_
  refine lv_bipush (v := 43) hx hb dX12_at_2 (by decide) ?_
  refine lv_iload_n hx hb dX12_at_4 rfl (lv_at hl 0 rfl) ?_
  refine lv_imul hx hb dX12_at_5 ?_
  refine k_topi (y := nI (43 * p1)) ((pk_mul 43 p1).trans (congrArg nI (by omega))) ?_
  refine lv_iadd hx hb dX12_at_6 ?_
  refine k_topi (y := nI (6 + 43 * p1)) ((nI_add 6 (43 * p1)).trans (congrArg nI (by omega))) ?_
  have w_1 : (nI (6 + 43 * p1)) = nI (6 + 43 * p1) := rfl
  exact W.iret (v := (nI (6 + 43 * p1))) hx hb hr (fun t ht hW => ⟨⟨nI (6 + 43 * p1), (), rfl, w_1, k_ret ht hI⟩, hS.F ht⟩) hS.2.2 dX12_at_7
theorem tw_728 : q_g (.initialized RX12) := ⟨(List.mem_append_right _ (List.mem_of_getElem? (i := 13) (by decide +kernel))), good_of_word (by decide +kernel)⟩
theorem tw_729 : q_g (.static yX12_in) := ⟨(List.mem_append_right _ (List.mem_of_getElem? (i := 1197) (by decide +kernel))), good_of_word (by decide +kernel)⟩
theorem tw_730 : q_g (.methodLink RX12 83 yX12_in) := ⟨(List.mem_append_right _ (List.mem_of_getElem? (i := 1196) (by decide +kernel))), good_of_word (by decide +kernel)⟩
theorem tw_731 : q_g (.fieldLink RX12 16 "DeadlineShareModel" "row" "[J") := ⟨(List.mem_append_right _ (List.mem_of_getElem? (i := 1101) (by decide +kernel))), good_of_word (by decide +kernel)⟩
theorem tw_732 : q_g (.code yX12_isTask cX12_isTask 2 (some .boolean)) := ⟨(List.mem_append_right _ (List.mem_of_getElem? (i := 1237) (by decide +kernel))), good_of_word (by decide +kernel)⟩
def ow_c_X12_isTask : List Cond := [.fieldLink RX12 16 "DeadlineShareModel" "row" "[J", .methodLink RX12 83 yX12_in, .static yX12_in, .initialized RX12]
def wq_c_X12_isTask : List Cond := .code yX12_isTask cX12_isTask 2 (some .boolean) :: (ow_c_X12_isTask ++ (u_ws RX12 TX12 27 ++ (wq_c_X12_in ++ ([] : List Cond))))
theorem tb_c_X12_isTask : ∀ w ∈ wq_c_X12_isTask, q_g w := by
  unfold wq_c_X12_isTask ow_c_X12_isTask
  exact q_cons tw_732 (q_app (q_cons tw_731 (q_cons tw_730 (q_cons tw_729 (q_cons tw_728 q_nil)))) (q_app tu_X12 (q_app tb_c_X12_in q_nil)))
set_option maxHeartbeats 4000000 in
set_option maxRecDepth 100000 in
theorem c_X12_isTask (l : Launch) (dC : Nat → ClassId) (dI : Nat → Nat → Nat) (g : kG) (A : Nat → Prop) (hG : kWf g) (f : Nat → va_E) (h0 : Nat) (p1 : Int32) (q : Nat → Int64) (i_h0 : ik g 12 h0) (hc0 : f (gr g h0 4) = .inl (gc g 1, 906, .inr (.inl q))) (hc0_ok : RowOK q) : Met l yX12_isTask wq_c_X12_isTask ({ frames := 1, cells := 0, slots := 0, locals := 25 } : Room) (va_Pc [.ref h0, .int p1] (fun U => kIn dC dI g A f U)) (va_Qi (fun (r : Int32) (_ : Unit) => (r.toInt = 0 ∨ r.toInt = 1) ∧ (r.toInt = 0 ∨ (0 ≤ p1.toInt ∧ p1.toInt < (q 0).toInt))) (fun (_ : Unit) t => Iv dC dI g A f t.heap) A) 0 0 A := by
  refine Met.ofW (cc := cX12_isTask) (maxL := 2) (ret := (some .boolean)) (by decide) rfl ?_
  intro p e s m args below meth c s₁ B hml hv
  obtain ⟨rfl, hI, hK, hE⟩ := hv
  have hx := B.exec
  have hb := B.bytes
  have hr := B.returns
  have hts := atoms_spec (ws := wq_c_X12_isTask) B.pre
  have hown : s.vm.findClass RX12 = some m.cls := findClass_of_methodNamed B.named
  have hlocks := B.notSynchronized
  have hS : va_S A s.heap s.heap [] := va_S.rf
  have hl := lv_entry ([.ref h0, .int p1]) (n := 2) (Nat.le_of_ble_eq_true rfl)
  rw [lg_entry_eq]
  generalize (lg_sl ([.ref h0, .int p1]) ++ List.replicate (2 - (lg_sl ([.ref h0, .int p1])).length) Slot.unset).toArray = ls at hl ⊢
  have hl : lv_has ls 2 [(0, .ref h0), (1, .int p1)] := hl
  have i_1 := kw_12_4 hG i_h0
  have d_2 := rk_hd hc0_ok
  refine lv_iload_n hx hb dX12_isTask_0 rfl (lv_at hl 1 rfl) ?_
  refine lv_i2l (v := p1.toInt64) hx hb dX12_isTask_1 rfl ?_
  have t_3 := Int32.toInt_toInt64 p1
  refine lv_lconst (v := 0) hx hb dX12_isTask_2 (by decide) ?_
  refine lv_aload_n hx hb dX12_isTask_3 rfl (lv_at hl 0 rfl) ?_
  obtain ⟨x_5, x_6, x_7, x_8, x_9, x_10, x_11, x_12, x_13, x_14, x_15, x_16, x_17, x_18, k_4, b_19, b_20, b_21, b_22, b_23, b_24⟩ := op_12 hI i_h0
  refine k_get (ci := 12) (v := .ref (gr g h0 4)) (C := RX12) (T := TX12) (N := 27) hx hb hts (fun _ h0_ => List.mem_cons_of_mem _ (List.mem_append_right _ (List.mem_append_left _ h0_))) hown hK hI i_h0.1 k_4 rfl 4 (by decide) (hts (.fieldLink RX12 16 "DeadlineShareModel" "row" "[J") (List.mem_cons_of_mem _ (List.mem_append_left _ (List.mem_of_getElem? (i := 0) rfl)))) (fun _ h9 => h9) rfl dX12_isTask_4 ?_
  refine lv_iconst (v := 0) hx hb dX12_isTask_7 (by decide) ?_
  refine k_lald hx hb hK hI i_1.1 1 hc0 rfl (by unfold vp_in; decide) dX12_isTask_8 ?_
  refine k_topl (y := q 0) (congrArg q (show Int32.toNatClampNeg 0 = 0 by decide)) ?_
  refine lv_lconst (v := 1) hx hb dX12_isTask_9 (by decide) ?_
  refine lv_lsub hx hb dX12_isTask_10 ?_
  refine lv_topl (fun v_27 ev_27 => ?_)
  have tv_27 := l_sb (q 0) 1
  rw [← ev_27, show Int64.toInt 1 = 1 from by decide] at tv_27
  refine va_calli (va_runS (As := [.long p1.toInt64, .long 0, .long v_27]) (rest := []) ⟨hx, hb, hml, hown, hts⟩ (c_X12_in l dC dI g A hG f p1.toInt64 0 v_27) (va_cwS 3 hts (gi_S (fun w_ h0_ => ⟨List.mem_cons_of_mem _ (List.mem_append_right _ (List.mem_append_right _ (List.mem_append_left _ h0_))), (tb_c_X12_in w_ h0_).2⟩) (List.mem_cons_of_mem _ (List.mem_append_left _ (List.mem_of_getElem? (i := 1) rfl))) (List.mem_cons_of_mem _ (List.mem_append_left _ (List.mem_of_getElem? (i := 2) rfl))) (List.mem_cons_of_mem _ (List.mem_append_left _ (List.mem_of_getElem? (i := 3) rfl)))) rfl rfl rfl (by decide +kernel) ⟨Nat.le_of_ble_eq_true rfl, Nat.le_of_ble_eq_true rfl⟩) ⟨fun a U g mk q => ⟨q.1, q.2.calling rfl rfl⟩, fun U hU hW => ⟨rfl, kIn.of hI hK hE hS hU hW⟩⟩ rfl rfl hl.1 rfl (lv_room (Nat.le_of_ble_eq_true rfl)) dX12_isTask_11 ⟨Nat.le_of_ble_eq_true rfl, Nat.le_of_ble_eq_true rfl⟩) hS (fun q _ h => h) (fun q h => h) (fun r_29 u t H1 locs ht hvm w_28 hB hz1 hk1 hS => ?_)
  have hI : Iv dC dI g A f t.heap := hB
  rw [ht] at hI
  generalize H1 = H at hI hS ⊢
  refine W.widen (k := 0) (n := 0) (Nat.le_of_ble_eq_true rfl) (Nat.le_of_ble_eq_true rfl) ?_
  have w_28 : (r_29.toInt = 0 ∧ (p1.toInt64.toInt < (0 : Int64).toInt ∨ v_27.toInt < p1.toInt64.toInt)) ∨ (r_29.toInt = 1 ∧ (0 : Int64).toInt ≤ p1.toInt64.toInt ∧ p1.toInt64.toInt ≤ v_27.toInt) := w_28
  have g_30 : Int64.toInt (0) = 0 := by decide
  have w_31 : (r_29.toInt = 0 ∨ r_29.toInt = 1) ∧ (r_29.toInt = 0 ∨ (0 ≤ p1.toInt ∧ p1.toInt < (q 0).toInt)) := by omega
  exact W.zret (v := r_29) hx hb hr (nb01 (by omega)) (fun t ht hW => ⟨⟨r_29, (), rfl, w_31, k_ret ht hI⟩, hS.F ht⟩) hS.2.2 dX12_isTask_14
theorem tw_733 : q_g (.static yX12_at) := ⟨(List.mem_append_right _ (List.mem_of_getElem? (i := 1228) (by decide +kernel))), good_of_word (by decide +kernel)⟩
theorem tw_734 : q_g (.methodLink RX12 87 yX12_at) := ⟨(List.mem_append_right _ (List.mem_of_getElem? (i := 1227) (by decide +kernel))), good_of_word (by decide +kernel)⟩
theorem tw_735 : q_g (.code yX12_isOn cX12_isOn 2 (some .boolean)) := ⟨(List.mem_append_right _ (List.mem_of_getElem? (i := 1253) (by decide +kernel))), good_of_word (by decide +kernel)⟩
def ow_c_X12_isOn : List Cond := [.fieldLink RX12 16 "DeadlineShareModel" "row" "[J", .methodLink RX12 87 yX12_at, .static yX12_at, .initialized RX12]
def wq_c_X12_isOn : List Cond := .code yX12_isOn cX12_isOn 2 (some .boolean) :: (ow_c_X12_isOn ++ (u_ws RX12 TX12 27 ++ (wq_c_X12_at ++ ([] : List Cond))))
theorem tb_c_X12_isOn : ∀ w ∈ wq_c_X12_isOn, q_g w := by
  unfold wq_c_X12_isOn ow_c_X12_isOn
  exact q_cons tw_735 (q_app (q_cons tw_731 (q_cons tw_734 (q_cons tw_733 (q_cons tw_728 q_nil)))) (q_app tu_X12 (q_app tb_c_X12_at q_nil)))
set_option maxHeartbeats 4000000 in
set_option maxRecDepth 100000 in
theorem c_X12_isOn (l : Launch) (dC : Nat → ClassId) (dI : Nat → Nat → Nat) (g : kG) (A : Nat → Prop) (hG : kWf g) (f : Nat → va_E) (h0 : Nat) (p1 : Nat) (q : Nat → Int64) (i_h0 : ik g 12 h0) (hc0 : f (gr g h0 4) = .inl (gc g 1, 906, .inr (.inl q))) (hc0_ok : RowOK q) (ht : p1 < 12) : Met l yX12_isOn wq_c_X12_isOn ({ frames := 1, cells := 0, slots := 0, locals := 20 } : Room) (va_Pc [.ref h0, .int (nI p1)] (fun U => kIn dC dI g A f U)) (va_Qi (fun (r : Int32) (_ : Unit) => (r.toInt = 0 ∧ (q (6 + 43 * p1 + 2)).toInt ≠ 1) ∨ (r.toInt = 1 ∧ (q (6 + 43 * p1 + 2)).toInt = 1)) (fun (_ : Unit) t => Iv dC dI g A f t.heap) A) 0 0 A := by
  refine Met.ofW (cc := cX12_isOn) (maxL := 2) (ret := (some .boolean)) (by decide) rfl ?_
  intro p e s m args below meth c s₁ B hml hv
  obtain ⟨rfl, hI, hK, hE⟩ := hv
  have hx := B.exec
  have hb := B.bytes
  have hr := B.returns
  have hts := atoms_spec (ws := wq_c_X12_isOn) B.pre
  have hown : s.vm.findClass RX12 = some m.cls := findClass_of_methodNamed B.named
  have hlocks := B.notSynchronized
  have hS : va_S A s.heap s.heap [] := va_S.rf
  have hl := lv_entry ([.ref h0, .int (nI p1)]) (n := 2) (Nat.le_of_ble_eq_true rfl)
  rw [lg_entry_eq]
  generalize (lg_sl ([.ref h0, .int (nI p1)]) ++ List.replicate (2 - (lg_sl ([.ref h0, .int (nI p1)])).length) Slot.unset).toArray = ls at hl ⊢
  have hl : lv_has ls 2 [(0, .ref h0), (1, .int (nI p1))] := hl
  have i_1 := kw_12_4 hG i_h0
  have d_2 := rk_hd hc0_ok
  refine lv_aload_n hx hb dX12_isOn_0 rfl (lv_at hl 0 rfl) ?_
  obtain ⟨x_4, x_5, x_6, x_7, x_8, x_9, x_10, x_11, x_12, x_13, x_14, x_15, x_16, x_17, k_3, b_18, b_19, b_20, b_21, b_22, b_23⟩ := op_12 hI i_h0
  refine k_get (ci := 12) (v := .ref (gr g h0 4)) (C := RX12) (T := TX12) (N := 27) hx hb hts (fun _ h0_ => List.mem_cons_of_mem _ (List.mem_append_right _ (List.mem_append_left _ h0_))) hown hK hI i_h0.1 k_3 rfl 4 (by decide) (hts (.fieldLink RX12 16 "DeadlineShareModel" "row" "[J") (List.mem_cons_of_mem _ (List.mem_append_left _ (List.mem_of_getElem? (i := 0) rfl)))) (fun _ h9 => h9) rfl dX12_isOn_1 ?_
  refine lv_iload_n hx hb dX12_isOn_4 rfl (lv_at hl 1 rfl) ?_
  refine va_calli (va_runS (As := [.int (nI p1)]) (rest := [.ref (gr g h0 4)]) ⟨hx, hb, hml, hown, hts⟩ (c_X12_at l dC dI g A hG f p1) (va_cwS 1 hts (gi_S (fun w_ h0_ => ⟨List.mem_cons_of_mem _ (List.mem_append_right _ (List.mem_append_right _ (List.mem_append_left _ h0_))), (tb_c_X12_at w_ h0_).2⟩) (List.mem_cons_of_mem _ (List.mem_append_left _ (List.mem_of_getElem? (i := 1) rfl))) (List.mem_cons_of_mem _ (List.mem_append_left _ (List.mem_of_getElem? (i := 2) rfl))) (List.mem_cons_of_mem _ (List.mem_append_left _ (List.mem_of_getElem? (i := 3) rfl)))) rfl rfl rfl (by decide +kernel) ⟨Nat.le_of_ble_eq_true rfl, Nat.le_of_ble_eq_true rfl⟩) ⟨fun a U g mk q => ⟨q.1, q.2.calling rfl rfl⟩, fun U hU hW => ⟨rfl, kIn.of hI hK hE hS hU hW⟩⟩ rfl rfl hl.1 rfl (lv_room (Nat.le_of_ble_eq_true rfl)) dX12_isOn_5 ⟨Nat.le_of_ble_eq_true rfl, Nat.le_of_ble_eq_true rfl⟩) hS (fun q _ h => h) (fun q h => h) (fun r_27 u t H1 locs ht hvm w_26 hB hz1 hk1 hS => ?_)
  have hI : Iv dC dI g A f t.heap := hB
  rw [ht] at hI
  generalize H1 = H at hI hS ⊢
  refine W.widen (k := 0) (n := 0) (Nat.le_of_ble_eq_true rfl) (Nat.le_of_ble_eq_true rfl) ?_
  have w_26 : r_27 = nI (6 + 43 * p1) := w_26
  refine k_topi (y := nI (6 + 43 * p1)) w_26 ?_
  refine lv_iconst (v := 2) hx hb dX12_isOn_8 (by decide) ?_
  refine lv_iadd hx hb dX12_isOn_9 ?_
  refine k_topi (y := nI (6 + 43 * p1 + 2)) ((nI_add (6 + 43 * p1) 2).trans (congrArg nI (by omega))) ?_
  refine k_lald hx hb hK hI i_1.1 1 hc0 rfl (vp_in_nI (by omega) (by omega)) dX12_isOn_10 ?_
  refine k_topl (y := q (6 + 43 * p1 + 2)) (congrArg q (nI_clamp (by omega))) ?_
  refine lv_lconst (v := 1) hx hb dX12_isOn_11 (by decide) ?_
  refine W.lcmp hx hb dX12_isOn_12 ?_
  refine lv_if_ne (tgt := 20) hx hb dX12_isOn_13 (by decide) (fun c_28 => ?_) (fun c_28 => ?_)
  · have c_28 := ln_eq rfl (by decide : Int64.toInt 1 = 1) (fun h9 => c_28 ((lg_cmp_eq _ _).mpr h9))
    refine lv_iconst (v := 0) hx hb dX12_isOn_20 (by decide) ?_
    have w_29 : ((0 : Int32).toInt = 0 ∧ (q (6 + 43 * p1 + 2)).toInt ≠ 1) ∨ ((0 : Int32).toInt = 1 ∧ (q (6 + 43 * p1 + 2)).toInt = 1) := by rw [show Int32.toInt (0) = 0 from by decide]; omega
    exact W.zret (v := 0) hx hb hr rfl (fun t ht hW => ⟨⟨0, (), rfl, w_29, k_ret ht hI⟩, hS.F ht⟩) hS.2.2 dX12_isOn_21
  · have c_28 := lc_eq rfl (by decide : Int64.toInt 1 = 1) ((lg_cmp_eq _ _).mp c_28)
    refine lv_iconst (v := 1) hx hb dX12_isOn_16 (by decide) ?_
    refine lv_goto (tgt := 21) hx hb dX12_isOn_17 (by decide) ?_
    have w_30 : ((1 : Int32).toInt = 0 ∧ (q (6 + 43 * p1 + 2)).toInt ≠ 1) ∨ ((1 : Int32).toInt = 1 ∧ (q (6 + 43 * p1 + 2)).toInt = 1) := by rw [show Int32.toInt (1) = 1 from by decide]; omega
    exact W.zret (v := 1) hx hb hr rfl (fun t ht hW => ⟨⟨1, (), rfl, w_30, k_ret ht hI⟩, hS.F ht⟩) hS.2.2 dX12_isOn_21
theorem tw_736 : q_g (.code yX12_isSpent cX12_isSpent 2 (some .boolean)) := ⟨(List.mem_append_right _ (List.mem_of_getElem? (i := 1241) (by decide +kernel))), good_of_word (by decide +kernel)⟩
def ow_c_X12_isSpent : List Cond := [.fieldLink RX12 16 "DeadlineShareModel" "row" "[J", .methodLink RX12 87 yX12_at, .static yX12_at, .initialized RX12]
def wq_c_X12_isSpent : List Cond := .code yX12_isSpent cX12_isSpent 2 (some .boolean) :: (ow_c_X12_isSpent ++ (u_ws RX12 TX12 27 ++ (wq_c_X12_at ++ ([] : List Cond))))
theorem tb_c_X12_isSpent : ∀ w ∈ wq_c_X12_isSpent, q_g w := by
  unfold wq_c_X12_isSpent ow_c_X12_isSpent
  exact q_cons tw_736 (q_app (q_cons tw_731 (q_cons tw_734 (q_cons tw_733 (q_cons tw_728 q_nil)))) (q_app tu_X12 (q_app tb_c_X12_at q_nil)))
set_option maxHeartbeats 4000000 in
set_option maxRecDepth 100000 in
theorem c_X12_isSpent (l : Launch) (dC : Nat → ClassId) (dI : Nat → Nat → Nat) (g : kG) (A : Nat → Prop) (hG : kWf g) (f : Nat → va_E) (h0 : Nat) (p1 : Nat) (q : Nat → Int64) (i_h0 : ik g 12 h0) (hc0 : f (gr g h0 4) = .inl (gc g 1, 906, .inr (.inl q))) (hc0_ok : RowOK q) (ht : p1 < 12) : Met l yX12_isSpent wq_c_X12_isSpent ({ frames := 1, cells := 0, slots := 0, locals := 20 } : Room) (va_Pc [.ref h0, .int (nI p1)] (fun U => kIn dC dI g A f U)) (va_Qi (fun (r : Int32) (_ : Unit) => True) (fun (_ : Unit) t => Iv dC dI g A f t.heap) A) 0 0 A := by
  refine Met.ofW (cc := cX12_isSpent) (maxL := 2) (ret := (some .boolean)) (by decide) rfl ?_
  intro p e s m args below meth c s₁ B hml hv
  obtain ⟨rfl, hI, hK, hE⟩ := hv
  have hx := B.exec
  have hb := B.bytes
  have hr := B.returns
  have hts := atoms_spec (ws := wq_c_X12_isSpent) B.pre
  have hown : s.vm.findClass RX12 = some m.cls := findClass_of_methodNamed B.named
  have hlocks := B.notSynchronized
  have hS : va_S A s.heap s.heap [] := va_S.rf
  have hl := lv_entry ([.ref h0, .int (nI p1)]) (n := 2) (Nat.le_of_ble_eq_true rfl)
  rw [lg_entry_eq]
  generalize (lg_sl ([.ref h0, .int (nI p1)]) ++ List.replicate (2 - (lg_sl ([.ref h0, .int (nI p1)])).length) Slot.unset).toArray = ls at hl ⊢
  have hl : lv_has ls 2 [(0, .ref h0), (1, .int (nI p1))] := hl
  have i_1 := kw_12_4 hG i_h0
  have d_2 := rk_hd hc0_ok
  refine lv_aload_n hx hb dX12_isSpent_0 rfl (lv_at hl 0 rfl) ?_
  obtain ⟨x_4, x_5, x_6, x_7, x_8, x_9, x_10, x_11, x_12, x_13, x_14, x_15, x_16, x_17, k_3, b_18, b_19, b_20, b_21, b_22, b_23⟩ := op_12 hI i_h0
  refine k_get (ci := 12) (v := .ref (gr g h0 4)) (C := RX12) (T := TX12) (N := 27) hx hb hts (fun _ h0_ => List.mem_cons_of_mem _ (List.mem_append_right _ (List.mem_append_left _ h0_))) hown hK hI i_h0.1 k_3 rfl 4 (by decide) (hts (.fieldLink RX12 16 "DeadlineShareModel" "row" "[J") (List.mem_cons_of_mem _ (List.mem_append_left _ (List.mem_of_getElem? (i := 0) rfl)))) (fun _ h9 => h9) rfl dX12_isSpent_1 ?_
  refine lv_iload_n hx hb dX12_isSpent_4 rfl (lv_at hl 1 rfl) ?_
  refine va_calli (va_runS (As := [.int (nI p1)]) (rest := [.ref (gr g h0 4)]) ⟨hx, hb, hml, hown, hts⟩ (c_X12_at l dC dI g A hG f p1) (va_cwS 1 hts (gi_S (fun w_ h0_ => ⟨List.mem_cons_of_mem _ (List.mem_append_right _ (List.mem_append_right _ (List.mem_append_left _ h0_))), (tb_c_X12_at w_ h0_).2⟩) (List.mem_cons_of_mem _ (List.mem_append_left _ (List.mem_of_getElem? (i := 1) rfl))) (List.mem_cons_of_mem _ (List.mem_append_left _ (List.mem_of_getElem? (i := 2) rfl))) (List.mem_cons_of_mem _ (List.mem_append_left _ (List.mem_of_getElem? (i := 3) rfl)))) rfl rfl rfl (by decide +kernel) ⟨Nat.le_of_ble_eq_true rfl, Nat.le_of_ble_eq_true rfl⟩) ⟨fun a U g mk q => ⟨q.1, q.2.calling rfl rfl⟩, fun U hU hW => ⟨rfl, kIn.of hI hK hE hS hU hW⟩⟩ rfl rfl hl.1 rfl (lv_room (Nat.le_of_ble_eq_true rfl)) dX12_isSpent_5 ⟨Nat.le_of_ble_eq_true rfl, Nat.le_of_ble_eq_true rfl⟩) hS (fun q _ h => h) (fun q h => h) (fun r_27 u t H1 locs ht hvm w_26 hB hz1 hk1 hS => ?_)
  have hI : Iv dC dI g A f t.heap := hB
  rw [ht] at hI
  generalize H1 = H at hI hS ⊢
  refine W.widen (k := 0) (n := 0) (Nat.le_of_ble_eq_true rfl) (Nat.le_of_ble_eq_true rfl) ?_
  have w_26 : r_27 = nI (6 + 43 * p1) := w_26
  refine k_topi (y := nI (6 + 43 * p1)) w_26 ?_
  refine lv_bipush (v := 41) hx hb dX12_isSpent_8 (by decide) ?_
  refine lv_iadd hx hb dX12_isSpent_10 ?_
  refine k_topi (y := nI (6 + 43 * p1 + 41)) ((nI_add (6 + 43 * p1) 41).trans (congrArg nI (by omega))) ?_
  refine k_lald hx hb hK hI i_1.1 1 hc0 rfl (vp_in_nI (by omega) (by omega)) dX12_isSpent_11 ?_
  refine k_topl (y := q (6 + 43 * p1 + 41)) (congrArg q (nI_clamp (by omega))) ?_
  have d_28 := rk_41 hc0_ok (t := p1) (by omega)
  refine lv_lconst (v := 0) hx hb dX12_isSpent_12 (by decide) ?_
  refine W.lcmp hx hb dX12_isSpent_13 ?_
  refine lv_if_le (tgt := 38) hx hb dX12_isSpent_14 (by decide) (fun c_29 => ?_) (fun c_29 => ?_)
  · have c_29 := lc_le rfl (by decide : Int64.toInt 0 = 0) ((lg_cmp_le _ _).mp c_29)
    refine lv_iconst (v := 0) hx hb dX12_isSpent_38 (by decide) ?_
    exact W.zret (v := 0) hx hb hr rfl (fun t ht hW => ⟨⟨0, (), rfl, trivial, k_ret ht hI⟩, hS.F ht⟩) hS.2.2 dX12_isSpent_39
  · have c_29 := ln_le rfl (by decide : Int64.toInt 0 = 0) (fun h9 => c_29 ((lg_cmp_le _ _).mpr h9))
    refine lv_aload_n hx hb dX12_isSpent_17 rfl (lv_at hl 0 rfl) ?_
    refine k_get (ci := 12) (v := .ref (gr g h0 4)) (C := RX12) (T := TX12) (N := 27) hx hb hts (fun _ h0_ => List.mem_cons_of_mem _ (List.mem_append_right _ (List.mem_append_left _ h0_))) hown hK hI i_h0.1 k_3 rfl 4 (by decide) (hts (.fieldLink RX12 16 "DeadlineShareModel" "row" "[J") (List.mem_cons_of_mem _ (List.mem_append_left _ (List.mem_of_getElem? (i := 0) rfl)))) (fun _ h9 => h9) rfl dX12_isSpent_18 ?_
    refine lv_iload_n hx hb dX12_isSpent_21 rfl (lv_at hl 1 rfl) ?_
    refine va_calli (va_runS (As := [.int (nI p1)]) (rest := [.ref (gr g h0 4)]) ⟨hx, hb, hml, hown, hts⟩ (c_X12_at l dC dI g A hG f p1) (va_cwS 1 hts (gi_S (fun w_ h0_ => ⟨List.mem_cons_of_mem _ (List.mem_append_right _ (List.mem_append_right _ (List.mem_append_left _ h0_))), (tb_c_X12_at w_ h0_).2⟩) (List.mem_cons_of_mem _ (List.mem_append_left _ (List.mem_of_getElem? (i := 1) rfl))) (List.mem_cons_of_mem _ (List.mem_append_left _ (List.mem_of_getElem? (i := 2) rfl))) (List.mem_cons_of_mem _ (List.mem_append_left _ (List.mem_of_getElem? (i := 3) rfl)))) rfl rfl rfl (by decide +kernel) ⟨Nat.le_of_ble_eq_true rfl, Nat.le_of_ble_eq_true rfl⟩) ⟨fun a U g mk q => ⟨q.1, q.2.calling rfl rfl⟩, fun U hU hW => ⟨rfl, kIn.of hI hK hE hS hU hW⟩⟩ rfl rfl hl.1 rfl (lv_room (Nat.le_of_ble_eq_true rfl)) dX12_isSpent_22 ⟨Nat.le_of_ble_eq_true rfl, Nat.le_of_ble_eq_true rfl⟩) hS (fun q _ h => h) (fun q h => h) (fun r_33 u t H1 locs ht hvm w_32 hB hz1 hk1 hS => ?_)
    have hI : Iv dC dI g A f t.heap := hB
    rw [ht] at hI
    generalize H1 = H at hI hS ⊢
    refine W.widen (k := 0) (n := 0) (Nat.le_of_ble_eq_true rfl) (Nat.le_of_ble_eq_true rfl) ?_
    have w_32 : r_33 = nI (6 + 43 * p1) := w_32
    refine k_topi (y := nI (6 + 43 * p1)) w_32 ?_
    refine lv_bipush (v := 40) hx hb dX12_isSpent_25 (by decide) ?_
    refine lv_iadd hx hb dX12_isSpent_27 ?_
    refine k_topi (y := nI (6 + 43 * p1 + 40)) ((nI_add (6 + 43 * p1) 40).trans (congrArg nI (by omega))) ?_
    refine k_lald hx hb hK hI i_1.1 1 hc0 rfl (vp_in_nI (by omega) (by omega)) dX12_isSpent_28 ?_
    refine k_topl (y := q (6 + 43 * p1 + 40)) (congrArg q (nI_clamp (by omega))) ?_
    refine lv_lconst (v := 0) hx hb dX12_isSpent_29 (by decide) ?_
    refine W.lcmp hx hb dX12_isSpent_30 ?_
    refine lv_if_ne (tgt := 38) hx hb dX12_isSpent_31 (by decide) (fun c_34 => ?_) (fun c_34 => ?_)
    · have c_34 := ln_eq rfl (by decide : Int64.toInt 0 = 0) (fun h9 => c_34 ((lg_cmp_eq _ _).mpr h9))
      refine lv_iconst (v := 0) hx hb dX12_isSpent_38 (by decide) ?_
      exact W.zret (v := 0) hx hb hr rfl (fun t ht hW => ⟨⟨0, (), rfl, trivial, k_ret ht hI⟩, hS.F ht⟩) hS.2.2 dX12_isSpent_39
    · have c_34 := lc_eq rfl (by decide : Int64.toInt 0 = 0) ((lg_cmp_eq _ _).mp c_34)
      refine lv_iconst (v := 1) hx hb dX12_isSpent_34 (by decide) ?_
      refine lv_goto (tgt := 39) hx hb dX12_isSpent_35 (by decide) ?_
      exact W.zret (v := 1) hx hb hr rfl (fun t ht hW => ⟨⟨1, (), rfl, trivial, k_ret ht hI⟩, hS.F ht⟩) hS.2.2 dX12_isSpent_39
theorem tw_737 : q_g (.code yX12_weight cX12_weight 2 (some .long)) := ⟨(List.mem_append_right _ (List.mem_of_getElem? (i := 1257) (by decide +kernel))), good_of_word (by decide +kernel)⟩
def ow_c_X12_weight : List Cond := [.fieldLink RX12 16 "DeadlineShareModel" "row" "[J", .methodLink RX12 87 yX12_at, .static yX12_at, .initialized RX12]
def wq_c_X12_weight : List Cond := .code yX12_weight cX12_weight 2 (some .long) :: (ow_c_X12_weight ++ (u_ws RX12 TX12 27 ++ (wq_c_X12_at ++ ([] : List Cond))))
theorem tb_c_X12_weight : ∀ w ∈ wq_c_X12_weight, q_g w := by
  unfold wq_c_X12_weight ow_c_X12_weight
  exact q_cons tw_737 (q_app (q_cons tw_731 (q_cons tw_734 (q_cons tw_733 (q_cons tw_728 q_nil)))) (q_app tu_X12 (q_app tb_c_X12_at q_nil)))
set_option maxHeartbeats 4000000 in
set_option maxRecDepth 100000 in
theorem c_X12_weight (l : Launch) (dC : Nat → ClassId) (dI : Nat → Nat → Nat) (g : kG) (A : Nat → Prop) (hG : kWf g) (f : Nat → va_E) (h0 : Nat) (p1 : Nat) (q : Nat → Int64) (i_h0 : ik g 12 h0) (hc0 : f (gr g h0 4) = .inl (gc g 1, 906, .inr (.inl q))) (hc0_ok : RowOK q) (ht : p1 < 12) : Met l yX12_weight wq_c_X12_weight ({ frames := 1, cells := 0, slots := 0, locals := 20 } : Room) (va_Pc [.ref h0, .int (nI p1)] (fun U => kIn dC dI g A f U)) (va_Ql (fun (r : Int64) (_ : Unit) => r = q (6 + 43 * p1)) (fun (_ : Unit) t => Iv dC dI g A f t.heap) A) 0 0 A := by
  refine Met.ofW (cc := cX12_weight) (maxL := 2) (ret := (some .long)) (by decide) rfl ?_
  intro p e s m args below meth c s₁ B hml hv
  obtain ⟨rfl, hI, hK, hE⟩ := hv
  have hx := B.exec
  have hb := B.bytes
  have hr := B.returns
  have hts := atoms_spec (ws := wq_c_X12_weight) B.pre
  have hown : s.vm.findClass RX12 = some m.cls := findClass_of_methodNamed B.named
  have hlocks := B.notSynchronized
  have hS : va_S A s.heap s.heap [] := va_S.rf
  have hl := lv_entry ([.ref h0, .int (nI p1)]) (n := 2) (Nat.le_of_ble_eq_true rfl)
  rw [lg_entry_eq]
  generalize (lg_sl ([.ref h0, .int (nI p1)]) ++ List.replicate (2 - (lg_sl ([.ref h0, .int (nI p1)])).length) Slot.unset).toArray = ls at hl ⊢
  have hl : lv_has ls 2 [(0, .ref h0), (1, .int (nI p1))] := hl
  have i_1 := kw_12_4 hG i_h0
  have d_2 := rk_hd hc0_ok
  refine lv_aload_n hx hb dX12_weight_0 rfl (lv_at hl 0 rfl) ?_
  obtain ⟨x_4, x_5, x_6, x_7, x_8, x_9, x_10, x_11, x_12, x_13, x_14, x_15, x_16, x_17, k_3, b_18, b_19, b_20, b_21, b_22, b_23⟩ := op_12 hI i_h0
  refine k_get (ci := 12) (v := .ref (gr g h0 4)) (C := RX12) (T := TX12) (N := 27) hx hb hts (fun _ h0_ => List.mem_cons_of_mem _ (List.mem_append_right _ (List.mem_append_left _ h0_))) hown hK hI i_h0.1 k_3 rfl 4 (by decide) (hts (.fieldLink RX12 16 "DeadlineShareModel" "row" "[J") (List.mem_cons_of_mem _ (List.mem_append_left _ (List.mem_of_getElem? (i := 0) rfl)))) (fun _ h9 => h9) rfl dX12_weight_1 ?_
  refine lv_iload_n hx hb dX12_weight_4 rfl (lv_at hl 1 rfl) ?_
  refine va_calli (va_runS (As := [.int (nI p1)]) (rest := [.ref (gr g h0 4)]) ⟨hx, hb, hml, hown, hts⟩ (c_X12_at l dC dI g A hG f p1) (va_cwS 1 hts (gi_S (fun w_ h0_ => ⟨List.mem_cons_of_mem _ (List.mem_append_right _ (List.mem_append_right _ (List.mem_append_left _ h0_))), (tb_c_X12_at w_ h0_).2⟩) (List.mem_cons_of_mem _ (List.mem_append_left _ (List.mem_of_getElem? (i := 1) rfl))) (List.mem_cons_of_mem _ (List.mem_append_left _ (List.mem_of_getElem? (i := 2) rfl))) (List.mem_cons_of_mem _ (List.mem_append_left _ (List.mem_of_getElem? (i := 3) rfl)))) rfl rfl rfl (by decide +kernel) ⟨Nat.le_of_ble_eq_true rfl, Nat.le_of_ble_eq_true rfl⟩) ⟨fun a U g mk q => ⟨q.1, q.2.calling rfl rfl⟩, fun U hU hW => ⟨rfl, kIn.of hI hK hE hS hU hW⟩⟩ rfl rfl hl.1 rfl (lv_room (Nat.le_of_ble_eq_true rfl)) dX12_weight_5 ⟨Nat.le_of_ble_eq_true rfl, Nat.le_of_ble_eq_true rfl⟩) hS (fun q _ h => h) (fun q h => h) (fun r_27 u t H1 locs ht hvm w_26 hB hz1 hk1 hS => ?_)
  have hI : Iv dC dI g A f t.heap := hB
  rw [ht] at hI
  generalize H1 = H at hI hS ⊢
  refine W.widen (k := 0) (n := 0) (Nat.le_of_ble_eq_true rfl) (Nat.le_of_ble_eq_true rfl) ?_
  have w_26 : r_27 = nI (6 + 43 * p1) := w_26
  refine k_topi (y := nI (6 + 43 * p1)) w_26 ?_
  refine lv_iconst (v := 0) hx hb dX12_weight_8 (by decide) ?_
  refine lv_iadd hx hb dX12_weight_9 ?_
  refine k_topi (y := nI (6 + 43 * p1)) ((nI_add (6 + 43 * p1) 0).trans (congrArg nI (by omega))) ?_
  refine k_lald hx hb hK hI i_1.1 1 hc0 rfl (vp_in_nI (by omega) (by omega)) dX12_weight_10 ?_
  refine k_topl (y := q (6 + 43 * p1)) (congrArg q (nI_clamp (by omega))) ?_
  have d_28 := rk_0 hc0_ok (t := p1) (by omega)
  have w_29 : (q (6 + 43 * p1)) = q (6 + 43 * p1) := rfl
  exact W.lret (v := (q (6 + 43 * p1))) hx hb hr (fun t ht hW => ⟨⟨q (6 + 43 * p1), (), rfl, w_29, k_ret ht hI⟩, hS.F ht⟩) hS.2.2 dX12_weight_11
theorem tw_738 : q_g (.code yX12_virtual cX12_virtual 2 (some .long)) := ⟨(List.mem_append_right _ (List.mem_of_getElem? (i := 1270) (by decide +kernel))), good_of_word (by decide +kernel)⟩
def ow_c_X12_virtual : List Cond := [.fieldLink RX12 16 "DeadlineShareModel" "row" "[J", .methodLink RX12 87 yX12_at, .static yX12_at, .initialized RX12]
def wq_c_X12_virtual : List Cond := .code yX12_virtual cX12_virtual 2 (some .long) :: (ow_c_X12_virtual ++ (u_ws RX12 TX12 27 ++ (wq_c_X12_at ++ ([] : List Cond))))
theorem tb_c_X12_virtual : ∀ w ∈ wq_c_X12_virtual, q_g w := by
  unfold wq_c_X12_virtual ow_c_X12_virtual
  exact q_cons tw_738 (q_app (q_cons tw_731 (q_cons tw_734 (q_cons tw_733 (q_cons tw_728 q_nil)))) (q_app tu_X12 (q_app tb_c_X12_at q_nil)))
set_option maxHeartbeats 4000000 in
set_option maxRecDepth 100000 in
theorem c_X12_virtual (l : Launch) (dC : Nat → ClassId) (dI : Nat → Nat → Nat) (g : kG) (A : Nat → Prop) (hG : kWf g) (f : Nat → va_E) (h0 : Nat) (p1 : Nat) (q : Nat → Int64) (i_h0 : ik g 12 h0) (hc0 : f (gr g h0 4) = .inl (gc g 1, 906, .inr (.inl q))) (hc0_ok : RowOK q) (ht : p1 < 12) : Met l yX12_virtual wq_c_X12_virtual ({ frames := 1, cells := 0, slots := 0, locals := 20 } : Room) (va_Pc [.ref h0, .int (nI p1)] (fun U => kIn dC dI g A f U)) (va_Ql (fun (r : Int64) (_ : Unit) => True) (fun (_ : Unit) t => Iv dC dI g A f t.heap) A) 0 0 A := by
  refine Met.ofW (cc := cX12_virtual) (maxL := 2) (ret := (some .long)) (by decide) rfl ?_
  intro p e s m args below meth c s₁ B hml hv
  obtain ⟨rfl, hI, hK, hE⟩ := hv
  have hx := B.exec
  have hb := B.bytes
  have hr := B.returns
  have hts := atoms_spec (ws := wq_c_X12_virtual) B.pre
  have hown : s.vm.findClass RX12 = some m.cls := findClass_of_methodNamed B.named
  have hlocks := B.notSynchronized
  have hS : va_S A s.heap s.heap [] := va_S.rf
  have hl := lv_entry ([.ref h0, .int (nI p1)]) (n := 2) (Nat.le_of_ble_eq_true rfl)
  rw [lg_entry_eq]
  generalize (lg_sl ([.ref h0, .int (nI p1)]) ++ List.replicate (2 - (lg_sl ([.ref h0, .int (nI p1)])).length) Slot.unset).toArray = ls at hl ⊢
  have hl : lv_has ls 2 [(0, .ref h0), (1, .int (nI p1))] := hl
  have i_1 := kw_12_4 hG i_h0
  have d_2 := rk_hd hc0_ok
  refine lv_aload_n hx hb dX12_virtual_0 rfl (lv_at hl 0 rfl) ?_
  obtain ⟨x_4, x_5, x_6, x_7, x_8, x_9, x_10, x_11, x_12, x_13, x_14, x_15, x_16, x_17, k_3, b_18, b_19, b_20, b_21, b_22, b_23⟩ := op_12 hI i_h0
  refine k_get (ci := 12) (v := .ref (gr g h0 4)) (C := RX12) (T := TX12) (N := 27) hx hb hts (fun _ h0_ => List.mem_cons_of_mem _ (List.mem_append_right _ (List.mem_append_left _ h0_))) hown hK hI i_h0.1 k_3 rfl 4 (by decide) (hts (.fieldLink RX12 16 "DeadlineShareModel" "row" "[J") (List.mem_cons_of_mem _ (List.mem_append_left _ (List.mem_of_getElem? (i := 0) rfl)))) (fun _ h9 => h9) rfl dX12_virtual_1 ?_
  refine lv_iload_n hx hb dX12_virtual_4 rfl (lv_at hl 1 rfl) ?_
  refine va_calli (va_runS (As := [.int (nI p1)]) (rest := [.ref (gr g h0 4)]) ⟨hx, hb, hml, hown, hts⟩ (c_X12_at l dC dI g A hG f p1) (va_cwS 1 hts (gi_S (fun w_ h0_ => ⟨List.mem_cons_of_mem _ (List.mem_append_right _ (List.mem_append_right _ (List.mem_append_left _ h0_))), (tb_c_X12_at w_ h0_).2⟩) (List.mem_cons_of_mem _ (List.mem_append_left _ (List.mem_of_getElem? (i := 1) rfl))) (List.mem_cons_of_mem _ (List.mem_append_left _ (List.mem_of_getElem? (i := 2) rfl))) (List.mem_cons_of_mem _ (List.mem_append_left _ (List.mem_of_getElem? (i := 3) rfl)))) rfl rfl rfl (by decide +kernel) ⟨Nat.le_of_ble_eq_true rfl, Nat.le_of_ble_eq_true rfl⟩) ⟨fun a U g mk q => ⟨q.1, q.2.calling rfl rfl⟩, fun U hU hW => ⟨rfl, kIn.of hI hK hE hS hU hW⟩⟩ rfl rfl hl.1 rfl (lv_room (Nat.le_of_ble_eq_true rfl)) dX12_virtual_5 ⟨Nat.le_of_ble_eq_true rfl, Nat.le_of_ble_eq_true rfl⟩) hS (fun q _ h => h) (fun q h => h) (fun r_27 u t H1 locs ht hvm w_26 hB hz1 hk1 hS => ?_)
  have hI : Iv dC dI g A f t.heap := hB
  rw [ht] at hI
  generalize H1 = H at hI hS ⊢
  refine W.widen (k := 0) (n := 0) (Nat.le_of_ble_eq_true rfl) (Nat.le_of_ble_eq_true rfl) ?_
  have w_26 : r_27 = nI (6 + 43 * p1) := w_26
  refine k_topi (y := nI (6 + 43 * p1)) w_26 ?_
  refine lv_bipush (v := 10) hx hb dX12_virtual_8 (by decide) ?_
  refine lv_iadd hx hb dX12_virtual_10 ?_
  refine k_topi (y := nI (6 + 43 * p1 + 10)) ((nI_add (6 + 43 * p1) 10).trans (congrArg nI (by omega))) ?_
  refine k_lald hx hb hK hI i_1.1 1 hc0 rfl (vp_in_nI (by omega) (by omega)) dX12_virtual_11 ?_
  refine k_topl (y := q (6 + 43 * p1 + 10)) (congrArg q (nI_clamp (by omega))) ?_
  exact W.lret (v := (q (6 + 43 * p1 + 10))) hx hb hr (fun t ht hW => ⟨⟨q (6 + 43 * p1 + 10), (), rfl, trivial, k_ret ht hI⟩, hS.F ht⟩) hS.2.2 dX12_virtual_12
theorem tw_739 : q_g (.selects RX12 yX12_weight yX12_weight) := ⟨(List.mem_append_left _ (List.mem_of_getElem? (i := 30) (by decide +kernel))), good_of_word (by decide +kernel)⟩
theorem tw_740 : q_g (.instanceMethod yX12_weight) := ⟨(List.mem_append_right _ (List.mem_of_getElem? (i := 1256) (by decide +kernel))), good_of_word (by decide +kernel)⟩
theorem tw_741 : q_g (.methodLink RX12 94 yX12_weight) := ⟨(List.mem_append_right _ (List.mem_of_getElem? (i := 1254) (by decide +kernel))), good_of_word (by decide +kernel)⟩
theorem tw_742 : q_g (.selects RX12 yX12_isOn yX12_isOn) := ⟨(List.mem_append_left _ (List.mem_of_getElem? (i := 29) (by decide +kernel))), good_of_word (by decide +kernel)⟩
theorem tw_743 : q_g (.instanceMethod yX12_isOn) := ⟨(List.mem_append_right _ (List.mem_of_getElem? (i := 1252) (by decide +kernel))), good_of_word (by decide +kernel)⟩
theorem tw_744 : q_g (.methodLink RX12 90 yX12_isOn) := ⟨(List.mem_append_right _ (List.mem_of_getElem? (i := 1250) (by decide +kernel))), good_of_word (by decide +kernel)⟩
theorem tw_745 : q_g (.code yX12_heavy cX12_heavy 4 (some .long)) := ⟨(List.mem_append_right _ (List.mem_of_getElem? (i := 1249) (by decide +kernel))), good_of_word (by decide +kernel)⟩
def ow_c_X12_heavy : List Cond := [.fieldLink RX12 16 "DeadlineShareModel" "row" "[J", .methodLink RX12 90 yX12_isOn, .instanceMethod yX12_isOn, .selects RX12 yX12_isOn yX12_isOn, .initialized RX12, .methodLink RX12 94 yX12_weight, .instanceMethod yX12_weight, .selects RX12 yX12_weight yX12_weight]
def wq_c_X12_heavy : List Cond := .code yX12_heavy cX12_heavy 4 (some .long) :: (ow_c_X12_heavy ++ (u_ws RX12 TX12 27 ++ (wq_c_X12_isOn ++ (wq_c_X12_weight ++ ([] : List Cond)))))
theorem tb_c_X12_heavy : ∀ w ∈ wq_c_X12_heavy, q_g w := by
  unfold wq_c_X12_heavy ow_c_X12_heavy
  exact q_cons tw_745 (q_app (q_cons tw_731 (q_cons tw_744 (q_cons tw_743 (q_cons tw_742 (q_cons tw_728 (q_cons tw_741 (q_cons tw_740 (q_cons tw_739 q_nil)))))))) (q_app tu_X12 (q_app tb_c_X12_isOn (q_app tb_c_X12_weight q_nil))))
set_option maxHeartbeats 4000000 in
set_option maxRecDepth 100000 in
theorem c_X12_heavy (l : Launch) (dC : Nat → ClassId) (dI : Nat → Nat → Nat) (g : kG) (A : Nat → Prop) (hG : kWf g) (f : Nat → va_E) (h0 : Nat) (q : Nat → Int64) (i_h0 : ik g 12 h0) (hc0 : f (gr g h0 4) = .inl (gc g 1, 906, .inr (.inl q))) (hc0_ok : RowOK q) : Met l yX12_heavy wq_c_X12_heavy ({ frames := 2, cells := 0, slots := 0, locals := 41 } : Room) (va_Pc [.ref h0] (fun U => kIn dC dI g A f U)) (va_Ql (fun (r : Int64) (_ : Unit) => 0 ≤ r.toInt ∧ r.toInt ≤ 96 ∧ ∀ t : Nat, (t : Int) < (q 0).toInt → (q (6 + 43 * t + 2)).toInt = 1 → 1 ≤ r.toInt) (fun (_ : Unit) t => Iv dC dI g A f t.heap) A) 0 0 A := by
  refine Met.ofW (cc := cX12_heavy) (maxL := 4) (ret := (some .long)) (by decide) rfl ?_
  intro p e s m args below meth c s₁ B hml hv
  obtain ⟨rfl, hI, hK, hE⟩ := hv
  have hx := B.exec
  have hb := B.bytes
  have hr := B.returns
  have hts := atoms_spec (ws := wq_c_X12_heavy) B.pre
  have hown : s.vm.findClass RX12 = some m.cls := findClass_of_methodNamed B.named
  have hlocks := B.notSynchronized
  have hS : va_S A s.heap s.heap [] := va_S.rf
  have hl := lv_entry ([.ref h0]) (n := 4) (Nat.le_of_ble_eq_true rfl)
  rw [lg_entry_eq]
  generalize (lg_sl ([.ref h0]) ++ List.replicate (4 - (lg_sl ([.ref h0])).length) Slot.unset).toArray = ls at hl ⊢
  have hl : lv_has ls 4 [(0, .ref h0)] := hl
  have i_1 := kw_12_4 hG i_h0
  have d_2 := rk_hd hc0_ok
  refine lv_lconst (v := 0) hx hb dX12_heavy_0 (by decide) ?_
  refine lv_lstore_n (lv' := [(1, .long 0), (0, .ref h0)]) hx hb dX12_heavy_1 rfl hl (by decide) rfl (fun ls hl => ?_)
  refine lv_iconst (v := 0) hx hb dX12_heavy_2 (by decide) ?_
  refine lv_istore_n (lv' := [(3, .int 0), (1, .long 0), (0, .ref h0)]) hx hb dX12_heavy_3 rfl hl (by decide) rfl (fun ls hl => ?_)
  have K_4 : ∀ (nn : Nat) (y_3 : Nat) (y_4 : Int64) (H : Heap) (locs : List Loc) (ls : Array Slot), 12 - y_3 < nn → Iv dC dI g A f H → va_S A s.heap H locs → (y_3 ≤ 12) → (0 ≤ y_4.toInt) → (y_4.toInt ≤ 8 * (y_3 : Int)) → (∀ t : Nat, t < y_3 → (q (6 + 43 * t + 2)).toInt = 1 → 1 ≤ y_4.toInt) → lv_has ls 4 [(3, .int (nI y_3)), (1, .long y_4), (0, .ref h0)] → W p l e (headSpec wq_c_X12_heavy ({ frames := 2, cells := 0, slots := 0, locals := 41 } : Room)).room s m ([.ref h0].toArray) below meth c H locs 0 0 (MQ below (va_Ql (fun (r : Int64) (_ : Unit) => 0 ≤ r.toInt ∧ r.toInt ≤ 96 ∧ ∀ t : Nat, (t : Int) < (q 0).toInt → (q (6 + 43 * t + 2)).toInt = 1 → 1 ≤ r.toInt) (fun (_ : Unit) t => Iv dC dI g A f t.heap) A) ([.ref h0].toArray) s 0 0 A) (F0 m 4 ls []) := by
    intro nn
    induction nn with
    | zero => intro y_3 y_4 H locs ls m_9; exact absurd m_9 (Nat.not_lt_zero _)
    | succ nn ih =>
      intro y_3 y_4 H locs ls m_9 hI hS t_5 t_6 t_7 t_8 hl
      refine lv_iload_n hx hb dX12_heavy_4 rfl (lv_at hl 0 rfl) ?_
      refine lv_i2l (v := lN (y_3)) hx hb dX12_heavy_5 (nI_l (by omega)) ?_
      refine lv_aload_n hx hb dX12_heavy_6 rfl (lv_at hl 2 rfl) ?_
      obtain ⟨x_11, x_12, x_13, x_14, x_15, x_16, x_17, x_18, x_19, x_20, x_21, x_22, x_23, x_24, k_10, b_25, b_26, b_27, b_28, b_29, b_30⟩ := op_12 hI i_h0
      refine k_get (ci := 12) (v := .ref (gr g h0 4)) (C := RX12) (T := TX12) (N := 27) hx hb hts (fun _ h0_ => List.mem_cons_of_mem _ (List.mem_append_right _ (List.mem_append_left _ h0_))) hown hK hI i_h0.1 k_10 rfl 4 (by decide) (hts (.fieldLink RX12 16 "DeadlineShareModel" "row" "[J") (List.mem_cons_of_mem _ (List.mem_append_left _ (List.mem_of_getElem? (i := 0) rfl)))) (fun _ h9 => h9) rfl dX12_heavy_7 ?_
      refine lv_iconst (v := 0) hx hb dX12_heavy_10 (by decide) ?_
      refine k_lald hx hb hK hI i_1.1 1 hc0 rfl (by unfold vp_in; decide) dX12_heavy_11 ?_
      refine k_topl (y := q 0) (congrArg q (show Int32.toNatClampNeg 0 = 0 by decide)) ?_
      refine W.lcmp hx hb dX12_heavy_12 ?_
      refine lv_if_ge (tgt := 42) hx hb dX12_heavy_13 (by decide) (fun c_33 => ?_) (fun c_33 => ?_)
      · have c_33 := lc_le rfl (lN_toInt (n := y_3) (by omega)) ((lg_cmp_ge _ _).mp c_33)
        refine lv_lload_n hx hb dX12_heavy_42 rfl (lv_at hl 1 rfl) ?_
        exact W.lret (v := y_4) hx hb hr (fun t ht hW => ⟨⟨y_4, (), rfl, ⟨by omega, by omega, fun t9 ht9 ho9 => by have g9 := t_8 t9 (by omega) ho9; omega⟩, k_ret ht hI⟩, hS.F ht⟩) hS.2.2 dX12_heavy_43
      · have c_33 := ln_le rfl (lN_toInt (n := y_3) (by omega)) (fun h9 => c_33 ((lg_cmp_ge _ _).mpr h9))
        refine lv_lload_n hx hb dX12_heavy_16 rfl (lv_at hl 1 rfl) ?_
        refine lv_aload_n hx hb dX12_heavy_17 rfl (lv_at hl 2 rfl) ?_
        refine lv_iload_n hx hb dX12_heavy_18 rfl (lv_at hl 0 rfl) ?_
        refine va_calli (va_runV (As := [.int (nI y_3)]) (rest := [.long y_4]) ⟨hx, hb, hml, hown, hts⟩ (c_X12_isOn l dC dI g A hG f h0 y_3 q i_h0 hc0 hc0_ok (by first | omega | decide | (simp only [k_c0, k_c1, k_cm1]; omega))) (cwV 1 hts (gi_V (fun w_ h0_ => ⟨List.mem_cons_of_mem _ (List.mem_append_right _ (List.mem_append_right _ (List.mem_append_left _ h0_))), (tb_c_X12_isOn w_ h0_).2⟩) (List.mem_cons_of_mem _ (List.mem_append_left _ (List.mem_of_getElem? (i := 1) rfl))) (List.mem_cons_of_mem _ (List.mem_append_left _ (List.mem_of_getElem? (i := 2) rfl))) (List.mem_cons_of_mem _ (List.mem_append_left _ (List.mem_of_getElem? (i := 3) rfl))) (List.mem_cons_of_mem _ (List.mem_append_left _ (List.mem_of_getElem? (i := 4) rfl)))) rfl rfl rfl (by decide +kernel) ⟨Nat.le_of_ble_eq_true rfl, Nat.le_of_ble_eq_true rfl⟩) ⟨fun a U g mk q => ⟨q.1, q.2.calling rfl rfl⟩, k_recv hK hI i_h0.1 k_10 (ci := 12) rfl, fun U hU hW => ⟨rfl, kIn.of hI hK hE hS hU hW⟩⟩ rfl rfl hl.1 rfl (lv_room (Nat.le_of_ble_eq_true rfl)) dX12_heavy_19 ⟨Nat.le_of_ble_eq_true rfl, Nat.le_of_ble_eq_true rfl⟩) hS (fun q _ h => h) (fun q h => h) (fun r_35 u t H1 locs ht hvm w_34 hB hz1 hk1 hS => ?_)
        have hI : Iv dC dI g A f t.heap := hB
        rw [ht] at hI
        generalize H1 = H at hI hS ⊢
        refine W.widen (k := 0) (n := 0) (Nat.le_of_ble_eq_true rfl) (Nat.le_of_ble_eq_true rfl) ?_
        have w_34 : (r_35.toInt = 0 ∧ (q (6 + 43 * y_3 + 2)).toInt ≠ 1) ∨ (r_35.toInt = 1 ∧ (q (6 + 43 * y_3 + 2)).toInt = 1) := w_34
        have J_34 : ∀ (y_36 : Int64) (H : Heap) (locs : List Loc) (ls : Array Slot), Iv dC dI g A f H → va_S A s.heap H locs → (0 ≤ y_36.toInt ∧ y_36.toInt ≤ 8) → ((q (6 + 43 * y_3 + 2)).toInt = 1 → 1 ≤ y_36.toInt) → lv_has ls 4 [(3, .int (nI y_3)), (1, .long y_4), (0, .ref h0)] → W p l e (headSpec wq_c_X12_heavy ({ frames := 2, cells := 0, slots := 0, locals := 41 } : Room)).room s m ([.ref h0].toArray) below meth c H locs 0 0 (MQ below (va_Ql (fun (r : Int64) (_ : Unit) => 0 ≤ r.toInt ∧ r.toInt ≤ 96 ∧ ∀ t : Nat, (t : Int) < (q 0).toInt → (q (6 + 43 * t + 2)).toInt = 1 → 1 ≤ r.toInt) (fun (_ : Unit) t => Iv dC dI g A f t.heap) A) ([.ref h0].toArray) s 0 0 A) (F0 m 34 ls [.long y_36, .long y_4]) := by
          intro y_36 H locs ls hI hS t_37 t_38 hl
          refine lv_ladd hx hb dX12_heavy_34 ?_
          refine lv_topl (fun v_39 ev_39 => ?_)
          have tv_39 := l_ad y_4 y_36
          rw [← ev_39] at tv_39
          refine lv_lstore_n (lv' := [(1, .long v_39), (3, .int (nI y_3)), (0, .ref h0)]) hx hb dX12_heavy_35 rfl hl (by decide) rfl (fun ls hl => ?_)
          refine lv_iinc (v := nI (y_3 + 1)) (lv' := [(3, .int (nI (y_3 + 1))), (1, .long v_39), (0, .ref h0)]) hx hb dX12_heavy_36 hl (k := 1) rfl (nI_1 _) (by decide) rfl (fun ls hl => ?_)
          refine lv_goto (tgt := 4) hx hb dX12_heavy_39 (by decide) ?_
          exact ih (y_3 + 1) v_39 _ _ _ (by omega) hI hS (by first | omega | decide) (by first | omega | decide) (by first | omega | decide) (fun t9 ht9 ho9 => by exact if h9 : t9 < y_3 then (by have g9 := t_8 t9 h9 ho9; omega) else (by have e9 : t9 = y_3 := (by omega); rw [e9] at ho9; omega)) (lv_sub hl [0, 1, 2] rfl)
        refine lv_if_eq (tgt := 33) hx hb dX12_heavy_22 (by decide) (fun c_40 => ?_) (fun c_40 => ?_)
        · have c_40 := kc_eq rfl (by decide : Int32.toInt 0 = 0) c_40
          refine lv_lconst (v := 0) hx hb dX12_heavy_33 (by decide) ?_
          exact J_34 0 _ _ _ hI hS (by first | omega | decide | (simp only [show Int64.toInt 0 = 0 from by decide]; omega)) (by first | omega | decide | (simp only [show Int64.toInt 0 = 0 from by decide]; omega)) (lv_sub hl [0, 1, 2] rfl)
        · have c_40 := kn_eq rfl (by decide : Int32.toInt 0 = 0) c_40
          refine lv_aload_n hx hb dX12_heavy_25 rfl (lv_at hl 2 rfl) ?_
          refine lv_iload_n hx hb dX12_heavy_26 rfl (lv_at hl 0 rfl) ?_
          refine va_calll (va_runV (As := [.int (nI y_3)]) (rest := [.long y_4]) ⟨hx, hb, hml, hown, hts⟩ (c_X12_weight l dC dI g A hG f h0 y_3 q i_h0 hc0 hc0_ok (by first | omega | decide | (simp only [k_c0, k_c1, k_cm1]; omega))) (cwV 1 hts (gi_V (fun w_ h0_ => ⟨List.mem_cons_of_mem _ (List.mem_append_right _ (List.mem_append_right _ (List.mem_append_right _ (List.mem_append_left _ h0_)))), (tb_c_X12_weight w_ h0_).2⟩) (List.mem_cons_of_mem _ (List.mem_append_left _ (List.mem_of_getElem? (i := 5) rfl))) (List.mem_cons_of_mem _ (List.mem_append_left _ (List.mem_of_getElem? (i := 6) rfl))) (List.mem_cons_of_mem _ (List.mem_append_left _ (List.mem_of_getElem? (i := 7) rfl))) (List.mem_cons_of_mem _ (List.mem_append_left _ (List.mem_of_getElem? (i := 4) rfl)))) rfl rfl rfl (by decide +kernel) ⟨Nat.le_of_ble_eq_true rfl, Nat.le_of_ble_eq_true rfl⟩) ⟨fun a U g mk q => ⟨q.1, q.2.calling rfl rfl⟩, k_recv hK hI i_h0.1 k_10 (ci := 12) rfl, fun U hU hW => ⟨rfl, kIn.of hI hK hE hS hU hW⟩⟩ rfl rfl hl.1 rfl (lv_room (Nat.le_of_ble_eq_true rfl)) dX12_heavy_27 ⟨Nat.le_of_ble_eq_true rfl, Nat.le_of_ble_eq_true rfl⟩) hS (fun q _ h => h) (fun q h => h) (fun r_42 u t H1 locs ht hvm w_41 hB hz1 hk1 hS => ?_)
          have hI : Iv dC dI g A f t.heap := hB
          rw [ht] at hI
          generalize H1 = H at hI hS ⊢
          refine W.widen (k := 0) (n := 0) (Nat.le_of_ble_eq_true rfl) (Nat.le_of_ble_eq_true rfl) ?_
          have w_41 : r_42 = q (6 + 43 * y_3) := w_41
          refine k_topl (y := q (6 + 43 * y_3)) w_41 ?_
          have d_43 := rk_0 hc0_ok (t := y_3) (by omega)
          refine lv_goto (tgt := 34) hx hb dX12_heavy_30 (by decide) ?_
          exact J_34 (q (6 + 43 * y_3)) _ _ _ hI hS (by first | omega | decide) (by first | omega | decide) (lv_sub hl [0, 1, 2] rfl)
  exact K_4 _ 0 0 _ _ _ (Nat.lt_succ_self _) hI hS (by first | omega | decide | (simp only [show Int64.toInt 0 = 0 from by decide]; omega)) (by first | omega | decide | (simp only [show Int64.toInt 0 = 0 from by decide]; omega)) (by first | omega | decide | (simp only [show Int64.toInt 0 = 0 from by decide]; omega)) (fun t9 ht9 => absurd ht9 (Nat.not_lt_zero t9)) (lv_sub hl [0, 1, 2] rfl)
theorem tw_746 : q_g (.selects RX12 yX12_virtual yX12_virtual) := ⟨(List.mem_append_left _ (List.mem_of_getElem? (i := 33) (by decide +kernel))), good_of_word (by decide +kernel)⟩
theorem tw_747 : q_g (.instanceMethod yX12_virtual) := ⟨(List.mem_append_right _ (List.mem_of_getElem? (i := 1269) (by decide +kernel))), good_of_word (by decide +kernel)⟩
theorem tw_748 : q_g (.methodLink RX12 98 yX12_virtual) := ⟨(List.mem_append_right _ (List.mem_of_getElem? (i := 1267) (by decide +kernel))), good_of_word (by decide +kernel)⟩
theorem tw_749 : q_g (.code yX12_sum cX12_sum 4 (some .long)) := ⟨(List.mem_append_right _ (List.mem_of_getElem? (i := 1266) (by decide +kernel))), good_of_word (by decide +kernel)⟩
def ow_c_X12_sum : List Cond := [.fieldLink RX12 16 "DeadlineShareModel" "row" "[J", .methodLink RX12 90 yX12_isOn, .instanceMethod yX12_isOn, .selects RX12 yX12_isOn yX12_isOn, .initialized RX12, .methodLink RX12 94 yX12_weight, .instanceMethod yX12_weight, .selects RX12 yX12_weight yX12_weight, .methodLink RX12 98 yX12_virtual, .instanceMethod yX12_virtual, .selects RX12 yX12_virtual yX12_virtual]
def wq_c_X12_sum : List Cond := .code yX12_sum cX12_sum 4 (some .long) :: (ow_c_X12_sum ++ (u_ws RX12 TX12 27 ++ (wq_c_X12_isOn ++ (wq_c_X12_weight ++ (wq_c_X12_virtual ++ ([] : List Cond))))))
theorem tb_c_X12_sum : ∀ w ∈ wq_c_X12_sum, q_g w := by
  unfold wq_c_X12_sum ow_c_X12_sum
  exact q_cons tw_749 (q_app (q_cons tw_731 (q_cons tw_744 (q_cons tw_743 (q_cons tw_742 (q_cons tw_728 (q_cons tw_741 (q_cons tw_740 (q_cons tw_739 (q_cons tw_748 (q_cons tw_747 (q_cons tw_746 q_nil))))))))))) (q_app tu_X12 (q_app tb_c_X12_isOn (q_app tb_c_X12_weight (q_app tb_c_X12_virtual q_nil)))))
set_option maxHeartbeats 4000000 in
set_option maxRecDepth 100000 in
theorem c_X12_sum (l : Launch) (dC : Nat → ClassId) (dI : Nat → Nat → Nat) (g : kG) (A : Nat → Prop) (hG : kWf g) (f : Nat → va_E) (h0 : Nat) (q : Nat → Int64) (i_h0 : ik g 12 h0) (hc0 : f (gr g h0 4) = .inl (gc g 1, 906, .inr (.inl q))) (hc0_ok : RowOK q) : Met l yX12_sum wq_c_X12_sum ({ frames := 2, cells := 0, slots := 0, locals := 41 } : Room) (va_Pc [.ref h0] (fun U => kIn dC dI g A f U)) (va_Ql (fun (r : Int64) (_ : Unit) => True) (fun (_ : Unit) t => Iv dC dI g A f t.heap) A) 0 0 A := by
  refine Met.ofW (cc := cX12_sum) (maxL := 4) (ret := (some .long)) (by decide) rfl ?_
  intro p e s m args below meth c s₁ B hml hv
  obtain ⟨rfl, hI, hK, hE⟩ := hv
  have hx := B.exec
  have hb := B.bytes
  have hr := B.returns
  have hts := atoms_spec (ws := wq_c_X12_sum) B.pre
  have hown : s.vm.findClass RX12 = some m.cls := findClass_of_methodNamed B.named
  have hlocks := B.notSynchronized
  have hS : va_S A s.heap s.heap [] := va_S.rf
  have hl := lv_entry ([.ref h0]) (n := 4) (Nat.le_of_ble_eq_true rfl)
  rw [lg_entry_eq]
  generalize (lg_sl ([.ref h0]) ++ List.replicate (4 - (lg_sl ([.ref h0])).length) Slot.unset).toArray = ls at hl ⊢
  have hl : lv_has ls 4 [(0, .ref h0)] := hl
  have i_1 := kw_12_4 hG i_h0
  have d_2 := rk_hd hc0_ok
  refine lv_lconst (v := 0) hx hb dX12_sum_0 (by decide) ?_
  refine lv_lstore_n (lv' := [(1, .long 0), (0, .ref h0)]) hx hb dX12_sum_1 rfl hl (by decide) rfl (fun ls hl => ?_)
  refine lv_iconst (v := 0) hx hb dX12_sum_2 (by decide) ?_
  refine lv_istore_n (lv' := [(3, .int 0), (1, .long 0), (0, .ref h0)]) hx hb dX12_sum_3 rfl hl (by decide) rfl (fun ls hl => ?_)
  have K_4 : ∀ (nn : Nat) (y_3 : Nat) (y_4 : Int64) (H : Heap) (locs : List Loc) (ls : Array Slot), 12 - y_3 < nn → Iv dC dI g A f H → va_S A s.heap H locs → (y_3 ≤ 12) → lv_has ls 4 [(3, .int (nI y_3)), (1, .long y_4), (0, .ref h0)] → W p l e (headSpec wq_c_X12_sum ({ frames := 2, cells := 0, slots := 0, locals := 41 } : Room)).room s m ([.ref h0].toArray) below meth c H locs 0 0 (MQ below (va_Ql (fun (r : Int64) (_ : Unit) => True) (fun (_ : Unit) t => Iv dC dI g A f t.heap) A) ([.ref h0].toArray) s 0 0 A) (F0 m 4 ls []) := by
    intro nn
    induction nn with
    | zero => intro y_3 y_4 H locs ls m_6; exact absurd m_6 (Nat.not_lt_zero _)
    | succ nn ih =>
      intro y_3 y_4 H locs ls m_6 hI hS t_5 hl
      refine lv_iload_n hx hb dX12_sum_4 rfl (lv_at hl 0 rfl) ?_
      refine lv_i2l (v := lN (y_3)) hx hb dX12_sum_5 (nI_l (by omega)) ?_
      refine lv_aload_n hx hb dX12_sum_6 rfl (lv_at hl 2 rfl) ?_
      obtain ⟨x_8, x_9, x_10, x_11, x_12, x_13, x_14, x_15, x_16, x_17, x_18, x_19, x_20, x_21, k_7, b_22, b_23, b_24, b_25, b_26, b_27⟩ := op_12 hI i_h0
      refine k_get (ci := 12) (v := .ref (gr g h0 4)) (C := RX12) (T := TX12) (N := 27) hx hb hts (fun _ h0_ => List.mem_cons_of_mem _ (List.mem_append_right _ (List.mem_append_left _ h0_))) hown hK hI i_h0.1 k_7 rfl 4 (by decide) (hts (.fieldLink RX12 16 "DeadlineShareModel" "row" "[J") (List.mem_cons_of_mem _ (List.mem_append_left _ (List.mem_of_getElem? (i := 0) rfl)))) (fun _ h9 => h9) rfl dX12_sum_7 ?_
      refine lv_iconst (v := 0) hx hb dX12_sum_10 (by decide) ?_
      refine k_lald hx hb hK hI i_1.1 1 hc0 rfl (by unfold vp_in; decide) dX12_sum_11 ?_
      refine k_topl (y := q 0) (congrArg q (show Int32.toNatClampNeg 0 = 0 by decide)) ?_
      refine W.lcmp hx hb dX12_sum_12 ?_
      refine lv_if_ge (tgt := 48) hx hb dX12_sum_13 (by decide) (fun c_30 => ?_) (fun c_30 => ?_)
      · have c_30 := lc_le rfl (lN_toInt (n := y_3) (by omega)) ((lg_cmp_ge _ _).mp c_30)
        refine lv_lload_n hx hb dX12_sum_48 rfl (lv_at hl 1 rfl) ?_
        exact W.lret (v := y_4) hx hb hr (fun t ht hW => ⟨⟨y_4, (), rfl, trivial, k_ret ht hI⟩, hS.F ht⟩) hS.2.2 dX12_sum_49
      · have c_30 := ln_le rfl (lN_toInt (n := y_3) (by omega)) (fun h9 => c_30 ((lg_cmp_ge _ _).mpr h9))
        refine lv_lload_n hx hb dX12_sum_16 rfl (lv_at hl 1 rfl) ?_
        refine lv_aload_n hx hb dX12_sum_17 rfl (lv_at hl 2 rfl) ?_
        refine lv_iload_n hx hb dX12_sum_18 rfl (lv_at hl 0 rfl) ?_
        refine va_calli (va_runV (As := [.int (nI y_3)]) (rest := [.long y_4]) ⟨hx, hb, hml, hown, hts⟩ (c_X12_isOn l dC dI g A hG f h0 y_3 q i_h0 hc0 hc0_ok (by first | omega | decide | (simp only [k_c0, k_c1, k_cm1]; omega))) (cwV 1 hts (gi_V (fun w_ h0_ => ⟨List.mem_cons_of_mem _ (List.mem_append_right _ (List.mem_append_right _ (List.mem_append_left _ h0_))), (tb_c_X12_isOn w_ h0_).2⟩) (List.mem_cons_of_mem _ (List.mem_append_left _ (List.mem_of_getElem? (i := 1) rfl))) (List.mem_cons_of_mem _ (List.mem_append_left _ (List.mem_of_getElem? (i := 2) rfl))) (List.mem_cons_of_mem _ (List.mem_append_left _ (List.mem_of_getElem? (i := 3) rfl))) (List.mem_cons_of_mem _ (List.mem_append_left _ (List.mem_of_getElem? (i := 4) rfl)))) rfl rfl rfl (by decide +kernel) ⟨Nat.le_of_ble_eq_true rfl, Nat.le_of_ble_eq_true rfl⟩) ⟨fun a U g mk q => ⟨q.1, q.2.calling rfl rfl⟩, k_recv hK hI i_h0.1 k_7 (ci := 12) rfl, fun U hU hW => ⟨rfl, kIn.of hI hK hE hS hU hW⟩⟩ rfl rfl hl.1 rfl (lv_room (Nat.le_of_ble_eq_true rfl)) dX12_sum_19 ⟨Nat.le_of_ble_eq_true rfl, Nat.le_of_ble_eq_true rfl⟩) hS (fun q _ h => h) (fun q h => h) (fun r_32 u t H1 locs ht hvm w_31 hB hz1 hk1 hS => ?_)
        have hI : Iv dC dI g A f t.heap := hB
        rw [ht] at hI
        generalize H1 = H at hI hS ⊢
        refine W.widen (k := 0) (n := 0) (Nat.le_of_ble_eq_true rfl) (Nat.le_of_ble_eq_true rfl) ?_
        have w_31 : (r_32.toInt = 0 ∧ (q (6 + 43 * y_3 + 2)).toInt ≠ 1) ∨ (r_32.toInt = 1 ∧ (q (6 + 43 * y_3 + 2)).toInt = 1) := w_31
        have J_40 : ∀ (y_33 : Int64) (H : Heap) (locs : List Loc) (ls : Array Slot), Iv dC dI g A f H → va_S A s.heap H locs → lv_has ls 4 [(3, .int (nI y_3)), (1, .long y_4), (0, .ref h0)] → W p l e (headSpec wq_c_X12_sum ({ frames := 2, cells := 0, slots := 0, locals := 41 } : Room)).room s m ([.ref h0].toArray) below meth c H locs 0 0 (MQ below (va_Ql (fun (r : Int64) (_ : Unit) => True) (fun (_ : Unit) t => Iv dC dI g A f t.heap) A) ([.ref h0].toArray) s 0 0 A) (F0 m 40 ls [.long y_33, .long y_4]) := by
          intro y_33 H locs ls hI hS  hl
          refine lv_ladd hx hb dX12_sum_40 ?_
          refine lv_topl (fun v_34 ev_34 => ?_)
          have tv_34 := l_ad y_4 y_33
          rw [← ev_34] at tv_34
          refine lv_lstore_n (lv' := [(1, .long v_34), (3, .int (nI y_3)), (0, .ref h0)]) hx hb dX12_sum_41 rfl hl (by decide) rfl (fun ls hl => ?_)
          refine lv_iinc (v := nI (y_3 + 1)) (lv' := [(3, .int (nI (y_3 + 1))), (1, .long v_34), (0, .ref h0)]) hx hb dX12_sum_42 hl (k := 1) rfl (nI_1 _) (by decide) rfl (fun ls hl => ?_)
          refine lv_goto (tgt := 4) hx hb dX12_sum_45 (by decide) ?_
          exact ih (y_3 + 1) v_34 _ _ _ (by omega) hI hS (by first | omega | decide) (lv_sub hl [0, 1, 2] rfl)
        refine lv_if_eq (tgt := 39) hx hb dX12_sum_22 (by decide) (fun c_35 => ?_) (fun c_35 => ?_)
        · have c_35 := kc_eq rfl (by decide : Int32.toInt 0 = 0) c_35
          refine lv_lconst (v := 0) hx hb dX12_sum_39 (by decide) ?_
          exact J_40 0 _ _ _ hI hS  (lv_sub hl [0, 1, 2] rfl)
        · have c_35 := kn_eq rfl (by decide : Int32.toInt 0 = 0) c_35
          refine lv_aload_n hx hb dX12_sum_25 rfl (lv_at hl 2 rfl) ?_
          refine lv_iload_n hx hb dX12_sum_26 rfl (lv_at hl 0 rfl) ?_
          refine va_calll (va_runV (As := [.int (nI y_3)]) (rest := [.long y_4]) ⟨hx, hb, hml, hown, hts⟩ (c_X12_weight l dC dI g A hG f h0 y_3 q i_h0 hc0 hc0_ok (by first | omega | decide | (simp only [k_c0, k_c1, k_cm1]; omega))) (cwV 1 hts (gi_V (fun w_ h0_ => ⟨List.mem_cons_of_mem _ (List.mem_append_right _ (List.mem_append_right _ (List.mem_append_right _ (List.mem_append_left _ h0_)))), (tb_c_X12_weight w_ h0_).2⟩) (List.mem_cons_of_mem _ (List.mem_append_left _ (List.mem_of_getElem? (i := 5) rfl))) (List.mem_cons_of_mem _ (List.mem_append_left _ (List.mem_of_getElem? (i := 6) rfl))) (List.mem_cons_of_mem _ (List.mem_append_left _ (List.mem_of_getElem? (i := 7) rfl))) (List.mem_cons_of_mem _ (List.mem_append_left _ (List.mem_of_getElem? (i := 4) rfl)))) rfl rfl rfl (by decide +kernel) ⟨Nat.le_of_ble_eq_true rfl, Nat.le_of_ble_eq_true rfl⟩) ⟨fun a U g mk q => ⟨q.1, q.2.calling rfl rfl⟩, k_recv hK hI i_h0.1 k_7 (ci := 12) rfl, fun U hU hW => ⟨rfl, kIn.of hI hK hE hS hU hW⟩⟩ rfl rfl hl.1 rfl (lv_room (Nat.le_of_ble_eq_true rfl)) dX12_sum_27 ⟨Nat.le_of_ble_eq_true rfl, Nat.le_of_ble_eq_true rfl⟩) hS (fun q _ h => h) (fun q h => h) (fun r_37 u t H1 locs ht hvm w_36 hB hz1 hk1 hS => ?_)
          have hI : Iv dC dI g A f t.heap := hB
          rw [ht] at hI
          generalize H1 = H at hI hS ⊢
          refine W.widen (k := 0) (n := 0) (Nat.le_of_ble_eq_true rfl) (Nat.le_of_ble_eq_true rfl) ?_
          have w_36 : r_37 = q (6 + 43 * y_3) := w_36
          refine k_topl (y := q (6 + 43 * y_3)) w_36 ?_
          have d_38 := rk_0 hc0_ok (t := y_3) (by omega)
          refine lv_aload_n hx hb dX12_sum_30 rfl (lv_at hl 2 rfl) ?_
          refine lv_iload_n hx hb dX12_sum_31 rfl (lv_at hl 0 rfl) ?_
          refine va_calll (va_runV (As := [.int (nI y_3)]) (rest := [.long (q (6 + 43 * y_3)), .long y_4]) ⟨hx, hb, hml, hown, hts⟩ (c_X12_virtual l dC dI g A hG f h0 y_3 q i_h0 hc0 hc0_ok (by first | omega | decide | (simp only [k_c0, k_c1, k_cm1]; omega))) (cwV 1 hts (gi_V (fun w_ h0_ => ⟨List.mem_cons_of_mem _ (List.mem_append_right _ (List.mem_append_right _ (List.mem_append_right _ (List.mem_append_right _ (List.mem_append_left _ h0_))))), (tb_c_X12_virtual w_ h0_).2⟩) (List.mem_cons_of_mem _ (List.mem_append_left _ (List.mem_of_getElem? (i := 8) rfl))) (List.mem_cons_of_mem _ (List.mem_append_left _ (List.mem_of_getElem? (i := 9) rfl))) (List.mem_cons_of_mem _ (List.mem_append_left _ (List.mem_of_getElem? (i := 10) rfl))) (List.mem_cons_of_mem _ (List.mem_append_left _ (List.mem_of_getElem? (i := 4) rfl)))) rfl rfl rfl (by decide +kernel) ⟨Nat.le_of_ble_eq_true rfl, Nat.le_of_ble_eq_true rfl⟩) ⟨fun a U g mk q => ⟨q.1, q.2.calling rfl rfl⟩, k_recv hK hI i_h0.1 k_7 (ci := 12) rfl, fun U hU hW => ⟨rfl, kIn.of hI hK hE hS hU hW⟩⟩ rfl rfl hl.1 rfl (lv_room (Nat.le_of_ble_eq_true rfl)) dX12_sum_32 ⟨Nat.le_of_ble_eq_true rfl, Nat.le_of_ble_eq_true rfl⟩) hS (fun q _ h => h) (fun q h => h) (fun r_40 u t H1 locs ht hvm w_39 hB hz1 hk1 hS => ?_)
          have hI : Iv dC dI g A f t.heap := hB
          rw [ht] at hI
          generalize H1 = H at hI hS ⊢
          refine W.widen (k := 0) (n := 0) (Nat.le_of_ble_eq_true rfl) (Nat.le_of_ble_eq_true rfl) ?_
          refine lv_lmul hx hb dX12_sum_35 ?_
          refine lv_topl (fun v_41 ev_41 => ?_)
          refine lv_goto (tgt := 40) hx hb dX12_sum_36 (by decide) ?_
          exact J_40 v_41 _ _ _ hI hS  (lv_sub hl [0, 1, 2] rfl)
  exact K_4 _ 0 0 _ _ _ (Nat.lt_succ_self _) hI hS (by first | omega | decide | (simp only [show Int64.toInt 0 = 0 from by decide]; omega)) (lv_sub hl [0, 1, 2] rfl)
