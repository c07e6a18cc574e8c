theorem tw_879 : q_g (.fieldLink RX12 39 "DeadlineShareModel" "fault" "I") := ⟨(List.mem_append_right _ (List.mem_of_getElem? (i := 1114) (by decide +kernel))), good_of_word (by decide +kernel)⟩
theorem tw_880 : q_g (.selects RX12 yX12_next yX12_next) := ⟨(List.mem_append_left _ (List.mem_of_getElem? (i := 41) (by decide +kernel))), good_of_word (by decide +kernel)⟩
theorem tw_881 : q_g (.instanceMethod yX12_next) := ⟨(List.mem_append_right _ (List.mem_of_getElem? (i := 1344) (by decide +kernel))), good_of_word (by decide +kernel)⟩
theorem tw_882 : q_g (.methodLink RX12 205 yX12_next) := ⟨(List.mem_append_right _ (List.mem_of_getElem? (i := 1342) (by decide +kernel))), good_of_word (by decide +kernel)⟩
theorem tw_883 : q_g (.fieldLink RX12 201 "DeadlineShareModel" "bad" "Z") := ⟨(List.mem_append_right _ (List.mem_of_getElem? (i := 1115) (by decide +kernel))), good_of_word (by decide +kernel)⟩
theorem tw_884 : q_g (.code yX12_must cX12_must 2 none) := ⟨(List.mem_append_right _ (List.mem_of_getElem? (i := 1363) (by decide +kernel))), good_of_word (by decide +kernel)⟩
def ow_c_X12_must : List Cond := [.fieldLink RX12 201 "DeadlineShareModel" "bad" "Z", .methodLink RX12 205 yX12_next, .instanceMethod yX12_next, .selects RX12 yX12_next yX12_next, .initialized RX12, .fieldLink RX12 177 "DeadlineShareModel" "from" "I", .fieldLink RX12 39 "DeadlineShareModel" "fault" "I"]
def wq_c_X12_must : List Cond := .code yX12_must cX12_must 2 none :: (ow_c_X12_must ++ (u_ws RX12 TX12 27 ++ (wq_c_X12_next ++ ([] : List Cond))))
theorem tb_c_X12_must : ∀ w ∈ wq_c_X12_must, q_g w := by
  unfold wq_c_X12_must ow_c_X12_must
  exact q_cons tw_884 (q_app (q_cons tw_883 (q_cons tw_882 (q_cons tw_881 (q_cons tw_880 (q_cons tw_728 (q_cons tw_876 (q_cons tw_879 q_nil))))))) (q_app tu_X12 (q_app tb_c_X12_next q_nil)))
set_option maxHeartbeats 4000000 in
set_option maxRecDepth 100000 in
theorem c_X12_must (l : Launch) (dC : Nat → ClassId) (dI : Nat → Nat → Nat) (g : kG) (A : Nat → Prop) (hG : kWf g) (f : Nat → va_E) (h0 : Nat) (p1 : Int32) (z0 : Int32) (z1 : Int32) (z10 : Int32) (z12 : Int32) (z13 : Int32) (z14 : Int32) (z15 : Int32) (z16 : Int64) (z17 : Int32) (z18 : Int32) (z23 : Int32) (z24 : Int64) (z25 : Int64) (z26 : Int64) (i_h0 : ik g 12 h0) (hc0 : f h0 = .inr (12, [.int z0, .int z1, .ref (gr g h0 2), .ref (gr g h0 3), .ref (gr g h0 4), .ref (gr g h0 5), .ref (gr g h0 6), .ref (gr g h0 7), .ref (gr g h0 8), .ref (gr g h0 9), .int z10, .ref (gr g h0 11), .int z12, .int z13, .int z14, .int z15, .long z16, .int z17, .int z18, .ref (gr g h0 19), .ref (gr g h0 20), .ref (gr g h0 21), .ref (gr g h0 22), .int z23, .long z24, .long z25, .long z26])) (hc0_10 : 0 ≤ z10.toInt ∧ z10.toInt ≤ 10) (hc0_12 : 0 ≤ z12.toInt ∧ z12.toInt ≤ 200) (hc0_23 : 0 ≤ z23.toInt ∧ z23.toInt ≤ 8) (ht9 : 0 ≤ z14.toInt ∧ z14.toInt ≤ z12.toInt) : Met l yX12_must wq_c_X12_must ({ frames := 2, cells := 0, slots := 0, locals := 40 } : Room) (va_Pc [.ref h0, .int p1] (fun U => kIn dC dI g A f U)) (va_Qv (fun (_ : Unit) => True) (fun (_ : Unit) t => ∃ f1 : Nat → va_E, Iv dC dI g A f1 t.heap ∧ Kp g [12] f f1 ∧ ∃ (w13 : Int32) (w14 : Int32) (w15 : Int32) (w16 : Int64) (w17 : Int32) (w18 : Int32), (f1 h0 = .inr (12, [.int z0, .int z1, .ref (gr g h0 2), .ref (gr g h0 3), .ref (gr g h0 4), .ref (gr g h0 5), .ref (gr g h0 6), .ref (gr g h0 7), .ref (gr g h0 8), .ref (gr g h0 9), .int z10, .ref (gr g h0 11), .int z12, .int w13, .int w14, .int w15, .long w16, .int w17, .int w18, .ref (gr g h0 19), .ref (gr g h0 20), .ref (gr g h0 21), .ref (gr g h0 22), .int z23, .long z24, .long z25, .long z26])) ∧ (0 ≤ w14.toInt ∧ w14.toInt ≤ z12.toInt) ∧ (w18.toInt ≠ 0 ∨ (z18.toInt = 0 ∧ p1.toInt ≠ 0))) A) 0 0 A := by
  refine Met.ofW (cc := cX12_must) (maxL := 2) (ret := none) (by decide) rfl ?_
  intro p e s m args below meth c s₁ B hml hv
  obtain ⟨rfl, hI, hK, hE⟩ := hv
  have hx := B.exec
  have hb := B.bytes
  have hr := B.returns
  have hts := atoms_spec (ws := wq_c_X12_must) B.pre
  have hown : s.vm.findClass RX12 = some m.cls := findClass_of_methodNamed B.named
  have hlocks := B.notSynchronized
  have hS : va_S A s.heap s.heap [] := va_S.rf
  have hk0 : Kp g [12] f f := Kp.rf
  have hl := lv_entry ([.ref h0, .int p1]) (n := 2) (Nat.le_of_ble_eq_true rfl)
  rw [lg_entry_eq]
  generalize (lg_sl ([.ref h0, .int p1]) ++ List.replicate (2 - (lg_sl ([.ref h0, .int p1])).length) Slot.unset).toArray = ls at hl ⊢
  have hl : lv_has ls 2 [(0, .ref h0), (1, .int p1)] := hl
  refine lv_aload_n hx hb dX12_must_0 rfl (lv_at hl 0 rfl) ?_
  refine k_get (ci := 12) (v := .int z18) (C := RX12) (T := TX12) (N := 27) hx hb hts (fun _ h0_ => List.mem_cons_of_mem _ (List.mem_append_right _ (List.mem_append_left _ h0_))) hown hK hI i_h0.1 hc0 rfl 18 (by decide) (hts (.fieldLink RX12 201 "DeadlineShareModel" "bad" "Z") (List.mem_cons_of_mem _ (List.mem_append_left _ (List.mem_of_getElem? (i := 0) rfl)))) (fun _ h9 => h9) rfl dX12_must_1 ?_
  have J_24 : ∀ (y_2 : Int32) (y_3 : Int32) (f_1 : Nat → va_E) (H : Heap) (locs : List Loc) (ls : Array Slot), Iv dC dI g A f_1 H → va_S A s.heap H locs → f_1 h0 = .inr (12, [.int z0, .int z1, .ref (gr g h0 2), .ref (gr g h0 3), .ref (gr g h0 4), .ref (gr g h0 5), .ref (gr g h0 6), .ref (gr g h0 7), .ref (gr g h0 8), .ref (gr g h0 9), .int z10, .ref (gr g h0 11), .int z12, .int z13, .int z14, .int z15, .long z16, .int y_2, .int y_3, .ref (gr g h0 19), .ref (gr g h0 20), .ref (gr g h0 21), .ref (gr g h0 22), .int z23, .long z24, .long z25, .long z26]) → Kp g [12] f f_1 → (y_3.toInt ≠ 0 ∨ (z18.toInt = 0 ∧ p1.toInt ≠ 0)) → lv_has ls 2 [(0, .ref h0), (1, .int p1)] → W p l e (headSpec wq_c_X12_must ({ frames := 2, cells := 0, slots := 0, locals := 40 } : Room)).room s m ([.ref h0, .int p1].toArray) below meth c H locs 0 0 (MQ below (va_Qv (fun (_ : Unit) => True) (fun (_ : Unit) t => ∃ f1 : Nat → va_E, Iv dC dI g A f1 t.heap ∧ Kp g [12] f f1 ∧ ∃ (w13 : Int32) (w14 : Int32) (w15 : Int32) (w16 : Int64) (w17 : Int32) (w18 : Int32), (f1 h0 = .inr (12, [.int z0, .int z1, .ref (gr g h0 2), .ref (gr g h0 3), .ref (gr g h0 4), .ref (gr g h0 5), .ref (gr g h0 6), .ref (gr g h0 7), .ref (gr g h0 8), .ref (gr g h0 9), .int z10, .ref (gr g h0 11), .int z12, .int w13, .int w14, .int w15, .long w16, .int w17, .int w18, .ref (gr g h0 19), .ref (gr g h0 20), .ref (gr g h0 21), .ref (gr g h0 22), .int z23, .long z24, .long z25, .long z26])) ∧ (0 ≤ w14.toInt ∧ w14.toInt ≤ z12.toInt) ∧ (w18.toInt ≠ 0 ∨ (z18.toInt = 0 ∧ p1.toInt ≠ 0))) A) ([.ref h0, .int p1].toArray) s 0 0 A) (F0 m 24 ls []) := by
    intro y_2 y_3 f_1 H locs ls hI hS k_4 kp_5 t_6 hl
    refine lv_aload_n hx hb dX12_must_24 rfl (lv_at hl 0 rfl) ?_
    refine k_get (ci := 12) (v := .int y_3) (C := RX12) (T := TX12) (N := 27) hx hb hts (fun _ h0_ => List.mem_cons_of_mem _ (List.mem_append_right _ (List.mem_append_left _ h0_))) hown hK hI i_h0.1 k_4 rfl 18 (by decide) (hts (.fieldLink RX12 201 "DeadlineShareModel" "bad" "Z") (List.mem_cons_of_mem _ (List.mem_append_left _ (List.mem_of_getElem? (i := 0) rfl)))) (fun _ h9 => h9) rfl dX12_must_25 ?_
    refine lv_if_ne (tgt := 35) hx hb dX12_must_28 (by decide) (fun c_7 => ?_) (fun c_7 => ?_)
    · have c_7 := kn_eq rfl (by decide : Int32.toInt 0 = 0) c_7
      exact W.vret hx hb hr (fun t ht hW => ⟨⟨(), rfl, trivial, ⟨f_1, k_ret ht hI, kp_5, z13, z14, z15, z16, y_2, y_3, k_4, (by first | omega | decide), (by first | omega | decide)⟩⟩, hS.F ht⟩) hS.2.2 dX12_must_35
    · have c_7 := kc_eq rfl (by decide : Int32.toInt 0 = 0) c_7
      refine lv_aload_n hx hb dX12_must_31 rfl (lv_at hl 0 rfl) ?_
      refine va_callv (va_runV (As := []) (rest := []) ⟨hx, hb, hml, hown, hts⟩ (c_X12_next l dC dI g A hG f_1 h0 z0 z1 z10 z12 z13 z14 z15 z16 y_2 y_3 z23 z24 z25 z26 i_h0 k_4 (by first | omega | (simp only [k_c0]; omega)) (by first | omega | (simp only [k_c0]; omega)) (by first | omega | (simp only [k_c0]; omega)) (by first | omega | decide | (simp only [k_c0, k_c1, k_cm1] <;> omega))) (cwV 0 hts (gi_V (fun w_ h0_ => ⟨List.mem_cons_of_mem _ (List.mem_append_right _ (List.mem_append_right _ (List.mem_append_left _ h0_))), (tb_c_X12_next w_ h0_).2⟩) (List.mem_cons_of_mem _ (List.mem_append_left _ (List.mem_of_getElem? (i := 1) rfl))) (List.mem_cons_of_mem _ (List.mem_append_left _ (List.mem_of_getElem? (i := 2) rfl))) (List.mem_cons_of_mem _ (List.mem_append_left _ (List.mem_of_getElem? (i := 3) rfl))) (List.mem_cons_of_mem _ (List.mem_append_left _ (List.mem_of_getElem? (i := 4) rfl)))) rfl rfl rfl (by decide +kernel) ⟨Nat.le_of_ble_eq_true rfl, Nat.le_of_ble_eq_true rfl⟩) ⟨fun a U g mk q => ⟨q.1, q.2.calling rfl rfl⟩, k_recv hK hI i_h0.1 k_4 (ci := 12) rfl, fun U hU hW => ⟨rfl, kIn.of hI hK hE hS hU hW⟩⟩ rfl rfl hl.1 rfl (lv_room (Nat.le_of_ble_eq_true rfl)) dX12_must_32 ⟨Nat.le_of_ble_eq_true rfl, Nat.le_of_ble_eq_true rfl⟩) hS (fun q _ h => h) (fun q h => h) (fun u t H1 locs ht hvm _ hB hz1 hk1 hS => ?_)
      obtain ⟨f_8, hI, kc_10, w13_11, w14_12, w15_13, w16_14, k_15, z_16⟩ := hB
      rw [ht] at hI
      have k_15 : f_8 h0 = .inr (12, [.int z0, .int z1, .ref (gr g h0 2), .ref (gr g h0 3), .ref (gr g h0 4), .ref (gr g h0 5), .ref (gr g h0 6), .ref (gr g h0 7), .ref (gr g h0 8), .ref (gr g h0 9), .int z10, .ref (gr g h0 11), .int z12, .int w13_11, .int w14_12, .int w15_13, .long w16_14, .int y_2, .int y_3, .ref (gr g h0 19), .ref (gr g h0 20), .ref (gr g h0 21), .ref (gr g h0 22), .int z23, .long z24, .long z25, .long z26]) := k_15
      have z_16 : 0 ≤ w14_12.toInt ∧ w14_12.toInt ≤ z12.toInt := z_16
      have kp_17 := Kp.call kp_5 kc_10 (by decide)
      generalize H1 = H at hI hS ⊢
      refine W.widen (k := 0) (n := 0) (Nat.le_of_ble_eq_true rfl) (Nat.le_of_ble_eq_true rfl) ?_
      exact W.vret hx hb hr (fun t ht hW => ⟨⟨(), rfl, trivial, ⟨f_8, k_ret ht hI, kp_17, w13_11, w14_12, w15_13, w16_14, y_2, y_3, k_15, (by first | omega | decide), (by first | omega | decide)⟩⟩, hS.F ht⟩) hS.2.2 dX12_must_35
  refine lv_if_ne (tgt := 24) hx hb dX12_must_4 (by decide) (fun c_18 => ?_) (fun c_18 => ?_)
  · have c_18 := kn_eq rfl (by decide : Int32.toInt 0 = 0) c_18
    exact J_24 z17 z18 f _ _ _ hI hS hc0 hk0 (by first | omega | decide | exact Or.inl (by decide)) (lv_sub hl [0, 1] rfl)
  · have c_18 := kc_eq rfl (by decide : Int32.toInt 0 = 0) c_18
    refine lv_iload_n hx hb dX12_must_7 rfl (lv_at hl 1 rfl) ?_
    refine lv_if_ne (tgt := 24) hx hb dX12_must_8 (by decide) (fun c_19 => ?_) (fun c_19 => ?_)
    · have c_19 := kn_eq rfl (by decide : Int32.toInt 0 = 0) c_19
      exact J_24 z17 z18 f _ _ _ hI hS hc0 hk0 (by first | omega | decide | exact Or.inl (by decide)) (lv_sub hl [0, 1] rfl)
    · have c_19 := kc_eq rfl (by decide : Int32.toInt 0 = 0) c_19
      refine lv_aload_n hx hb dX12_must_11 rfl (lv_at hl 0 rfl) ?_
      refine lv_iconst (v := 1) hx hb dX12_must_12 (by decide) ?_
      refine k_put (ci := 12) (v := .int 1) (ty := .boolean) (C := RX12) (T := TX12) (N := 27) hx hb hts (fun _ h0_ => List.mem_cons_of_mem _ (List.mem_append_right _ (List.mem_append_left _ h0_))) tyX12 tyX12_ok nmX12 hown hK hI hS i_h0.1 hc0 rfl 18 (by decide) (hts (.fieldLink RX12 201 "DeadlineShareModel" "bad" "Z") (List.mem_cons_of_mem _ (List.mem_append_left _ (List.mem_of_getElem? (i := 0) rfl)))) (fun _ h9 => h9) rfl (by decide +kernel) rfl rfl (Nat.le_of_ble_eq_true rfl) rfl (cl_12 i_h0 (by omega) (by omega) (by omega)) dX12_must_13 (fun f_20 H locs e_21 hI hS => ?_)
      have k_23 : f_20 h0 = .inr (12, [.int z0, .int z1, .ref (gr g h0 2), .ref (gr g h0 3), .ref (gr g h0 4), .ref (gr g h0 5), .ref (gr g h0 6), .ref (gr g h0 7), .ref (gr g h0 8), .ref (gr g h0 9), .int z10, .ref (gr g h0 11), .int z12, .int z13, .int z14, .int z15, .long z16, .int z17, .int 1, .ref (gr g h0 19), .ref (gr g h0 20), .ref (gr g h0 21), .ref (gr g h0 22), .int z23, .long z24, .long z25, .long z26]) := by rw [e_21]; exact va_up_self _ _ _
      have kp_22 := Kp.put hk0 i_h0 (by decide) e_21
      refine lv_aload_n hx hb dX12_must_16 rfl (lv_at hl 0 rfl) ?_
      refine lv_aload_n hx hb dX12_must_17 rfl (lv_at hl 0 rfl) ?_
      refine k_get (ci := 12) (v := .int z13) (C := RX12) (T := TX12) (N := 27) hx hb hts (fun _ h0_ => List.mem_cons_of_mem _ (List.mem_append_right _ (List.mem_append_left _ h0_))) hown hK hI i_h0.1 k_23 rfl 13 (by decide) (hts (.fieldLink RX12 177 "DeadlineShareModel" "from" "I") (List.mem_cons_of_mem _ (List.mem_append_left _ (List.mem_of_getElem? (i := 5) rfl)))) (fun _ h9 => h9) rfl dX12_must_18 ?_
      refine k_put (ci := 12) (v := .int z13) (ty := .int) (C := RX12) (T := TX12) (N := 27) hx hb hts (fun _ h0_ => List.mem_cons_of_mem _ (List.mem_append_right _ (List.mem_append_left _ h0_))) tyX12 tyX12_ok nmX12 hown hK hI hS i_h0.1 k_23 rfl 17 (by decide) (hts (.fieldLink RX12 39 "DeadlineShareModel" "fault" "I") (List.mem_cons_of_mem _ (List.mem_append_left _ (List.mem_of_getElem? (i := 6) rfl)))) (fun _ h9 => h9) rfl (by decide +kernel) rfl rfl (Nat.le_of_ble_eq_true rfl) rfl (cl_12 i_h0 (by omega) (by omega) (by omega)) dX12_must_21 (fun f_24 H locs e_25 hI hS => ?_)
      have k_27 : f_24 h0 = .inr (12, [.int z0, .int z1, .ref (gr g h0 2), .ref (gr g h0 3), .ref (gr g h0 4), .ref (gr g h0 5), .ref (gr g h0 6), .ref (gr g h0 7), .ref (gr g h0 8), .ref (gr g h0 9), .int z10, .ref (gr g h0 11), .int z12, .int z13, .int z14, .int z15, .long z16, .int z13, .int 1, .ref (gr g h0 19), .ref (gr g h0 20), .ref (gr g h0 21), .ref (gr g h0 22), .int z23, .long z24, .long z25, .long z26]) := by rw [e_25]; exact va_up_self _ _ _
      have kp_26 := Kp.put kp_22 i_h0 (by decide) e_25
      exact J_24 z13 1 f_24 _ _ _ hI hS k_27 kp_26 (by first | omega | decide | exact Or.inl (by decide) | (simp only [show Int32.toInt 1 = 1 from by decide] <;> omega)) (lv_sub hl [0, 1] rfl)
theorem tw_885 : q_g (.fieldLink RX12 53 "DeadlineShareModel" "words" "[J") := ⟨(List.mem_append_right _ (List.mem_of_getElem? (i := 1116) (by decide +kernel))), good_of_word (by decide +kernel)⟩
theorem tw_886 : q_g (.fieldLink RX12 56 "DeadlineShareModel" "most" "[I") := ⟨(List.mem_append_right _ (List.mem_of_getElem? (i := 1117) (by decide +kernel))), good_of_word (by decide +kernel)⟩
theorem tw_887 : q_g (.fieldLink RX12 62 "DeadlineShareModel" "numbers" "[I") := ⟨(List.mem_append_right _ (List.mem_of_getElem? (i := 1119) (by decide +kernel))), good_of_word (by decide +kernel)⟩
theorem tw_888 : q_g (.fieldLink RX12 208 "DeadlineShareModel" "nSteps" "I") := ⟨(List.mem_append_right _ (List.mem_of_getElem? (i := 1120) (by decide +kernel))), good_of_word (by decide +kernel)⟩
theorem tw_889 : q_g (.fieldLink RX12 59 "DeadlineShareModel" "kinds" "[I") := ⟨(List.mem_append_right _ (List.mem_of_getElem? (i := 1118) (by decide +kernel))), good_of_word (by decide +kernel)⟩
theorem tw_890 : q_g (.selects RX12 yX12_must yX12_must) := ⟨(List.mem_append_left _ (List.mem_of_getElem? (i := 43) (by decide +kernel))), good_of_word (by decide +kernel)⟩
theorem tw_891 : q_g (.instanceMethod yX12_must) := ⟨(List.mem_append_right _ (List.mem_of_getElem? (i := 1362) (by decide +kernel))), good_of_word (by decide +kernel)⟩
theorem tw_892 : q_g (.methodLink RX12 211 yX12_must) := ⟨(List.mem_append_right _ (List.mem_of_getElem? (i := 1360) (by decide +kernel))), good_of_word (by decide +kernel)⟩
theorem tw_893 : q_g (.code yX12_readStep cX12_readStep 3 none) := ⟨(List.mem_append_right _ (List.mem_of_getElem? (i := 1359) (by decide +kernel))), good_of_word (by decide +kernel)⟩
def ow_c_X12_readStep : List Cond := [.methodLink RX12 211 yX12_must, .instanceMethod yX12_must, .selects RX12 yX12_must yX12_must, .initialized RX12, .fieldLink RX12 201 "DeadlineShareModel" "bad" "Z", .fieldLink RX12 59 "DeadlineShareModel" "kinds" "[I", .fieldLink RX12 208 "DeadlineShareModel" "nSteps" "I", .fieldLink RX12 62 "DeadlineShareModel" "numbers" "[I", .fieldLink RX12 180 "DeadlineShareModel" "worth" "J", .fieldLink RX12 190 "DeadlineShareModel" "sort" "I", .fieldLink RX12 56 "DeadlineShareModel" "most" "[I", .methodLink RX12 83 yX12_in, .static yX12_in, .fieldLink RX12 53 "DeadlineShareModel" "words" "[J"]
def wq_c_X12_readStep : List Cond := .code yX12_readStep cX12_readStep 3 none :: (ow_c_X12_readStep ++ (wq_c_X12_must ++ (u_ws RX12 TX12 27 ++ (wq_c_X12_in ++ ([] : List Cond)))))
theorem tb_c_X12_readStep : ∀ w ∈ wq_c_X12_readStep, q_g w := by
  unfold wq_c_X12_readStep ow_c_X12_readStep
  exact q_cons tw_893 (q_app (q_cons tw_892 (q_cons tw_891 (q_cons tw_890 (q_cons tw_728 (q_cons tw_883 (q_cons tw_889 (q_cons tw_888 (q_cons tw_887 (q_cons tw_875 (q_cons tw_874 (q_cons tw_886 (q_cons tw_730 (q_cons tw_729 (q_cons tw_885 q_nil)))))))))))))) (q_app tb_c_X12_must (q_app tu_X12 (q_app tb_c_X12_in q_nil))))
set_option maxHeartbeats 4000000 in
set_option maxRecDepth 100000 in
theorem c_X12_readStep (l : Launch) (dC : Nat → ClassId) (dI : Nat → Nat → Nat) (g : kG) (A : Nat → Prop) (hG : kWf g) (f : Nat → va_E) (h0 : Nat) (z0 : Int32) (z1 : Int32) (z10 : Int32) (z12 : Int32) (z13 : Int32) (z14 : Int32) (z15 : Int32) (z16 : Int64) (z17 : Int32) (z18 : Int32) (z23 : Int32) (z24 : Int64) (z25 : Int64) (z26 : Int64) (kq : Nat → Int32) (nq : Nat → Int32) (i_h0 : ik g 12 h0) (hc0 : f h0 = .inr (12, [.int z0, .int z1, .ref (gr g h0 2), .ref (gr g h0 3), .ref (gr g h0 4), .ref (gr g h0 5), .ref (gr g h0 6), .ref (gr g h0 7), .ref (gr g h0 8), .ref (gr g h0 9), .int z10, .ref (gr g h0 11), .int z12, .int z13, .int z14, .int z15, .long z16, .int z17, .int z18, .ref (gr g h0 19), .ref (gr g h0 20), .ref (gr g h0 21), .ref (gr g h0 22), .int z23, .long z24, .long z25, .long z26])) (hc0_10 : 0 ≤ z10.toInt ∧ z10.toInt ≤ 10) (hc0_12 : 0 ≤ z12.toInt ∧ z12.toInt ≤ 200) (hc0_23 : 0 ≤ z23.toInt ∧ z23.toInt ≤ 8) (hc1 : f (gr g h0 21) = .inl (gc g 0, 8, .inl kq)) (hc2 : f (gr g h0 22) = .inl (gc g 0, 8, .inl nq)) (ht9 : 0 ≤ z14.toInt ∧ z14.toInt ≤ z12.toInt) (hb9 : z18.toInt = 0) (hN : NBq z23 kq nq) : Met l yX12_readStep wq_c_X12_readStep ({ frames := 3, cells := 0, slots := 0, locals := 61 } : Room) (va_Pc [.ref h0] (fun U => kIn dC dI g A f U)) (va_Qv (fun (_ : Unit) => True) (fun (_ : Unit) t => ∃ f1 : Nat → va_E, Iv dC dI g A f1 t.heap ∧ Kp g [12, 41, 42] f f1 ∧ ∃ (w13 : Int32) (w14 : Int32) (w15 : Int32) (w16 : Int64) (w17 : Int32) (w18 : Int32) (w23 : Int32) (kq1 : Nat → Int32) (nq1 : Nat → Int32), (f1 h0 = .inr (12, [.int z0, .int z1, .ref (gr g h0 2), .ref (gr g h0 3), .ref (gr g h0 4), .ref (gr g h0 5), .ref (gr g h0 6), .ref (gr g h0 7), .ref (gr g h0 8), .ref (gr g h0 9), .int z10, .ref (gr g h0 11), .int z12, .int w13, .int w14, .int w15, .long w16, .int w17, .int w18, .ref (gr g h0 19), .ref (gr g h0 20), .ref (gr g h0 21), .ref (gr g h0 22), .int w23, .long z24, .long z25, .long z26])) ∧ (0 ≤ w14.toInt ∧ w14.toInt ≤ z12.toInt) ∧ (w18.toInt ≠ 0 ∨ w23.toInt = z23.toInt + 1) ∧ (0 ≤ w23.toInt ∧ w23.toInt ≤ 8) ∧ (f1 (gr g h0 21) = .inl (gc g 0, 8, .inl kq1)) ∧ (f1 (gr g h0 22) = .inl (gc g 0, 8, .inl nq1)) ∧ (NBi w18 w23 kq1 nq1)) A) 0 0 A := by
  refine Met.ofW (cc := cX12_readStep) (maxL := 3) (ret := none) (by decide) rfl ?_
  intro p e s m args below meth c s₁ B hml hv
  obtain ⟨rfl, hI, hK, hE⟩ := hv
  have hx := B.exec
  have hb := B.bytes
  have hr := B.returns
  have hts := atoms_spec (ws := wq_c_X12_readStep) B.pre
  have hown : s.vm.findClass RX12 = some m.cls := findClass_of_methodNamed B.named
  have hlocks := B.notSynchronized
  have hS : va_S A s.heap s.heap [] := va_S.rf
  have hk0 : Kp g [12, 41, 42] f f := Kp.rf
  have hl := lv_entry ([.ref h0]) (n := 3) (Nat.le_of_ble_eq_true rfl)
  rw [lg_entry_eq]
  generalize (lg_sl ([.ref h0]) ++ List.replicate (3 - (lg_sl ([.ref h0])).length) Slot.unset).toArray = ls at hl ⊢
  have hl : lv_has ls 3 [(0, .ref h0)] := hl
  have i_1 := kw_12_21 hG i_h0
  have i_2 := kw_12_22 hG i_h0
  refine lv_iconst (v := (-1)) hx hb dX12_readStep_0 (by decide) ?_
  refine lv_istore_n (lv' := [(1, .int (-1)), (0, .ref h0)]) hx hb dX12_readStep_1 rfl hl (by decide) rfl (fun ls hl => ?_)
  refine lv_iconst (v := 0) hx hb dX12_readStep_2 (by decide) ?_
  refine lv_istore_n (lv' := [(2, .int 0), (1, .int (-1)), (0, .ref h0)]) hx hb dX12_readStep_3 rfl hl (by decide) rfl (fun ls hl => ?_)
  have K_4 : ∀ (nn : Nat) (y_3 : Int32) (y_4 : Int32) (H : Heap) (locs : List Loc) (ls : Array Slot), (6 - y_3.toInt).toNat < nn → Iv dC dI g A f H → va_S A s.heap H locs → (0 ≤ y_3.toInt) → (-1 ≤ y_4.toInt ∧ y_4.toInt ≤ 4) → lv_has ls 3 [(2, .int y_3), (1, .int y_4), (0, .ref h0)] → W p l e (headSpec wq_c_X12_readStep ({ frames := 3, cells := 0, slots := 0, locals := 61 } : Room)).room s m ([.ref h0].toArray) below meth c H locs 0 0 (MQ below (va_Qv (fun (_ : Unit) => True) (fun (_ : Unit) t => ∃ f1 : Nat → va_E, Iv dC dI g A f1 t.heap ∧ Kp g [12, 41, 42] f f1 ∧ ∃ (w13 : Int32) (w14 : Int32) (w15 : Int32) (w16 : Int64) (w17 : Int32) (w18 : Int32) (w23 : Int32) (kq1 : Nat → Int32) (nq1 : Nat → Int32), (f1 h0 = .inr (12, [.int z0, .int z1, .ref (gr g h0 2), .ref (gr g h0 3), .ref (gr g h0 4), .ref (gr g h0 5), .ref (gr g h0 6), .ref (gr g h0 7), .ref (gr g h0 8), .ref (gr g h0 9), .int z10, .ref (gr g h0 11), .int z12, .int w13, .int w14, .int w15, .long w16, .int w17, .int w18, .ref (gr g h0 19), .ref (gr g h0 20), .ref (gr g h0 21), .ref (gr g h0 22), .int w23, .long z24, .long z25, .long z26])) ∧ (0 ≤ w14.toInt ∧ w14.toInt ≤ z12.toInt) ∧ (w18.toInt ≠ 0 ∨ w23.toInt = z23.toInt + 1) ∧ (0 ≤ w23.toInt ∧ w23.toInt ≤ 8) ∧ (f1 (gr g h0 21) = .inl (gc g 0, 8, .inl kq1)) ∧ (f1 (gr g h0 22) = .inl (gc g 0, 8, .inl nq1)) ∧ (NBi w18 w23 kq1 nq1)) A) ([.ref h0].toArray) s 0 0 A) (F0 m 4 ls []) := by
    intro nn
    induction nn with
    | zero => intro y_3 y_4 H locs ls m_7; exact absurd m_7 (Nat.not_lt_zero _)
    | succ nn ih =>
      intro y_3 y_4 H locs ls m_7 hI hS t_5 t_6 hl
      have g_8 := Int32.toInt_lt y_3
      have g_9 := Int32.le_toInt y_3
      refine lv_iload_n hx hb dX12_readStep_4 rfl (lv_at hl 0 rfl) ?_
      refine lv_iconst (v := 5) hx hb dX12_readStep_5 (by decide) ?_
      refine lv_icmp_ge (tgt := 43) hx hb dX12_readStep_6 (by decide) (fun c_10 => ?_) (fun c_10 => ?_)
      · have c_10 := kc_le (by decide : Int32.toInt 5 = 5) rfl c_10
        refine lv_aload_n hx hb dX12_readStep_43 rfl (lv_at hl 2 rfl) ?_
        refine lv_iload_n hx hb dX12_readStep_44 rfl (lv_at hl 1 rfl) ?_
        refine lv_iconst (v := (-1)) hx hb dX12_readStep_45 (by decide) ?_
        have J_63 : ∀ (y_11 : Int32) (H : Heap) (locs : List Loc) (ls : Array Slot), Iv dC dI g A f H → va_S A s.heap H locs → (y_11.toInt = 0 ∨ (y_4.toInt ≠ -1 ∧ z23.toInt < 8)) → lv_has ls 3 [(2, .int y_3), (1, .int y_4), (0, .ref h0)] → W p l e (headSpec wq_c_X12_readStep ({ frames := 3, cells := 0, slots := 0, locals := 61 } : Room)).room s m ([.ref h0].toArray) below meth c H locs 0 0 (MQ below (va_Qv (fun (_ : Unit) => True) (fun (_ : Unit) t => ∃ f1 : Nat → va_E, Iv dC dI g A f1 t.heap ∧ Kp g [12, 41, 42] f f1 ∧ ∃ (w13 : Int32) (w14 : Int32) (w15 : Int32) (w16 : Int64) (w17 : Int32) (w18 : Int32) (w23 : Int32) (kq1 : Nat → Int32) (nq1 : Nat → Int32), (f1 h0 = .inr (12, [.int z0, .int z1, .ref (gr g h0 2), .ref (gr g h0 3), .ref (gr g h0 4), .ref (gr g h0 5), .ref (gr g h0 6), .ref (gr g h0 7), .ref (gr g h0 8), .ref (gr g h0 9), .int z10, .ref (gr g h0 11), .int z12, .int w13, .int w14, .int w15, .long w16, .int w17, .int w18, .ref (gr g h0 19), .ref (gr g h0 20), .ref (gr g h0 21), .ref (gr g h0 22), .int w23, .long z24, .long z25, .long z26])) ∧ (0 ≤ w14.toInt ∧ w14.toInt ≤ z12.toInt) ∧ (w18.toInt ≠ 0 ∨ w23.toInt = z23.toInt + 1) ∧ (0 ≤ w23.toInt ∧ w23.toInt ≤ 8) ∧ (f1 (gr g h0 21) = .inl (gc g 0, 8, .inl kq1)) ∧ (f1 (gr g h0 22) = .inl (gc g 0, 8, .inl nq1)) ∧ (NBi w18 w23 kq1 nq1)) A) ([.ref h0].toArray) s 0 0 A) (F0 m 63 ls [.int y_11, .ref h0]) := by
          intro y_11 H locs ls hI hS t_12 hl
          refine va_callv (va_runV (As := [.int y_11]) (rest := []) ⟨hx, hb, hml, hown, hts⟩ (c_X12_must l dC dI g A hG f h0 y_11 z0 z1 z10 z12 z13 z14 z15 z16 z17 z18 z23 z24 z25 z26 i_h0 hc0 (by first | omega | (simp only [k_c0]; omega)) (by first | omega | (simp only [k_c0]; omega)) (by first | omega | (simp only [k_c0]; omega)) (by first | omega | decide | (simp only [k_c0, k_c1, k_cm1] <;> omega))) (cwV 1 hts (gi_V (fun w_ h0_ => ⟨List.mem_cons_of_mem _ (List.mem_append_right _ (List.mem_append_left _ h0_)), (tb_c_X12_must w_ h0_).2⟩) (List.mem_cons_of_mem _ (List.mem_append_left _ (List.mem_of_getElem? (i := 0) rfl))) (List.mem_cons_of_mem _ (List.mem_append_left _ (List.mem_of_getElem? (i := 1) rfl))) (List.mem_cons_of_mem _ (List.mem_append_left _ (List.mem_of_getElem? (i := 2) rfl))) (List.mem_cons_of_mem _ (List.mem_append_left _ (List.mem_of_getElem? (i := 3) rfl)))) rfl rfl rfl (by decide +kernel) ⟨Nat.le_of_ble_eq_true rfl, Nat.le_of_ble_eq_true rfl⟩) ⟨fun a U g mk q => ⟨q.1, q.2.calling rfl rfl⟩, k_recv hK hI i_h0.1 hc0 (ci := 12) rfl, fun U hU hW => ⟨rfl, kIn.of hI hK hE hS hU hW⟩⟩ rfl rfl hl.1 rfl (lv_room (Nat.le_of_ble_eq_true rfl)) dX12_readStep_63 ⟨Nat.le_of_ble_eq_true rfl, Nat.le_of_ble_eq_true rfl⟩) hS (fun q _ h => h) (fun q h => h) (fun u t H1 locs ht hvm _ hB hz1 hk1 hS => ?_)
          obtain ⟨f_13, hI, kc_15, w13_16, w14_17, w15_18, w16_19, w17_20, w18_21, k_22, z_23, z_24⟩ := hB
          rw [ht] at hI
          have k_25 : f_13 (gr g h0 21) = .inl (gc g 0, 8, .inl kq) := Kp.at kc_15 i_1 (by decide) hc1
          have k_26 : f_13 (gr g h0 22) = .inl (gc g 0, 8, .inl nq) := Kp.at kc_15 i_2 (by decide) hc2
          have k_22 : f_13 h0 = .inr (12, [.int z0, .int z1, .ref (gr g h0 2), .ref (gr g h0 3), .ref (gr g h0 4), .ref (gr g h0 5), .ref (gr g h0 6), .ref (gr g h0 7), .ref (gr g h0 8), .ref (gr g h0 9), .int z10, .ref (gr g h0 11), .int z12, .int w13_16, .int w14_17, .int w15_18, .long w16_19, .int w17_20, .int w18_21, .ref (gr g h0 19), .ref (gr g h0 20), .ref (gr g h0 21), .ref (gr g h0 22), .int z23, .long z24, .long z25, .long z26]) := k_22
          have z_23 : 0 ≤ w14_17.toInt ∧ w14_17.toInt ≤ z12.toInt := z_23
          have z_24 : w18_21.toInt ≠ 0 ∨ (z18.toInt = 0 ∧ y_11.toInt ≠ 0) := z_24
          have kp_27 := Kp.call hk0 kc_15 (by decide)
          generalize H1 = H at hI hS ⊢
          refine W.widen (k := 0) (n := 0) (Nat.le_of_ble_eq_true rfl) (Nat.le_of_ble_eq_true rfl) ?_
          refine lv_aload_n hx hb dX12_readStep_66 rfl (lv_at hl 2 rfl) ?_
          refine k_get (ci := 12) (v := .int w18_21) (C := RX12) (T := TX12) (N := 27) hx hb hts (fun _ h0_ => List.mem_cons_of_mem _ (List.mem_append_right _ (List.mem_append_right _ (List.mem_append_left _ h0_)))) hown hK hI i_h0.1 k_22 rfl 18 (by decide) (hts (.fieldLink RX12 201 "DeadlineShareModel" "bad" "Z") (List.mem_cons_of_mem _ (List.mem_append_left _ (List.mem_of_getElem? (i := 4) rfl)))) (fun _ h9 => h9) rfl dX12_readStep_67 ?_
          refine lv_if_eq (tgt := 74) hx hb dX12_readStep_70 (by decide) (fun c_28 => ?_) (fun c_28 => ?_)
          · have c_28 := kc_eq rfl (by decide : Int32.toInt 0 = 0) c_28
            have d_29 := ap_41 hI i_1 k_25
            refine lv_aload_n hx hb dX12_readStep_74 rfl (lv_at hl 2 rfl) ?_
            refine k_get (ci := 12) (v := .ref (gr g h0 21)) (C := RX12) (T := TX12) (N := 27) hx hb hts (fun _ h0_ => List.mem_cons_of_mem _ (List.mem_append_right _ (List.mem_append_right _ (List.mem_append_left _ h0_)))) hown hK hI i_h0.1 k_22 rfl 21 (by decide) (hts (.fieldLink RX12 59 "DeadlineShareModel" "kinds" "[I") (List.mem_cons_of_mem _ (List.mem_append_left _ (List.mem_of_getElem? (i := 5) rfl)))) (fun _ h9 => h9) rfl dX12_readStep_75 ?_
            refine lv_aload_n hx hb dX12_readStep_78 rfl (lv_at hl 2 rfl) ?_
            refine k_get (ci := 12) (v := .int z23) (C := RX12) (T := TX12) (N := 27) hx hb hts (fun _ h0_ => List.mem_cons_of_mem _ (List.mem_append_right _ (List.mem_append_right _ (List.mem_append_left _ h0_)))) hown hK hI i_h0.1 k_22 rfl 23 (by decide) (hts (.fieldLink RX12 208 "DeadlineShareModel" "nSteps" "I") (List.mem_cons_of_mem _ (List.mem_append_left _ (List.mem_of_getElem? (i := 6) rfl)))) (fun _ h9 => h9) rfl dX12_readStep_79 ?_
            obtain ⟨m_32, em_32, tm_32⟩ := k_nat (x := z23) (by omega)
            refine k_topi (y := nI m_32) em_32 ?_
            refine lv_iload_n hx hb dX12_readStep_82 rfl (lv_at hl 1 rfl) ?_
            refine k_iast hx hb hK hI hS i_1.1 0 k_25 rfl (vp_in_nI (by omega) (by omega)) (cl_41 i_1 (fun i9 h9 => by rw [nI_clamp (by omega)]; exact if h8 : i9 = m_32 then (by subst h8; rw [pk_us]; omega) else (by rw [pk_un h8]; exact d_29 i9 h9))) dX12_readStep_83 (fun f_33 H locs e_34 hI hS => ?_)
            generalize eq_35 : upd kq (Int32.toNatClampNeg (nI m_32)) y_4 = q_35 at e_34
            have k_37 : f_33 (gr g h0 21) = .inl (gc g 0, 8, .inl q_35) := by rw [e_34]; exact va_up_self _ _ _
            have k_38 : f_33 (gr g h0 22) = .inl (gc g 0, 8, .inl nq) := by rw [e_34, va_up_ne _ _ (ik_ne i_2 i_1 (by decide))]; exact k_26
            have k_39 : f_33 h0 = .inr (12, [.int z0, .int z1, .ref (gr g h0 2), .ref (gr g h0 3), .ref (gr g h0 4), .ref (gr g h0 5), .ref (gr g h0 6), .ref (gr g h0 7), .ref (gr g h0 8), .ref (gr g h0 9), .int z10, .ref (gr g h0 11), .int z12, .int w13_16, .int w14_17, .int w15_18, .long w16_19, .int w17_20, .int w18_21, .ref (gr g h0 19), .ref (gr g h0 20), .ref (gr g h0 21), .ref (gr g h0 22), .int z23, .long z24, .long z25, .long z26]) := by rw [e_34, va_up_ne _ _ (ik_ne i_h0 i_1 (by decide))]; exact k_22
            have kp_36 := Kp.put kp_27 i_1 (by decide) e_34
            have u_40 : upd kq m_32 y_4 = q_35 := by rw [← eq_35, show Int32.toNatClampNeg (nI m_32) = m_32 from (nI_clamp (by omega))]
            refine lv_aload_n hx hb dX12_readStep_84 rfl (lv_at hl 2 rfl) ?_
            refine k_get (ci := 12) (v := .ref (gr g h0 22)) (C := RX12) (T := TX12) (N := 27) hx hb hts (fun _ h0_ => List.mem_cons_of_mem _ (List.mem_append_right _ (List.mem_append_right _ (List.mem_append_left _ h0_)))) hown hK hI i_h0.1 k_39 rfl 22 (by decide) (hts (.fieldLink RX12 62 "DeadlineShareModel" "numbers" "[I") (List.mem_cons_of_mem _ (List.mem_append_left _ (List.mem_of_getElem? (i := 7) rfl)))) (fun _ h9 => h9) rfl dX12_readStep_85 ?_
            refine lv_aload_n hx hb dX12_readStep_88 rfl (lv_at hl 2 rfl) ?_
            refine k_get (ci := 12) (v := .int z23) (C := RX12) (T := TX12) (N := 27) hx hb hts (fun _ h0_ => List.mem_cons_of_mem _ (List.mem_append_right _ (List.mem_append_right _ (List.mem_append_left _ h0_)))) hown hK hI i_h0.1 k_39 rfl 23 (by decide) (hts (.fieldLink RX12 208 "DeadlineShareModel" "nSteps" "I") (List.mem_cons_of_mem _ (List.mem_append_left _ (List.mem_of_getElem? (i := 6) rfl)))) (fun _ h9 => h9) rfl dX12_readStep_89 ?_
            refine k_topi (y := nI m_32) em_32 ?_
            refine lv_aload_n hx hb dX12_readStep_92 rfl (lv_at hl 2 rfl) ?_
            refine k_get (ci := 12) (v := .long w16_19) (C := RX12) (T := TX12) (N := 27) hx hb hts (fun _ h0_ => List.mem_cons_of_mem _ (List.mem_append_right _ (List.mem_append_right _ (List.mem_append_left _ h0_)))) hown hK hI i_h0.1 k_39 rfl 16 (by decide) (hts (.fieldLink RX12 180 "DeadlineShareModel" "worth" "J") (List.mem_cons_of_mem _ (List.mem_append_left _ (List.mem_of_getElem? (i := 8) rfl)))) (fun _ h9 => h9) rfl dX12_readStep_93 ?_
            refine lv_l2i (v := w16_19.toInt32) hx hb dX12_readStep_96 rfl ?_
            refine lv_topi (fun v_43 ev_43 => ?_)
            have tv_43 := k_l2i w16_19
            rw [← ev_43] at tv_43
            refine k_iast hx hb hK hI hS i_2.1 0 k_38 rfl (vp_in_nI (by omega) (by omega)) (cl_42 i_2) dX12_readStep_97 (fun f_44 H locs e_45 hI hS => ?_)
            generalize eq_46 : upd nq (Int32.toNatClampNeg (nI m_32)) v_43 = q_46 at e_45
            have k_48 : f_44 (gr g h0 21) = .inl (gc g 0, 8, .inl q_35) := by rw [e_45, va_up_ne _ _ (ik_ne i_1 i_2 (by decide))]; exact k_37
            have k_49 : f_44 (gr g h0 22) = .inl (gc g 0, 8, .inl q_46) := by rw [e_45]; exact va_up_self _ _ _
            have k_50 : f_44 h0 = .inr (12, [.int z0, .int z1, .ref (gr g h0 2), .ref (gr g h0 3), .ref (gr g h0 4), .ref (gr g h0 5), .ref (gr g h0 6), .ref (gr g h0 7), .ref (gr g h0 8), .ref (gr g h0 9), .int z10, .ref (gr g h0 11), .int z12, .int w13_16, .int w14_17, .int w15_18, .long w16_19, .int w17_20, .int w18_21, .ref (gr g h0 19), .ref (gr g h0 20), .ref (gr g h0 21), .ref (gr g h0 22), .int z23, .long z24, .long z25, .long z26]) := by rw [e_45, va_up_ne _ _ (ik_ne i_h0 i_2 (by decide))]; exact k_39
            have kp_47 := Kp.put kp_36 i_2 (by decide) e_45
            have u_51 : upd nq m_32 v_43 = q_46 := by rw [← eq_46, show Int32.toNatClampNeg (nI m_32) = m_32 from (nI_clamp (by omega))]
            refine lv_aload_n hx hb dX12_readStep_98 rfl (lv_at hl 2 rfl) ?_
            refine lv_aload_n hx hb dX12_readStep_99 rfl (lv_at hl 2 rfl) ?_
            refine k_get (ci := 12) (v := .int w15_18) (C := RX12) (T := TX12) (N := 27) hx hb hts (fun _ h0_ => List.mem_cons_of_mem _ (List.mem_append_right _ (List.mem_append_right _ (List.mem_append_left _ h0_)))) hown hK hI i_h0.1 k_50 rfl 15 (by decide) (hts (.fieldLink RX12 190 "DeadlineShareModel" "sort" "I") (List.mem_cons_of_mem _ (List.mem_append_left _ (List.mem_of_getElem? (i := 9) rfl)))) (fun _ h9 => h9) rfl dX12_readStep_100 ?_
            refine lv_iconst (v := 2) hx hb dX12_readStep_103 (by decide) ?_
            have J_130 : ∀ (y_52 : Int32) (H : Heap) (locs : List Loc) (ls : Array Slot), Iv dC dI g A f_44 H → va_S A s.heap H locs → (y_52.toInt = 0 ∨ (1 ≤ w16_19.toInt ∧ w16_19.toInt ≤ 99 ∧ (y_4.toInt ≠ 2 ∨ w16_19.toInt ≤ 8))) → lv_has ls 3 [(2, .int y_3), (1, .int y_4), (0, .ref h0)] → W p l e (headSpec wq_c_X12_readStep ({ frames := 3, cells := 0, slots := 0, locals := 61 } : Room)).room s m ([.ref h0].toArray) below meth c H locs 0 0 (MQ below (va_Qv (fun (_ : Unit) => True) (fun (_ : Unit) t => ∃ f1 : Nat → va_E, Iv dC dI g A f1 t.heap ∧ Kp g [12, 41, 42] f f1 ∧ ∃ (w13 : Int32) (w14 : Int32) (w15 : Int32) (w16 : Int64) (w17 : Int32) (w18 : Int32) (w23 : Int32) (kq1 : Nat → Int32) (nq1 : Nat → Int32), (f1 h0 = .inr (12, [.int z0, .int z1, .ref (gr g h0 2), .ref (gr g h0 3), .ref (gr g h0 4), .ref (gr g h0 5), .ref (gr g h0 6), .ref (gr g h0 7), .ref (gr g h0 8), .ref (gr g h0 9), .int z10, .ref (gr g h0 11), .int z12, .int w13, .int w14, .int w15, .long w16, .int w17, .int w18, .ref (gr g h0 19), .ref (gr g h0 20), .ref (gr g h0 21), .ref (gr g h0 22), .int w23, .long z24, .long z25, .long z26])) ∧ (0 ≤ w14.toInt ∧ w14.toInt ≤ z12.toInt) ∧ (w18.toInt ≠ 0 ∨ w23.toInt = z23.toInt + 1) ∧ (0 ≤ w23.toInt ∧ w23.toInt ≤ 8) ∧ (f1 (gr g h0 21) = .inl (gc g 0, 8, .inl kq1)) ∧ (f1 (gr g h0 22) = .inl (gc g 0, 8, .inl nq1)) ∧ (NBi w18 w23 kq1 nq1)) A) ([.ref h0].toArray) s 0 0 A) (F0 m 130 ls [.int y_52, .ref h0]) := by
              intro y_52 H locs ls hI hS t_53 hl
              refine va_callv (va_runV (As := [.int y_52]) (rest := []) ⟨hx, hb, hml, hown, hts⟩ (c_X12_must l dC dI g A hG f_44 h0 y_52 z0 z1 z10 z12 w13_16 w14_17 w15_18 w16_19 w17_20 w18_21 z23 z24 z25 z26 i_h0 k_50 (by first | omega | (simp only [k_c0]; omega)) (by first | omega | (simp only [k_c0]; omega)) (by first | omega | (simp only [k_c0]; omega)) (by first | omega | decide | (simp only [k_c0, k_c1, k_cm1] <;> omega))) (cwV 1 hts (gi_V (fun w_ h0_ => ⟨List.mem_cons_of_mem _ (List.mem_append_right _ (List.mem_append_left _ h0_)), (tb_c_X12_must w_ h0_).2⟩) (List.mem_cons_of_mem _ (List.mem_append_left _ (List.mem_of_getElem? (i := 0) rfl))) (List.mem_cons_of_mem _ (List.mem_append_left _ (List.mem_of_getElem? (i := 1) rfl))) (List.mem_cons_of_mem _ (List.mem_append_left _ (List.mem_of_getElem? (i := 2) rfl))) (List.mem_cons_of_mem _ (List.mem_append_left _ (List.mem_of_getElem? (i := 3) rfl)))) rfl rfl rfl (by decide +kernel) ⟨Nat.le_of_ble_eq_true rfl, Nat.le_of_ble_eq_true rfl⟩) ⟨fun a U g mk q => ⟨q.1, q.2.calling rfl rfl⟩, k_recv hK hI i_h0.1 k_50 (ci := 12) rfl, fun U hU hW => ⟨rfl, kIn.of hI hK hE hS hU hW⟩⟩ rfl rfl hl.1 rfl (lv_room (Nat.le_of_ble_eq_true rfl)) dX12_readStep_130 ⟨Nat.le_of_ble_eq_true rfl, Nat.le_of_ble_eq_true rfl⟩) hS (fun q _ h => h) (fun q h => h) (fun u t H1 locs ht hvm _ hB hz1 hk1 hS => ?_)
              obtain ⟨f_54, hI, kc_56, w13_57, w14_58, w15_59, w16_60, w17_61, w18_62, k_63, z_64, z_65⟩ := hB
              rw [ht] at hI
              have k_66 : f_54 (gr g h0 21) = .inl (gc g 0, 8, .inl q_35) := Kp.at kc_56 i_1 (by decide) k_48
              have k_67 : f_54 (gr g h0 22) = .inl (gc g 0, 8, .inl q_46) := Kp.at kc_56 i_2 (by decide) k_49
              have k_63 : f_54 h0 = .inr (12, [.int z0, .int z1, .ref (gr g h0 2), .ref (gr g h0 3), .ref (gr g h0 4), .ref (gr g h0 5), .ref (gr g h0 6), .ref (gr g h0 7), .ref (gr g h0 8), .ref (gr g h0 9), .int z10, .ref (gr g h0 11), .int z12, .int w13_57, .int w14_58, .int w15_59, .long w16_60, .int w17_61, .int w18_62, .ref (gr g h0 19), .ref (gr g h0 20), .ref (gr g h0 21), .ref (gr g h0 22), .int z23, .long z24, .long z25, .long z26]) := k_63
              have z_64 : 0 ≤ w14_58.toInt ∧ w14_58.toInt ≤ z12.toInt := z_64
              have z_65 : w18_62.toInt ≠ 0 ∨ (w18_21.toInt = 0 ∧ y_52.toInt ≠ 0) := z_65
              have kp_68 := Kp.call kp_47 kc_56 (by decide)
              generalize H1 = H at hI hS ⊢
              refine W.widen (k := 0) (n := 0) (Nat.le_of_ble_eq_true rfl) (Nat.le_of_ble_eq_true rfl) ?_
              refine lv_aload_n hx hb dX12_readStep_133 rfl (lv_at hl 2 rfl) ?_
              refine lv_dup hx hb dX12_readStep_134 rfl ?_
              refine k_get (ci := 12) (v := .int z23) (C := RX12) (T := TX12) (N := 27) hx hb hts (fun _ h0_ => List.mem_cons_of_mem _ (List.mem_append_right _ (List.mem_append_right _ (List.mem_append_left _ h0_)))) hown hK hI i_h0.1 k_63 rfl 23 (by decide) (hts (.fieldLink RX12 208 "DeadlineShareModel" "nSteps" "I") (List.mem_cons_of_mem _ (List.mem_append_left _ (List.mem_of_getElem? (i := 6) rfl)))) (fun _ h9 => h9) rfl dX12_readStep_135 ?_
              refine lv_iconst (v := 1) hx hb dX12_readStep_138 (by decide) ?_
              refine lv_iadd hx hb dX12_readStep_139 ?_
              refine lv_topi (fun v_69 ev_69 => ?_)
              have tv_69 := k_ad z23 1
              rw [← ev_69, show Int32.toInt 1 = 1 from by decide] at tv_69
              have b_70 : 0 ≤ Int32.toInt v_69 ∧ Int32.toInt v_69 ≤ 8 := by omega
              refine k_put (ci := 12) (v := .int v_69) (ty := .int) (C := RX12) (T := TX12) (N := 27) hx hb hts (fun _ h0_ => List.mem_cons_of_mem _ (List.mem_append_right _ (List.mem_append_right _ (List.mem_append_left _ h0_)))) tyX12 tyX12_ok nmX12 hown hK hI hS i_h0.1 k_63 rfl 23 (by decide) (hts (.fieldLink RX12 208 "DeadlineShareModel" "nSteps" "I") (List.mem_cons_of_mem _ (List.mem_append_left _ (List.mem_of_getElem? (i := 6) rfl)))) (fun _ h9 => h9) rfl (by decide +kernel) rfl rfl (Nat.le_of_ble_eq_true rfl) rfl (cl_12 i_h0 (by omega) (by omega) b_70) dX12_readStep_140 (fun f_71 H locs e_72 hI hS => ?_)
              have k_74 : f_71 (gr g h0 21) = .inl (gc g 0, 8, .inl q_35) := by rw [e_72, va_up_ne _ _ (ik_ne i_1 i_h0 (by decide))]; exact k_66
              have k_75 : f_71 (gr g h0 22) = .inl (gc g 0, 8, .inl q_46) := by rw [e_72, va_up_ne _ _ (ik_ne i_2 i_h0 (by decide))]; exact k_67
              have k_76 : f_71 h0 = .inr (12, [.int z0, .int z1, .ref (gr g h0 2), .ref (gr g h0 3), .ref (gr g h0 4), .ref (gr g h0 5), .ref (gr g h0 6), .ref (gr g h0 7), .ref (gr g h0 8), .ref (gr g h0 9), .int z10, .ref (gr g h0 11), .int z12, .int w13_57, .int w14_58, .int w15_59, .long w16_60, .int w17_61, .int w18_62, .ref (gr g h0 19), .ref (gr g h0 20), .ref (gr g h0 21), .ref (gr g h0 22), .int v_69, .long z24, .long z25, .long z26]) := by rw [e_72]; exact va_up_self _ _ _
              have kp_73 := Kp.put kp_68 i_h0 (by decide) e_72
              exact W.vret hx hb hr (fun t ht hW => ⟨⟨(), rfl, trivial, ⟨f_71, k_ret ht hI, kp_73, w13_57, w14_58, w15_59, w16_60, w17_61, w18_62, v_69, q_35, q_46, k_76, (by first | omega | decide), (by first | omega | decide), (by first | omega | decide), k_74, k_75, (fun h9 k9 h8 => by rw [← u_40, ← u_51]; exact if h7 : k9 = m_32 then (by subst h7; rw [pk_us, pk_us]; omega) else (by rw [pk_un h7, pk_un h7]; exact hN k9 (by omega)))⟩⟩, hS.F ht⟩) hS.2.2 dX12_readStep_143
            have J_129 : ∀ (H : Heap) (locs : List Loc) (ls : Array Slot), Iv dC dI g A f_44 H → va_S A s.heap H locs → lv_has ls 3 [(2, .int y_3), (1, .int y_4), (0, .ref h0)] → W p l e (headSpec wq_c_X12_readStep ({ frames := 3, cells := 0, slots := 0, locals := 61 } : Room)).room s m ([.ref h0].toArray) below meth c H locs 0 0 (MQ below (va_Qv (fun (_ : Unit) => True) (fun (_ : Unit) t => ∃ f1 : Nat → va_E, Iv dC dI g A f1 t.heap ∧ Kp g [12, 41, 42] f f1 ∧ ∃ (w13 : Int32) (w14 : Int32) (w15 : Int32) (w16 : Int64) (w17 : Int32) (w18 : Int32) (w23 : Int32) (kq1 : Nat → Int32) (nq1 : Nat → Int32), (f1 h0 = .inr (12, [.int z0, .int z1, .ref (gr g h0 2), .ref (gr g h0 3), .ref (gr g h0 4), .ref (gr g h0 5), .ref (gr g h0 6), .ref (gr g h0 7), .ref (gr g h0 8), .ref (gr g h0 9), .int z10, .ref (gr g h0 11), .int z12, .int w13, .int w14, .int w15, .long w16, .int w17, .int w18, .ref (gr g h0 19), .ref (gr g h0 20), .ref (gr g h0 21), .ref (gr g h0 22), .int w23, .long z24, .long z25, .long z26])) ∧ (0 ≤ w14.toInt ∧ w14.toInt ≤ z12.toInt) ∧ (w18.toInt ≠ 0 ∨ w23.toInt = z23.toInt + 1) ∧ (0 ≤ w23.toInt ∧ w23.toInt ≤ 8) ∧ (f1 (gr g h0 21) = .inl (gc g 0, 8, .inl kq1)) ∧ (f1 (gr g h0 22) = .inl (gc g 0, 8, .inl nq1)) ∧ (NBi w18 w23 kq1 nq1)) A) ([.ref h0].toArray) s 0 0 A) (F0 m 129 ls [.ref h0]) := by
              intro H locs ls hI hS  hl
              refine lv_iconst (v := 0) hx hb dX12_readStep_129 (by decide) ?_
              exact J_130 0 _ _ _ hI hS (by first | omega | decide | exact Or.inl (by decide) | (simp only [show Int32.toInt 0 = 0 from by decide] <;> omega)) (lv_sub hl [0, 1, 2] rfl)
            refine lv_icmp_ne (tgt := 129) hx hb dX12_readStep_104 (by decide) (fun c_77 => ?_) (fun c_77 => ?_)
            · have c_77 := kn_eq rfl (by decide : Int32.toInt 2 = 2) c_77
              exact J_129  _ _ _ hI hS  (lv_sub hl [0, 1, 2] rfl)
            · have c_77 := kc_eq rfl (by decide : Int32.toInt 2 = 2) c_77
              refine lv_aload_n hx hb dX12_readStep_107 rfl (lv_at hl 2 rfl) ?_
              refine k_get (ci := 12) (v := .long w16_19) (C := RX12) (T := TX12) (N := 27) hx hb hts (fun _ h0_ => List.mem_cons_of_mem _ (List.mem_append_right _ (List.mem_append_right _ (List.mem_append_left _ h0_)))) hown hK hI i_h0.1 k_50 rfl 16 (by decide) (hts (.fieldLink RX12 180 "DeadlineShareModel" "worth" "J") (List.mem_cons_of_mem _ (List.mem_append_left _ (List.mem_of_getElem? (i := 8) rfl)))) (fun _ h9 => h9) rfl dX12_readStep_108 ?_
              refine lv_lconst (v := 1) hx hb dX12_readStep_111 (by decide) ?_
              refine lv_aload_n hx hb dX12_readStep_112 rfl (lv_at hl 2 rfl) ?_
              refine k_get (ci := 12) (v := .ref (gr g h0 20)) (C := RX12) (T := TX12) (N := 27) hx hb hts (fun _ h0_ => List.mem_cons_of_mem _ (List.mem_append_right _ (List.mem_append_right _ (List.mem_append_left _ h0_)))) hown hK hI i_h0.1 k_50 rfl 20 (by decide) (hts (.fieldLink RX12 56 "DeadlineShareModel" "most" "[I") (List.mem_cons_of_mem _ (List.mem_append_left _ (List.mem_of_getElem? (i := 10) rfl)))) (fun _ h9 => h9) rfl dX12_readStep_113 ?_
              have i_79 := kw_12_20 hG i_h0
              obtain ⟨m_80, em_80, tm_80⟩ := k_nat (x := y_4) (by omega)
              refine lv_iload_n hx hb dX12_readStep_116 rfl (lv_at hl 1 rfl) ?_
              refine k_topi (y := nI m_80) em_80 ?_
              obtain ⟨q_82, k_81, b_83⟩ := op_40 hI i_79
              refine k_iald hx hb hK hI i_79.1 0 k_81 rfl (vp_in_nI (by omega) (by omega)) dX12_readStep_117 ?_
              refine k_topi (y := q_82 m_80) (congrArg q_82 (nI_clamp (by omega))) ?_
              have d_84 := b_83 m_80 (by omega)
              refine lv_i2l (v := (q_82 m_80).toInt64) hx hb dX12_readStep_118 rfl ?_
              have t_85 := Int32.toInt_toInt64 (q_82 m_80)
              refine va_calli (va_runS (As := [.long w16_19, .long 1, .long ((q_82 m_80).toInt64)]) (rest := [.ref h0]) ⟨hx, hb, hml, hown, hts⟩ (c_X12_in l dC dI g A hG f_44 w16_19 1 ((q_82 m_80).toInt64)) (va_cwS 3 hts (gi_S (fun w_ h0_ => ⟨List.mem_cons_of_mem _ (List.mem_append_right _ (List.mem_append_right _ (List.mem_append_right _ (List.mem_append_left _ h0_)))), (tb_c_X12_in w_ h0_).2⟩) (List.mem_cons_of_mem _ (List.mem_append_left _ (List.mem_of_getElem? (i := 11) rfl))) (List.mem_cons_of_mem _ (List.mem_append_left _ (List.mem_of_getElem? (i := 12) rfl))) (List.mem_cons_of_mem _ (List.mem_append_left _ (List.mem_of_getElem? (i := 3) rfl)))) rfl rfl rfl (by decide +kernel) ⟨Nat.le_of_ble_eq_true rfl, Nat.le_of_ble_eq_true rfl⟩) ⟨fun a U g mk q => ⟨q.1, q.2.calling rfl rfl⟩, fun U hU hW => ⟨rfl, kIn.of hI hK hE hS hU hW⟩⟩ rfl rfl hl.1 rfl (lv_room (Nat.le_of_ble_eq_true rfl)) dX12_readStep_119 ⟨Nat.le_of_ble_eq_true rfl, Nat.le_of_ble_eq_true rfl⟩) hS (fun q _ h => h) (fun q h => h) (fun r_87 u t H1 locs ht hvm w_86 hB hz1 hk1 hS => ?_)
              have hI : Iv dC dI g A f_44 t.heap := hB
              rw [ht] at hI
              generalize H1 = H at hI hS ⊢
              refine W.widen (k := 0) (n := 0) (Nat.le_of_ble_eq_true rfl) (Nat.le_of_ble_eq_true rfl) ?_
              have w_86 : (r_87.toInt = 0 ∧ (w16_19.toInt < (1 : Int64).toInt ∨ ((q_82 m_80).toInt64).toInt < w16_19.toInt)) ∨ (r_87.toInt = 1 ∧ (1 : Int64).toInt ≤ w16_19.toInt ∧ w16_19.toInt ≤ ((q_82 m_80).toInt64).toInt) := w_86
              have g_88 : Int64.toInt (1) = 1 := by decide
              refine lv_if_eq (tgt := 129) hx hb dX12_readStep_122 (by decide) (fun c_89 => ?_) (fun c_89 => ?_)
              · have c_89 := kc_eq rfl (by decide : Int32.toInt 0 = 0) c_89
                exact J_129  _ _ _ hI hS  (lv_sub hl [0, 1, 2] rfl)
              · have c_89 := kn_eq rfl (by decide : Int32.toInt 0 = 0) c_89
                refine lv_iconst (v := 1) hx hb dX12_readStep_125 (by decide) ?_
                refine lv_goto (tgt := 130) hx hb dX12_readStep_126 (by decide) ?_
                exact J_130 1 _ _ _ hI hS (by first | omega | decide | exact Or.inl (by decide) | (simp only [show Int32.toInt 1 = 1 from by decide] <;> omega)) (lv_sub hl [0, 1, 2] rfl)
          · have c_28 := kn_eq rfl (by decide : Int32.toInt 0 = 0) c_28
            exact W.vret hx hb hr (fun t ht hW => ⟨⟨(), rfl, trivial, ⟨f_13, k_ret ht hI, kp_27, w13_16, w14_17, w15_18, w16_19, w17_20, w18_21, z23, kq, nq, k_22, (by first | omega | decide), (by first | omega | decide), (by first | omega | decide), k_25, k_26, (fun h9 => absurd h9 (by omega))⟩⟩, hS.F ht⟩) hS.2.2 dX12_readStep_73
        have J_62 : ∀ (H : Heap) (locs : List Loc) (ls : Array Slot), Iv dC dI g A f H → va_S A s.heap H locs → lv_has ls 3 [(2, .int y_3), (1, .int y_4), (0, .ref h0)] → W p l e (headSpec wq_c_X12_readStep ({ frames := 3, cells := 0, slots := 0, locals := 61 } : Room)).room s m ([.ref h0].toArray) below meth c H locs 0 0 (MQ below (va_Qv (fun (_ : Unit) => True) (fun (_ : Unit) t => ∃ f1 : Nat → va_E, Iv dC dI g A f1 t.heap ∧ Kp g [12, 41, 42] f f1 ∧ ∃ (w13 : Int32) (w14 : Int32) (w15 : Int32) (w16 : Int64) (w17 : Int32) (w18 : Int32) (w23 : Int32) (kq1 : Nat → Int32) (nq1 : Nat → Int32), (f1 h0 = .inr (12, [.int z0, .int z1, .ref (gr g h0 2), .ref (gr g h0 3), .ref (gr g h0 4), .ref (gr g h0 5), .ref (gr g h0 6), .ref (gr g h0 7), .ref (gr g h0 8), .ref (gr g h0 9), .int z10, .ref (gr g h0 11), .int z12, .int w13, .int w14, .int w15, .long w16, .int w17, .int w18, .ref (gr g h0 19), .ref (gr g h0 20), .ref (gr g h0 21), .ref (gr g h0 22), .int w23, .long z24, .long z25, .long z26])) ∧ (0 ≤ w14.toInt ∧ w14.toInt ≤ z12.toInt) ∧ (w18.toInt ≠ 0 ∨ w23.toInt = z23.toInt + 1) ∧ (0 ≤ w23.toInt ∧ w23.toInt ≤ 8) ∧ (f1 (gr g h0 21) = .inl (gc g 0, 8, .inl kq1)) ∧ (f1 (gr g h0 22) = .inl (gc g 0, 8, .inl nq1)) ∧ (NBi w18 w23 kq1 nq1)) A) ([.ref h0].toArray) s 0 0 A) (F0 m 62 ls [.ref h0]) := by
          intro H locs ls hI hS  hl
          refine lv_iconst (v := 0) hx hb dX12_readStep_62 (by decide) ?_
          exact J_63 0 _ _ _ hI hS (by first | omega | decide | exact Or.inl (by decide) | (simp only [show Int32.toInt 0 = 0 from by decide] <;> omega)) (lv_sub hl [0, 1, 2] rfl)
        refine lv_icmp_eq (tgt := 62) hx hb dX12_readStep_46 (by decide) (fun c_90 => ?_) (fun c_90 => ?_)
        · have c_90 := kc_eq rfl (by decide : Int32.toInt (-1) = (-1)) c_90
          exact J_62  _ _ _ hI hS  (lv_sub hl [0, 1, 2] rfl)
        · have c_90 := kn_eq rfl (by decide : Int32.toInt (-1) = (-1)) c_90
          refine lv_aload_n hx hb dX12_readStep_49 rfl (lv_at hl 2 rfl) ?_
          refine k_get (ci := 12) (v := .int z23) (C := RX12) (T := TX12) (N := 27) hx hb hts (fun _ h0_ => List.mem_cons_of_mem _ (List.mem_append_right _ (List.mem_append_right _ (List.mem_append_left _ h0_)))) hown hK hI i_h0.1 hc0 rfl 23 (by decide) (hts (.fieldLink RX12 208 "DeadlineShareModel" "nSteps" "I") (List.mem_cons_of_mem _ (List.mem_append_left _ (List.mem_of_getElem? (i := 6) rfl)))) (fun _ h9 => h9) rfl dX12_readStep_50 ?_
          refine lv_bipush (v := 8) hx hb dX12_readStep_53 (by decide) ?_
          refine lv_icmp_ge (tgt := 62) hx hb dX12_readStep_55 (by decide) (fun c_91 => ?_) (fun c_91 => ?_)
          · have c_91 := kc_le (by decide : Int32.toInt 8 = 8) rfl c_91
            exact J_62  _ _ _ hI hS  (lv_sub hl [0, 1, 2] rfl)
          · have c_91 := kn_le (by decide : Int32.toInt 8 = 8) rfl c_91
            refine lv_iconst (v := 1) hx hb dX12_readStep_58 (by decide) ?_
            refine lv_goto (tgt := 63) hx hb dX12_readStep_59 (by decide) ?_
            exact J_63 1 _ _ _ hI hS (by first | omega | decide | exact Or.inl (by decide) | (simp only [show Int32.toInt 1 = 1 from by decide] <;> omega)) (lv_sub hl [0, 1, 2] rfl)
      · have c_10 := kn_le (by decide : Int32.toInt 5 = 5) rfl c_10
        refine lv_aload_n hx hb dX12_readStep_9 rfl (lv_at hl 2 rfl) ?_
        refine k_get (ci := 12) (v := .int z15) (C := RX12) (T := TX12) (N := 27) hx hb hts (fun _ h0_ => List.mem_cons_of_mem _ (List.mem_append_right _ (List.mem_append_right _ (List.mem_append_left _ h0_)))) hown hK hI i_h0.1 hc0 rfl 15 (by decide) (hts (.fieldLink RX12 190 "DeadlineShareModel" "sort" "I") (List.mem_cons_of_mem _ (List.mem_append_left _ (List.mem_of_getElem? (i := 9) rfl)))) (fun _ h9 => h9) rfl dX12_readStep_10 ?_
        refine lv_iconst (v := 1) hx hb dX12_readStep_13 (by decide) ?_
        have J_36 : ∀ (y_92 : Int32) (H : Heap) (locs : List Loc) (ls : Array Slot), Iv dC dI g A f H → va_S A s.heap H locs → (-1 ≤ y_92.toInt ∧ y_92.toInt ≤ 4) → lv_has ls 3 [(2, .int y_3), (1, .int y_4), (0, .ref h0)] → W p l e (headSpec wq_c_X12_readStep ({ frames := 3, cells := 0, slots := 0, locals := 61 } : Room)).room s m ([.ref h0].toArray) below meth c H locs 0 0 (MQ below (va_Qv (fun (_ : Unit) => True) (fun (_ : Unit) t => ∃ f1 : Nat → va_E, Iv dC dI g A f1 t.heap ∧ Kp g [12, 41, 42] f f1 ∧ ∃ (w13 : Int32) (w14 : Int32) (w15 : Int32) (w16 : Int64) (w17 : Int32) (w18 : Int32) (w23 : Int32) (kq1 : Nat → Int32) (nq1 : Nat → Int32), (f1 h0 = .inr (12, [.int z0, .int z1, .ref (gr g h0 2), .ref (gr g h0 3), .ref (gr g h0 4), .ref (gr g h0 5), .ref (gr g h0 6), .ref (gr g h0 7), .ref (gr g h0 8), .ref (gr g h0 9), .int z10, .ref (gr g h0 11), .int z12, .int w13, .int w14, .int w15, .long w16, .int w17, .int w18, .ref (gr g h0 19), .ref (gr g h0 20), .ref (gr g h0 21), .ref (gr g h0 22), .int w23, .long z24, .long z25, .long z26])) ∧ (0 ≤ w14.toInt ∧ w14.toInt ≤ z12.toInt) ∧ (w18.toInt ≠ 0 ∨ w23.toInt = z23.toInt + 1) ∧ (0 ≤ w23.toInt ∧ w23.toInt ≤ 8) ∧ (f1 (gr g h0 21) = .inl (gc g 0, 8, .inl kq1)) ∧ (f1 (gr g h0 22) = .inl (gc g 0, 8, .inl nq1)) ∧ (NBi w18 w23 kq1 nq1)) A) ([.ref h0].toArray) s 0 0 A) (F0 m 36 ls [.int y_92]) := by
          intro y_92 H locs ls hI hS t_93 hl
          refine lv_istore_n (lv' := [(1, .int y_92), (2, .int y_3), (0, .ref h0)]) hx hb dX12_readStep_36 rfl hl (by decide) rfl (fun ls hl => ?_)
          obtain ⟨v_94, ev_94⟩ : ∃ y : Int32, y = y_3 + Int32.ofInt 1 := ⟨_, rfl⟩
          refine lv_iinc (v := v_94) (lv' := [(2, .int v_94), (1, .int y_92), (0, .ref h0)]) hx hb dX12_readStep_37 hl (k := 1) rfl ev_94.symm (by decide) rfl (fun ls hl => ?_)
          have tv_94 := k_inc y_3
          rw [← ev_94] at tv_94
          refine lv_goto (tgt := 4) hx hb dX12_readStep_40 (by decide) ?_
          exact ih v_94 y_92 _ _ _ (by omega) hI hS (by first | omega | decide | exact Or.inl (by decide)) (by first | omega | decide | exact Or.inl (by decide)) (lv_sub hl [0, 1, 2] rfl)
        have J_35 : ∀ (H : Heap) (locs : List Loc) (ls : Array Slot), Iv dC dI g A f H → va_S A s.heap H locs → lv_has ls 3 [(2, .int y_3), (1, .int y_4), (0, .ref h0)] → W p l e (headSpec wq_c_X12_readStep ({ frames := 3, cells := 0, slots := 0, locals := 61 } : Room)).room s m ([.ref h0].toArray) below meth c H locs 0 0 (MQ below (va_Qv (fun (_ : Unit) => True) (fun (_ : Unit) t => ∃ f1 : Nat → va_E, Iv dC dI g A f1 t.heap ∧ Kp g [12, 41, 42] f f1 ∧ ∃ (w13 : Int32) (w14 : Int32) (w15 : Int32) (w16 : Int64) (w17 : Int32) (w18 : Int32) (w23 : Int32) (kq1 : Nat → Int32) (nq1 : Nat → Int32), (f1 h0 = .inr (12, [.int z0, .int z1, .ref (gr g h0 2), .ref (gr g h0 3), .ref (gr g h0 4), .ref (gr g h0 5), .ref (gr g h0 6), .ref (gr g h0 7), .ref (gr g h0 8), .ref (gr g h0 9), .int z10, .ref (gr g h0 11), .int z12, .int w13, .int w14, .int w15, .long w16, .int w17, .int w18, .ref (gr g h0 19), .ref (gr g h0 20), .ref (gr g h0 21), .ref (gr g h0 22), .int w23, .long z24, .long z25, .long z26])) ∧ (0 ≤ w14.toInt ∧ w14.toInt ≤ z12.toInt) ∧ (w18.toInt ≠ 0 ∨ w23.toInt = z23.toInt + 1) ∧ (0 ≤ w23.toInt ∧ w23.toInt ≤ 8) ∧ (f1 (gr g h0 21) = .inl (gc g 0, 8, .inl kq1)) ∧ (f1 (gr g h0 22) = .inl (gc g 0, 8, .inl nq1)) ∧ (NBi w18 w23 kq1 nq1)) A) ([.ref h0].toArray) s 0 0 A) (F0 m 35 ls []) := by
          intro H locs ls hI hS  hl
          refine lv_iload_n hx hb dX12_readStep_35 rfl (lv_at hl 1 rfl) ?_
          exact J_36 y_4 _ _ _ hI hS (by first | omega | decide | exact Or.inl (by decide)) (lv_sub hl [0, 1, 2] rfl)
        refine lv_icmp_ne (tgt := 35) hx hb dX12_readStep_14 (by decide) (fun c_95 => ?_) (fun c_95 => ?_)
        · have c_95 := kn_eq rfl (by decide : Int32.toInt 1 = 1) c_95
          exact J_35  _ _ _ hI hS  (lv_sub hl [0, 1, 2] rfl)
        · have c_95 := kc_eq rfl (by decide : Int32.toInt 1 = 1) c_95
          refine lv_aload_n hx hb dX12_readStep_17 rfl (lv_at hl 2 rfl) ?_
          refine k_get (ci := 12) (v := .long z16) (C := RX12) (T := TX12) (N := 27) hx hb hts (fun _ h0_ => List.mem_cons_of_mem _ (List.mem_append_right _ (List.mem_append_right _ (List.mem_append_left _ h0_)))) hown hK hI i_h0.1 hc0 rfl 16 (by decide) (hts (.fieldLink RX12 180 "DeadlineShareModel" "worth" "J") (List.mem_cons_of_mem _ (List.mem_append_left _ (List.mem_of_getElem? (i := 8) rfl)))) (fun _ h9 => h9) rfl dX12_readStep_18 ?_
          refine lv_aload_n hx hb dX12_readStep_21 rfl (lv_at hl 2 rfl) ?_
          refine k_get (ci := 12) (v := .ref (gr g h0 19)) (C := RX12) (T := TX12) (N := 27) hx hb hts (fun _ h0_ => List.mem_cons_of_mem _ (List.mem_append_right _ (List.mem_append_right _ (List.mem_append_left _ h0_)))) hown hK hI i_h0.1 hc0 rfl 19 (by decide) (hts (.fieldLink RX12 53 "DeadlineShareModel" "words" "[J") (List.mem_cons_of_mem _ (List.mem_append_left _ (List.mem_of_getElem? (i := 13) rfl)))) (fun _ h9 => h9) rfl dX12_readStep_22 ?_
          have i_97 := kw_12_19 hG i_h0
          refine lv_iload_n hx hb dX12_readStep_25 rfl (lv_at hl 0 rfl) ?_
          obtain ⟨q_99, k_98, b_100⟩ := op_39 hI i_97
          refine k_lald hx hb hK hI i_97.1 1 k_98 rfl (vp_in_iff.mpr (by omega)) dX12_readStep_26 ?_
          refine lv_topl (fun v_101 ev_101 => ?_)
          refine W.lcmp hx hb dX12_readStep_27 ?_
          refine lv_if_ne (tgt := 35) hx hb dX12_readStep_28 (by decide) (fun c_102 => ?_) (fun c_102 => ?_)
          · have c_102 := ln_eq rfl rfl (fun h9 => c_102 ((lg_cmp_eq _ _).mpr h9))
            exact J_35  _ _ _ hI hS  (lv_sub hl [0, 1, 2] rfl)
          · have c_102 := lc_eq rfl rfl ((lg_cmp_eq _ _).mp c_102)
            refine lv_iload_n hx hb dX12_readStep_31 rfl (lv_at hl 0 rfl) ?_
            refine lv_goto (tgt := 36) hx hb dX12_readStep_32 (by decide) ?_
            exact J_36 y_3 _ _ _ hI hS (by first | omega | decide | exact Or.inl (by decide)) (lv_sub hl [0, 1, 2] rfl)
  exact K_4 _ 0 (-1) _ _ _ (Nat.lt_succ_self _) hI hS (by first | omega | decide | exact Or.inl (by decide) | (simp only [show Int32.toInt 0 = 0 from by decide, show Int32.toInt (-1) = (-1) from by decide] <;> omega)) (by first | omega | decide | exact Or.inl (by decide) | (simp only [show Int32.toInt 0 = 0 from by decide, show Int32.toInt (-1) = (-1) from by decide] <;> omega)) (lv_sub hl [0, 1, 2] rfl)
theorem tw_894 : q_g (.constantLong RX12 218 (44)) := ⟨(List.mem_append_right _ (List.mem_of_getElem? (i := 1364) (by decide +kernel))), good_of_word (by decide +kernel)⟩
theorem tw_895 : q_g (.selects RX12 yX12_readStep yX12_readStep) := ⟨(List.mem_append_left _ (List.mem_of_getElem? (i := 42) (by decide +kernel))), good_of_word (by decide +kernel)⟩
theorem tw_896 : q_g (.instanceMethod yX12_readStep) := ⟨(List.mem_append_right _ (List.mem_of_getElem? (i := 1358) (by decide +kernel))), good_of_word (by decide +kernel)⟩
theorem tw_897 : q_g (.methodLink RX12 215 yX12_readStep) := ⟨(List.mem_append_right _ (List.mem_of_getElem? (i := 1356) (by decide +kernel))), good_of_word (by decide +kernel)⟩
theorem tw_898 : q_g (.code yX12_readScript cX12_readScript 1 none) := ⟨(List.mem_append_right _ (List.mem_of_getElem? (i := 1341) (by decide +kernel))), good_of_word (by decide +kernel)⟩
def ow_c_X12_readScript : List Cond := [.fieldLink RX12 174 "DeadlineShareModel" "to" "I", .fieldLink RX12 201 "DeadlineShareModel" "bad" "Z", .fieldLink RX12 39 "DeadlineShareModel" "fault" "I", .fieldLink RX12 208 "DeadlineShareModel" "nSteps" "I", .methodLink RX12 205 yX12_next, .instanceMethod yX12_next, .selects RX12 yX12_next yX12_next, .initialized RX12, .methodLink RX12 215 yX12_readStep, .instanceMethod yX12_readStep, .selects RX12 yX12_readStep yX12_readStep, .fieldLink RX12 190 "DeadlineShareModel" "sort" "I", .methodLink RX12 211 yX12_must, .instanceMethod yX12_must, .selects RX12 yX12_must yX12_must, .fieldLink RX12 180 "DeadlineShareModel" "worth" "J", .constantLong RX12 218 (44)]
def wq_c_X12_readScript : List Cond := .code yX12_readScript cX12_readScript 1 none :: (ow_c_X12_readScript ++ (u_ws RX12 TX12 27 ++ (wq_c_X12_next ++ (wq_c_X12_readStep ++ (wq_c_X12_must ++ ([] : List Cond))))))
theorem tb_c_X12_readScript : ∀ w ∈ wq_c_X12_readScript, q_g w := by
  unfold wq_c_X12_readScript ow_c_X12_readScript
  exact q_cons tw_898 (q_app (q_cons tw_877 (q_cons tw_883 (q_cons tw_879 (q_cons tw_888 (q_cons tw_882 (q_cons tw_881 (q_cons tw_880 (q_cons tw_728 (q_cons tw_897 (q_cons tw_896 (q_cons tw_895 (q_cons tw_874 (q_cons tw_892 (q_cons tw_891 (q_cons tw_890 (q_cons tw_875 (q_cons tw_894 q_nil))))))))))))))))) (q_app tu_X12 (q_app tb_c_X12_next (q_app tb_c_X12_readStep (q_app tb_c_X12_must q_nil)))))
set_option maxHeartbeats 4000000 in
set_option maxRecDepth 100000 in
theorem c_X12_readScript (l : Launch) (dC : Nat → ClassId) (dI : Nat → Nat → Nat) (g : kG) (A : Nat → Prop) (hG : kWf g) (f : Nat → va_E) (h0 : Nat) (z0 : Int32) (z1 : Int32) (z10 : Int32) (z12 : Int32) (z13 : Int32) (z14 : Int32) (z15 : Int32) (z16 : Int64) (z17 : Int32) (z18 : Int32) (z23 : Int32) (z24 : Int64) (z25 : Int64) (z26 : Int64) (kq : Nat → Int32) (nq : Nat → Int32) (i_h0 : ik g 12 h0) (hc0 : f h0 = .inr (12, [.int z0, .int z1, .ref (gr g h0 2), .ref (gr g h0 3), .ref (gr g h0 4), .ref (gr g h0 5), .ref (gr g h0 6), .ref (gr g h0 7), .ref (gr g h0 8), .ref (gr g h0 9), .int z10, .ref (gr g h0 11), .int z12, .int z13, .int z14, .int z15, .long z16, .int z17, .int z18, .ref (gr g h0 19), .ref (gr g h0 20), .ref (gr g h0 21), .ref (gr g h0 22), .int z23, .long z24, .long z25, .long z26])) (hc0_10 : 0 ≤ z10.toInt ∧ z10.toInt ≤ 10) (hc0_12 : 0 ≤ z12.toInt ∧ z12.toInt ≤ 200) (hc0_23 : 0 ≤ z23.toInt ∧ z23.toInt ≤ 8) (hc1 : f (gr g h0 21) = .inl (gc g 0, 8, .inl kq)) (hc2 : f (gr g h0 22) = .inl (gc g 0, 8, .inl nq)) : Met l yX12_readScript wq_c_X12_readScript ({ frames := 4, cells := 0, slots := 0, locals := 83 } : Room) (va_Pc [.ref h0] (fun U => kIn dC dI g A f U)) (va_Qv (fun (_ : Unit) => True) (fun (_ : Unit) t => ∃ f1 : Nat → va_E, Iv dC dI g A f1 t.heap ∧ Kp g [12, 41, 42] f f1 ∧ ∃ (w13 : Int32) (w14 : Int32) (w15 : Int32) (w16 : Int64) (w17 : Int32) (w18 : Int32) (w23 : Int32) (kq1 : Nat → Int32) (nq1 : Nat → Int32), (f1 h0 = .inr (12, [.int z0, .int z1, .ref (gr g h0 2), .ref (gr g h0 3), .ref (gr g h0 4), .ref (gr g h0 5), .ref (gr g h0 6), .ref (gr g h0 7), .ref (gr g h0 8), .ref (gr g h0 9), .int z10, .ref (gr g h0 11), .int z12, .int w13, .int w14, .int w15, .long w16, .int w17, .int w18, .ref (gr g h0 19), .ref (gr g h0 20), .ref (gr g h0 21), .ref (gr g h0 22), .int w23, .long z24, .long z25, .long z26])) ∧ (0 ≤ w23.toInt ∧ w23.toInt ≤ 8) ∧ (f1 (gr g h0 21) = .inl (gc g 0, 8, .inl kq1)) ∧ (f1 (gr g h0 22) = .inl (gc g 0, 8, .inl nq1)) ∧ (NBi w18 w23 kq1 nq1)) A) 0 0 A := by
  refine Met.ofW (cc := cX12_readScript) (maxL := 1) (ret := none) (by decide) rfl ?_
  intro p e s m args below meth c s₁ B hml hv
  obtain ⟨rfl, hI, hK, hE⟩ := hv
  have hx := B.exec
  have hb := B.bytes
  have hr := B.returns
  have hts := atoms_spec (ws := wq_c_X12_readScript) B.pre
  have hown : s.vm.findClass RX12 = some m.cls := findClass_of_methodNamed B.named
  have hlocks := B.notSynchronized
  have hS : va_S A s.heap s.heap [] := va_S.rf
  have hk0 : Kp g [12, 41, 42] f f := Kp.rf
  have hl := lv_entry ([.ref h0]) (n := 1) (Nat.le_of_ble_eq_true rfl)
  rw [lg_entry_eq]
  generalize (lg_sl ([.ref h0]) ++ List.replicate (1 - (lg_sl ([.ref h0])).length) Slot.unset).toArray = ls at hl ⊢
  have hl : lv_has ls 1 [(0, .ref h0)] := hl
  have i_1 := kw_12_21 hG i_h0
  have i_2 := kw_12_22 hG i_h0
  refine lv_aload_n hx hb dX12_readScript_0 rfl (lv_at hl 0 rfl) ?_
  refine lv_iconst (v := 0) hx hb dX12_readScript_1 (by decide) ?_
  refine k_put (ci := 12) (v := .int 0) (ty := .int) (C := RX12) (T := TX12) (N := 27) hx hb hts (fun _ h0_ => List.mem_cons_of_mem _ (List.mem_append_right _ (List.mem_append_left _ h0_))) tyX12 tyX12_ok nmX12 hown hK hI hS i_h0.1 hc0 rfl 14 (by decide) (hts (.fieldLink RX12 174 "DeadlineShareModel" "to" "I") (List.mem_cons_of_mem _ (List.mem_append_left _ (List.mem_of_getElem? (i := 0) rfl)))) (fun _ h9 => h9) rfl (by decide +kernel) rfl rfl (Nat.le_of_ble_eq_true rfl) rfl (cl_12 i_h0 (by omega) (by omega) (by omega)) dX12_readScript_2 (fun f_3 H locs e_4 hI hS => ?_)
  have k_6 : f_3 h0 = .inr (12, [.int z0, .int z1, .ref (gr g h0 2), .ref (gr g h0 3), .ref (gr g h0 4), .ref (gr g h0 5), .ref (gr g h0 6), .ref (gr g h0 7), .ref (gr g h0 8), .ref (gr g h0 9), .int z10, .ref (gr g h0 11), .int z12, .int z13, .int 0, .int z15, .long z16, .int z17, .int z18, .ref (gr g h0 19), .ref (gr g h0 20), .ref (gr g h0 21), .ref (gr g h0 22), .int z23, .long z24, .long z25, .long z26]) := by rw [e_4]; exact va_up_self _ _ _
  have k_7 : f_3 (gr g h0 21) = .inl (gc g 0, 8, .inl kq) := by rw [e_4, va_up_ne _ _ (ik_ne i_1 i_h0 (by decide))]; exact hc1
  have k_8 : f_3 (gr g h0 22) = .inl (gc g 0, 8, .inl nq) := by rw [e_4, va_up_ne _ _ (ik_ne i_2 i_h0 (by decide))]; exact hc2
  have kp_5 := Kp.put hk0 i_h0 (by decide) e_4
  refine lv_aload_n hx hb dX12_readScript_5 rfl (lv_at hl 0 rfl) ?_
  refine lv_iconst (v := 0) hx hb dX12_readScript_6 (by decide) ?_
  refine k_put (ci := 12) (v := .int 0) (ty := .boolean) (C := RX12) (T := TX12) (N := 27) hx hb hts (fun _ h0_ => List.mem_cons_of_mem _ (List.mem_append_right _ (List.mem_append_left _ h0_))) tyX12 tyX12_ok nmX12 hown hK hI hS i_h0.1 k_6 rfl 18 (by decide) (hts (.fieldLink RX12 201 "DeadlineShareModel" "bad" "Z") (List.mem_cons_of_mem _ (List.mem_append_left _ (List.mem_of_getElem? (i := 1) rfl)))) (fun _ h9 => h9) rfl (by decide +kernel) rfl rfl (Nat.le_of_ble_eq_true rfl) rfl (cl_12 i_h0 (by omega) (by omega) (by omega)) dX12_readScript_7 (fun f_9 H locs e_10 hI hS => ?_)
  have k_12 : f_9 h0 = .inr (12, [.int z0, .int z1, .ref (gr g h0 2), .ref (gr g h0 3), .ref (gr g h0 4), .ref (gr g h0 5), .ref (gr g h0 6), .ref (gr g h0 7), .ref (gr g h0 8), .ref (gr g h0 9), .int z10, .ref (gr g h0 11), .int z12, .int z13, .int 0, .int z15, .long z16, .int z17, .int 0, .ref (gr g h0 19), .ref (gr g h0 20), .ref (gr g h0 21), .ref (gr g h0 22), .int z23, .long z24, .long z25, .long z26]) := by rw [e_10]; exact va_up_self _ _ _
  have k_13 : f_9 (gr g h0 21) = .inl (gc g 0, 8, .inl kq) := by rw [e_10, va_up_ne _ _ (ik_ne i_1 i_h0 (by decide))]; exact k_7
  have k_14 : f_9 (gr g h0 22) = .inl (gc g 0, 8, .inl nq) := by rw [e_10, va_up_ne _ _ (ik_ne i_2 i_h0 (by decide))]; exact k_8
  have kp_11 := Kp.put kp_5 i_h0 (by decide) e_10
  refine lv_aload_n hx hb dX12_readScript_10 rfl (lv_at hl 0 rfl) ?_
  refine lv_iconst (v := (-1)) hx hb dX12_readScript_11 (by decide) ?_
  refine k_put (ci := 12) (v := .int (-1)) (ty := .int) (C := RX12) (T := TX12) (N := 27) hx hb hts (fun _ h0_ => List.mem_cons_of_mem _ (List.mem_append_right _ (List.mem_append_left _ h0_))) tyX12 tyX12_ok nmX12 hown hK hI hS i_h0.1 k_12 rfl 17 (by decide) (hts (.fieldLink RX12 39 "DeadlineShareModel" "fault" "I") (List.mem_cons_of_mem _ (List.mem_append_left _ (List.mem_of_getElem? (i := 2) rfl)))) (fun _ h9 => h9) rfl (by decide +kernel) rfl rfl (Nat.le_of_ble_eq_true rfl) rfl (cl_12 i_h0 (by omega) (by omega) (by omega)) dX12_readScript_12 (fun f_15 H locs e_16 hI hS => ?_)
  have k_18 : f_15 h0 = .inr (12, [.int z0, .int z1, .ref (gr g h0 2), .ref (gr g h0 3), .ref (gr g h0 4), .ref (gr g h0 5), .ref (gr g h0 6), .ref (gr g h0 7), .ref (gr g h0 8), .ref (gr g h0 9), .int z10, .ref (gr g h0 11), .int z12, .int z13, .int 0, .int z15, .long z16, .int (-1), .int 0, .ref (gr g h0 19), .ref (gr g h0 20), .ref (gr g h0 21), .ref (gr g h0 22), .int z23, .long z24, .long z25, .long z26]) := by rw [e_16]; exact va_up_self _ _ _
  have k_19 : f_15 (gr g h0 21) = .inl (gc g 0, 8, .inl kq) := by rw [e_16, va_up_ne _ _ (ik_ne i_1 i_h0 (by decide))]; exact k_13
  have k_20 : f_15 (gr g h0 22) = .inl (gc g 0, 8, .inl nq) := by rw [e_16, va_up_ne _ _ (ik_ne i_2 i_h0 (by decide))]; exact k_14
  have kp_17 := Kp.put kp_11 i_h0 (by decide) e_16
  refine lv_aload_n hx hb dX12_readScript_15 rfl (lv_at hl 0 rfl) ?_
  refine lv_iconst (v := 0) hx hb dX12_readScript_16 (by decide) ?_
  have b_21 : 0 ≤ Int32.toInt 0 ∧ Int32.toInt 0 ≤ 8 := (by decide)
  refine k_put (ci := 12) (v := .int 0) (ty := .int) (C := RX12) (T := TX12) (N := 27) hx hb hts (fun _ h0_ => List.mem_cons_of_mem _ (List.mem_append_right _ (List.mem_append_left _ h0_))) tyX12 tyX12_ok nmX12 hown hK hI hS i_h0.1 k_18 rfl 23 (by decide) (hts (.fieldLink RX12 208 "DeadlineShareModel" "nSteps" "I") (List.mem_cons_of_mem _ (List.mem_append_left _ (List.mem_of_getElem? (i := 3) rfl)))) (fun _ h9 => h9) rfl (by decide +kernel) rfl rfl (Nat.le_of_ble_eq_true rfl) rfl (cl_12 i_h0 (by omega) (by omega) b_21) dX12_readScript_17 (fun f_22 H locs e_23 hI hS => ?_)
  have k_25 : f_22 h0 = .inr (12, [.int z0, .int z1, .ref (gr g h0 2), .ref (gr g h0 3), .ref (gr g h0 4), .ref (gr g h0 5), .ref (gr g h0 6), .ref (gr g h0 7), .ref (gr g h0 8), .ref (gr g h0 9), .int z10, .ref (gr g h0 11), .int z12, .int z13, .int 0, .int z15, .long z16, .int (-1), .int 0, .ref (gr g h0 19), .ref (gr g h0 20), .ref (gr g h0 21), .ref (gr g h0 22), .int 0, .long z24, .long z25, .long z26]) := by rw [e_23]; exact va_up_self _ _ _
  have k_26 : f_22 (gr g h0 21) = .inl (gc g 0, 8, .inl kq) := by rw [e_23, va_up_ne _ _ (ik_ne i_1 i_h0 (by decide))]; exact k_19
  have k_27 : f_22 (gr g h0 22) = .inl (gc g 0, 8, .inl nq) := by rw [e_23, va_up_ne _ _ (ik_ne i_2 i_h0 (by decide))]; exact k_20
  have kp_24 := Kp.put kp_17 i_h0 (by decide) e_23
  refine lv_aload_n hx hb dX12_readScript_20 rfl (lv_at hl 0 rfl) ?_
  refine va_callv (va_runV (As := []) (rest := []) ⟨hx, hb, hml, hown, hts⟩ (c_X12_next l dC dI g A hG f_22 h0 z0 z1 z10 z12 z13 0 z15 z16 (-1) 0 0 z24 z25 z26 i_h0 k_25 (by first | omega | (simp only [k_c0]; omega)) (by first | omega | (simp only [k_c0]; omega)) (by decide) (by first | omega | decide | (simp only [k_c0, k_c1, k_cm1] <;> omega))) (cwV 0 hts (gi_V (fun w_ h0_ => ⟨List.mem_cons_of_mem _ (List.mem_append_right _ (List.mem_append_right _ (List.mem_append_left _ h0_))), (tb_c_X12_next w_ h0_).2⟩) (List.mem_cons_of_mem _ (List.mem_append_left _ (List.mem_of_getElem? (i := 4) rfl))) (List.mem_cons_of_mem _ (List.mem_append_left _ (List.mem_of_getElem? (i := 5) rfl))) (List.mem_cons_of_mem _ (List.mem_append_left _ (List.mem_of_getElem? (i := 6) rfl))) (List.mem_cons_of_mem _ (List.mem_append_left _ (List.mem_of_getElem? (i := 7) rfl)))) rfl rfl rfl (by decide +kernel) ⟨Nat.le_of_ble_eq_true rfl, Nat.le_of_ble_eq_true rfl⟩) ⟨fun a U g mk q => ⟨q.1, q.2.calling rfl rfl⟩, k_recv hK hI i_h0.1 k_25 (ci := 12) rfl, fun U hU hW => ⟨rfl, kIn.of hI hK hE hS hU hW⟩⟩ rfl rfl hl.1 rfl (lv_room (Nat.le_of_ble_eq_true rfl)) dX12_readScript_21 ⟨Nat.le_of_ble_eq_true rfl, Nat.le_of_ble_eq_true rfl⟩) hS (fun q _ h => h) (fun q h => h) (fun u t H1 locs ht hvm _ hB hz1 hk1 hS => ?_)
  obtain ⟨f_28, hI, kc_30, w13_31, w14_32, w15_33, w16_34, k_35, z_36⟩ := hB
  rw [ht] at hI
  have k_37 : f_28 (gr g h0 21) = .inl (gc g 0, 8, .inl kq) := Kp.at kc_30 i_1 (by decide) k_26
  have k_38 : f_28 (gr g h0 22) = .inl (gc g 0, 8, .inl nq) := Kp.at kc_30 i_2 (by decide) k_27
  have k_35 : f_28 h0 = .inr (12, [.int z0, .int z1, .ref (gr g h0 2), .ref (gr g h0 3), .ref (gr g h0 4), .ref (gr g h0 5), .ref (gr g h0 6), .ref (gr g h0 7), .ref (gr g h0 8), .ref (gr g h0 9), .int z10, .ref (gr g h0 11), .int z12, .int w13_31, .int w14_32, .int w15_33, .long w16_34, .int (-1 : Int32), .int (0 : Int32), .ref (gr g h0 19), .ref (gr g h0 20), .ref (gr g h0 21), .ref (gr g h0 22), .int (0 : Int32), .long z24, .long z25, .long z26]) := k_35
  have z_36 : 0 ≤ w14_32.toInt ∧ w14_32.toInt ≤ z12.toInt := z_36
  have kp_39 := Kp.call kp_24 kc_30 (by decide)
  generalize H1 = H at hI hS ⊢
  refine W.widen (k := 0) (n := 0) (Nat.le_of_ble_eq_true rfl) (Nat.le_of_ble_eq_true rfl) ?_
  refine lv_aload_n hx hb dX12_readScript_24 rfl (lv_at hl 0 rfl) ?_
  refine va_callv (va_runV (As := []) (rest := []) ⟨hx, hb, hml, hown, hts⟩ (c_X12_readStep l dC dI g A hG f_28 h0 z0 z1 z10 z12 w13_31 w14_32 w15_33 w16_34 (-1 : Int32) (0 : Int32) (0 : Int32) z24 z25 z26 kq nq i_h0 k_35 (by first | omega | (simp only [k_c0]; omega)) (by first | omega | (simp only [k_c0]; omega)) (by first | omega | (simp only [k_c0]; omega)) k_37 k_38 (by first | omega | decide | (simp only [k_c0, k_c1, k_cm1] <;> omega)) (by first | omega | decide | (simp only [k_c0, k_c1, k_cm1] <;> omega)) (fun k9 h9 => absurd h9 (by simp only [k_c0]; omega))) (cwV 0 hts (gi_V (fun w_ h0_ => ⟨List.mem_cons_of_mem _ (List.mem_append_right _ (List.mem_append_right _ (List.mem_append_right _ (List.mem_append_left _ h0_)))), (tb_c_X12_readStep w_ h0_).2⟩) (List.mem_cons_of_mem _ (List.mem_append_left _ (List.mem_of_getElem? (i := 8) rfl))) (List.mem_cons_of_mem _ (List.mem_append_left _ (List.mem_of_getElem? (i := 9) rfl))) (List.mem_cons_of_mem _ (List.mem_append_left _ (List.mem_of_getElem? (i := 10) rfl))) (List.mem_cons_of_mem _ (List.mem_append_left _ (List.mem_of_getElem? (i := 7) rfl)))) rfl rfl rfl (by decide +kernel) ⟨Nat.le_of_ble_eq_true rfl, Nat.le_of_ble_eq_true rfl⟩) ⟨fun a U g mk q => ⟨q.1, q.2.calling rfl rfl⟩, k_recv hK hI i_h0.1 k_35 (ci := 12) rfl, fun U hU hW => ⟨rfl, kIn.of hI hK hE hS hU hW⟩⟩ rfl rfl hl.1 rfl (lv_room (Nat.le_of_ble_eq_true rfl)) dX12_readScript_25 ⟨Nat.le_of_ble_eq_true rfl, Nat.le_of_ble_eq_true rfl⟩) hS (fun q _ h => h) (fun q h => h) (fun u t H1 locs ht hvm _ hB hz1 hk1 hS => ?_)
  obtain ⟨f_40, hI, kc_42, w13_43, w14_44, w15_45, w16_46, w17_47, w18_48, w23_49, kq1_50, nq1_51, k_52, z_53, z_54, z_55, k_56, k_57, z_58⟩ := hB
  rw [ht] at hI
  have k_52 : f_40 h0 = .inr (12, [.int z0, .int z1, .ref (gr g h0 2), .ref (gr g h0 3), .ref (gr g h0 4), .ref (gr g h0 5), .ref (gr g h0 6), .ref (gr g h0 7), .ref (gr g h0 8), .ref (gr g h0 9), .int z10, .ref (gr g h0 11), .int z12, .int w13_43, .int w14_44, .int w15_45, .long w16_46, .int w17_47, .int w18_48, .ref (gr g h0 19), .ref (gr g h0 20), .ref (gr g h0 21), .ref (gr g h0 22), .int w23_49, .long z24, .long z25, .long z26]) := k_52
  have z_53 : 0 ≤ w14_44.toInt ∧ w14_44.toInt ≤ z12.toInt := z_53
  have z_54 : w18_48.toInt ≠ 0 ∨ w23_49.toInt = (0 : Int32).toInt + 1 := z_54
  have z_55 : 0 ≤ w23_49.toInt ∧ w23_49.toInt ≤ 8 := z_55
  have z_58 : NBi w18_48 w23_49 kq1_50 nq1_51 := z_58
  have kp_59 := Kp.call kp_39 kc_42 (by decide)
  generalize H1 = H at hI hS ⊢
  refine W.widen (k := 0) (n := 0) (Nat.le_of_ble_eq_true rfl) (Nat.le_of_ble_eq_true rfl) ?_
  have K_28 : ∀ (nn : Nat) (q_61 : Nat → Int32) (q_63 : Nat → Int32) (y_65 : Int32) (y_66 : Int32) (y_67 : Int32) (y_68 : Int64) (y_69 : Int32) (y_70 : Int32) (y_71 : Int32) (f_60 : Nat → va_E) (H : Heap) (locs : List Loc) (ls : Array Slot), (if y_70.toInt = 0 then (10 - y_71.toInt).toNat else 0) < nn → Iv dC dI g A f_60 H → va_S A s.heap H locs → f_60 (gr g h0 21) = .inl (gc g 0, 8, .inl q_61) → f_60 (gr g h0 22) = .inl (gc g 0, 8, .inl q_63) → f_60 h0 = .inr (12, [.int z0, .int z1, .ref (gr g h0 2), .ref (gr g h0 3), .ref (gr g h0 4), .ref (gr g h0 5), .ref (gr g h0 6), .ref (gr g h0 7), .ref (gr g h0 8), .ref (gr g h0 9), .int z10, .ref (gr g h0 11), .int z12, .int y_65, .int y_66, .int y_67, .long y_68, .int y_69, .int y_70, .ref (gr g h0 19), .ref (gr g h0 20), .ref (gr g h0 21), .ref (gr g h0 22), .int y_71, .long z24, .long z25, .long z26]) → Kp g [12, 41, 42] f f_60 → (0 ≤ y_66.toInt ∧ y_66.toInt ≤ z12.toInt) → (NBi y_70 y_71 q_61 q_63) → (0 ≤ y_71.toInt ∧ y_71.toInt ≤ 8) → lv_has ls 1 [(0, .ref h0)] → W p l e (headSpec wq_c_X12_readScript ({ frames := 4, cells := 0, slots := 0, locals := 83 } : Room)).room s m ([.ref h0].toArray) below meth c H locs 0 0 (MQ below (va_Qv (fun (_ : Unit) => True) (fun (_ : Unit) t => ∃ f1 : Nat → va_E, Iv dC dI g A f1 t.heap ∧ Kp g [12, 41, 42] f f1 ∧ ∃ (w13 : Int32) (w14 : Int32) (w15 : Int32) (w16 : Int64) (w17 : Int32) (w18 : Int32) (w23 : Int32) (kq1 : Nat → Int32) (nq1 : Nat → Int32), (f1 h0 = .inr (12, [.int z0, .int z1, .ref (gr g h0 2), .ref (gr g h0 3), .ref (gr g h0 4), .ref (gr g h0 5), .ref (gr g h0 6), .ref (gr g h0 7), .ref (gr g h0 8), .ref (gr g h0 9), .int z10, .ref (gr g h0 11), .int z12, .int w13, .int w14, .int w15, .long w16, .int w17, .int w18, .ref (gr g h0 19), .ref (gr g h0 20), .ref (gr g h0 21), .ref (gr g h0 22), .int w23, .long z24, .long z25, .long z26])) ∧ (0 ≤ w23.toInt ∧ w23.toInt ≤ 8) ∧ (f1 (gr g h0 21) = .inl (gc g 0, 8, .inl kq1)) ∧ (f1 (gr g h0 22) = .inl (gc g 0, 8, .inl nq1)) ∧ (NBi w18 w23 kq1 nq1)) A) ([.ref h0].toArray) s 0 0 A) (F0 m 28 ls []) := by
    intro nn
    induction nn with
    | zero => intro q_61 q_63 y_65 y_66 y_67 y_68 y_69 y_70 y_71 f_60 H locs ls m_77; exact absurd m_77 (Nat.not_lt_zero _)
    | succ nn ih =>
      intro q_61 q_63 y_65 y_66 y_67 y_68 y_69 y_70 y_71 f_60 H locs ls m_77 hI hS k_62 k_64 k_72 kp_73 t_74 t_75 t_76 hl
      have g_78 := Int32.toInt_lt y_70
      have g_79 := Int32.le_toInt y_70
      have g_80 := Int32.toInt_lt y_71
      have g_81 := Int32.le_toInt y_71
      refine lv_aload_n hx hb dX12_readScript_28 rfl (lv_at hl 0 rfl) ?_
      refine k_get (ci := 12) (v := .int y_70) (C := RX12) (T := TX12) (N := 27) hx hb hts (fun _ h0_ => List.mem_cons_of_mem _ (List.mem_append_right _ (List.mem_append_left _ h0_))) hown hK hI i_h0.1 k_72 rfl 18 (by decide) (hts (.fieldLink RX12 201 "DeadlineShareModel" "bad" "Z") (List.mem_cons_of_mem _ (List.mem_append_left _ (List.mem_of_getElem? (i := 1) rfl)))) (fun _ h9 => h9) rfl dX12_readScript_29 ?_
      have J_65 : ∀ (H : Heap) (locs : List Loc) (ls : Array Slot), Iv dC dI g A f_60 H → va_S A s.heap H locs → lv_has ls 1 [(0, .ref h0)] → W p l e (headSpec wq_c_X12_readScript ({ frames := 4, cells := 0, slots := 0, locals := 83 } : Room)).room s m ([.ref h0].toArray) below meth c H locs 0 0 (MQ below (va_Qv (fun (_ : Unit) => True) (fun (_ : Unit) t => ∃ f1 : Nat → va_E, Iv dC dI g A f1 t.heap ∧ Kp g [12, 41, 42] f f1 ∧ ∃ (w13 : Int32) (w14 : Int32) (w15 : Int32) (w16 : Int64) (w17 : Int32) (w18 : Int32) (w23 : Int32) (kq1 : Nat → Int32) (nq1 : Nat → Int32), (f1 h0 = .inr (12, [.int z0, .int z1, .ref (gr g h0 2), .ref (gr g h0 3), .ref (gr g h0 4), .ref (gr g h0 5), .ref (gr g h0 6), .ref (gr g h0 7), .ref (gr g h0 8), .ref (gr g h0 9), .int z10, .ref (gr g h0 11), .int z12, .int w13, .int w14, .int w15, .long w16, .int w17, .int w18, .ref (gr g h0 19), .ref (gr g h0 20), .ref (gr g h0 21), .ref (gr g h0 22), .int w23, .long z24, .long z25, .long z26])) ∧ (0 ≤ w23.toInt ∧ w23.toInt ≤ 8) ∧ (f1 (gr g h0 21) = .inl (gc g 0, 8, .inl kq1)) ∧ (f1 (gr g h0 22) = .inl (gc g 0, 8, .inl nq1)) ∧ (NBi w18 w23 kq1 nq1)) A) ([.ref h0].toArray) s 0 0 A) (F0 m 65 ls []) := by
        intro H locs ls hI hS  hl
        refine lv_aload_n hx hb dX12_readScript_65 rfl (lv_at hl 0 rfl) ?_
        refine k_get (ci := 12) (v := .int y_70) (C := RX12) (T := TX12) (N := 27) hx hb hts (fun _ h0_ => List.mem_cons_of_mem _ (List.mem_append_right _ (List.mem_append_left _ h0_))) hown hK hI i_h0.1 k_72 rfl 18 (by decide) (hts (.fieldLink RX12 201 "DeadlineShareModel" "bad" "Z") (List.mem_cons_of_mem _ (List.mem_append_left _ (List.mem_of_getElem? (i := 1) rfl)))) (fun _ h9 => h9) rfl dX12_readScript_66 ?_
        refine lv_if_ne (tgt := 88) hx hb dX12_readScript_69 (by decide) (fun c_82 => ?_) (fun c_82 => ?_)
        · have c_82 := kn_eq rfl (by decide : Int32.toInt 0 = 0) c_82
          exact W.vret hx hb hr (fun t ht hW => ⟨⟨(), rfl, trivial, ⟨f_60, k_ret ht hI, kp_73, y_65, y_66, y_67, y_68, y_69, y_70, y_71, q_61, q_63, k_72, (by first | omega | decide), k_62, k_64, (fun h9 => t_75 (by omega))⟩⟩, hS.F ht⟩) hS.2.2 dX12_readScript_88
        · have c_82 := kc_eq rfl (by decide : Int32.toInt 0 = 0) c_82
          refine lv_aload_n hx hb dX12_readScript_72 rfl (lv_at hl 0 rfl) ?_
          refine lv_aload_n hx hb dX12_readScript_73 rfl (lv_at hl 0 rfl) ?_
          refine k_get (ci := 12) (v := .int y_67) (C := RX12) (T := TX12) (N := 27) hx hb hts (fun _ h0_ => List.mem_cons_of_mem _ (List.mem_append_right _ (List.mem_append_left _ h0_))) hown hK hI i_h0.1 k_72 rfl 15 (by decide) (hts (.fieldLink RX12 190 "DeadlineShareModel" "sort" "I") (List.mem_cons_of_mem _ (List.mem_append_left _ (List.mem_of_getElem? (i := 11) rfl)))) (fun _ h9 => h9) rfl dX12_readScript_74 ?_
          have J_85 : ∀ (y_83 : Int32) (H : Heap) (locs : List Loc) (ls : Array Slot), Iv dC dI g A f_60 H → va_S A s.heap H locs → lv_has ls 1 [(0, .ref h0)] → W p l e (headSpec wq_c_X12_readScript ({ frames := 4, cells := 0, slots := 0, locals := 83 } : Room)).room s m ([.ref h0].toArray) below meth c H locs 0 0 (MQ below (va_Qv (fun (_ : Unit) => True) (fun (_ : Unit) t => ∃ f1 : Nat → va_E, Iv dC dI g A f1 t.heap ∧ Kp g [12, 41, 42] f f1 ∧ ∃ (w13 : Int32) (w14 : Int32) (w15 : Int32) (w16 : Int64) (w17 : Int32) (w18 : Int32) (w23 : Int32) (kq1 : Nat → Int32) (nq1 : Nat → Int32), (f1 h0 = .inr (12, [.int z0, .int z1, .ref (gr g h0 2), .ref (gr g h0 3), .ref (gr g h0 4), .ref (gr g h0 5), .ref (gr g h0 6), .ref (gr g h0 7), .ref (gr g h0 8), .ref (gr g h0 9), .int z10, .ref (gr g h0 11), .int z12, .int w13, .int w14, .int w15, .long w16, .int w17, .int w18, .ref (gr g h0 19), .ref (gr g h0 20), .ref (gr g h0 21), .ref (gr g h0 22), .int w23, .long z24, .long z25, .long z26])) ∧ (0 ≤ w23.toInt ∧ w23.toInt ≤ 8) ∧ (f1 (gr g h0 21) = .inl (gc g 0, 8, .inl kq1)) ∧ (f1 (gr g h0 22) = .inl (gc g 0, 8, .inl nq1)) ∧ (NBi w18 w23 kq1 nq1)) A) ([.ref h0].toArray) s 0 0 A) (F0 m 85 ls [.int y_83, .ref h0]) := by
            intro y_83 H locs ls hI hS  hl
            refine va_callv (va_runV (As := [.int y_83]) (rest := []) ⟨hx, hb, hml, hown, hts⟩ (c_X12_must l dC dI g A hG f_60 h0 y_83 z0 z1 z10 z12 y_65 y_66 y_67 y_68 y_69 y_70 y_71 z24 z25 z26 i_h0 k_72 (by first | omega | (simp only [k_c0]; omega)) (by first | omega | (simp only [k_c0]; omega)) (by first | omega | (simp only [k_c0]; omega)) (by first | omega | decide | (simp only [k_c0, k_c1, k_cm1] <;> omega))) (cwV 1 hts (gi_V (fun w_ h0_ => ⟨List.mem_cons_of_mem _ (List.mem_append_right _ (List.mem_append_right _ (List.mem_append_right _ (List.mem_append_right _ (List.mem_append_left _ h0_))))), (tb_c_X12_must w_ h0_).2⟩) (List.mem_cons_of_mem _ (List.mem_append_left _ (List.mem_of_getElem? (i := 12) rfl))) (List.mem_cons_of_mem _ (List.mem_append_left _ (List.mem_of_getElem? (i := 13) rfl))) (List.mem_cons_of_mem _ (List.mem_append_left _ (List.mem_of_getElem? (i := 14) rfl))) (List.mem_cons_of_mem _ (List.mem_append_left _ (List.mem_of_getElem? (i := 7) rfl)))) rfl rfl rfl (by decide +kernel) ⟨Nat.le_of_ble_eq_true rfl, Nat.le_of_ble_eq_true rfl⟩) ⟨fun a U g mk q => ⟨q.1, q.2.calling rfl rfl⟩, k_recv hK hI i_h0.1 k_72 (ci := 12) rfl, fun U hU hW => ⟨rfl, kIn.of hI hK hE hS hU hW⟩⟩ rfl rfl hl.1 rfl (lv_room (Nat.le_of_ble_eq_true rfl)) dX12_readScript_85 ⟨Nat.le_of_ble_eq_true rfl, Nat.le_of_ble_eq_true rfl⟩) hS (fun q _ h => h) (fun q h => h) (fun u t H1 locs ht hvm _ hB hz1 hk1 hS => ?_)
            obtain ⟨f_84, hI, kc_86, w13_87, w14_88, w15_89, w16_90, w17_91, w18_92, k_93, z_94, z_95⟩ := hB
            rw [ht] at hI
            have k_96 : f_84 (gr g h0 21) = .inl (gc g 0, 8, .inl q_61) := Kp.at kc_86 i_1 (by decide) k_62
            have k_97 : f_84 (gr g h0 22) = .inl (gc g 0, 8, .inl q_63) := Kp.at kc_86 i_2 (by decide) k_64
            have k_93 : f_84 h0 = .inr (12, [.int z0, .int z1, .ref (gr g h0 2), .ref (gr g h0 3), .ref (gr g h0 4), .ref (gr g h0 5), .ref (gr g h0 6), .ref (gr g h0 7), .ref (gr g h0 8), .ref (gr g h0 9), .int z10, .ref (gr g h0 11), .int z12, .int w13_87, .int w14_88, .int w15_89, .long w16_90, .int w17_91, .int w18_92, .ref (gr g h0 19), .ref (gr g h0 20), .ref (gr g h0 21), .ref (gr g h0 22), .int y_71, .long z24, .long z25, .long z26]) := k_93
            have z_94 : 0 ≤ w14_88.toInt ∧ w14_88.toInt ≤ z12.toInt := z_94
            have z_95 : w18_92.toInt ≠ 0 ∨ (y_70.toInt = 0 ∧ y_83.toInt ≠ 0) := z_95
            have kp_98 := Kp.call kp_73 kc_86 (by decide)
            generalize H1 = H at hI hS ⊢
            refine W.widen (k := 0) (n := 0) (Nat.le_of_ble_eq_true rfl) (Nat.le_of_ble_eq_true rfl) ?_
            exact W.vret hx hb hr (fun t ht hW => ⟨⟨(), rfl, trivial, ⟨f_84, k_ret ht hI, kp_98, w13_87, w14_88, w15_89, w16_90, w17_91, w18_92, y_71, q_61, q_63, k_93, (by first | omega | decide), k_96, k_97, (fun h9 => t_75 (by omega))⟩⟩, hS.F ht⟩) hS.2.2 dX12_readScript_88
          refine lv_if_ne (tgt := 84) hx hb dX12_readScript_77 (by decide) (fun c_99 => ?_) (fun c_99 => ?_)
          · have c_99 := kn_eq rfl (by decide : Int32.toInt 0 = 0) c_99
            refine lv_iconst (v := 0) hx hb dX12_readScript_84 (by decide) ?_
            exact J_85 0 _ _ _ hI hS  (lv_sub hl [0] rfl)
          · have c_99 := kc_eq rfl (by decide : Int32.toInt 0 = 0) c_99
            refine lv_iconst (v := 1) hx hb dX12_readScript_80 (by decide) ?_
            refine lv_goto (tgt := 85) hx hb dX12_readScript_81 (by decide) ?_
            exact J_85 1 _ _ _ hI hS  (lv_sub hl [0] rfl)
      refine lv_if_ne (tgt := 65) hx hb dX12_readScript_32 (by decide) (fun c_100 => ?_) (fun c_100 => ?_)
      · have c_100 := kn_eq rfl (by decide : Int32.toInt 0 = 0) c_100
        exact J_65  _ _ _ hI hS  (lv_sub hl [0] rfl)
      · have c_100 := kc_eq rfl (by decide : Int32.toInt 0 = 0) c_100
        rw [if_pos (show y_70.toInt = 0 by omega)] at m_77
        refine lv_aload_n hx hb dX12_readScript_35 rfl (lv_at hl 0 rfl) ?_
        refine k_get (ci := 12) (v := .int y_67) (C := RX12) (T := TX12) (N := 27) hx hb hts (fun _ h0_ => List.mem_cons_of_mem _ (List.mem_append_right _ (List.mem_append_left _ h0_))) hown hK hI i_h0.1 k_72 rfl 15 (by decide) (hts (.fieldLink RX12 190 "DeadlineShareModel" "sort" "I") (List.mem_cons_of_mem _ (List.mem_append_left _ (List.mem_of_getElem? (i := 11) rfl)))) (fun _ h9 => h9) rfl dX12_readScript_36 ?_
        refine lv_iconst (v := 3) hx hb dX12_readScript_39 (by decide) ?_
        refine lv_icmp_ne (tgt := 65) hx hb dX12_readScript_40 (by decide) (fun c_101 => ?_) (fun c_101 => ?_)
        · have c_101 := kn_eq rfl (by decide : Int32.toInt 3 = 3) c_101
          exact J_65  _ _ _ hI hS  (lv_sub hl [0] rfl)
        · have c_101 := kc_eq rfl (by decide : Int32.toInt 3 = 3) c_101
          refine lv_aload_n hx hb dX12_readScript_43 rfl (lv_at hl 0 rfl) ?_
          refine k_get (ci := 12) (v := .long y_68) (C := RX12) (T := TX12) (N := 27) hx hb hts (fun _ h0_ => List.mem_cons_of_mem _ (List.mem_append_right _ (List.mem_append_left _ h0_))) hown hK hI i_h0.1 k_72 rfl 16 (by decide) (hts (.fieldLink RX12 180 "DeadlineShareModel" "worth" "J") (List.mem_cons_of_mem _ (List.mem_append_left _ (List.mem_of_getElem? (i := 15) rfl)))) (fun _ h9 => h9) rfl dX12_readScript_44 ?_
          refine lv_ldc2 hx hb hown (hts (.constantLong RX12 218 (44)) (List.mem_cons_of_mem _ (List.mem_append_left _ (List.mem_of_getElem? (i := 16) rfl)))) dX12_readScript_47 ?_
          refine W.lcmp hx hb dX12_readScript_50 ?_
          refine lv_if_ne (tgt := 65) hx hb dX12_readScript_51 (by decide) (fun c_102 => ?_) (fun c_102 => ?_)
          · have c_102 := ln_eq rfl (by decide : Int64.toInt 44 = 44) (fun h9 => c_102 ((lg_cmp_eq _ _).mpr h9))
            exact J_65  _ _ _ hI hS  (lv_sub hl [0] rfl)
          · have c_102 := lc_eq rfl (by decide : Int64.toInt 44 = 44) ((lg_cmp_eq _ _).mp c_102)
            refine lv_aload_n hx hb dX12_readScript_54 rfl (lv_at hl 0 rfl) ?_
            refine va_callv (va_runV (As := []) (rest := []) ⟨hx, hb, hml, hown, hts⟩ (c_X12_next l dC dI g A hG f_60 h0 z0 z1 z10 z12 y_65 y_66 y_67 y_68 y_69 y_70 y_71 z24 z25 z26 i_h0 k_72 (by first | omega | (simp only [k_c0]; omega)) (by first | omega | (simp only [k_c0]; omega)) (by first | omega | (simp only [k_c0]; omega)) (by first | omega | decide | (simp only [k_c0, k_c1, k_cm1] <;> omega))) (cwV 0 hts (gi_V (fun w_ h0_ => ⟨List.mem_cons_of_mem _ (List.mem_append_right _ (List.mem_append_right _ (List.mem_append_left _ h0_))), (tb_c_X12_next w_ h0_).2⟩) (List.mem_cons_of_mem _ (List.mem_append_left _ (List.mem_of_getElem? (i := 4) rfl))) (List.mem_cons_of_mem _ (List.mem_append_left _ (List.mem_of_getElem? (i := 5) rfl))) (List.mem_cons_of_mem _ (List.mem_append_left _ (List.mem_of_getElem? (i := 6) rfl))) (List.mem_cons_of_mem _ (List.mem_append_left _ (List.mem_of_getElem? (i := 7) rfl)))) rfl rfl rfl (by decide +kernel) ⟨Nat.le_of_ble_eq_true rfl, Nat.le_of_ble_eq_true rfl⟩) ⟨fun a U g mk q => ⟨q.1, q.2.calling rfl rfl⟩, k_recv hK hI i_h0.1 k_72 (ci := 12) rfl, fun U hU hW => ⟨rfl, kIn.of hI hK hE hS hU hW⟩⟩ rfl rfl hl.1 rfl (lv_room (Nat.le_of_ble_eq_true rfl)) dX12_readScript_55 ⟨Nat.le_of_ble_eq_true rfl, Nat.le_of_ble_eq_true rfl⟩) hS (fun q _ h => h) (fun q h => h) (fun u t H1 locs ht hvm _ hB hz1 hk1 hS => ?_)
            obtain ⟨f_103, hI, kc_105, w13_106, w14_107, w15_108, w16_109, k_110, z_111⟩ := hB
            rw [ht] at hI
            have k_112 : f_103 (gr g h0 21) = .inl (gc g 0, 8, .inl q_61) := Kp.at kc_105 i_1 (by decide) k_62
            have k_113 : f_103 (gr g h0 22) = .inl (gc g 0, 8, .inl q_63) := Kp.at kc_105 i_2 (by decide) k_64
            have k_110 : f_103 h0 = .inr (12, [.int z0, .int z1, .ref (gr g h0 2), .ref (gr g h0 3), .ref (gr g h0 4), .ref (gr g h0 5), .ref (gr g h0 6), .ref (gr g h0 7), .ref (gr g h0 8), .ref (gr g h0 9), .int z10, .ref (gr g h0 11), .int z12, .int w13_106, .int w14_107, .int w15_108, .long w16_109, .int y_69, .int y_70, .ref (gr g h0 19), .ref (gr g h0 20), .ref (gr g h0 21), .ref (gr g h0 22), .int y_71, .long z24, .long z25, .long z26]) := k_110
            have z_111 : 0 ≤ w14_107.toInt ∧ w14_107.toInt ≤ z12.toInt := z_111
            have kp_114 := Kp.call kp_73 kc_105 (by decide)
            generalize H1 = H at hI hS ⊢
            refine W.widen (k := 0) (n := 0) (Nat.le_of_ble_eq_true rfl) (Nat.le_of_ble_eq_true rfl) ?_
            refine lv_aload_n hx hb dX12_readScript_58 rfl (lv_at hl 0 rfl) ?_
            refine va_callv (va_runV (As := []) (rest := []) ⟨hx, hb, hml, hown, hts⟩ (c_X12_readStep l dC dI g A hG f_103 h0 z0 z1 z10 z12 w13_106 w14_107 w15_108 w16_109 y_69 y_70 y_71 z24 z25 z26 q_61 q_63 i_h0 k_110 (by first | omega | (simp only [k_c0]; omega)) (by first | omega | (simp only [k_c0]; omega)) (by first | omega | (simp only [k_c0]; omega)) k_112 k_113 (by first | omega | decide | (simp only [k_c0, k_c1, k_cm1] <;> omega)) (by first | omega | decide | (simp only [k_c0, k_c1, k_cm1] <;> omega)) (t_75 (by omega))) (cwV 0 hts (gi_V (fun w_ h0_ => ⟨List.mem_cons_of_mem _ (List.mem_append_right _ (List.mem_append_right _ (List.mem_append_right _ (List.mem_append_left _ h0_)))), (tb_c_X12_readStep w_ h0_).2⟩) (List.mem_cons_of_mem _ (List.mem_append_left _ (List.mem_of_getElem? (i := 8) rfl))) (List.mem_cons_of_mem _ (List.mem_append_left _ (List.mem_of_getElem? (i := 9) rfl))) (List.mem_cons_of_mem _ (List.mem_append_left _ (List.mem_of_getElem? (i := 10) rfl))) (List.mem_cons_of_mem _ (List.mem_append_left _ (List.mem_of_getElem? (i := 7) rfl)))) rfl rfl rfl (by decide +kernel) ⟨Nat.le_of_ble_eq_true rfl, Nat.le_of_ble_eq_true rfl⟩) ⟨fun a U g mk q => ⟨q.1, q.2.calling rfl rfl⟩, k_recv hK hI i_h0.1 k_110 (ci := 12) rfl, fun U hU hW => ⟨rfl, kIn.of hI hK hE hS hU hW⟩⟩ rfl rfl hl.1 rfl (lv_room (Nat.le_of_ble_eq_true rfl)) dX12_readScript_59 ⟨Nat.le_of_ble_eq_true rfl, Nat.le_of_ble_eq_true rfl⟩) hS (fun q _ h => h) (fun q h => h) (fun u t H1 locs ht hvm _ hB hz1 hk1 hS => ?_)
            obtain ⟨f_115, hI, kc_117, w13_118, w14_119, w15_120, w16_121, w17_122, w18_123, w23_124, kq1_125, nq1_126, k_127, z_128, z_129, z_130, k_131, k_132, z_133⟩ := hB
            rw [ht] at hI
            have k_127 : f_115 h0 = .inr (12, [.int z0, .int z1, .ref (gr g h0 2), .ref (gr g h0 3), .ref (gr g h0 4), .ref (gr g h0 5), .ref (gr g h0 6), .ref (gr g h0 7), .ref (gr g h0 8), .ref (gr g h0 9), .int z10, .ref (gr g h0 11), .int z12, .int w13_118, .int w14_119, .int w15_120, .long w16_121, .int w17_122, .int w18_123, .ref (gr g h0 19), .ref (gr g h0 20), .ref (gr g h0 21), .ref (gr g h0 22), .int w23_124, .long z24, .long z25, .long z26]) := k_127
            have z_128 : 0 ≤ w14_119.toInt ∧ w14_119.toInt ≤ z12.toInt := z_128
            have z_129 : w18_123.toInt ≠ 0 ∨ w23_124.toInt = y_71.toInt + 1 := z_129
            have z_130 : 0 ≤ w23_124.toInt ∧ w23_124.toInt ≤ 8 := z_130
            have z_133 : NBi w18_123 w23_124 kq1_125 nq1_126 := z_133
            have kp_134 := Kp.call kp_114 kc_117 (by decide)
            generalize H1 = H at hI hS ⊢
            refine W.widen (k := 0) (n := 0) (Nat.le_of_ble_eq_true rfl) (Nat.le_of_ble_eq_true rfl) ?_
            refine lv_goto (tgt := 28) hx hb dX12_readScript_62 (by decide) ?_
            exact ih kq1_125 nq1_126 w13_118 w14_119 w15_120 w16_121 w17_122 w18_123 w23_124 f_115 _ _ _ (by split <;> omega) hI hS k_131 k_132 k_127 kp_134 (by first | omega | decide | exact Or.inl (by decide)) z_133 (by first | omega | decide | exact Or.inl (by decide)) (lv_sub hl [0] rfl)
  exact K_28 _ kq1_50 nq1_51 w13_43 w14_44 w15_45 w16_46 w17_47 w18_48 w23_49 f_40 _ _ _ (Nat.lt_succ_self _) hI hS k_56 k_57 k_52 kp_59 (by first | omega | decide | exact Or.inl (by decide)) z_58 (by first | omega | decide | exact Or.inl (by decide)) (lv_sub hl [0] rfl)
theorem tw_899 : q_g (.fieldLink RX12 20 "DeadlineShareModel" "undos" "[J") := ⟨(List.mem_append_right _ (List.mem_of_getElem? (i := 1102) (by decide +kernel))), good_of_word (by decide +kernel)⟩
theorem tw_900 : q_g (.fieldLink RX12 33 "DeadlineShareModel" "sorts" "[I") := ⟨(List.mem_append_right _ (List.mem_of_getElem? (i := 1106) (by decide +kernel))), good_of_word (by decide +kernel)⟩
theorem tw_901 : q_g (.fieldLink RX12 73 "DeadlineShareModel" "nUndo" "I") := ⟨(List.mem_append_right _ (List.mem_of_getElem? (i := 1107) (by decide +kernel))), good_of_word (by decide +kernel)⟩
theorem tw_902 : q_g (.code yX12_remember cX12_remember 3 none) := ⟨(List.mem_append_right _ (List.mem_of_getElem? (i := 1226) (by decide +kernel))), good_of_word (by decide +kernel)⟩
def ow_c_X12_remember : List Cond := [.fieldLink RX12 73 "DeadlineShareModel" "nUndo" "I", .fieldLink RX12 33 "DeadlineShareModel" "sorts" "[I", .fieldLink RX12 20 "DeadlineShareModel" "undos" "[J", .fieldLink RX12 16 "DeadlineShareModel" "row" "[J"]
def wq_c_X12_remember : List Cond := .code yX12_remember cX12_remember 3 none :: (ow_c_X12_remember ++ (u_ws RX12 TX12 27 ++ ([] : List Cond)))
theorem tb_c_X12_remember : ∀ w ∈ wq_c_X12_remember, q_g w := by
  unfold wq_c_X12_remember ow_c_X12_remember
  exact q_cons tw_902 (q_app (q_cons tw_901 (q_cons tw_900 (q_cons tw_899 (q_cons tw_731 q_nil)))) (q_app tu_X12 q_nil))
set_option maxHeartbeats 4000000 in
set_option maxRecDepth 100000 in
theorem c_X12_remember (l : Launch) (dC : Nat → ClassId) (dI : Nat → Nat → Nat) (g : kG) (A : Nat → Prop) (hG : kWf g) (f : Nat → va_E) (h0 : Nat) (p1 : Int32) (z0 : Int32) (z1 : Int32) (z10 : Int32) (z12 : Int32) (z13 : Int32) (z14 : Int32) (z15 : Int32) (z16 : Int64) (z17 : Int32) (z18 : Int32) (z23 : Int32) (z24 : Int64) (z25 : Int64) (z26 : Int64) (q : Nat → Int64) (u : Nat → Int64) (im : Nat → Int64) (kt : Nat → Int32) (i_h0 : ik g 12 h0) (hc0 : f h0 = .inr (12, [.int z0, .int z1, .ref (gr g h0 2), .ref (gr g h0 3), .ref (gr g h0 4), .ref (gr g h0 5), .ref (gr g h0 6), .ref (gr g h0 7), .ref (gr g h0 8), .ref (gr g h0 9), .int z10, .ref (gr g h0 11), .int z12, .int z13, .int z14, .int z15, .long z16, .int z17, .int z18, .ref (gr g h0 19), .ref (gr g h0 20), .ref (gr g h0 21), .ref (gr g h0 22), .int z23, .long z24, .long z25, .long z26])) (hc0_10 : 0 ≤ z10.toInt ∧ z10.toInt ≤ 10) (hc0_12 : 0 ≤ z12.toInt ∧ z12.toInt ≤ 200) (hc0_23 : 0 ≤ z23.toInt ∧ z23.toInt ≤ 8) (hc1 : f (gr g h0 4) = .inl (gc g 1, 906, .inr (.inl q))) (hc1_ok : RowOK q) (hc2 : f (gr g h0 5) = .inl (gc g 1, 9060, .inr (.inl u))) (hc3 : f (gr g h0 7) = .inl (gc g 1, 1812, .inr (.inl im))) (hc4 : f (gr g h0 8) = .inl (gc g 3, 2, .inl kt)) (hU : UIq z10 u im kt) : Met l yX12_remember wq_c_X12_remember ({ frames := 0, cells := 0, slots := 0, locals := 0 } : Room) (va_Pc [.ref h0, .int p1] (fun U => kIn dC dI g A f U)) (va_Qv (fun (_ : Unit) => True) (fun (_ : Unit) t => ∃ f1 : Nat → va_E, Iv dC dI g A f1 t.heap ∧ Kp g [12, 33, 37] f f1 ∧ ∃ (w10 : Int32) (u1 : Nat → Int64), (f1 h0 = .inr (12, [.int z0, .int z1, .ref (gr g h0 2), .ref (gr g h0 3), .ref (gr g h0 4), .ref (gr g h0 5), .ref (gr g h0 6), .ref (gr g h0 7), .ref (gr g h0 8), .ref (gr g h0 9), .int w10, .ref (gr g h0 11), .int z12, .int z13, .int z14, .int z15, .long z16, .int z17, .int z18, .ref (gr g h0 19), .ref (gr g h0 20), .ref (gr g h0 21), .ref (gr g h0 22), .int z23, .long z24, .long z25, .long z26])) ∧ (0 ≤ w10.toInt ∧ w10.toInt ≤ 10) ∧ (f1 (gr g h0 5) = .inl (gc g 1, 9060, .inr (.inl u1))) ∧ (UIq w10 u1 im kt)) A) 0 0 A := by
  refine Met.ofW (cc := cX12_remember) (maxL := 3) (ret := none) (by decide) rfl ?_
  intro p e s m args below meth c s₁ B hml hv
  obtain ⟨rfl, hI, hK, hE⟩ := hv
  have hx := B.exec
  have hb := B.bytes
  have hr := B.returns
  have hts := atoms_spec (ws := wq_c_X12_remember) B.pre
  have hown : s.vm.findClass RX12 = some m.cls := findClass_of_methodNamed B.named
  have hlocks := B.notSynchronized
  have hS : va_S A s.heap s.heap [] := va_S.rf
  have hk0 : Kp g [12, 33, 37] f f := Kp.rf
  have hl := lv_entry ([.ref h0, .int p1]) (n := 3) (Nat.le_of_ble_eq_true rfl)
  rw [lg_entry_eq]
  generalize (lg_sl ([.ref h0, .int p1]) ++ List.replicate (3 - (lg_sl ([.ref h0, .int p1])).length) Slot.unset).toArray = ls at hl ⊢
  have hl : lv_has ls 3 [(0, .ref h0), (1, .int p1)] := hl
  have i_1 := kw_12_4 hG i_h0
  have d_2 := rk_hd hc1_ok
  have i_3 := kw_12_5 hG i_h0
  have i_4 := kw_12_7 hG i_h0
  have i_5 := kw_12_8 hG i_h0
  refine lv_aload_n hx hb dX12_remember_0 rfl (lv_at hl 0 rfl) ?_
  refine k_get (ci := 12) (v := .int z10) (C := RX12) (T := TX12) (N := 27) hx hb hts (fun _ h0_ => List.mem_cons_of_mem _ (List.mem_append_right _ (List.mem_append_left _ h0_))) hown hK hI i_h0.1 hc0 rfl 10 (by decide) (hts (.fieldLink RX12 73 "DeadlineShareModel" "nUndo" "I") (List.mem_cons_of_mem _ (List.mem_append_left _ (List.mem_of_getElem? (i := 0) rfl)))) (fun _ h9 => h9) rfl dX12_remember_1 ?_
  refine lv_bipush (v := 10) hx hb dX12_remember_4 (by decide) ?_
  have J_78 : ∀ (q_7 : Nat → Int64) (y_9 : Int32) (f_6 : Nat → va_E) (H : Heap) (locs : List Loc) (ls : Array Slot), Iv dC dI g A f_6 H → va_S A s.heap H locs → f_6 (gr g h0 5) = .inl (gc g 1, 9060, .inr (.inl q_7)) → f_6 h0 = .inr (12, [.int z0, .int z1, .ref (gr g h0 2), .ref (gr g h0 3), .ref (gr g h0 4), .ref (gr g h0 5), .ref (gr g h0 6), .ref (gr g h0 7), .ref (gr g h0 8), .ref (gr g h0 9), .int y_9, .ref (gr g h0 11), .int z12, .int z13, .int z14, .int z15, .long z16, .int z17, .int z18, .ref (gr g h0 19), .ref (gr g h0 20), .ref (gr g h0 21), .ref (gr g h0 22), .int z23, .long z24, .long z25, .long z26]) → f_6 (gr g h0 4) = .inl (gc g 1, 906, .inr (.inl q)) → f_6 (gr g h0 7) = .inl (gc g 1, 1812, .inr (.inl im)) → f_6 (gr g h0 8) = .inl (gc g 3, 2, .inl kt) → Kp g [12, 33, 37] f f_6 → (0 ≤ y_9.toInt ∧ y_9.toInt ≤ 9) → (UIq y_9 q_7 im kt) → lv_has ls 3 [(0, .ref h0), (1, .int p1)] → W p l e (headSpec wq_c_X12_remember ({ frames := 0, cells := 0, slots := 0, locals := 0 } : Room)).room s m ([.ref h0, .int p1].toArray) below meth c H locs 0 0 (MQ below (va_Qv (fun (_ : Unit) => True) (fun (_ : Unit) t => ∃ f1 : Nat → va_E, Iv dC dI g A f1 t.heap ∧ Kp g [12, 33, 37] f f1 ∧ ∃ (w10 : Int32) (u1 : Nat → Int64), (f1 h0 = .inr (12, [.int z0, .int z1, .ref (gr g h0 2), .ref (gr g h0 3), .ref (gr g h0 4), .ref (gr g h0 5), .ref (gr g h0 6), .ref (gr g h0 7), .ref (gr g h0 8), .ref (gr g h0 9), .int w10, .ref (gr g h0 11), .int z12, .int z13, .int z14, .int z15, .long z16, .int z17, .int z18, .ref (gr g h0 19), .ref (gr g h0 20), .ref (gr g h0 21), .ref (gr g h0 22), .int z23, .long z24, .long z25, .long z26])) ∧ (0 ≤ w10.toInt ∧ w10.toInt ≤ 10) ∧ (f1 (gr g h0 5) = .inl (gc g 1, 9060, .inr (.inl u1))) ∧ (UIq w10 u1 im kt)) A) ([.ref h0, .int p1].toArray) s 0 0 A) (F0 m 78 ls []) := by
    intro q_7 y_9 f_6 H locs ls hI hS k_8 k_10 k_11 k_12 k_13 kp_14 t_15 t_16 hl
    refine lv_iconst (v := 0) hx hb dX12_remember_78 (by decide) ?_
    obtain ⟨m_17, em_17, tm_17⟩ := k_nat (x := y_9) (by omega)
    refine lv_istore_n (lv' := [(2, .int 0), (0, .ref h0), (1, .int p1)]) hx hb dX12_remember_79 rfl hl (by decide) rfl (fun ls hl => ?_)
    have K_80 : ∀ (nn : Nat) (y_18 : Nat) (q_20 : Nat → Int64) (f_19 : Nat → va_E) (H : Heap) (locs : List Loc) (ls : Array Slot), 906 - y_18 < nn → Iv dC dI g A f_19 H → va_S A s.heap H locs → f_19 (gr g h0 5) = .inl (gc g 1, 9060, .inr (.inl q_20)) → f_19 h0 = .inr (12, [.int z0, .int z1, .ref (gr g h0 2), .ref (gr g h0 3), .ref (gr g h0 4), .ref (gr g h0 5), .ref (gr g h0 6), .ref (gr g h0 7), .ref (gr g h0 8), .ref (gr g h0 9), .int y_9, .ref (gr g h0 11), .int z12, .int z13, .int z14, .int z15, .long z16, .int z17, .int z18, .ref (gr g h0 19), .ref (gr g h0 20), .ref (gr g h0 21), .ref (gr g h0 22), .int z23, .long z24, .long z25, .long z26]) → f_19 (gr g h0 4) = .inl (gc g 1, 906, .inr (.inl q)) → f_19 (gr g h0 7) = .inl (gc g 1, 1812, .inr (.inl im)) → f_19 (gr g h0 8) = .inl (gc g 3, 2, .inl kt) → Kp g [12, 33, 37] f f_19 → (y_18 ≤ 906) → (∀ j : Nat, j < y_18 → q_20 (906 * m_17 + j) = q j) → (∀ j : Nat, j < 906 * m_17 → q_20 j = q_7 j) → lv_has ls 3 [(2, .int (nI y_18)), (0, .ref h0), (1, .int p1)] → W p l e (headSpec wq_c_X12_remember ({ frames := 0, cells := 0, slots := 0, locals := 0 } : Room)).room s m ([.ref h0, .int p1].toArray) below meth c H locs 0 0 (MQ below (va_Qv (fun (_ : Unit) => True) (fun (_ : Unit) t => ∃ f1 : Nat → va_E, Iv dC dI g A f1 t.heap ∧ Kp g [12, 33, 37] f f1 ∧ ∃ (w10 : Int32) (u1 : Nat → Int64), (f1 h0 = .inr (12, [.int z0, .int z1, .ref (gr g h0 2), .ref (gr g h0 3), .ref (gr g h0 4), .ref (gr g h0 5), .ref (gr g h0 6), .ref (gr g h0 7), .ref (gr g h0 8), .ref (gr g h0 9), .int w10, .ref (gr g h0 11), .int z12, .int z13, .int z14, .int z15, .long z16, .int z17, .int z18, .ref (gr g h0 19), .ref (gr g h0 20), .ref (gr g h0 21), .ref (gr g h0 22), .int z23, .long z24, .long z25, .long z26])) ∧ (0 ≤ w10.toInt ∧ w10.toInt ≤ 10) ∧ (f1 (gr g h0 5) = .inl (gc g 1, 9060, .inr (.inl u1))) ∧ (UIq w10 u1 im kt)) A) ([.ref h0, .int p1].toArray) s 0 0 A) (F0 m 80 ls []) := by
      intro nn
      induction nn with
      | zero => intro y_18 q_20 f_19 H locs ls m_30; exact absurd m_30 (Nat.not_lt_zero _)
      | succ nn ih =>
        intro y_18 q_20 f_19 H locs ls m_30 hI hS k_21 k_22 k_23 k_24 k_25 kp_26 t_27 t_28 t_29 hl
        refine lv_iload_n hx hb dX12_remember_80 rfl (lv_at hl 0 rfl) ?_
        refine lv_sipush (v := 906) hx hb dX12_remember_81 (by decide) ?_
        refine lv_icmp_ge (tgt := 114) hx hb dX12_remember_84 (by decide) (fun c_31 => ?_) (fun c_31 => ?_)
        · have c_31 := kc_le (by decide : Int32.toInt 906 = 906) (nI_toInt (n := y_18) (by omega)) c_31
          refine lv_aload_n hx hb dX12_remember_114 rfl (lv_at hl 1 rfl) ?_
          refine k_get (ci := 12) (v := .ref (gr g h0 9)) (C := RX12) (T := TX12) (N := 27) hx hb hts (fun _ h0_ => List.mem_cons_of_mem _ (List.mem_append_right _ (List.mem_append_left _ h0_))) hown hK hI i_h0.1 k_22 rfl 9 (by decide) (hts (.fieldLink RX12 33 "DeadlineShareModel" "sorts" "[I") (List.mem_cons_of_mem _ (List.mem_append_left _ (List.mem_of_getElem? (i := 1) rfl)))) (fun _ h9 => h9) rfl dX12_remember_115 ?_
          have i_33 := kw_12_9 hG i_h0
          refine lv_aload_n hx hb dX12_remember_118 rfl (lv_at hl 1 rfl) ?_
          refine k_get (ci := 12) (v := .int y_9) (C := RX12) (T := TX12) (N := 27) hx hb hts (fun _ h0_ => List.mem_cons_of_mem _ (List.mem_append_right _ (List.mem_append_left _ h0_))) hown hK hI i_h0.1 k_22 rfl 10 (by decide) (hts (.fieldLink RX12 73 "DeadlineShareModel" "nUndo" "I") (List.mem_cons_of_mem _ (List.mem_append_left _ (List.mem_of_getElem? (i := 0) rfl)))) (fun _ h9 => h9) rfl dX12_remember_119 ?_
          refine lv_iload_n hx hb dX12_remember_122 rfl (lv_at hl 2 rfl) ?_
          obtain ⟨q_35, k_34⟩ := op_37 hI i_33
          refine k_iast hx hb hK hI hS i_33.1 0 k_34 rfl (vp_in_iff.mpr (by omega)) (cl_37 i_33) dX12_remember_123 (fun f_36 H locs e_37 hI hS => ?_)
          generalize eq_38 : upd q_35 (Int32.toNatClampNeg y_9) p1 = q_38 at e_37
          have k_40 : f_36 (gr g h0 5) = .inl (gc g 1, 9060, .inr (.inl q_20)) := by rw [e_37, va_up_ne _ _ (ik_ne i_3 i_33 (by decide))]; exact k_21
          have k_41 : f_36 h0 = .inr (12, [.int z0, .int z1, .ref (gr g h0 2), .ref (gr g h0 3), .ref (gr g h0 4), .ref (gr g h0 5), .ref (gr g h0 6), .ref (gr g h0 7), .ref (gr g h0 8), .ref (gr g h0 9), .int y_9, .ref (gr g h0 11), .int z12, .int z13, .int z14, .int z15, .long z16, .int z17, .int z18, .ref (gr g h0 19), .ref (gr g h0 20), .ref (gr g h0 21), .ref (gr g h0 22), .int z23, .long z24, .long z25, .long z26]) := by rw [e_37, va_up_ne _ _ (ik_ne i_h0 i_33 (by decide))]; exact k_22
          have k_42 : f_36 (gr g h0 4) = .inl (gc g 1, 906, .inr (.inl q)) := by rw [e_37, va_up_ne _ _ (ik_ne i_1 i_33 (by decide))]; exact k_23
          have k_43 : f_36 (gr g h0 7) = .inl (gc g 1, 1812, .inr (.inl im)) := by rw [e_37, va_up_ne _ _ (ik_ne i_4 i_33 (by decide))]; exact k_24
          have k_44 : f_36 (gr g h0 8) = .inl (gc g 3, 2, .inl kt) := by rw [e_37, va_up_ne _ _ (ik_ne i_5 i_33 (by decide))]; exact k_25
          have k_45 : f_36 (gr g h0 9) = .inl (gc g 0, 10, .inl q_38) := by rw [e_37]; exact va_up_self _ _ _
          have kp_39 := Kp.put kp_26 i_33 (by decide) e_37
          refine lv_aload_n hx hb dX12_remember_124 rfl (lv_at hl 1 rfl) ?_
          refine lv_dup hx hb dX12_remember_125 rfl ?_
          refine k_get (ci := 12) (v := .int y_9) (C := RX12) (T := TX12) (N := 27) hx hb hts (fun _ h0_ => List.mem_cons_of_mem _ (List.mem_append_right _ (List.mem_append_left _ h0_))) hown hK hI i_h0.1 k_41 rfl 10 (by decide) (hts (.fieldLink RX12 73 "DeadlineShareModel" "nUndo" "I") (List.mem_cons_of_mem _ (List.mem_append_left _ (List.mem_of_getElem? (i := 0) rfl)))) (fun _ h9 => h9) rfl dX12_remember_126 ?_
          refine lv_iconst (v := 1) hx hb dX12_remember_129 (by decide) ?_
          refine lv_iadd hx hb dX12_remember_130 ?_
          refine lv_topi (fun v_46 ev_46 => ?_)
          have tv_46 := k_ad y_9 1
          rw [← ev_46, show Int32.toInt 1 = 1 from by decide] at tv_46
          have b_47 : 0 ≤ Int32.toInt v_46 ∧ Int32.toInt v_46 ≤ 10 := by omega
          refine k_put (ci := 12) (v := .int v_46) (ty := .int) (C := RX12) (T := TX12) (N := 27) hx hb hts (fun _ h0_ => List.mem_cons_of_mem _ (List.mem_append_right _ (List.mem_append_left _ h0_))) tyX12 tyX12_ok nmX12 hown hK hI hS i_h0.1 k_41 rfl 10 (by decide) (hts (.fieldLink RX12 73 "DeadlineShareModel" "nUndo" "I") (List.mem_cons_of_mem _ (List.mem_append_left _ (List.mem_of_getElem? (i := 0) rfl)))) (fun _ h9 => h9) rfl (by decide +kernel) rfl rfl (Nat.le_of_ble_eq_true rfl) rfl (cl_12 i_h0 b_47 (by omega) (by omega)) dX12_remember_131 (fun f_48 H locs e_49 hI hS => ?_)
          have k_51 : f_48 (gr g h0 5) = .inl (gc g 1, 9060, .inr (.inl q_20)) := by rw [e_49, va_up_ne _ _ (ik_ne i_3 i_h0 (by decide))]; exact k_40
          have k_52 : f_48 h0 = .inr (12, [.int z0, .int z1, .ref (gr g h0 2), .ref (gr g h0 3), .ref (gr g h0 4), .ref (gr g h0 5), .ref (gr g h0 6), .ref (gr g h0 7), .ref (gr g h0 8), .ref (gr g h0 9), .int v_46, .ref (gr g h0 11), .int z12, .int z13, .int z14, .int z15, .long z16, .int z17, .int z18, .ref (gr g h0 19), .ref (gr g h0 20), .ref (gr g h0 21), .ref (gr g h0 22), .int z23, .long z24, .long z25, .long z26]) := by rw [e_49]; exact va_up_self _ _ _
          have k_53 : f_48 (gr g h0 4) = .inl (gc g 1, 906, .inr (.inl q)) := by rw [e_49, va_up_ne _ _ (ik_ne i_1 i_h0 (by decide))]; exact k_42
          have k_54 : f_48 (gr g h0 7) = .inl (gc g 1, 1812, .inr (.inl im)) := by rw [e_49, va_up_ne _ _ (ik_ne i_4 i_h0 (by decide))]; exact k_43
          have k_55 : f_48 (gr g h0 8) = .inl (gc g 3, 2, .inl kt) := by rw [e_49, va_up_ne _ _ (ik_ne i_5 i_h0 (by decide))]; exact k_44
          have k_56 : f_48 (gr g h0 9) = .inl (gc g 0, 10, .inl q_38) := by rw [e_49, va_up_ne _ _ (ik_ne i_33 i_h0 (by decide))]; exact k_45
          have kp_50 := Kp.put kp_39 i_h0 (by decide) e_49
          exact W.vret hx hb hr (fun t ht hW => ⟨⟨(), rfl, trivial, ⟨f_48, k_ret ht hI, kp_50, v_46, q_20, k_52, (by first | omega | decide), k_51, (ui_push t_16 hc1_ok tm_17 (fun j9 h9 => t_28 j9 (by omega)) (fun j9 h9 => t_29 j9 h9) (by omega))⟩⟩, hS.F ht⟩) hS.2.2 dX12_remember_134
        · have c_31 := kn_le (by decide : Int32.toInt 906 = 906) (nI_toInt (n := y_18) (by omega)) c_31
          refine lv_aload_n hx hb dX12_remember_87 rfl (lv_at hl 1 rfl) ?_
          refine k_get (ci := 12) (v := .ref (gr g h0 5)) (C := RX12) (T := TX12) (N := 27) hx hb hts (fun _ h0_ => List.mem_cons_of_mem _ (List.mem_append_right _ (List.mem_append_left _ h0_))) hown hK hI i_h0.1 k_22 rfl 5 (by decide) (hts (.fieldLink RX12 20 "DeadlineShareModel" "undos" "[J") (List.mem_cons_of_mem _ (List.mem_append_left _ (List.mem_of_getElem? (i := 2) rfl)))) (fun _ h9 => h9) rfl dX12_remember_88 ?_
          refine lv_sipush (v := 906) hx hb dX12_remember_91 (by decide) ?_
          refine lv_aload_n hx hb dX12_remember_94 rfl (lv_at hl 1 rfl) ?_
          refine k_get (ci := 12) (v := .int y_9) (C := RX12) (T := TX12) (N := 27) hx hb hts (fun _ h0_ => List.mem_cons_of_mem _ (List.mem_append_right _ (List.mem_append_left _ h0_))) hown hK hI i_h0.1 k_22 rfl 10 (by decide) (hts (.fieldLink RX12 73 "DeadlineShareModel" "nUndo" "I") (List.mem_cons_of_mem _ (List.mem_append_left _ (List.mem_of_getElem? (i := 0) rfl)))) (fun _ h9 => h9) rfl dX12_remember_95 ?_
          refine k_topi (y := nI m_17) em_17 ?_
          refine lv_imul hx hb dX12_remember_98 ?_
          refine k_topi (y := nI (906 * m_17)) ((pk_mul 906 m_17).trans (congrArg nI (by omega))) ?_
          refine lv_iload_n hx hb dX12_remember_99 rfl (lv_at hl 0 rfl) ?_
          refine lv_iadd hx hb dX12_remember_100 ?_
          refine k_topi (y := nI (906 * m_17 + y_18)) ((nI_add (906 * m_17) y_18).trans (congrArg nI (by omega))) ?_
          refine lv_aload_n hx hb dX12_remember_101 rfl (lv_at hl 1 rfl) ?_
          refine k_get (ci := 12) (v := .ref (gr g h0 4)) (C := RX12) (T := TX12) (N := 27) hx hb hts (fun _ h0_ => List.mem_cons_of_mem _ (List.mem_append_right _ (List.mem_append_left _ h0_))) hown hK hI i_h0.1 k_22 rfl 4 (by decide) (hts (.fieldLink RX12 16 "DeadlineShareModel" "row" "[J") (List.mem_cons_of_mem _ (List.mem_append_left _ (List.mem_of_getElem? (i := 3) rfl)))) (fun _ h9 => h9) rfl dX12_remember_102 ?_
          refine lv_iload_n hx hb dX12_remember_105 rfl (lv_at hl 0 rfl) ?_
          refine k_lald hx hb hK hI i_1.1 1 k_23 rfl (vp_in_nI (by omega) (by omega)) dX12_remember_106 ?_
          refine k_topl (y := q y_18) (congrArg q (nI_clamp (by omega))) ?_
          refine k_last hx hb hK hI hS i_3.1 1 k_21 rfl (vp_in_nI (by omega) (by omega)) (cl_33 i_3) dX12_remember_107 (fun f_61 H locs e_62 hI hS => ?_)
          generalize eq_63 : vp_updL q_20 (Int32.toNatClampNeg (nI (906 * m_17 + y_18))) (q y_18) = q_63 at e_62
          have k_65 : f_61 (gr g h0 5) = .inl (gc g 1, 9060, .inr (.inl q_63)) := by rw [e_62]; exact va_up_self _ _ _
          have k_66 : f_61 h0 = .inr (12, [.int z0, .int z1, .ref (gr g h0 2), .ref (gr g h0 3), .ref (gr g h0 4), .ref (gr g h0 5), .ref (gr g h0 6), .ref (gr g h0 7), .ref (gr g h0 8), .ref (gr g h0 9), .int y_9, .ref (gr g h0 11), .int z12, .int z13, .int z14, .int z15, .long z16, .int z17, .int z18, .ref (gr g h0 19), .ref (gr g h0 20), .ref (gr g h0 21), .ref (gr g h0 22), .int z23, .long z24, .long z25, .long z26]) := by rw [e_62, va_up_ne _ _ (ik_ne i_h0 i_3 (by decide))]; exact k_22
          have k_67 : f_61 (gr g h0 4) = .inl (gc g 1, 906, .inr (.inl q)) := by rw [e_62, va_up_ne _ _ (ik_ne i_1 i_3 (by decide))]; exact k_23
          have k_68 : f_61 (gr g h0 7) = .inl (gc g 1, 1812, .inr (.inl im)) := by rw [e_62, va_up_ne _ _ (ik_ne i_4 i_3 (by decide))]; exact k_24
          have k_69 : f_61 (gr g h0 8) = .inl (gc g 3, 2, .inl kt) := by rw [e_62, va_up_ne _ _ (ik_ne i_5 i_3 (by decide))]; exact k_25
          have kp_64 := Kp.put kp_26 i_3 (by decide) e_62
          have u_70 : vp_updL q_20 (906 * m_17 + y_18) (q y_18) = q_63 := by rw [← eq_63, show Int32.toNatClampNeg (nI (906 * m_17 + y_18)) = 906 * m_17 + y_18 from (nI_clamp (by omega))]
          refine lv_iinc (v := nI (y_18 + 1)) (lv' := [(2, .int (nI (y_18 + 1))), (0, .ref h0), (1, .int p1)]) hx hb dX12_remember_108 hl (k := 0) rfl (nI_1 _) (by decide) rfl (fun ls hl => ?_)
          refine lv_goto (tgt := 80) hx hb dX12_remember_111 (by decide) ?_
          exact ih (y_18 + 1) q_63 f_61 _ _ _ (by omega) hI hS k_65 k_66 k_67 k_68 k_69 kp_64 (by first | omega | decide | exact Or.inl (by decide)) (fun j9 h9 => by rw [← u_70]; exact if h8 : j9 = y_18 then (by subst h8; rw [pk_uLs]) else (by rw [pk_uLn (by omega)]; exact t_28 j9 (by omega))) (fun j9 h9 => by rw [← u_70, pk_uLn (by omega)]; exact t_29 j9 h9) (lv_sub hl [0, 1, 2] rfl)
    exact K_80 _ 0 q_7 f_6 _ _ _ (Nat.lt_succ_self _) hI hS k_8 k_10 k_11 k_12 k_13 kp_14 (by first | omega | decide | exact Or.inl (by decide)) (fun j9 h9 => absurd h9 (Nat.not_lt_zero j9)) (fun j9 h9 => rfl) (lv_sub hl [0, 1, 2] rfl)
  refine lv_icmp_ne (tgt := 78) hx hb dX12_remember_6 (by decide) (fun c_71 => ?_) (fun c_71 => ?_)
  · have c_71 := kn_eq rfl (by decide : Int32.toInt 10 = 10) c_71
    exact J_78 u z10 f _ _ _ hI hS hc2 hc0 hc1 hc3 hc4 hk0 (by first | omega | decide | exact Or.inl (by decide)) hU (lv_sub hl [0, 1] rfl)
  · have c_71 := kc_eq rfl (by decide : Int32.toInt 10 = 10) c_71
    refine lv_iconst (v := 0) hx hb dX12_remember_9 (by decide) ?_
    refine lv_istore_n (lv' := [(2, .int 0), (0, .ref h0), (1, .int p1)]) hx hb dX12_remember_10 rfl hl (by decide) rfl (fun ls hl => ?_)
    have K_11 : ∀ (nn : Nat) (y_72 : Nat) (q_74 : Nat → Int64) (f_73 : Nat → va_E) (H : Heap) (locs : List Loc) (ls : Array Slot), 8154 - y_72 < nn → Iv dC dI g A f_73 H → va_S A s.heap H locs → f_73 (gr g h0 5) = .inl (gc g 1, 9060, .inr (.inl q_74)) → f_73 h0 = .inr (12, [.int z0, .int z1, .ref (gr g h0 2), .ref (gr g h0 3), .ref (gr g h0 4), .ref (gr g h0 5), .ref (gr g h0 6), .ref (gr g h0 7), .ref (gr g h0 8), .ref (gr g h0 9), .int z10, .ref (gr g h0 11), .int z12, .int z13, .int z14, .int z15, .long z16, .int z17, .int z18, .ref (gr g h0 19), .ref (gr g h0 20), .ref (gr g h0 21), .ref (gr g h0 22), .int z23, .long z24, .long z25, .long z26]) → f_73 (gr g h0 4) = .inl (gc g 1, 906, .inr (.inl q)) → f_73 (gr g h0 7) = .inl (gc g 1, 1812, .inr (.inl im)) → f_73 (gr g h0 8) = .inl (gc g 3, 2, .inl kt) → Kp g [12, 33, 37] f f_73 → (y_72 ≤ 8154) → (∀ j : Nat, j < y_72 → q_74 j = u (j + 906)) → (∀ j : Nat, y_72 ≤ j → q_74 j = u j) → lv_has ls 3 [(2, .int (nI y_72)), (0, .ref h0), (1, .int p1)] → W p l e (headSpec wq_c_X12_remember ({ frames := 0, cells := 0, slots := 0, locals := 0 } : Room)).room s m ([.ref h0, .int p1].toArray) below meth c H locs 0 0 (MQ below (va_Qv (fun (_ : Unit) => True) (fun (_ : Unit) t => ∃ f1 : Nat → va_E, Iv dC dI g A f1 t.heap ∧ Kp g [12, 33, 37] f f1 ∧ ∃ (w10 : Int32) (u1 : Nat → Int64), (f1 h0 = .inr (12, [.int z0, .int z1, .ref (gr g h0 2), .ref (gr g h0 3), .ref (gr g h0 4), .ref (gr g h0 5), .ref (gr g h0 6), .ref (gr g h0 7), .ref (gr g h0 8), .ref (gr g h0 9), .int w10, .ref (gr g h0 11), .int z12, .int z13, .int z14, .int z15, .long z16, .int z17, .int z18, .ref (gr g h0 19), .ref (gr g h0 20), .ref (gr g h0 21), .ref (gr g h0 22), .int z23, .long z24, .long z25, .long z26])) ∧ (0 ≤ w10.toInt ∧ w10.toInt ≤ 10) ∧ (f1 (gr g h0 5) = .inl (gc g 1, 9060, .inr (.inl u1))) ∧ (UIq w10 u1 im kt)) A) ([.ref h0, .int p1].toArray) s 0 0 A) (F0 m 11 ls []) := by
      intro nn
      induction nn with
      | zero => intro y_72 q_74 f_73 H locs ls m_84; exact absurd m_84 (Nat.not_lt_zero _)
      | succ nn ih =>
        intro y_72 q_74 f_73 H locs ls m_84 hI hS k_75 k_76 k_77 k_78 k_79 kp_80 t_81 t_82 t_83 hl
        refine lv_iload_n hx hb dX12_remember_11 rfl (lv_at hl 0 rfl) ?_
        refine lv_sipush (v := 8154) hx hb dX12_remember_12 (by decide) ?_
        refine lv_icmp_ge (tgt := 40) hx hb dX12_remember_15 (by decide) (fun c_85 => ?_) (fun c_85 => ?_)
        · have c_85 := kc_le (by decide : Int32.toInt 8154 = 8154) (nI_toInt (n := y_72) (by omega)) c_85
          refine lv_iconst (v := 0) hx hb dX12_remember_40 (by decide) ?_
          refine lv_istore_n (lv' := [(2, .int 0), (0, .ref h0), (1, .int p1)]) hx hb dX12_remember_41 rfl hl (by decide) rfl (fun ls hl => ?_)
          have K_42 : ∀ (nn : Nat) (y_86 : Int32) (f_87 : Nat → va_E) (H : Heap) (locs : List Loc) (ls : Array Slot), (10 - y_86.toInt).toNat < nn → Iv dC dI g A f_87 H → va_S A s.heap H locs → f_87 (gr g h0 5) = .inl (gc g 1, 9060, .inr (.inl q_74)) → f_87 h0 = .inr (12, [.int z0, .int z1, .ref (gr g h0 2), .ref (gr g h0 3), .ref (gr g h0 4), .ref (gr g h0 5), .ref (gr g h0 6), .ref (gr g h0 7), .ref (gr g h0 8), .ref (gr g h0 9), .int z10, .ref (gr g h0 11), .int z12, .int z13, .int z14, .int z15, .long z16, .int z17, .int z18, .ref (gr g h0 19), .ref (gr g h0 20), .ref (gr g h0 21), .ref (gr g h0 22), .int z23, .long z24, .long z25, .long z26]) → f_87 (gr g h0 4) = .inl (gc g 1, 906, .inr (.inl q)) → f_87 (gr g h0 7) = .inl (gc g 1, 1812, .inr (.inl im)) → f_87 (gr g h0 8) = .inl (gc g 3, 2, .inl kt) → Kp g [12, 33, 37] f f_87 → (0 ≤ y_86.toInt) → lv_has ls 3 [(2, .int y_86), (0, .ref h0), (1, .int p1)] → W p l e (headSpec wq_c_X12_remember ({ frames := 0, cells := 0, slots := 0, locals := 0 } : Room)).room s m ([.ref h0, .int p1].toArray) below meth c H locs 0 0 (MQ below (va_Qv (fun (_ : Unit) => True) (fun (_ : Unit) t => ∃ f1 : Nat → va_E, Iv dC dI g A f1 t.heap ∧ Kp g [12, 33, 37] f f1 ∧ ∃ (w10 : Int32) (u1 : Nat → Int64), (f1 h0 = .inr (12, [.int z0, .int z1, .ref (gr g h0 2), .ref (gr g h0 3), .ref (gr g h0 4), .ref (gr g h0 5), .ref (gr g h0 6), .ref (gr g h0 7), .ref (gr g h0 8), .ref (gr g h0 9), .int w10, .ref (gr g h0 11), .int z12, .int z13, .int z14, .int z15, .long z16, .int z17, .int z18, .ref (gr g h0 19), .ref (gr g h0 20), .ref (gr g h0 21), .ref (gr g h0 22), .int z23, .long z24, .long z25, .long z26])) ∧ (0 ≤ w10.toInt ∧ w10.toInt ≤ 10) ∧ (f1 (gr g h0 5) = .inl (gc g 1, 9060, .inr (.inl u1))) ∧ (UIq w10 u1 im kt)) A) ([.ref h0, .int p1].toArray) s 0 0 A) (F0 m 42 ls []) := by
            intro nn_42
            induction nn_42 with
            | zero => intro y_86 f_87 H locs ls m_95; exact absurd m_95 (Nat.not_lt_zero _)
            | succ nn_42 ih_42 =>
              intro y_86 f_87 H locs ls m_95 hI hS k_88 k_89 k_90 k_91 k_92 kp_93 t_94 hl
              have g_96 := Int32.toInt_lt y_86
              have g_97 := Int32.le_toInt y_86
              refine lv_iload_n hx hb dX12_remember_42 rfl (lv_at hl 0 rfl) ?_
              refine lv_bipush (v := 9) hx hb dX12_remember_43 (by decide) ?_
              refine lv_icmp_ge (tgt := 68) hx hb dX12_remember_45 (by decide) (fun c_98 => ?_) (fun c_98 => ?_)
              · have c_98 := kc_le (by decide : Int32.toInt 9 = 9) rfl c_98
                refine lv_aload_n hx hb dX12_remember_68 rfl (lv_at hl 1 rfl) ?_
                refine lv_dup hx hb dX12_remember_69 rfl ?_
                refine k_get (ci := 12) (v := .int z10) (C := RX12) (T := TX12) (N := 27) hx hb hts (fun _ h0_ => List.mem_cons_of_mem _ (List.mem_append_right _ (List.mem_append_left _ h0_))) hown hK hI i_h0.1 k_89 rfl 10 (by decide) (hts (.fieldLink RX12 73 "DeadlineShareModel" "nUndo" "I") (List.mem_cons_of_mem _ (List.mem_append_left _ (List.mem_of_getElem? (i := 0) rfl)))) (fun _ h9 => h9) rfl dX12_remember_70 ?_
                refine lv_iconst (v := 1) hx hb dX12_remember_73 (by decide) ?_
                refine lv_isub hx hb dX12_remember_74 ?_
                refine lv_topi (fun v_99 ev_99 => ?_)
                have tv_99 := k_sb z10 1
                rw [← ev_99, show Int32.toInt 1 = 1 from by decide] at tv_99
                have b_100 : 0 ≤ Int32.toInt v_99 ∧ Int32.toInt v_99 ≤ 10 := by omega
                refine k_put (ci := 12) (v := .int v_99) (ty := .int) (C := RX12) (T := TX12) (N := 27) hx hb hts (fun _ h0_ => List.mem_cons_of_mem _ (List.mem_append_right _ (List.mem_append_left _ h0_))) tyX12 tyX12_ok nmX12 hown hK hI hS i_h0.1 k_89 rfl 10 (by decide) (hts (.fieldLink RX12 73 "DeadlineShareModel" "nUndo" "I") (List.mem_cons_of_mem _ (List.mem_append_left _ (List.mem_of_getElem? (i := 0) rfl)))) (fun _ h9 => h9) rfl (by decide +kernel) rfl rfl (Nat.le_of_ble_eq_true rfl) rfl (cl_12 i_h0 b_100 (by omega) (by omega)) dX12_remember_75 (fun f_101 H locs e_102 hI hS => ?_)
                have k_104 : f_101 (gr g h0 5) = .inl (gc g 1, 9060, .inr (.inl q_74)) := by rw [e_102, va_up_ne _ _ (ik_ne i_3 i_h0 (by decide))]; exact k_88
                have k_105 : f_101 h0 = .inr (12, [.int z0, .int z1, .ref (gr g h0 2), .ref (gr g h0 3), .ref (gr g h0 4), .ref (gr g h0 5), .ref (gr g h0 6), .ref (gr g h0 7), .ref (gr g h0 8), .ref (gr g h0 9), .int v_99, .ref (gr g h0 11), .int z12, .int z13, .int z14, .int z15, .long z16, .int z17, .int z18, .ref (gr g h0 19), .ref (gr g h0 20), .ref (gr g h0 21), .ref (gr g h0 22), .int z23, .long z24, .long z25, .long z26]) := by rw [e_102]; exact va_up_self _ _ _
                have k_106 : f_101 (gr g h0 4) = .inl (gc g 1, 906, .inr (.inl q)) := by rw [e_102, va_up_ne _ _ (ik_ne i_1 i_h0 (by decide))]; exact k_90
                have k_107 : f_101 (gr g h0 7) = .inl (gc g 1, 1812, .inr (.inl im)) := by rw [e_102, va_up_ne _ _ (ik_ne i_4 i_h0 (by decide))]; exact k_91
                have k_108 : f_101 (gr g h0 8) = .inl (gc g 3, 2, .inl kt) := by rw [e_102, va_up_ne _ _ (ik_ne i_5 i_h0 (by decide))]; exact k_92
                have kp_103 := Kp.put kp_93 i_h0 (by decide) e_102
                exact J_78 q_74 v_99 f_101 _ _ _ hI hS k_104 k_105 k_106 k_107 k_108 kp_103 (by first | omega | decide | exact Or.inl (by decide)) (ui_shift hU (by omega) (fun j9 h9 => t_82 j9 (by omega)) (by omega)) (lv_sub hl [1, 2] rfl)
              · have c_98 := kn_le (by decide : Int32.toInt 9 = 9) rfl c_98
                refine lv_aload_n hx hb dX12_remember_48 rfl (lv_at hl 1 rfl) ?_
                refine k_get (ci := 12) (v := .ref (gr g h0 9)) (C := RX12) (T := TX12) (N := 27) hx hb hts (fun _ h0_ => List.mem_cons_of_mem _ (List.mem_append_right _ (List.mem_append_left _ h0_))) hown hK hI i_h0.1 k_89 rfl 9 (by decide) (hts (.fieldLink RX12 33 "DeadlineShareModel" "sorts" "[I") (List.mem_cons_of_mem _ (List.mem_append_left _ (List.mem_of_getElem? (i := 1) rfl)))) (fun _ h9 => h9) rfl dX12_remember_49 ?_
                have i_110 := kw_12_9 hG i_h0
                refine lv_iload_n hx hb dX12_remember_52 rfl (lv_at hl 0 rfl) ?_
                refine lv_aload_n hx hb dX12_remember_53 rfl (lv_at hl 1 rfl) ?_
                refine k_get (ci := 12) (v := .ref (gr g h0 9)) (C := RX12) (T := TX12) (N := 27) hx hb hts (fun _ h0_ => List.mem_cons_of_mem _ (List.mem_append_right _ (List.mem_append_left _ h0_))) hown hK hI i_h0.1 k_89 rfl 9 (by decide) (hts (.fieldLink RX12 33 "DeadlineShareModel" "sorts" "[I") (List.mem_cons_of_mem _ (List.mem_append_left _ (List.mem_of_getElem? (i := 1) rfl)))) (fun _ h9 => h9) rfl dX12_remember_54 ?_
                refine lv_iload_n hx hb dX12_remember_57 rfl (lv_at hl 0 rfl) ?_
                refine lv_iconst (v := 1) hx hb dX12_remember_58 (by decide) ?_
                refine lv_iadd hx hb dX12_remember_59 ?_
                refine lv_topi (fun v_113 ev_113 => ?_)
                have tv_113 := k_ad y_86 1
                rw [← ev_113, show Int32.toInt 1 = 1 from by decide] at tv_113
                obtain ⟨q_115, k_114⟩ := op_37 hI i_110
                refine k_iald hx hb hK hI i_110.1 0 k_114 rfl (vp_in_iff.mpr (by omega)) dX12_remember_60 ?_
                refine lv_topi (fun v_116 ev_116 => ?_)
                refine k_iast hx hb hK hI hS i_110.1 0 k_114 rfl (vp_in_iff.mpr (by omega)) (cl_37 i_110) dX12_remember_61 (fun f_117 H locs e_118 hI hS => ?_)
                generalize eq_119 : upd q_115 (Int32.toNatClampNeg y_86) v_116 = q_119 at e_118
                have k_121 : f_117 (gr g h0 5) = .inl (gc g 1, 9060, .inr (.inl q_74)) := by rw [e_118, va_up_ne _ _ (ik_ne i_3 i_110 (by decide))]; exact k_88
                have k_122 : f_117 h0 = .inr (12, [.int z0, .int z1, .ref (gr g h0 2), .ref (gr g h0 3), .ref (gr g h0 4), .ref (gr g h0 5), .ref (gr g h0 6), .ref (gr g h0 7), .ref (gr g h0 8), .ref (gr g h0 9), .int z10, .ref (gr g h0 11), .int z12, .int z13, .int z14, .int z15, .long z16, .int z17, .int z18, .ref (gr g h0 19), .ref (gr g h0 20), .ref (gr g h0 21), .ref (gr g h0 22), .int z23, .long z24, .long z25, .long z26]) := by rw [e_118, va_up_ne _ _ (ik_ne i_h0 i_110 (by decide))]; exact k_89
                have k_123 : f_117 (gr g h0 4) = .inl (gc g 1, 906, .inr (.inl q)) := by rw [e_118, va_up_ne _ _ (ik_ne i_1 i_110 (by decide))]; exact k_90
                have k_124 : f_117 (gr g h0 7) = .inl (gc g 1, 1812, .inr (.inl im)) := by rw [e_118, va_up_ne _ _ (ik_ne i_4 i_110 (by decide))]; exact k_91
                have k_125 : f_117 (gr g h0 8) = .inl (gc g 3, 2, .inl kt) := by rw [e_118, va_up_ne _ _ (ik_ne i_5 i_110 (by decide))]; exact k_92
                have k_126 : f_117 (gr g h0 9) = .inl (gc g 0, 10, .inl q_119) := by rw [e_118]; exact va_up_self _ _ _
                have kp_120 := Kp.put kp_93 i_110 (by decide) e_118
                obtain ⟨v_127, ev_127⟩ : ∃ y : Int32, y = y_86 + Int32.ofInt 1 := ⟨_, rfl⟩
                refine lv_iinc (v := v_127) (lv' := [(2, .int v_127), (0, .ref h0), (1, .int p1)]) hx hb dX12_remember_62 hl (k := 0) rfl ev_127.symm (by decide) rfl (fun ls hl => ?_)
                have tv_127 := k_inc y_86
                rw [← ev_127] at tv_127
                refine lv_goto (tgt := 42) hx hb dX12_remember_65 (by decide) ?_
                exact ih_42 v_127 f_117 _ _ _ (by omega) hI hS k_121 k_122 k_123 k_124 k_125 kp_120 (by first | omega | decide | exact Or.inl (by decide)) (lv_sub hl [0, 1, 2] rfl)
          exact K_42 _ 0 f_73 _ _ _ (Nat.lt_succ_self _) hI hS k_75 k_76 k_77 k_78 k_79 kp_80 (by first | omega | decide | exact Or.inl (by decide) | (simp only [show Int32.toInt 0 = 0 from by decide] <;> omega)) (lv_sub hl [0, 1, 2] rfl)
        · have c_85 := kn_le (by decide : Int32.toInt 8154 = 8154) (nI_toInt (n := y_72) (by omega)) c_85
          refine lv_aload_n hx hb dX12_remember_18 rfl (lv_at hl 1 rfl) ?_
          refine k_get (ci := 12) (v := .ref (gr g h0 5)) (C := RX12) (T := TX12) (N := 27) hx hb hts (fun _ h0_ => List.mem_cons_of_mem _ (List.mem_append_right _ (List.mem_append_left _ h0_))) hown hK hI i_h0.1 k_76 rfl 5 (by decide) (hts (.fieldLink RX12 20 "DeadlineShareModel" "undos" "[J") (List.mem_cons_of_mem _ (List.mem_append_left _ (List.mem_of_getElem? (i := 2) rfl)))) (fun _ h9 => h9) rfl dX12_remember_19 ?_
          refine lv_iload_n hx hb dX12_remember_22 rfl (lv_at hl 0 rfl) ?_
          refine lv_aload_n hx hb dX12_remember_23 rfl (lv_at hl 1 rfl) ?_
          refine k_get (ci := 12) (v := .ref (gr g h0 5)) (C := RX12) (T := TX12) (N := 27) hx hb hts (fun _ h0_ => List.mem_cons_of_mem _ (List.mem_append_right _ (List.mem_append_left _ h0_))) hown hK hI i_h0.1 k_76 rfl 5 (by decide) (hts (.fieldLink RX12 20 "DeadlineShareModel" "undos" "[J") (List.mem_cons_of_mem _ (List.mem_append_left _ (List.mem_of_getElem? (i := 2) rfl)))) (fun _ h9 => h9) rfl dX12_remember_24 ?_
          refine lv_iload_n hx hb dX12_remember_27 rfl (lv_at hl 0 rfl) ?_
          refine lv_sipush (v := 906) hx hb dX12_remember_28 (by decide) ?_
          refine lv_iadd hx hb dX12_remember_31 ?_
          refine k_topi (y := nI (y_72 + 906)) ((nI_add y_72 906).trans (congrArg nI (by omega))) ?_
          refine k_lald hx hb hK hI i_3.1 1 k_75 rfl (vp_in_nI (by omega) (by omega)) dX12_remember_32 ?_
          refine k_topl (y := q_74 (y_72 + 906)) (congrArg q_74 (nI_clamp (by omega))) ?_
          refine k_last hx hb hK hI hS i_3.1 1 k_75 rfl (vp_in_nI (by omega) (by omega)) (cl_33 i_3) dX12_remember_33 (fun f_132 H locs e_133 hI hS => ?_)
          generalize eq_134 : vp_updL q_74 (Int32.toNatClampNeg (nI y_72)) (q_74 (y_72 + 906)) = q_134 at e_133
          have k_136 : f_132 (gr g h0 5) = .inl (gc g 1, 9060, .inr (.inl q_134)) := by rw [e_133]; exact va_up_self _ _ _
          have k_137 : f_132 h0 = .inr (12, [.int z0, .int z1, .ref (gr g h0 2), .ref (gr g h0 3), .ref (gr g h0 4), .ref (gr g h0 5), .ref (gr g h0 6), .ref (gr g h0 7), .ref (gr g h0 8), .ref (gr g h0 9), .int z10, .ref (gr g h0 11), .int z12, .int z13, .int z14, .int z15, .long z16, .int z17, .int z18, .ref (gr g h0 19), .ref (gr g h0 20), .ref (gr g h0 21), .ref (gr g h0 22), .int z23, .long z24, .long z25, .long z26]) := by rw [e_133, va_up_ne _ _ (ik_ne i_h0 i_3 (by decide))]; exact k_76
          have k_138 : f_132 (gr g h0 4) = .inl (gc g 1, 906, .inr (.inl q)) := by rw [e_133, va_up_ne _ _ (ik_ne i_1 i_3 (by decide))]; exact k_77
          have k_139 : f_132 (gr g h0 7) = .inl (gc g 1, 1812, .inr (.inl im)) := by rw [e_133, va_up_ne _ _ (ik_ne i_4 i_3 (by decide))]; exact k_78
          have k_140 : f_132 (gr g h0 8) = .inl (gc g 3, 2, .inl kt) := by rw [e_133, va_up_ne _ _ (ik_ne i_5 i_3 (by decide))]; exact k_79
          have kp_135 := Kp.put kp_80 i_3 (by decide) e_133
          have u_141 : vp_updL q_74 y_72 (q_74 (y_72 + 906)) = q_134 := by rw [← eq_134, show Int32.toNatClampNeg (nI y_72) = y_72 from (nI_clamp (by omega))]
          refine lv_iinc (v := nI (y_72 + 1)) (lv' := [(2, .int (nI (y_72 + 1))), (0, .ref h0), (1, .int p1)]) hx hb dX12_remember_34 hl (k := 0) rfl (nI_1 _) (by decide) rfl (fun ls hl => ?_)
          refine lv_goto (tgt := 11) hx hb dX12_remember_37 (by decide) ?_
          exact ih (y_72 + 1) q_134 f_132 _ _ _ (by omega) hI hS k_136 k_137 k_138 k_139 k_140 kp_135 (by first | omega | decide | exact Or.inl (by decide)) (fun j9 h9 => by rw [← u_141]; exact if h8 : j9 = y_72 then (by subst h8; rw [pk_uLs]; exact t_83 _ (by omega)) else (by rw [pk_uLn h8]; exact t_82 j9 (by omega))) (fun j9 h9 => by rw [← u_141, pk_uLn (by omega)]; exact t_83 j9 (by omega)) (lv_sub hl [0, 1, 2] rfl)
    exact K_11 _ 0 u f _ _ _ (Nat.lt_succ_self _) hI hS hc2 hc0 hc1 hc3 hc4 hk0 (by first | omega | decide | exact Or.inl (by decide)) (fun j9 h9 => absurd h9 (Nat.not_lt_zero j9)) (fun j9 h9 => rfl) (lv_sub hl [0, 1, 2] rfl)
