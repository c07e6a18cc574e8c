def ow_c_X12_four_0 : List Cond := [.fieldLink RX12 36 "DeadlineShareModel" "tape" "[I", .fieldLink RX12 128 "DeadlineShareModel" "taped" "I"]
def wq_c_X12_four_0 : List Cond := .code yX12_four cX12_four 3 none :: (ow_c_X12_four_0 ++ (u_ws RX12 TX12 27 ++ ([] : List Cond)))
theorem tb_c_X12_four_0 : ∀ w ∈ wq_c_X12_four_0, q_g w := by
  unfold wq_c_X12_four_0 ow_c_X12_four_0
  exact q_cons tw_445 (q_app (q_cons tw_419 (q_cons tw_444 q_nil)) (q_app tu_X12 q_nil))
set_option maxHeartbeats 4000000 in
set_option maxRecDepth 100000 in
theorem c_X12_four_0 (l : Launch) (dC : Nat → ClassId) (dI : Nat → Nat → Nat) (h0 : Nat) (vv : Int32) (mr : Nat) (mt : Nat) (mw : Nat) (mu : Nat) (mp : Nat) (mi : Nat) (mk : Nat) (ms : Nat) (mv : Nat) (m1w : Nat) (m2w : Nat) (m3w : Nat) (m4w : Nat) (cm9 : ClassId) (fv : Nat → Int32) (sz : Nat) : Met l yX12_four wq_c_X12_four_0 ({ frames := 0, cells := 0, slots := 0, locals := 0 } : Room) (va_Pc [.ref h0, .int vv] (fun U => U.heap.size = sz ∧ va_P (dC, dI) vwCl [(h0, .inr (12, [.int 0, .int 0, .ref mr, .ref mt, .ref mw, .ref mu, .ref mp, .ref mi, .ref mk, .ref ms, .int 0, .ref mv, .int 0, .int 0, .int 0, .int 0, .long 0, .int (-1), .int 0, .ref m1w, .ref m2w, .ref m3w, .ref m4w, .int 0, .long 0, .long 0, .long 0])), (mv, .inl (cm9, 200, .inl fv))] U.heap ∧ va_K (dC, dI) vwCl [(cm9, .int)] U ∧ va_D (fun _ => True) [(h0, .inr (12, [.int 0, .int 0, .ref mr, .ref mt, .ref mw, .ref mu, .ref mp, .ref mi, .ref mk, .ref ms, .int 0, .ref mv, .int 0, .int 0, .int 0, .int 0, .long 0, .int (-1), .int 0, .ref m1w, .ref m2w, .ref m3w, .ref m4w, .int 0, .long 0, .long 0, .long 0])), (mv, .inl (cm9, 200, .inl fv))])) (va_Qv (fun (_ : Unit) => True) (fun (_ : Unit) t => ∃ (f2 : Nat → Int32), va_P (dC, dI) vwCl [(h0, .inr (12, [.int 0, .int 0, .ref mr, .ref mt, .ref mw, .ref mu, .ref mp, .ref mi, .ref mk, .ref ms, .int 0, .ref mv, .int 4, .int 0, .int 0, .int 0, .long 0, .int (-1), .int 0, .ref m1w, .ref m2w, .ref m3w, .ref m4w, .int 0, .long 0, .long 0, .long 0])), (mv, .inl (cm9, 200, .inl f2))] t.heap ∧ va_K (dC, dI) vwCl [(cm9, .int)] t ∧ va_D (va_A [(h0, .inr (12, [.int 0, .int 0, .ref mr, .ref mt, .ref mw, .ref mu, .ref mp, .ref mi, .ref mk, .ref ms, .int 0, .ref mv, .int 0, .int 0, .int 0, .int 0, .long 0, .int (-1), .int 0, .ref m1w, .ref m2w, .ref m3w, .ref m4w, .int 0, .long 0, .long 0, .long 0])), (mv, .inl (cm9, 200, .inl fv))] sz) [(h0, .inr (12, [.int 0, .int 0, .ref mr, .ref mt, .ref mw, .ref mu, .ref mp, .ref mi, .ref mk, .ref ms, .int 0, .ref mv, .int 4, .int 0, .int 0, .int 0, .long 0, .int (-1), .int 0, .ref m1w, .ref m2w, .ref m3w, .ref m4w, .int 0, .long 0, .long 0, .long 0])), (mv, .inl (cm9, 200, .inl f2))]) (va_A [(h0, .inr (12, [.int 0, .int 0, .ref mr, .ref mt, .ref mw, .ref mu, .ref mp, .ref mi, .ref mk, .ref ms, .int 0, .ref mv, .int 0, .int 0, .int 0, .int 0, .long 0, .int (-1), .int 0, .ref m1w, .ref m2w, .ref m3w, .ref m4w, .int 0, .long 0, .long 0, .long 0])), (mv, .inl (cm9, 200, .inl fv))] sz)) 0 0 (va_A [(h0, .inr (12, [.int 0, .int 0, .ref mr, .ref mt, .ref mw, .ref mu, .ref mp, .ref mi, .ref mk, .ref ms, .int 0, .ref mv, .int 0, .int 0, .int 0, .int 0, .long 0, .int (-1), .int 0, .ref m1w, .ref m2w, .ref m3w, .ref m4w, .int 0, .long 0, .long 0, .long 0])), (mv, .inl (cm9, 200, .inl fv))] sz) := by
  refine Met.ofW (cc := cX12_four) (maxL := 3) (ret := none) (by decide) rfl ?_
  intro p e s m args below meth c s₁ B hml hv
  obtain ⟨rfl, hsz, hP, hK, hD0⟩ := hv
  have hx := B.exec
  have hb := B.bytes
  have hr := B.returns
  have hts := atoms_spec (ws := wq_c_X12_four_0) B.pre
  have hown : s.vm.findClass RX12 = some m.cls := findClass_of_methodNamed B.named
  have hlocks := B.notSynchronized
  subst hsz
  have hD := hD0.self (sz := s.heap.size)
  obtain ⟨A, hAe⟩ : ∃ A, A = va_A [(h0, .inr (12, [.int 0, .int 0, .ref mr, .ref mt, .ref mw, .ref mu, .ref mp, .ref mi, .ref mk, .ref ms, .int 0, .ref mv, .int 0, .int 0, .int 0, .int 0, .long 0, .int (-1), .int 0, .ref m1w, .ref m2w, .ref m3w, .ref m4w, .int 0, .long 0, .long 0, .long 0])), (mv, .inl (cm9, 200, .inl fv))] s.heap.size := ⟨_, rfl⟩
  rw [← hAe] at hD ⊢
  have hA : ∀ q : Nat, s.heap.size ≤ q → A q := fun q h => by rw [hAe]; exact Or.inr h
  have hS : va_S A s.heap s.heap [] := va_S.rf
  have hP : va_P (dC, dI) vwCl [(h0, .inr (12, [.int 0, .int 0, .ref mr, .ref mt, .ref mw, .ref mu, .ref mp, .ref mi, .ref mk, .ref ms, .int 0, .ref mv, .int 0, .int 0, .int 0, .int 0, .long 0, .int (-1), .int 0, .ref m1w, .ref m2w, .ref m3w, .ref m4w, .int 0, .long 0, .long 0, .long 0])), (mv, .inl (cm9, 200, .inl fv))] s.heap := hP
  have hl := lv_entry ([.ref h0, .int vv]) (n := 3) (Nat.le_of_ble_eq_true rfl)
  rw [lg_entry_eq]
  generalize (lg_sl ([.ref h0, .int vv]) ++ List.replicate (3 - (lg_sl ([.ref h0, .int vv])).length) Slot.unset).toArray = ls at hl ⊢
  have hl : lv_has ls 3 [(0, .ref h0), (1, .int vv)] := hl
  refine lv_bipush (v := 24) hx hb dX12_four_0 (by decide) ?_
  refine lv_istore_n (lv' := [(2, .int 24), (0, .ref h0), (1, .int vv)]) hx hb dX12_four_2 rfl hl (by decide) rfl (fun ls hl => ?_)
  refine lv_iload_n hx hb dX12_four_3 rfl (lv_at hl 0 rfl) ?_
  refine lv_if_lt (tgt := 39) hx hb dX12_four_4 (by decide) (fun c => absurd c (by decide)) (fun _ => ?_)
  refine lv_aload_n hx hb dX12_four_7 rfl (lv_at hl 1 rfl) ?_
  refine va_get (D := (dC, dI)) (ci := 12) (v := .ref mv) (C := RX12) (T := TX12) (N := 27) hx hb hts (fun _ h0_ => List.mem_cons_of_mem _ (List.mem_append_right _ (List.mem_append_left _ h0_))) hown hK hP 0 rfl rfl 11 (by decide) (hts (.fieldLink RX12 36 "DeadlineShareModel" "tape" "[I") (List.mem_cons_of_mem _ (List.mem_append_left _ (List.mem_of_getElem? (i := 0) rfl)))) (fun _ h9 => h9) rfl dX12_four_8 ?_
  refine lv_aload_n hx hb dX12_four_11 rfl (lv_at hl 1 rfl) ?_
  refine va_get (D := (dC, dI)) (ci := 12) (v := .int 0) (C := RX12) (T := TX12) (N := 27) hx hb hts (fun _ h0_ => List.mem_cons_of_mem _ (List.mem_append_right _ (List.mem_append_left _ h0_))) hown hK hP 0 rfl rfl 12 (by decide) (hts (.fieldLink RX12 128 "DeadlineShareModel" "taped" "I") (List.mem_cons_of_mem _ (List.mem_append_left _ (List.mem_of_getElem? (i := 1) rfl)))) (fun _ h9 => h9) rfl dX12_four_12 ?_
  refine lv_iload_n hx hb dX12_four_15 rfl (lv_at hl 2 rfl) ?_
  refine lv_iload_n hx hb dX12_four_16 rfl (lv_at hl 0 rfl) ?_
  refine lv_ishr hx hb dX12_four_17 ?_
  refine lv_topi (fun v_1 ev_1 => ?_)
  refine lv_sipush (v := 255) hx hb dX12_four_18 (by decide) ?_
  refine lv_iand hx hb dX12_four_21 ?_
  refine lv_topi (fun v_2 ev_2 => ?_)
  refine va_iast hx hb hK hP hD hS 1 0 rfl rfl (by unfold vp_in; decide) dX12_four_22 (fun H locs hP hD hS => ?_)
  have hP : va_P (dC, dI) vwCl [(h0, .inr (12, [.int 0, .int 0, .ref mr, .ref mt, .ref mw, .ref mu, .ref mp, .ref mi, .ref mk, .ref ms, .int 0, .ref mv, .int 0, .int 0, .int 0, .int 0, .long 0, .int (-1), .int 0, .ref m1w, .ref m2w, .ref m3w, .ref m4w, .int 0, .long 0, .long 0, .long 0])), (mv, .inl (cm9, 200, .inl (upd fv (Int32.toNatClampNeg 0) v_2)))] H := hP
  have hD : va_D A [(h0, .inr (12, [.int 0, .int 0, .ref mr, .ref mt, .ref mw, .ref mu, .ref mp, .ref mi, .ref mk, .ref ms, .int 0, .ref mv, .int 0, .int 0, .int 0, .int 0, .long 0, .int (-1), .int 0, .ref m1w, .ref m2w, .ref m3w, .ref m4w, .int 0, .long 0, .long 0, .long 0])), (mv, .inl (cm9, 200, .inl (upd fv (Int32.toNatClampNeg 0) v_2)))] := hD
  generalize ef_3 : upd fv (Int32.toNatClampNeg 0) v_2 = f_3 at hP hD
  refine lv_aload_n hx hb dX12_four_23 rfl (lv_at hl 1 rfl) ?_
  refine lv_dup hx hb dX12_four_24 rfl ?_
  refine va_get (D := (dC, dI)) (ci := 12) (v := .int 0) (C := RX12) (T := TX12) (N := 27) hx hb hts (fun _ h0_ => List.mem_cons_of_mem _ (List.mem_append_right _ (List.mem_append_left _ h0_))) hown hK hP 0 rfl rfl 12 (by decide) (hts (.fieldLink RX12 128 "DeadlineShareModel" "taped" "I") (List.mem_cons_of_mem _ (List.mem_append_left _ (List.mem_of_getElem? (i := 1) rfl)))) (fun _ h9 => h9) rfl dX12_four_25 ?_
  refine lv_iconst (v := 1) hx hb dX12_four_28 (by decide) ?_
  refine lv_iadd hx hb dX12_four_29 ?_
  refine k_topi (y := 1) (by decide) ?_
  refine va_put (D := (dC, dI)) (ci := 12) (v := .int 1) (ty := .int) (C := RX12) (T := TX12) (N := 27) hx hb hts (fun _ h0_ => List.mem_cons_of_mem _ (List.mem_append_right _ (List.mem_append_left _ h0_))) tyX12 tyX12_ok nmX12 hown hK hP hD hS 0 rfl rfl 12 (by decide) (hts (.fieldLink RX12 128 "DeadlineShareModel" "taped" "I") (List.mem_cons_of_mem _ (List.mem_append_left _ (List.mem_of_getElem? (i := 1) rfl)))) (fun _ h9 => h9) rfl (by decide +kernel) rfl rfl (Nat.le_of_ble_eq_true rfl) dX12_four_30 (fun H locs hP hD hS => ?_)
  have hP : va_P (dC, dI) vwCl [(h0, .inr (12, [.int 0, .int 0, .ref mr, .ref mt, .ref mw, .ref mu, .ref mp, .ref mi, .ref mk, .ref ms, .int 0, .ref mv, .int 1, .int 0, .int 0, .int 0, .long 0, .int (-1), .int 0, .ref m1w, .ref m2w, .ref m3w, .ref m4w, .int 0, .long 0, .long 0, .long 0])), (mv, .inl (cm9, 200, .inl f_3))] H := hP
  have hD : va_D A [(h0, .inr (12, [.int 0, .int 0, .ref mr, .ref mt, .ref mw, .ref mu, .ref mp, .ref mi, .ref mk, .ref ms, .int 0, .ref mv, .int 1, .int 0, .int 0, .int 0, .long 0, .int (-1), .int 0, .ref m1w, .ref m2w, .ref m3w, .ref m4w, .int 0, .long 0, .long 0, .long 0])), (mv, .inl (cm9, 200, .inl f_3))] := hD
  refine lv_iinc (v := 16) (lv' := [(2, .int 16), (0, .ref h0), (1, .int vv)]) hx hb dX12_four_33 hl (k := 0) rfl (by decide) (by decide) rfl (fun ls hl => ?_)
  refine lv_goto (tgt := 3) hx hb dX12_four_36 (by decide) ?_
  refine lv_iload_n hx hb dX12_four_3 rfl (lv_at hl 0 rfl) ?_
  refine lv_if_lt (tgt := 39) hx hb dX12_four_4 (by decide) (fun c => absurd c (by decide)) (fun _ => ?_)
  refine lv_aload_n hx hb dX12_four_7 rfl (lv_at hl 1 rfl) ?_
  refine va_get (D := (dC, dI)) (ci := 12) (v := .ref mv) (C := RX12) (T := TX12) (N := 27) hx hb hts (fun _ h0_ => List.mem_cons_of_mem _ (List.mem_append_right _ (List.mem_append_left _ h0_))) hown hK hP 0 rfl rfl 11 (by decide) (hts (.fieldLink RX12 36 "DeadlineShareModel" "tape" "[I") (List.mem_cons_of_mem _ (List.mem_append_left _ (List.mem_of_getElem? (i := 0) rfl)))) (fun _ h9 => h9) rfl dX12_four_8 ?_
  refine lv_aload_n hx hb dX12_four_11 rfl (lv_at hl 1 rfl) ?_
  refine va_get (D := (dC, dI)) (ci := 12) (v := .int 1) (C := RX12) (T := TX12) (N := 27) hx hb hts (fun _ h0_ => List.mem_cons_of_mem _ (List.mem_append_right _ (List.mem_append_left _ h0_))) hown hK hP 0 rfl rfl 12 (by decide) (hts (.fieldLink RX12 128 "DeadlineShareModel" "taped" "I") (List.mem_cons_of_mem _ (List.mem_append_left _ (List.mem_of_getElem? (i := 1) rfl)))) (fun _ h9 => h9) rfl dX12_four_12 ?_
  refine lv_iload_n hx hb dX12_four_15 rfl (lv_at hl 2 rfl) ?_
  refine lv_iload_n hx hb dX12_four_16 rfl (lv_at hl 0 rfl) ?_
  refine lv_ishr hx hb dX12_four_17 ?_
  refine lv_topi (fun v_5 ev_5 => ?_)
  refine lv_sipush (v := 255) hx hb dX12_four_18 (by decide) ?_
  refine lv_iand hx hb dX12_four_21 ?_
  refine lv_topi (fun v_6 ev_6 => ?_)
  refine va_iast hx hb hK hP hD hS 1 0 rfl rfl (by unfold vp_in; decide) dX12_four_22 (fun H locs hP hD hS => ?_)
  have hP : va_P (dC, dI) vwCl [(h0, .inr (12, [.int 0, .int 0, .ref mr, .ref mt, .ref mw, .ref mu, .ref mp, .ref mi, .ref mk, .ref ms, .int 0, .ref mv, .int 1, .int 0, .int 0, .int 0, .long 0, .int (-1), .int 0, .ref m1w, .ref m2w, .ref m3w, .ref m4w, .int 0, .long 0, .long 0, .long 0])), (mv, .inl (cm9, 200, .inl (upd f_3 (Int32.toNatClampNeg 1) v_6)))] H := hP
  have hD : va_D A [(h0, .inr (12, [.int 0, .int 0, .ref mr, .ref mt, .ref mw, .ref mu, .ref mp, .ref mi, .ref mk, .ref ms, .int 0, .ref mv, .int 1, .int 0, .int 0, .int 0, .long 0, .int (-1), .int 0, .ref m1w, .ref m2w, .ref m3w, .ref m4w, .int 0, .long 0, .long 0, .long 0])), (mv, .inl (cm9, 200, .inl (upd f_3 (Int32.toNatClampNeg 1) v_6)))] := hD
  generalize ef_7 : upd f_3 (Int32.toNatClampNeg 1) v_6 = f_7 at hP hD
  refine lv_aload_n hx hb dX12_four_23 rfl (lv_at hl 1 rfl) ?_
  refine lv_dup hx hb dX12_four_24 rfl ?_
  refine va_get (D := (dC, dI)) (ci := 12) (v := .int 1) (C := RX12) (T := TX12) (N := 27) hx hb hts (fun _ h0_ => List.mem_cons_of_mem _ (List.mem_append_right _ (List.mem_append_left _ h0_))) hown hK hP 0 rfl rfl 12 (by decide) (hts (.fieldLink RX12 128 "DeadlineShareModel" "taped" "I") (List.mem_cons_of_mem _ (List.mem_append_left _ (List.mem_of_getElem? (i := 1) rfl)))) (fun _ h9 => h9) rfl dX12_four_25 ?_
  refine lv_iconst (v := 1) hx hb dX12_four_28 (by decide) ?_
  refine lv_iadd hx hb dX12_four_29 ?_
  refine k_topi (y := 2) (by decide) ?_
  refine va_put (D := (dC, dI)) (ci := 12) (v := .int 2) (ty := .int) (C := RX12) (T := TX12) (N := 27) hx hb hts (fun _ h0_ => List.mem_cons_of_mem _ (List.mem_append_right _ (List.mem_append_left _ h0_))) tyX12 tyX12_ok nmX12 hown hK hP hD hS 0 rfl rfl 12 (by decide) (hts (.fieldLink RX12 128 "DeadlineShareModel" "taped" "I") (List.mem_cons_of_mem _ (List.mem_append_left _ (List.mem_of_getElem? (i := 1) rfl)))) (fun _ h9 => h9) rfl (by decide +kernel) rfl rfl (Nat.le_of_ble_eq_true rfl) dX12_four_30 (fun H locs hP hD hS => ?_)
  have hP : va_P (dC, dI) vwCl [(h0, .inr (12, [.int 0, .int 0, .ref mr, .ref mt, .ref mw, .ref mu, .ref mp, .ref mi, .ref mk, .ref ms, .int 0, .ref mv, .int 2, .int 0, .int 0, .int 0, .long 0, .int (-1), .int 0, .ref m1w, .ref m2w, .ref m3w, .ref m4w, .int 0, .long 0, .long 0, .long 0])), (mv, .inl (cm9, 200, .inl f_7))] H := hP
  have hD : va_D A [(h0, .inr (12, [.int 0, .int 0, .ref mr, .ref mt, .ref mw, .ref mu, .ref mp, .ref mi, .ref mk, .ref ms, .int 0, .ref mv, .int 2, .int 0, .int 0, .int 0, .long 0, .int (-1), .int 0, .ref m1w, .ref m2w, .ref m3w, .ref m4w, .int 0, .long 0, .long 0, .long 0])), (mv, .inl (cm9, 200, .inl f_7))] := hD
  refine lv_iinc (v := 8) (lv' := [(2, .int 8), (0, .ref h0), (1, .int vv)]) hx hb dX12_four_33 hl (k := 0) rfl (by decide) (by decide) rfl (fun ls hl => ?_)
  refine lv_goto (tgt := 3) hx hb dX12_four_36 (by decide) ?_
  refine lv_iload_n hx hb dX12_four_3 rfl (lv_at hl 0 rfl) ?_
  refine lv_if_lt (tgt := 39) hx hb dX12_four_4 (by decide) (fun c => absurd c (by decide)) (fun _ => ?_)
  refine lv_aload_n hx hb dX12_four_7 rfl (lv_at hl 1 rfl) ?_
  refine va_get (D := (dC, dI)) (ci := 12) (v := .ref mv) (C := RX12) (T := TX12) (N := 27) hx hb hts (fun _ h0_ => List.mem_cons_of_mem _ (List.mem_append_right _ (List.mem_append_left _ h0_))) hown hK hP 0 rfl rfl 11 (by decide) (hts (.fieldLink RX12 36 "DeadlineShareModel" "tape" "[I") (List.mem_cons_of_mem _ (List.mem_append_left _ (List.mem_of_getElem? (i := 0) rfl)))) (fun _ h9 => h9) rfl dX12_four_8 ?_
  refine lv_aload_n hx hb dX12_four_11 rfl (lv_at hl 1 rfl) ?_
  refine va_get (D := (dC, dI)) (ci := 12) (v := .int 2) (C := RX12) (T := TX12) (N := 27) hx hb hts (fun _ h0_ => List.mem_cons_of_mem _ (List.mem_append_right _ (List.mem_append_left _ h0_))) hown hK hP 0 rfl rfl 12 (by decide) (hts (.fieldLink RX12 128 "DeadlineShareModel" "taped" "I") (List.mem_cons_of_mem _ (List.mem_append_left _ (List.mem_of_getElem? (i := 1) rfl)))) (fun _ h9 => h9) rfl dX12_four_12 ?_
  refine lv_iload_n hx hb dX12_four_15 rfl (lv_at hl 2 rfl) ?_
  refine lv_iload_n hx hb dX12_four_16 rfl (lv_at hl 0 rfl) ?_
  refine lv_ishr hx hb dX12_four_17 ?_
  refine lv_topi (fun v_9 ev_9 => ?_)
  refine lv_sipush (v := 255) hx hb dX12_four_18 (by decide) ?_
  refine lv_iand hx hb dX12_four_21 ?_
  refine lv_topi (fun v_10 ev_10 => ?_)
  refine va_iast hx hb hK hP hD hS 1 0 rfl rfl (by unfold vp_in; decide) dX12_four_22 (fun H locs hP hD hS => ?_)
  have hP : va_P (dC, dI) vwCl [(h0, .inr (12, [.int 0, .int 0, .ref mr, .ref mt, .ref mw, .ref mu, .ref mp, .ref mi, .ref mk, .ref ms, .int 0, .ref mv, .int 2, .int 0, .int 0, .int 0, .long 0, .int (-1), .int 0, .ref m1w, .ref m2w, .ref m3w, .ref m4w, .int 0, .long 0, .long 0, .long 0])), (mv, .inl (cm9, 200, .inl (upd f_7 (Int32.toNatClampNeg 2) v_10)))] H := hP
  have hD : va_D A [(h0, .inr (12, [.int 0, .int 0, .ref mr, .ref mt, .ref mw, .ref mu, .ref mp, .ref mi, .ref mk, .ref ms, .int 0, .ref mv, .int 2, .int 0, .int 0, .int 0, .long 0, .int (-1), .int 0, .ref m1w, .ref m2w, .ref m3w, .ref m4w, .int 0, .long 0, .long 0, .long 0])), (mv, .inl (cm9, 200, .inl (upd f_7 (Int32.toNatClampNeg 2) v_10)))] := hD
  generalize ef_11 : upd f_7 (Int32.toNatClampNeg 2) v_10 = f_11 at hP hD
  refine lv_aload_n hx hb dX12_four_23 rfl (lv_at hl 1 rfl) ?_
  refine lv_dup hx hb dX12_four_24 rfl ?_
  refine va_get (D := (dC, dI)) (ci := 12) (v := .int 2) (C := RX12) (T := TX12) (N := 27) hx hb hts (fun _ h0_ => List.mem_cons_of_mem _ (List.mem_append_right _ (List.mem_append_left _ h0_))) hown hK hP 0 rfl rfl 12 (by decide) (hts (.fieldLink RX12 128 "DeadlineShareModel" "taped" "I") (List.mem_cons_of_mem _ (List.mem_append_left _ (List.mem_of_getElem? (i := 1) rfl)))) (fun _ h9 => h9) rfl dX12_four_25 ?_
  refine lv_iconst (v := 1) hx hb dX12_four_28 (by decide) ?_
  refine lv_iadd hx hb dX12_four_29 ?_
  refine k_topi (y := 3) (by decide) ?_
  refine va_put (D := (dC, dI)) (ci := 12) (v := .int 3) (ty := .int) (C := RX12) (T := TX12) (N := 27) hx hb hts (fun _ h0_ => List.mem_cons_of_mem _ (List.mem_append_right _ (List.mem_append_left _ h0_))) tyX12 tyX12_ok nmX12 hown hK hP hD hS 0 rfl rfl 12 (by decide) (hts (.fieldLink RX12 128 "DeadlineShareModel" "taped" "I") (List.mem_cons_of_mem _ (List.mem_append_left _ (List.mem_of_getElem? (i := 1) rfl)))) (fun _ h9 => h9) rfl (by decide +kernel) rfl rfl (Nat.le_of_ble_eq_true rfl) dX12_four_30 (fun H locs hP hD hS => ?_)
  have hP : va_P (dC, dI) vwCl [(h0, .inr (12, [.int 0, .int 0, .ref mr, .ref mt, .ref mw, .ref mu, .ref mp, .ref mi, .ref mk, .ref ms, .int 0, .ref mv, .int 3, .int 0, .int 0, .int 0, .long 0, .int (-1), .int 0, .ref m1w, .ref m2w, .ref m3w, .ref m4w, .int 0, .long 0, .long 0, .long 0])), (mv, .inl (cm9, 200, .inl f_11))] H := hP
  have hD : va_D A [(h0, .inr (12, [.int 0, .int 0, .ref mr, .ref mt, .ref mw, .ref mu, .ref mp, .ref mi, .ref mk, .ref ms, .int 0, .ref mv, .int 3, .int 0, .int 0, .int 0, .long 0, .int (-1), .int 0, .ref m1w, .ref m2w, .ref m3w, .ref m4w, .int 0, .long 0, .long 0, .long 0])), (mv, .inl (cm9, 200, .inl f_11))] := hD
  refine lv_iinc (v := 0) (lv' := [(2, .int 0), (0, .ref h0), (1, .int vv)]) hx hb dX12_four_33 hl (k := 0) rfl (by decide) (by decide) rfl (fun ls hl => ?_)
  refine lv_goto (tgt := 3) hx hb dX12_four_36 (by decide) ?_
  refine lv_iload_n hx hb dX12_four_3 rfl (lv_at hl 0 rfl) ?_
  refine lv_if_lt (tgt := 39) hx hb dX12_four_4 (by decide) (fun c => absurd c (by decide)) (fun _ => ?_)
  refine lv_aload_n hx hb dX12_four_7 rfl (lv_at hl 1 rfl) ?_
  refine va_get (D := (dC, dI)) (ci := 12) (v := .ref mv) (C := RX12) (T := TX12) (N := 27) hx hb hts (fun _ h0_ => List.mem_cons_of_mem _ (List.mem_append_right _ (List.mem_append_left _ h0_))) hown hK hP 0 rfl rfl 11 (by decide) (hts (.fieldLink RX12 36 "DeadlineShareModel" "tape" "[I") (List.mem_cons_of_mem _ (List.mem_append_left _ (List.mem_of_getElem? (i := 0) rfl)))) (fun _ h9 => h9) rfl dX12_four_8 ?_
  refine lv_aload_n hx hb dX12_four_11 rfl (lv_at hl 1 rfl) ?_
  refine va_get (D := (dC, dI)) (ci := 12) (v := .int 3) (C := RX12) (T := TX12) (N := 27) hx hb hts (fun _ h0_ => List.mem_cons_of_mem _ (List.mem_append_right _ (List.mem_append_left _ h0_))) hown hK hP 0 rfl rfl 12 (by decide) (hts (.fieldLink RX12 128 "DeadlineShareModel" "taped" "I") (List.mem_cons_of_mem _ (List.mem_append_left _ (List.mem_of_getElem? (i := 1) rfl)))) (fun _ h9 => h9) rfl dX12_four_12 ?_
  refine lv_iload_n hx hb dX12_four_15 rfl (lv_at hl 2 rfl) ?_
  refine lv_iload_n hx hb dX12_four_16 rfl (lv_at hl 0 rfl) ?_
  refine lv_ishr hx hb dX12_four_17 ?_
  refine lv_topi (fun v_13 ev_13 => ?_)
  refine lv_sipush (v := 255) hx hb dX12_four_18 (by decide) ?_
  refine lv_iand hx hb dX12_four_21 ?_
  refine lv_topi (fun v_14 ev_14 => ?_)
  refine va_iast hx hb hK hP hD hS 1 0 rfl rfl (by unfold vp_in; decide) dX12_four_22 (fun H locs hP hD hS => ?_)
  have hP : va_P (dC, dI) vwCl [(h0, .inr (12, [.int 0, .int 0, .ref mr, .ref mt, .ref mw, .ref mu, .ref mp, .ref mi, .ref mk, .ref ms, .int 0, .ref mv, .int 3, .int 0, .int 0, .int 0, .long 0, .int (-1), .int 0, .ref m1w, .ref m2w, .ref m3w, .ref m4w, .int 0, .long 0, .long 0, .long 0])), (mv, .inl (cm9, 200, .inl (upd f_11 (Int32.toNatClampNeg 3) v_14)))] H := hP
  have hD : va_D A [(h0, .inr (12, [.int 0, .int 0, .ref mr, .ref mt, .ref mw, .ref mu, .ref mp, .ref mi, .ref mk, .ref ms, .int 0, .ref mv, .int 3, .int 0, .int 0, .int 0, .long 0, .int (-1), .int 0, .ref m1w, .ref m2w, .ref m3w, .ref m4w, .int 0, .long 0, .long 0, .long 0])), (mv, .inl (cm9, 200, .inl (upd f_11 (Int32.toNatClampNeg 3) v_14)))] := hD
  generalize ef_15 : upd f_11 (Int32.toNatClampNeg 3) v_14 = f_15 at hP hD
  refine lv_aload_n hx hb dX12_four_23 rfl (lv_at hl 1 rfl) ?_
  refine lv_dup hx hb dX12_four_24 rfl ?_
  refine va_get (D := (dC, dI)) (ci := 12) (v := .int 3) (C := RX12) (T := TX12) (N := 27) hx hb hts (fun _ h0_ => List.mem_cons_of_mem _ (List.mem_append_right _ (List.mem_append_left _ h0_))) hown hK hP 0 rfl rfl 12 (by decide) (hts (.fieldLink RX12 128 "DeadlineShareModel" "taped" "I") (List.mem_cons_of_mem _ (List.mem_append_left _ (List.mem_of_getElem? (i := 1) rfl)))) (fun _ h9 => h9) rfl dX12_four_25 ?_
  refine lv_iconst (v := 1) hx hb dX12_four_28 (by decide) ?_
  refine lv_iadd hx hb dX12_four_29 ?_
  refine k_topi (y := 4) (by decide) ?_
  refine va_put (D := (dC, dI)) (ci := 12) (v := .int 4) (ty := .int) (C := RX12) (T := TX12) (N := 27) hx hb hts (fun _ h0_ => List.mem_cons_of_mem _ (List.mem_append_right _ (List.mem_append_left _ h0_))) tyX12 tyX12_ok nmX12 hown hK hP hD hS 0 rfl rfl 12 (by decide) (hts (.fieldLink RX12 128 "DeadlineShareModel" "taped" "I") (List.mem_cons_of_mem _ (List.mem_append_left _ (List.mem_of_getElem? (i := 1) rfl)))) (fun _ h9 => h9) rfl (by decide +kernel) rfl rfl (Nat.le_of_ble_eq_true rfl) dX12_four_30 (fun H locs hP hD hS => ?_)
  have hP : va_P (dC, dI) vwCl [(h0, .inr (12, [.int 0, .int 0, .ref mr, .ref mt, .ref mw, .ref mu, .ref mp, .ref mi, .ref mk, .ref ms, .int 0, .ref mv, .int 4, .int 0, .int 0, .int 0, .long 0, .int (-1), .int 0, .ref m1w, .ref m2w, .ref m3w, .ref m4w, .int 0, .long 0, .long 0, .long 0])), (mv, .inl (cm9, 200, .inl f_15))] H := hP
  have hD : va_D A [(h0, .inr (12, [.int 0, .int 0, .ref mr, .ref mt, .ref mw, .ref mu, .ref mp, .ref mi, .ref mk, .ref ms, .int 0, .ref mv, .int 4, .int 0, .int 0, .int 0, .long 0, .int (-1), .int 0, .ref m1w, .ref m2w, .ref m3w, .ref m4w, .int 0, .long 0, .long 0, .long 0])), (mv, .inl (cm9, 200, .inl f_15))] := hD
  refine lv_iinc (v := (-8)) (lv' := [(2, .int (-8)), (0, .ref h0), (1, .int vv)]) hx hb dX12_four_33 hl (k := 0) rfl (by decide) (by decide) rfl (fun ls hl => ?_)
  refine lv_goto (tgt := 3) hx hb dX12_four_36 (by decide) ?_
  refine lv_iload_n hx hb dX12_four_3 rfl (lv_at hl 0 rfl) ?_
  refine lv_if_lt (tgt := 39) hx hb dX12_four_4 (by decide) (fun _ => ?_) (fun c => absurd (by decide) c)
  have hP9 := hP.sub (ws' := [(h0, .inr (12, [.int 0, .int 0, .ref mr, .ref mt, .ref mw, .ref mu, .ref mp, .ref mi, .ref mk, .ref ms, .int 0, .ref mv, .int 4, .int 0, .int 0, .int 0, .long 0, .int (-1), .int 0, .ref m1w, .ref m2w, .ref m3w, .ref m4w, .int 0, .long 0, .long 0, .long 0])), (mv, .inl (cm9, 200, .inl f_15))]) [0, 1] rfl
  have hD9 := hD.sub (ws' := [(h0, .inr (12, [.int 0, .int 0, .ref mr, .ref mt, .ref mw, .ref mu, .ref mp, .ref mi, .ref mk, .ref ms, .int 0, .ref mv, .int 4, .int 0, .int 0, .int 0, .long 0, .int (-1), .int 0, .ref m1w, .ref m2w, .ref m3w, .ref m4w, .int 0, .long 0, .long 0, .long 0])), (mv, .inl (cm9, 200, .inl f_15))]) [0, 1] (by decide) rfl
  have hK9 := hK.sub (tys' := [(cm9, .int)]) [0] rfl
  refine W.widen (k := 0) (n := 0) (Nat.le_of_ble_eq_true rfl) (Nat.le_of_ble_eq_true rfl) ?_
  exact W.vret hx hb hr (fun t ht hW => ⟨⟨(), rfl, trivial, f_15, by rw [ht]; exact hP9, va_K.moved hW.alike hK9, hD9⟩, hS.F ht⟩) hS.2.2 dX12_four_39
def ow_c_X12_four_4 : List Cond := [.fieldLink RX12 36 "DeadlineShareModel" "tape" "[I", .fieldLink RX12 128 "DeadlineShareModel" "taped" "I"]
def wq_c_X12_four_4 : List Cond := .code yX12_four cX12_four 3 none :: (ow_c_X12_four_4 ++ (u_ws RX12 TX12 27 ++ ([] : List Cond)))
theorem tb_c_X12_four_4 : ∀ w ∈ wq_c_X12_four_4, q_g w := by
  unfold wq_c_X12_four_4 ow_c_X12_four_4
  exact q_cons tw_445 (q_app (q_cons tw_419 (q_cons tw_444 q_nil)) (q_app tu_X12 q_nil))
set_option maxHeartbeats 4000000 in
set_option maxRecDepth 100000 in
theorem c_X12_four_4 (l : Launch) (dC : Nat → ClassId) (dI : Nat → Nat → Nat) (h0 : Nat) (vv : Int32) (mr : Nat) (mt : Nat) (mw : Nat) (mu : Nat) (mp : Nat) (mi : Nat) (mk : Nat) (ms : Nat) (mv : Nat) (m1w : Nat) (m2w : Nat) (m3w : Nat) (m4w : Nat) (cm9 : ClassId) (fv : Nat → Int32) (sz : Nat) : Met l yX12_four wq_c_X12_four_4 ({ frames := 0, cells := 0, slots := 0, locals := 0 } : Room) (va_Pc [.ref h0, .int vv] (fun U => U.heap.size = sz ∧ va_P (dC, dI) vwCl [(h0, .inr (12, [.int 0, .int 0, .ref mr, .ref mt, .ref mw, .ref mu, .ref mp, .ref mi, .ref mk, .ref ms, .int 0, .ref mv, .int 4, .int 0, .int 0, .int 0, .long 0, .int (-1), .int 0, .ref m1w, .ref m2w, .ref m3w, .ref m4w, .int 0, .long 0, .long 0, .long 0])), (mv, .inl (cm9, 200, .inl fv))] U.heap ∧ va_K (dC, dI) vwCl [(cm9, .int)] U ∧ va_D (fun _ => True) [(h0, .inr (12, [.int 0, .int 0, .ref mr, .ref mt, .ref mw, .ref mu, .ref mp, .ref mi, .ref mk, .ref ms, .int 0, .ref mv, .int 4, .int 0, .int 0, .int 0, .long 0, .int (-1), .int 0, .ref m1w, .ref m2w, .ref m3w, .ref m4w, .int 0, .long 0, .long 0, .long 0])), (mv, .inl (cm9, 200, .inl fv))])) (va_Qv (fun (_ : Unit) => True) (fun (_ : Unit) t => ∃ (f2 : Nat → Int32), va_P (dC, dI) vwCl [(h0, .inr (12, [.int 0, .int 0, .ref mr, .ref mt, .ref mw, .ref mu, .ref mp, .ref mi, .ref mk, .ref ms, .int 0, .ref mv, .int 8, .int 0, .int 0, .int 0, .long 0, .int (-1), .int 0, .ref m1w, .ref m2w, .ref m3w, .ref m4w, .int 0, .long 0, .long 0, .long 0])), (mv, .inl (cm9, 200, .inl f2))] t.heap ∧ va_K (dC, dI) vwCl [(cm9, .int)] t ∧ va_D (va_A [(h0, .inr (12, [.int 0, .int 0, .ref mr, .ref mt, .ref mw, .ref mu, .ref mp, .ref mi, .ref mk, .ref ms, .int 0, .ref mv, .int 4, .int 0, .int 0, .int 0, .long 0, .int (-1), .int 0, .ref m1w, .ref m2w, .ref m3w, .ref m4w, .int 0, .long 0, .long 0, .long 0])), (mv, .inl (cm9, 200, .inl fv))] sz) [(h0, .inr (12, [.int 0, .int 0, .ref mr, .ref mt, .ref mw, .ref mu, .ref mp, .ref mi, .ref mk, .ref ms, .int 0, .ref mv, .int 8, .int 0, .int 0, .int 0, .long 0, .int (-1), .int 0, .ref m1w, .ref m2w, .ref m3w, .ref m4w, .int 0, .long 0, .long 0, .long 0])), (mv, .inl (cm9, 200, .inl f2))]) (va_A [(h0, .inr (12, [.int 0, .int 0, .ref mr, .ref mt, .ref mw, .ref mu, .ref mp, .ref mi, .ref mk, .ref ms, .int 0, .ref mv, .int 4, .int 0, .int 0, .int 0, .long 0, .int (-1), .int 0, .ref m1w, .ref m2w, .ref m3w, .ref m4w, .int 0, .long 0, .long 0, .long 0])), (mv, .inl (cm9, 200, .inl fv))] sz)) 0 0 (va_A [(h0, .inr (12, [.int 0, .int 0, .ref mr, .ref mt, .ref mw, .ref mu, .ref mp, .ref mi, .ref mk, .ref ms, .int 0, .ref mv, .int 4, .int 0, .int 0, .int 0, .long 0, .int (-1), .int 0, .ref m1w, .ref m2w, .ref m3w, .ref m4w, .int 0, .long 0, .long 0, .long 0])), (mv, .inl (cm9, 200, .inl fv))] sz) := by
  refine Met.ofW (cc := cX12_four) (maxL := 3) (ret := none) (by decide) rfl ?_
  intro p e s m args below meth c s₁ B hml hv
  obtain ⟨rfl, hsz, hP, hK, hD0⟩ := hv
  have hx := B.exec
  have hb := B.bytes
  have hr := B.returns
  have hts := atoms_spec (ws := wq_c_X12_four_4) B.pre
  have hown : s.vm.findClass RX12 = some m.cls := findClass_of_methodNamed B.named
  have hlocks := B.notSynchronized
  subst hsz
  have hD := hD0.self (sz := s.heap.size)
  obtain ⟨A, hAe⟩ : ∃ A, A = va_A [(h0, .inr (12, [.int 0, .int 0, .ref mr, .ref mt, .ref mw, .ref mu, .ref mp, .ref mi, .ref mk, .ref ms, .int 0, .ref mv, .int 4, .int 0, .int 0, .int 0, .long 0, .int (-1), .int 0, .ref m1w, .ref m2w, .ref m3w, .ref m4w, .int 0, .long 0, .long 0, .long 0])), (mv, .inl (cm9, 200, .inl fv))] s.heap.size := ⟨_, rfl⟩
  rw [← hAe] at hD ⊢
  have hA : ∀ q : Nat, s.heap.size ≤ q → A q := fun q h => by rw [hAe]; exact Or.inr h
  have hS : va_S A s.heap s.heap [] := va_S.rf
  have hP : va_P (dC, dI) vwCl [(h0, .inr (12, [.int 0, .int 0, .ref mr, .ref mt, .ref mw, .ref mu, .ref mp, .ref mi, .ref mk, .ref ms, .int 0, .ref mv, .int 4, .int 0, .int 0, .int 0, .long 0, .int (-1), .int 0, .ref m1w, .ref m2w, .ref m3w, .ref m4w, .int 0, .long 0, .long 0, .long 0])), (mv, .inl (cm9, 200, .inl fv))] s.heap := hP
  have hl := lv_entry ([.ref h0, .int vv]) (n := 3) (Nat.le_of_ble_eq_true rfl)
  rw [lg_entry_eq]
  generalize (lg_sl ([.ref h0, .int vv]) ++ List.replicate (3 - (lg_sl ([.ref h0, .int vv])).length) Slot.unset).toArray = ls at hl ⊢
  have hl : lv_has ls 3 [(0, .ref h0), (1, .int vv)] := hl
  refine lv_bipush (v := 24) hx hb dX12_four_0 (by decide) ?_
  refine lv_istore_n (lv' := [(2, .int 24), (0, .ref h0), (1, .int vv)]) hx hb dX12_four_2 rfl hl (by decide) rfl (fun ls hl => ?_)
  refine lv_iload_n hx hb dX12_four_3 rfl (lv_at hl 0 rfl) ?_
  refine lv_if_lt (tgt := 39) hx hb dX12_four_4 (by decide) (fun c => absurd c (by decide)) (fun _ => ?_)
  refine lv_aload_n hx hb dX12_four_7 rfl (lv_at hl 1 rfl) ?_
  refine va_get (D := (dC, dI)) (ci := 12) (v := .ref mv) (C := RX12) (T := TX12) (N := 27) hx hb hts (fun _ h0_ => List.mem_cons_of_mem _ (List.mem_append_right _ (List.mem_append_left _ h0_))) hown hK hP 0 rfl rfl 11 (by decide) (hts (.fieldLink RX12 36 "DeadlineShareModel" "tape" "[I") (List.mem_cons_of_mem _ (List.mem_append_left _ (List.mem_of_getElem? (i := 0) rfl)))) (fun _ h9 => h9) rfl dX12_four_8 ?_
  refine lv_aload_n hx hb dX12_four_11 rfl (lv_at hl 1 rfl) ?_
  refine va_get (D := (dC, dI)) (ci := 12) (v := .int 4) (C := RX12) (T := TX12) (N := 27) hx hb hts (fun _ h0_ => List.mem_cons_of_mem _ (List.mem_append_right _ (List.mem_append_left _ h0_))) hown hK hP 0 rfl rfl 12 (by decide) (hts (.fieldLink RX12 128 "DeadlineShareModel" "taped" "I") (List.mem_cons_of_mem _ (List.mem_append_left _ (List.mem_of_getElem? (i := 1) rfl)))) (fun _ h9 => h9) rfl dX12_four_12 ?_
  refine lv_iload_n hx hb dX12_four_15 rfl (lv_at hl 2 rfl) ?_
  refine lv_iload_n hx hb dX12_four_16 rfl (lv_at hl 0 rfl) ?_
  refine lv_ishr hx hb dX12_four_17 ?_
  refine lv_topi (fun v_1 ev_1 => ?_)
  refine lv_sipush (v := 255) hx hb dX12_four_18 (by decide) ?_
  refine lv_iand hx hb dX12_four_21 ?_
  refine lv_topi (fun v_2 ev_2 => ?_)
  refine va_iast hx hb hK hP hD hS 1 0 rfl rfl (by unfold vp_in; decide) dX12_four_22 (fun H locs hP hD hS => ?_)
  have hP : va_P (dC, dI) vwCl [(h0, .inr (12, [.int 0, .int 0, .ref mr, .ref mt, .ref mw, .ref mu, .ref mp, .ref mi, .ref mk, .ref ms, .int 0, .ref mv, .int 4, .int 0, .int 0, .int 0, .long 0, .int (-1), .int 0, .ref m1w, .ref m2w, .ref m3w, .ref m4w, .int 0, .long 0, .long 0, .long 0])), (mv, .inl (cm9, 200, .inl (upd fv (Int32.toNatClampNeg 4) v_2)))] H := hP
  have hD : va_D A [(h0, .inr (12, [.int 0, .int 0, .ref mr, .ref mt, .ref mw, .ref mu, .ref mp, .ref mi, .ref mk, .ref ms, .int 0, .ref mv, .int 4, .int 0, .int 0, .int 0, .long 0, .int (-1), .int 0, .ref m1w, .ref m2w, .ref m3w, .ref m4w, .int 0, .long 0, .long 0, .long 0])), (mv, .inl (cm9, 200, .inl (upd fv (Int32.toNatClampNeg 4) v_2)))] := hD
  generalize ef_3 : upd fv (Int32.toNatClampNeg 4) v_2 = f_3 at hP hD
  refine lv_aload_n hx hb dX12_four_23 rfl (lv_at hl 1 rfl) ?_
  refine lv_dup hx hb dX12_four_24 rfl ?_
  refine va_get (D := (dC, dI)) (ci := 12) (v := .int 4) (C := RX12) (T := TX12) (N := 27) hx hb hts (fun _ h0_ => List.mem_cons_of_mem _ (List.mem_append_right _ (List.mem_append_left _ h0_))) hown hK hP 0 rfl rfl 12 (by decide) (hts (.fieldLink RX12 128 "DeadlineShareModel" "taped" "I") (List.mem_cons_of_mem _ (List.mem_append_left _ (List.mem_of_getElem? (i := 1) rfl)))) (fun _ h9 => h9) rfl dX12_four_25 ?_
  refine lv_iconst (v := 1) hx hb dX12_four_28 (by decide) ?_
  refine lv_iadd hx hb dX12_four_29 ?_
  refine k_topi (y := 5) (by decide) ?_
  refine va_put (D := (dC, dI)) (ci := 12) (v := .int 5) (ty := .int) (C := RX12) (T := TX12) (N := 27) hx hb hts (fun _ h0_ => List.mem_cons_of_mem _ (List.mem_append_right _ (List.mem_append_left _ h0_))) tyX12 tyX12_ok nmX12 hown hK hP hD hS 0 rfl rfl 12 (by decide) (hts (.fieldLink RX12 128 "DeadlineShareModel" "taped" "I") (List.mem_cons_of_mem _ (List.mem_append_left _ (List.mem_of_getElem? (i := 1) rfl)))) (fun _ h9 => h9) rfl (by decide +kernel) rfl rfl (Nat.le_of_ble_eq_true rfl) dX12_four_30 (fun H locs hP hD hS => ?_)
  have hP : va_P (dC, dI) vwCl [(h0, .inr (12, [.int 0, .int 0, .ref mr, .ref mt, .ref mw, .ref mu, .ref mp, .ref mi, .ref mk, .ref ms, .int 0, .ref mv, .int 5, .int 0, .int 0, .int 0, .long 0, .int (-1), .int 0, .ref m1w, .ref m2w, .ref m3w, .ref m4w, .int 0, .long 0, .long 0, .long 0])), (mv, .inl (cm9, 200, .inl f_3))] H := hP
  have hD : va_D A [(h0, .inr (12, [.int 0, .int 0, .ref mr, .ref mt, .ref mw, .ref mu, .ref mp, .ref mi, .ref mk, .ref ms, .int 0, .ref mv, .int 5, .int 0, .int 0, .int 0, .long 0, .int (-1), .int 0, .ref m1w, .ref m2w, .ref m3w, .ref m4w, .int 0, .long 0, .long 0, .long 0])), (mv, .inl (cm9, 200, .inl f_3))] := hD
  refine lv_iinc (v := 16) (lv' := [(2, .int 16), (0, .ref h0), (1, .int vv)]) hx hb dX12_four_33 hl (k := 0) rfl (by decide) (by decide) rfl (fun ls hl => ?_)
  refine lv_goto (tgt := 3) hx hb dX12_four_36 (by decide) ?_
  refine lv_iload_n hx hb dX12_four_3 rfl (lv_at hl 0 rfl) ?_
  refine lv_if_lt (tgt := 39) hx hb dX12_four_4 (by decide) (fun c => absurd c (by decide)) (fun _ => ?_)
  refine lv_aload_n hx hb dX12_four_7 rfl (lv_at hl 1 rfl) ?_
  refine va_get (D := (dC, dI)) (ci := 12) (v := .ref mv) (C := RX12) (T := TX12) (N := 27) hx hb hts (fun _ h0_ => List.mem_cons_of_mem _ (List.mem_append_right _ (List.mem_append_left _ h0_))) hown hK hP 0 rfl rfl 11 (by decide) (hts (.fieldLink RX12 36 "DeadlineShareModel" "tape" "[I") (List.mem_cons_of_mem _ (List.mem_append_left _ (List.mem_of_getElem? (i := 0) rfl)))) (fun _ h9 => h9) rfl dX12_four_8 ?_
  refine lv_aload_n hx hb dX12_four_11 rfl (lv_at hl 1 rfl) ?_
  refine va_get (D := (dC, dI)) (ci := 12) (v := .int 5) (C := RX12) (T := TX12) (N := 27) hx hb hts (fun _ h0_ => List.mem_cons_of_mem _ (List.mem_append_right _ (List.mem_append_left _ h0_))) hown hK hP 0 rfl rfl 12 (by decide) (hts (.fieldLink RX12 128 "DeadlineShareModel" "taped" "I") (List.mem_cons_of_mem _ (List.mem_append_left _ (List.mem_of_getElem? (i := 1) rfl)))) (fun _ h9 => h9) rfl dX12_four_12 ?_
  refine lv_iload_n hx hb dX12_four_15 rfl (lv_at hl 2 rfl) ?_
  refine lv_iload_n hx hb dX12_four_16 rfl (lv_at hl 0 rfl) ?_
  refine lv_ishr hx hb dX12_four_17 ?_
  refine lv_topi (fun v_5 ev_5 => ?_)
  refine lv_sipush (v := 255) hx hb dX12_four_18 (by decide) ?_
  refine lv_iand hx hb dX12_four_21 ?_
  refine lv_topi (fun v_6 ev_6 => ?_)
  refine va_iast hx hb hK hP hD hS 1 0 rfl rfl (by unfold vp_in; decide) dX12_four_22 (fun H locs hP hD hS => ?_)
  have hP : va_P (dC, dI) vwCl [(h0, .inr (12, [.int 0, .int 0, .ref mr, .ref mt, .ref mw, .ref mu, .ref mp, .ref mi, .ref mk, .ref ms, .int 0, .ref mv, .int 5, .int 0, .int 0, .int 0, .long 0, .int (-1), .int 0, .ref m1w, .ref m2w, .ref m3w, .ref m4w, .int 0, .long 0, .long 0, .long 0])), (mv, .inl (cm9, 200, .inl (upd f_3 (Int32.toNatClampNeg 5) v_6)))] H := hP
  have hD : va_D A [(h0, .inr (12, [.int 0, .int 0, .ref mr, .ref mt, .ref mw, .ref mu, .ref mp, .ref mi, .ref mk, .ref ms, .int 0, .ref mv, .int 5, .int 0, .int 0, .int 0, .long 0, .int (-1), .int 0, .ref m1w, .ref m2w, .ref m3w, .ref m4w, .int 0, .long 0, .long 0, .long 0])), (mv, .inl (cm9, 200, .inl (upd f_3 (Int32.toNatClampNeg 5) v_6)))] := hD
  generalize ef_7 : upd f_3 (Int32.toNatClampNeg 5) v_6 = f_7 at hP hD
  refine lv_aload_n hx hb dX12_four_23 rfl (lv_at hl 1 rfl) ?_
  refine lv_dup hx hb dX12_four_24 rfl ?_
  refine va_get (D := (dC, dI)) (ci := 12) (v := .int 5) (C := RX12) (T := TX12) (N := 27) hx hb hts (fun _ h0_ => List.mem_cons_of_mem _ (List.mem_append_right _ (List.mem_append_left _ h0_))) hown hK hP 0 rfl rfl 12 (by decide) (hts (.fieldLink RX12 128 "DeadlineShareModel" "taped" "I") (List.mem_cons_of_mem _ (List.mem_append_left _ (List.mem_of_getElem? (i := 1) rfl)))) (fun _ h9 => h9) rfl dX12_four_25 ?_
  refine lv_iconst (v := 1) hx hb dX12_four_28 (by decide) ?_
  refine lv_iadd hx hb dX12_four_29 ?_
  refine k_topi (y := 6) (by decide) ?_
  refine va_put (D := (dC, dI)) (ci := 12) (v := .int 6) (ty := .int) (C := RX12) (T := TX12) (N := 27) hx hb hts (fun _ h0_ => List.mem_cons_of_mem _ (List.mem_append_right _ (List.mem_append_left _ h0_))) tyX12 tyX12_ok nmX12 hown hK hP hD hS 0 rfl rfl 12 (by decide) (hts (.fieldLink RX12 128 "DeadlineShareModel" "taped" "I") (List.mem_cons_of_mem _ (List.mem_append_left _ (List.mem_of_getElem? (i := 1) rfl)))) (fun _ h9 => h9) rfl (by decide +kernel) rfl rfl (Nat.le_of_ble_eq_true rfl) dX12_four_30 (fun H locs hP hD hS => ?_)
  have hP : va_P (dC, dI) vwCl [(h0, .inr (12, [.int 0, .int 0, .ref mr, .ref mt, .ref mw, .ref mu, .ref mp, .ref mi, .ref mk, .ref ms, .int 0, .ref mv, .int 6, .int 0, .int 0, .int 0, .long 0, .int (-1), .int 0, .ref m1w, .ref m2w, .ref m3w, .ref m4w, .int 0, .long 0, .long 0, .long 0])), (mv, .inl (cm9, 200, .inl f_7))] H := hP
  have hD : va_D A [(h0, .inr (12, [.int 0, .int 0, .ref mr, .ref mt, .ref mw, .ref mu, .ref mp, .ref mi, .ref mk, .ref ms, .int 0, .ref mv, .int 6, .int 0, .int 0, .int 0, .long 0, .int (-1), .int 0, .ref m1w, .ref m2w, .ref m3w, .ref m4w, .int 0, .long 0, .long 0, .long 0])), (mv, .inl (cm9, 200, .inl f_7))] := hD
  refine lv_iinc (v := 8) (lv' := [(2, .int 8), (0, .ref h0), (1, .int vv)]) hx hb dX12_four_33 hl (k := 0) rfl (by decide) (by decide) rfl (fun ls hl => ?_)
  refine lv_goto (tgt := 3) hx hb dX12_four_36 (by decide) ?_
  refine lv_iload_n hx hb dX12_four_3 rfl (lv_at hl 0 rfl) ?_
  refine lv_if_lt (tgt := 39) hx hb dX12_four_4 (by decide) (fun c => absurd c (by decide)) (fun _ => ?_)
  refine lv_aload_n hx hb dX12_four_7 rfl (lv_at hl 1 rfl) ?_
  refine va_get (D := (dC, dI)) (ci := 12) (v := .ref mv) (C := RX12) (T := TX12) (N := 27) hx hb hts (fun _ h0_ => List.mem_cons_of_mem _ (List.mem_append_right _ (List.mem_append_left _ h0_))) hown hK hP 0 rfl rfl 11 (by decide) (hts (.fieldLink RX12 36 "DeadlineShareModel" "tape" "[I") (List.mem_cons_of_mem _ (List.mem_append_left _ (List.mem_of_getElem? (i := 0) rfl)))) (fun _ h9 => h9) rfl dX12_four_8 ?_
  refine lv_aload_n hx hb dX12_four_11 rfl (lv_at hl 1 rfl) ?_
  refine va_get (D := (dC, dI)) (ci := 12) (v := .int 6) (C := RX12) (T := TX12) (N := 27) hx hb hts (fun _ h0_ => List.mem_cons_of_mem _ (List.mem_append_right _ (List.mem_append_left _ h0_))) hown hK hP 0 rfl rfl 12 (by decide) (hts (.fieldLink RX12 128 "DeadlineShareModel" "taped" "I") (List.mem_cons_of_mem _ (List.mem_append_left _ (List.mem_of_getElem? (i := 1) rfl)))) (fun _ h9 => h9) rfl dX12_four_12 ?_
  refine lv_iload_n hx hb dX12_four_15 rfl (lv_at hl 2 rfl) ?_
  refine lv_iload_n hx hb dX12_four_16 rfl (lv_at hl 0 rfl) ?_
  refine lv_ishr hx hb dX12_four_17 ?_
  refine lv_topi (fun v_9 ev_9 => ?_)
  refine lv_sipush (v := 255) hx hb dX12_four_18 (by decide) ?_
  refine lv_iand hx hb dX12_four_21 ?_
  refine lv_topi (fun v_10 ev_10 => ?_)
  refine va_iast hx hb hK hP hD hS 1 0 rfl rfl (by unfold vp_in; decide) dX12_four_22 (fun H locs hP hD hS => ?_)
  have hP : va_P (dC, dI) vwCl [(h0, .inr (12, [.int 0, .int 0, .ref mr, .ref mt, .ref mw, .ref mu, .ref mp, .ref mi, .ref mk, .ref ms, .int 0, .ref mv, .int 6, .int 0, .int 0, .int 0, .long 0, .int (-1), .int 0, .ref m1w, .ref m2w, .ref m3w, .ref m4w, .int 0, .long 0, .long 0, .long 0])), (mv, .inl (cm9, 200, .inl (upd f_7 (Int32.toNatClampNeg 6) v_10)))] H := hP
  have hD : va_D A [(h0, .inr (12, [.int 0, .int 0, .ref mr, .ref mt, .ref mw, .ref mu, .ref mp, .ref mi, .ref mk, .ref ms, .int 0, .ref mv, .int 6, .int 0, .int 0, .int 0, .long 0, .int (-1), .int 0, .ref m1w, .ref m2w, .ref m3w, .ref m4w, .int 0, .long 0, .long 0, .long 0])), (mv, .inl (cm9, 200, .inl (upd f_7 (Int32.toNatClampNeg 6) v_10)))] := hD
  generalize ef_11 : upd f_7 (Int32.toNatClampNeg 6) v_10 = f_11 at hP hD
  refine lv_aload_n hx hb dX12_four_23 rfl (lv_at hl 1 rfl) ?_
  refine lv_dup hx hb dX12_four_24 rfl ?_
  refine va_get (D := (dC, dI)) (ci := 12) (v := .int 6) (C := RX12) (T := TX12) (N := 27) hx hb hts (fun _ h0_ => List.mem_cons_of_mem _ (List.mem_append_right _ (List.mem_append_left _ h0_))) hown hK hP 0 rfl rfl 12 (by decide) (hts (.fieldLink RX12 128 "DeadlineShareModel" "taped" "I") (List.mem_cons_of_mem _ (List.mem_append_left _ (List.mem_of_getElem? (i := 1) rfl)))) (fun _ h9 => h9) rfl dX12_four_25 ?_
  refine lv_iconst (v := 1) hx hb dX12_four_28 (by decide) ?_
  refine lv_iadd hx hb dX12_four_29 ?_
  refine k_topi (y := 7) (by decide) ?_
  refine va_put (D := (dC, dI)) (ci := 12) (v := .int 7) (ty := .int) (C := RX12) (T := TX12) (N := 27) hx hb hts (fun _ h0_ => List.mem_cons_of_mem _ (List.mem_append_right _ (List.mem_append_left _ h0_))) tyX12 tyX12_ok nmX12 hown hK hP hD hS 0 rfl rfl 12 (by decide) (hts (.fieldLink RX12 128 "DeadlineShareModel" "taped" "I") (List.mem_cons_of_mem _ (List.mem_append_left _ (List.mem_of_getElem? (i := 1) rfl)))) (fun _ h9 => h9) rfl (by decide +kernel) rfl rfl (Nat.le_of_ble_eq_true rfl) dX12_four_30 (fun H locs hP hD hS => ?_)
  have hP : va_P (dC, dI) vwCl [(h0, .inr (12, [.int 0, .int 0, .ref mr, .ref mt, .ref mw, .ref mu, .ref mp, .ref mi, .ref mk, .ref ms, .int 0, .ref mv, .int 7, .int 0, .int 0, .int 0, .long 0, .int (-1), .int 0, .ref m1w, .ref m2w, .ref m3w, .ref m4w, .int 0, .long 0, .long 0, .long 0])), (mv, .inl (cm9, 200, .inl f_11))] H := hP
  have hD : va_D A [(h0, .inr (12, [.int 0, .int 0, .ref mr, .ref mt, .ref mw, .ref mu, .ref mp, .ref mi, .ref mk, .ref ms, .int 0, .ref mv, .int 7, .int 0, .int 0, .int 0, .long 0, .int (-1), .int 0, .ref m1w, .ref m2w, .ref m3w, .ref m4w, .int 0, .long 0, .long 0, .long 0])), (mv, .inl (cm9, 200, .inl f_11))] := hD
  refine lv_iinc (v := 0) (lv' := [(2, .int 0), (0, .ref h0), (1, .int vv)]) hx hb dX12_four_33 hl (k := 0) rfl (by decide) (by decide) rfl (fun ls hl => ?_)
  refine lv_goto (tgt := 3) hx hb dX12_four_36 (by decide) ?_
  refine lv_iload_n hx hb dX12_four_3 rfl (lv_at hl 0 rfl) ?_
  refine lv_if_lt (tgt := 39) hx hb dX12_four_4 (by decide) (fun c => absurd c (by decide)) (fun _ => ?_)
  refine lv_aload_n hx hb dX12_four_7 rfl (lv_at hl 1 rfl) ?_
  refine va_get (D := (dC, dI)) (ci := 12) (v := .ref mv) (C := RX12) (T := TX12) (N := 27) hx hb hts (fun _ h0_ => List.mem_cons_of_mem _ (List.mem_append_right _ (List.mem_append_left _ h0_))) hown hK hP 0 rfl rfl 11 (by decide) (hts (.fieldLink RX12 36 "DeadlineShareModel" "tape" "[I") (List.mem_cons_of_mem _ (List.mem_append_left _ (List.mem_of_getElem? (i := 0) rfl)))) (fun _ h9 => h9) rfl dX12_four_8 ?_
  refine lv_aload_n hx hb dX12_four_11 rfl (lv_at hl 1 rfl) ?_
  refine va_get (D := (dC, dI)) (ci := 12) (v := .int 7) (C := RX12) (T := TX12) (N := 27) hx hb hts (fun _ h0_ => List.mem_cons_of_mem _ (List.mem_append_right _ (List.mem_append_left _ h0_))) hown hK hP 0 rfl rfl 12 (by decide) (hts (.fieldLink RX12 128 "DeadlineShareModel" "taped" "I") (List.mem_cons_of_mem _ (List.mem_append_left _ (List.mem_of_getElem? (i := 1) rfl)))) (fun _ h9 => h9) rfl dX12_four_12 ?_
  refine lv_iload_n hx hb dX12_four_15 rfl (lv_at hl 2 rfl) ?_
  refine lv_iload_n hx hb dX12_four_16 rfl (lv_at hl 0 rfl) ?_
  refine lv_ishr hx hb dX12_four_17 ?_
  refine lv_topi (fun v_13 ev_13 => ?_)
  refine lv_sipush (v := 255) hx hb dX12_four_18 (by decide) ?_
  refine lv_iand hx hb dX12_four_21 ?_
  refine lv_topi (fun v_14 ev_14 => ?_)
  refine va_iast hx hb hK hP hD hS 1 0 rfl rfl (by unfold vp_in; decide) dX12_four_22 (fun H locs hP hD hS => ?_)
  have hP : va_P (dC, dI) vwCl [(h0, .inr (12, [.int 0, .int 0, .ref mr, .ref mt, .ref mw, .ref mu, .ref mp, .ref mi, .ref mk, .ref ms, .int 0, .ref mv, .int 7, .int 0, .int 0, .int 0, .long 0, .int (-1), .int 0, .ref m1w, .ref m2w, .ref m3w, .ref m4w, .int 0, .long 0, .long 0, .long 0])), (mv, .inl (cm9, 200, .inl (upd f_11 (Int32.toNatClampNeg 7) v_14)))] H := hP
  have hD : va_D A [(h0, .inr (12, [.int 0, .int 0, .ref mr, .ref mt, .ref mw, .ref mu, .ref mp, .ref mi, .ref mk, .ref ms, .int 0, .ref mv, .int 7, .int 0, .int 0, .int 0, .long 0, .int (-1), .int 0, .ref m1w, .ref m2w, .ref m3w, .ref m4w, .int 0, .long 0, .long 0, .long 0])), (mv, .inl (cm9, 200, .inl (upd f_11 (Int32.toNatClampNeg 7) v_14)))] := hD
  generalize ef_15 : upd f_11 (Int32.toNatClampNeg 7) v_14 = f_15 at hP hD
  refine lv_aload_n hx hb dX12_four_23 rfl (lv_at hl 1 rfl) ?_
  refine lv_dup hx hb dX12_four_24 rfl ?_
  refine va_get (D := (dC, dI)) (ci := 12) (v := .int 7) (C := RX12) (T := TX12) (N := 27) hx hb hts (fun _ h0_ => List.mem_cons_of_mem _ (List.mem_append_right _ (List.mem_append_left _ h0_))) hown hK hP 0 rfl rfl 12 (by decide) (hts (.fieldLink RX12 128 "DeadlineShareModel" "taped" "I") (List.mem_cons_of_mem _ (List.mem_append_left _ (List.mem_of_getElem? (i := 1) rfl)))) (fun _ h9 => h9) rfl dX12_four_25 ?_
  refine lv_iconst (v := 1) hx hb dX12_four_28 (by decide) ?_
  refine lv_iadd hx hb dX12_four_29 ?_
  refine k_topi (y := 8) (by decide) ?_
  refine va_put (D := (dC, dI)) (ci := 12) (v := .int 8) (ty := .int) (C := RX12) (T := TX12) (N := 27) hx hb hts (fun _ h0_ => List.mem_cons_of_mem _ (List.mem_append_right _ (List.mem_append_left _ h0_))) tyX12 tyX12_ok nmX12 hown hK hP hD hS 0 rfl rfl 12 (by decide) (hts (.fieldLink RX12 128 "DeadlineShareModel" "taped" "I") (List.mem_cons_of_mem _ (List.mem_append_left _ (List.mem_of_getElem? (i := 1) rfl)))) (fun _ h9 => h9) rfl (by decide +kernel) rfl rfl (Nat.le_of_ble_eq_true rfl) dX12_four_30 (fun H locs hP hD hS => ?_)
  have hP : va_P (dC, dI) vwCl [(h0, .inr (12, [.int 0, .int 0, .ref mr, .ref mt, .ref mw, .ref mu, .ref mp, .ref mi, .ref mk, .ref ms, .int 0, .ref mv, .int 8, .int 0, .int 0, .int 0, .long 0, .int (-1), .int 0, .ref m1w, .ref m2w, .ref m3w, .ref m4w, .int 0, .long 0, .long 0, .long 0])), (mv, .inl (cm9, 200, .inl f_15))] H := hP
  have hD : va_D A [(h0, .inr (12, [.int 0, .int 0, .ref mr, .ref mt, .ref mw, .ref mu, .ref mp, .ref mi, .ref mk, .ref ms, .int 0, .ref mv, .int 8, .int 0, .int 0, .int 0, .long 0, .int (-1), .int 0, .ref m1w, .ref m2w, .ref m3w, .ref m4w, .int 0, .long 0, .long 0, .long 0])), (mv, .inl (cm9, 200, .inl f_15))] := hD
  refine lv_iinc (v := (-8)) (lv' := [(2, .int (-8)), (0, .ref h0), (1, .int vv)]) hx hb dX12_four_33 hl (k := 0) rfl (by decide) (by decide) rfl (fun ls hl => ?_)
  refine lv_goto (tgt := 3) hx hb dX12_four_36 (by decide) ?_
  refine lv_iload_n hx hb dX12_four_3 rfl (lv_at hl 0 rfl) ?_
  refine lv_if_lt (tgt := 39) hx hb dX12_four_4 (by decide) (fun _ => ?_) (fun c => absurd (by decide) c)
  have hP9 := hP.sub (ws' := [(h0, .inr (12, [.int 0, .int 0, .ref mr, .ref mt, .ref mw, .ref mu, .ref mp, .ref mi, .ref mk, .ref ms, .int 0, .ref mv, .int 8, .int 0, .int 0, .int 0, .long 0, .int (-1), .int 0, .ref m1w, .ref m2w, .ref m3w, .ref m4w, .int 0, .long 0, .long 0, .long 0])), (mv, .inl (cm9, 200, .inl f_15))]) [0, 1] rfl
  have hD9 := hD.sub (ws' := [(h0, .inr (12, [.int 0, .int 0, .ref mr, .ref mt, .ref mw, .ref mu, .ref mp, .ref mi, .ref mk, .ref ms, .int 0, .ref mv, .int 8, .int 0, .int 0, .int 0, .long 0, .int (-1), .int 0, .ref m1w, .ref m2w, .ref m3w, .ref m4w, .int 0, .long 0, .long 0, .long 0])), (mv, .inl (cm9, 200, .inl f_15))]) [0, 1] (by decide) rfl
  have hK9 := hK.sub (tys' := [(cm9, .int)]) [0] rfl
  refine W.widen (k := 0) (n := 0) (Nat.le_of_ble_eq_true rfl) (Nat.le_of_ble_eq_true rfl) ?_
  exact W.vret hx hb hr (fun t ht hW => ⟨⟨(), rfl, trivial, f_15, by rw [ht]; exact hP9, va_K.moved hW.alike hK9, hD9⟩, hS.F ht⟩) hS.2.2 dX12_four_39
def ow_c_X12_four_8 : List Cond := [.fieldLink RX12 36 "DeadlineShareModel" "tape" "[I", .fieldLink RX12 128 "DeadlineShareModel" "taped" "I"]
def wq_c_X12_four_8 : List Cond := .code yX12_four cX12_four 3 none :: (ow_c_X12_four_8 ++ (u_ws RX12 TX12 27 ++ ([] : List Cond)))
theorem tb_c_X12_four_8 : ∀ w ∈ wq_c_X12_four_8, q_g w := by
  unfold wq_c_X12_four_8 ow_c_X12_four_8
  exact q_cons tw_445 (q_app (q_cons tw_419 (q_cons tw_444 q_nil)) (q_app tu_X12 q_nil))
set_option maxHeartbeats 4000000 in
set_option maxRecDepth 100000 in
theorem c_X12_four_8 (l : Launch) (dC : Nat → ClassId) (dI : Nat → Nat → Nat) (h0 : Nat) (vv : Int32) (mr : Nat) (mt : Nat) (mw : Nat) (mu : Nat) (mp : Nat) (mi : Nat) (mk : Nat) (ms : Nat) (mv : Nat) (m1w : Nat) (m2w : Nat) (m3w : Nat) (m4w : Nat) (cm9 : ClassId) (fv : Nat → Int32) (sz : Nat) : Met l yX12_four wq_c_X12_four_8 ({ frames := 0, cells := 0, slots := 0, locals := 0 } : Room) (va_Pc [.ref h0, .int vv] (fun U => U.heap.size = sz ∧ va_P (dC, dI) vwCl [(h0, .inr (12, [.int 0, .int 0, .ref mr, .ref mt, .ref mw, .ref mu, .ref mp, .ref mi, .ref mk, .ref ms, .int 0, .ref mv, .int 8, .int 0, .int 0, .int 0, .long 0, .int (-1), .int 0, .ref m1w, .ref m2w, .ref m3w, .ref m4w, .int 0, .long 0, .long 0, .long 0])), (mv, .inl (cm9, 200, .inl fv))] U.heap ∧ va_K (dC, dI) vwCl [(cm9, .int)] U ∧ va_D (fun _ => True) [(h0, .inr (12, [.int 0, .int 0, .ref mr, .ref mt, .ref mw, .ref mu, .ref mp, .ref mi, .ref mk, .ref ms, .int 0, .ref mv, .int 8, .int 0, .int 0, .int 0, .long 0, .int (-1), .int 0, .ref m1w, .ref m2w, .ref m3w, .ref m4w, .int 0, .long 0, .long 0, .long 0])), (mv, .inl (cm9, 200, .inl fv))])) (va_Qv (fun (_ : Unit) => True) (fun (_ : Unit) t => ∃ (f2 : Nat → Int32), va_P (dC, dI) vwCl [(h0, .inr (12, [.int 0, .int 0, .ref mr, .ref mt, .ref mw, .ref mu, .ref mp, .ref mi, .ref mk, .ref ms, .int 0, .ref mv, .int 12, .int 0, .int 0, .int 0, .long 0, .int (-1), .int 0, .ref m1w, .ref m2w, .ref m3w, .ref m4w, .int 0, .long 0, .long 0, .long 0])), (mv, .inl (cm9, 200, .inl f2))] t.heap ∧ va_K (dC, dI) vwCl [(cm9, .int)] t ∧ va_D (va_A [(h0, .inr (12, [.int 0, .int 0, .ref mr, .ref mt, .ref mw, .ref mu, .ref mp, .ref mi, .ref mk, .ref ms, .int 0, .ref mv, .int 8, .int 0, .int 0, .int 0, .long 0, .int (-1), .int 0, .ref m1w, .ref m2w, .ref m3w, .ref m4w, .int 0, .long 0, .long 0, .long 0])), (mv, .inl (cm9, 200, .inl fv))] sz) [(h0, .inr (12, [.int 0, .int 0, .ref mr, .ref mt, .ref mw, .ref mu, .ref mp, .ref mi, .ref mk, .ref ms, .int 0, .ref mv, .int 12, .int 0, .int 0, .int 0, .long 0, .int (-1), .int 0, .ref m1w, .ref m2w, .ref m3w, .ref m4w, .int 0, .long 0, .long 0, .long 0])), (mv, .inl (cm9, 200, .inl f2))]) (va_A [(h0, .inr (12, [.int 0, .int 0, .ref mr, .ref mt, .ref mw, .ref mu, .ref mp, .ref mi, .ref mk, .ref ms, .int 0, .ref mv, .int 8, .int 0, .int 0, .int 0, .long 0, .int (-1), .int 0, .ref m1w, .ref m2w, .ref m3w, .ref m4w, .int 0, .long 0, .long 0, .long 0])), (mv, .inl (cm9, 200, .inl fv))] sz)) 0 0 (va_A [(h0, .inr (12, [.int 0, .int 0, .ref mr, .ref mt, .ref mw, .ref mu, .ref mp, .ref mi, .ref mk, .ref ms, .int 0, .ref mv, .int 8, .int 0, .int 0, .int 0, .long 0, .int (-1), .int 0, .ref m1w, .ref m2w, .ref m3w, .ref m4w, .int 0, .long 0, .long 0, .long 0])), (mv, .inl (cm9, 200, .inl fv))] sz) := by
  refine Met.ofW (cc := cX12_four) (maxL := 3) (ret := none) (by decide) rfl ?_
  intro p e s m args below meth c s₁ B hml hv
  obtain ⟨rfl, hsz, hP, hK, hD0⟩ := hv
  have hx := B.exec
  have hb := B.bytes
  have hr := B.returns
  have hts := atoms_spec (ws := wq_c_X12_four_8) B.pre
  have hown : s.vm.findClass RX12 = some m.cls := findClass_of_methodNamed B.named
  have hlocks := B.notSynchronized
  subst hsz
  have hD := hD0.self (sz := s.heap.size)
  obtain ⟨A, hAe⟩ : ∃ A, A = va_A [(h0, .inr (12, [.int 0, .int 0, .ref mr, .ref mt, .ref mw, .ref mu, .ref mp, .ref mi, .ref mk, .ref ms, .int 0, .ref mv, .int 8, .int 0, .int 0, .int 0, .long 0, .int (-1), .int 0, .ref m1w, .ref m2w, .ref m3w, .ref m4w, .int 0, .long 0, .long 0, .long 0])), (mv, .inl (cm9, 200, .inl fv))] s.heap.size := ⟨_, rfl⟩
  rw [← hAe] at hD ⊢
  have hA : ∀ q : Nat, s.heap.size ≤ q → A q := fun q h => by rw [hAe]; exact Or.inr h
  have hS : va_S A s.heap s.heap [] := va_S.rf
  have hP : va_P (dC, dI) vwCl [(h0, .inr (12, [.int 0, .int 0, .ref mr, .ref mt, .ref mw, .ref mu, .ref mp, .ref mi, .ref mk, .ref ms, .int 0, .ref mv, .int 8, .int 0, .int 0, .int 0, .long 0, .int (-1), .int 0, .ref m1w, .ref m2w, .ref m3w, .ref m4w, .int 0, .long 0, .long 0, .long 0])), (mv, .inl (cm9, 200, .inl fv))] s.heap := hP
  have hl := lv_entry ([.ref h0, .int vv]) (n := 3) (Nat.le_of_ble_eq_true rfl)
  rw [lg_entry_eq]
  generalize (lg_sl ([.ref h0, .int vv]) ++ List.replicate (3 - (lg_sl ([.ref h0, .int vv])).length) Slot.unset).toArray = ls at hl ⊢
  have hl : lv_has ls 3 [(0, .ref h0), (1, .int vv)] := hl
  refine lv_bipush (v := 24) hx hb dX12_four_0 (by decide) ?_
  refine lv_istore_n (lv' := [(2, .int 24), (0, .ref h0), (1, .int vv)]) hx hb dX12_four_2 rfl hl (by decide) rfl (fun ls hl => ?_)
  refine lv_iload_n hx hb dX12_four_3 rfl (lv_at hl 0 rfl) ?_
  refine lv_if_lt (tgt := 39) hx hb dX12_four_4 (by decide) (fun c => absurd c (by decide)) (fun _ => ?_)
  refine lv_aload_n hx hb dX12_four_7 rfl (lv_at hl 1 rfl) ?_
  refine va_get (D := (dC, dI)) (ci := 12) (v := .ref mv) (C := RX12) (T := TX12) (N := 27) hx hb hts (fun _ h0_ => List.mem_cons_of_mem _ (List.mem_append_right _ (List.mem_append_left _ h0_))) hown hK hP 0 rfl rfl 11 (by decide) (hts (.fieldLink RX12 36 "DeadlineShareModel" "tape" "[I") (List.mem_cons_of_mem _ (List.mem_append_left _ (List.mem_of_getElem? (i := 0) rfl)))) (fun _ h9 => h9) rfl dX12_four_8 ?_
  refine lv_aload_n hx hb dX12_four_11 rfl (lv_at hl 1 rfl) ?_
  refine va_get (D := (dC, dI)) (ci := 12) (v := .int 8) (C := RX12) (T := TX12) (N := 27) hx hb hts (fun _ h0_ => List.mem_cons_of_mem _ (List.mem_append_right _ (List.mem_append_left _ h0_))) hown hK hP 0 rfl rfl 12 (by decide) (hts (.fieldLink RX12 128 "DeadlineShareModel" "taped" "I") (List.mem_cons_of_mem _ (List.mem_append_left _ (List.mem_of_getElem? (i := 1) rfl)))) (fun _ h9 => h9) rfl dX12_four_12 ?_
  refine lv_iload_n hx hb dX12_four_15 rfl (lv_at hl 2 rfl) ?_
  refine lv_iload_n hx hb dX12_four_16 rfl (lv_at hl 0 rfl) ?_
  refine lv_ishr hx hb dX12_four_17 ?_
  refine lv_topi (fun v_1 ev_1 => ?_)
  refine lv_sipush (v := 255) hx hb dX12_four_18 (by decide) ?_
  refine lv_iand hx hb dX12_four_21 ?_
  refine lv_topi (fun v_2 ev_2 => ?_)
  refine va_iast hx hb hK hP hD hS 1 0 rfl rfl (by unfold vp_in; decide) dX12_four_22 (fun H locs hP hD hS => ?_)
  have hP : va_P (dC, dI) vwCl [(h0, .inr (12, [.int 0, .int 0, .ref mr, .ref mt, .ref mw, .ref mu, .ref mp, .ref mi, .ref mk, .ref ms, .int 0, .ref mv, .int 8, .int 0, .int 0, .int 0, .long 0, .int (-1), .int 0, .ref m1w, .ref m2w, .ref m3w, .ref m4w, .int 0, .long 0, .long 0, .long 0])), (mv, .inl (cm9, 200, .inl (upd fv (Int32.toNatClampNeg 8) v_2)))] H := hP
  have hD : va_D A [(h0, .inr (12, [.int 0, .int 0, .ref mr, .ref mt, .ref mw, .ref mu, .ref mp, .ref mi, .ref mk, .ref ms, .int 0, .ref mv, .int 8, .int 0, .int 0, .int 0, .long 0, .int (-1), .int 0, .ref m1w, .ref m2w, .ref m3w, .ref m4w, .int 0, .long 0, .long 0, .long 0])), (mv, .inl (cm9, 200, .inl (upd fv (Int32.toNatClampNeg 8) v_2)))] := hD
  generalize ef_3 : upd fv (Int32.toNatClampNeg 8) v_2 = f_3 at hP hD
  refine lv_aload_n hx hb dX12_four_23 rfl (lv_at hl 1 rfl) ?_
  refine lv_dup hx hb dX12_four_24 rfl ?_
  refine va_get (D := (dC, dI)) (ci := 12) (v := .int 8) (C := RX12) (T := TX12) (N := 27) hx hb hts (fun _ h0_ => List.mem_cons_of_mem _ (List.mem_append_right _ (List.mem_append_left _ h0_))) hown hK hP 0 rfl rfl 12 (by decide) (hts (.fieldLink RX12 128 "DeadlineShareModel" "taped" "I") (List.mem_cons_of_mem _ (List.mem_append_left _ (List.mem_of_getElem? (i := 1) rfl)))) (fun _ h9 => h9) rfl dX12_four_25 ?_
  refine lv_iconst (v := 1) hx hb dX12_four_28 (by decide) ?_
  refine lv_iadd hx hb dX12_four_29 ?_
  refine k_topi (y := 9) (by decide) ?_
  refine va_put (D := (dC, dI)) (ci := 12) (v := .int 9) (ty := .int) (C := RX12) (T := TX12) (N := 27) hx hb hts (fun _ h0_ => List.mem_cons_of_mem _ (List.mem_append_right _ (List.mem_append_left _ h0_))) tyX12 tyX12_ok nmX12 hown hK hP hD hS 0 rfl rfl 12 (by decide) (hts (.fieldLink RX12 128 "DeadlineShareModel" "taped" "I") (List.mem_cons_of_mem _ (List.mem_append_left _ (List.mem_of_getElem? (i := 1) rfl)))) (fun _ h9 => h9) rfl (by decide +kernel) rfl rfl (Nat.le_of_ble_eq_true rfl) dX12_four_30 (fun H locs hP hD hS => ?_)
  have hP : va_P (dC, dI) vwCl [(h0, .inr (12, [.int 0, .int 0, .ref mr, .ref mt, .ref mw, .ref mu, .ref mp, .ref mi, .ref mk, .ref ms, .int 0, .ref mv, .int 9, .int 0, .int 0, .int 0, .long 0, .int (-1), .int 0, .ref m1w, .ref m2w, .ref m3w, .ref m4w, .int 0, .long 0, .long 0, .long 0])), (mv, .inl (cm9, 200, .inl f_3))] H := hP
  have hD : va_D A [(h0, .inr (12, [.int 0, .int 0, .ref mr, .ref mt, .ref mw, .ref mu, .ref mp, .ref mi, .ref mk, .ref ms, .int 0, .ref mv, .int 9, .int 0, .int 0, .int 0, .long 0, .int (-1), .int 0, .ref m1w, .ref m2w, .ref m3w, .ref m4w, .int 0, .long 0, .long 0, .long 0])), (mv, .inl (cm9, 200, .inl f_3))] := hD
  refine lv_iinc (v := 16) (lv' := [(2, .int 16), (0, .ref h0), (1, .int vv)]) hx hb dX12_four_33 hl (k := 0) rfl (by decide) (by decide) rfl (fun ls hl => ?_)
  refine lv_goto (tgt := 3) hx hb dX12_four_36 (by decide) ?_
  refine lv_iload_n hx hb dX12_four_3 rfl (lv_at hl 0 rfl) ?_
  refine lv_if_lt (tgt := 39) hx hb dX12_four_4 (by decide) (fun c => absurd c (by decide)) (fun _ => ?_)
  refine lv_aload_n hx hb dX12_four_7 rfl (lv_at hl 1 rfl) ?_
  refine va_get (D := (dC, dI)) (ci := 12) (v := .ref mv) (C := RX12) (T := TX12) (N := 27) hx hb hts (fun _ h0_ => List.mem_cons_of_mem _ (List.mem_append_right _ (List.mem_append_left _ h0_))) hown hK hP 0 rfl rfl 11 (by decide) (hts (.fieldLink RX12 36 "DeadlineShareModel" "tape" "[I") (List.mem_cons_of_mem _ (List.mem_append_left _ (List.mem_of_getElem? (i := 0) rfl)))) (fun _ h9 => h9) rfl dX12_four_8 ?_
  refine lv_aload_n hx hb dX12_four_11 rfl (lv_at hl 1 rfl) ?_
  refine va_get (D := (dC, dI)) (ci := 12) (v := .int 9) (C := RX12) (T := TX12) (N := 27) hx hb hts (fun _ h0_ => List.mem_cons_of_mem _ (List.mem_append_right _ (List.mem_append_left _ h0_))) hown hK hP 0 rfl rfl 12 (by decide) (hts (.fieldLink RX12 128 "DeadlineShareModel" "taped" "I") (List.mem_cons_of_mem _ (List.mem_append_left _ (List.mem_of_getElem? (i := 1) rfl)))) (fun _ h9 => h9) rfl dX12_four_12 ?_
  refine lv_iload_n hx hb dX12_four_15 rfl (lv_at hl 2 rfl) ?_
  refine lv_iload_n hx hb dX12_four_16 rfl (lv_at hl 0 rfl) ?_
  refine lv_ishr hx hb dX12_four_17 ?_
  refine lv_topi (fun v_5 ev_5 => ?_)
  refine lv_sipush (v := 255) hx hb dX12_four_18 (by decide) ?_
  refine lv_iand hx hb dX12_four_21 ?_
  refine lv_topi (fun v_6 ev_6 => ?_)
  refine va_iast hx hb hK hP hD hS 1 0 rfl rfl (by unfold vp_in; decide) dX12_four_22 (fun H locs hP hD hS => ?_)
  have hP : va_P (dC, dI) vwCl [(h0, .inr (12, [.int 0, .int 0, .ref mr, .ref mt, .ref mw, .ref mu, .ref mp, .ref mi, .ref mk, .ref ms, .int 0, .ref mv, .int 9, .int 0, .int 0, .int 0, .long 0, .int (-1), .int 0, .ref m1w, .ref m2w, .ref m3w, .ref m4w, .int 0, .long 0, .long 0, .long 0])), (mv, .inl (cm9, 200, .inl (upd f_3 (Int32.toNatClampNeg 9) v_6)))] H := hP
  have hD : va_D A [(h0, .inr (12, [.int 0, .int 0, .ref mr, .ref mt, .ref mw, .ref mu, .ref mp, .ref mi, .ref mk, .ref ms, .int 0, .ref mv, .int 9, .int 0, .int 0, .int 0, .long 0, .int (-1), .int 0, .ref m1w, .ref m2w, .ref m3w, .ref m4w, .int 0, .long 0, .long 0, .long 0])), (mv, .inl (cm9, 200, .inl (upd f_3 (Int32.toNatClampNeg 9) v_6)))] := hD
  generalize ef_7 : upd f_3 (Int32.toNatClampNeg 9) v_6 = f_7 at hP hD
  refine lv_aload_n hx hb dX12_four_23 rfl (lv_at hl 1 rfl) ?_
  refine lv_dup hx hb dX12_four_24 rfl ?_
  refine va_get (D := (dC, dI)) (ci := 12) (v := .int 9) (C := RX12) (T := TX12) (N := 27) hx hb hts (fun _ h0_ => List.mem_cons_of_mem _ (List.mem_append_right _ (List.mem_append_left _ h0_))) hown hK hP 0 rfl rfl 12 (by decide) (hts (.fieldLink RX12 128 "DeadlineShareModel" "taped" "I") (List.mem_cons_of_mem _ (List.mem_append_left _ (List.mem_of_getElem? (i := 1) rfl)))) (fun _ h9 => h9) rfl dX12_four_25 ?_
  refine lv_iconst (v := 1) hx hb dX12_four_28 (by decide) ?_
  refine lv_iadd hx hb dX12_four_29 ?_
  refine k_topi (y := 10) (by decide) ?_
  refine va_put (D := (dC, dI)) (ci := 12) (v := .int 10) (ty := .int) (C := RX12) (T := TX12) (N := 27) hx hb hts (fun _ h0_ => List.mem_cons_of_mem _ (List.mem_append_right _ (List.mem_append_left _ h0_))) tyX12 tyX12_ok nmX12 hown hK hP hD hS 0 rfl rfl 12 (by decide) (hts (.fieldLink RX12 128 "DeadlineShareModel" "taped" "I") (List.mem_cons_of_mem _ (List.mem_append_left _ (List.mem_of_getElem? (i := 1) rfl)))) (fun _ h9 => h9) rfl (by decide +kernel) rfl rfl (Nat.le_of_ble_eq_true rfl) dX12_four_30 (fun H locs hP hD hS => ?_)
  have hP : va_P (dC, dI) vwCl [(h0, .inr (12, [.int 0, .int 0, .ref mr, .ref mt, .ref mw, .ref mu, .ref mp, .ref mi, .ref mk, .ref ms, .int 0, .ref mv, .int 10, .int 0, .int 0, .int 0, .long 0, .int (-1), .int 0, .ref m1w, .ref m2w, .ref m3w, .ref m4w, .int 0, .long 0, .long 0, .long 0])), (mv, .inl (cm9, 200, .inl f_7))] H := hP
  have hD : va_D A [(h0, .inr (12, [.int 0, .int 0, .ref mr, .ref mt, .ref mw, .ref mu, .ref mp, .ref mi, .ref mk, .ref ms, .int 0, .ref mv, .int 10, .int 0, .int 0, .int 0, .long 0, .int (-1), .int 0, .ref m1w, .ref m2w, .ref m3w, .ref m4w, .int 0, .long 0, .long 0, .long 0])), (mv, .inl (cm9, 200, .inl f_7))] := hD
  refine lv_iinc (v := 8) (lv' := [(2, .int 8), (0, .ref h0), (1, .int vv)]) hx hb dX12_four_33 hl (k := 0) rfl (by decide) (by decide) rfl (fun ls hl => ?_)
  refine lv_goto (tgt := 3) hx hb dX12_four_36 (by decide) ?_
  refine lv_iload_n hx hb dX12_four_3 rfl (lv_at hl 0 rfl) ?_
  refine lv_if_lt (tgt := 39) hx hb dX12_four_4 (by decide) (fun c => absurd c (by decide)) (fun _ => ?_)
  refine lv_aload_n hx hb dX12_four_7 rfl (lv_at hl 1 rfl) ?_
  refine va_get (D := (dC, dI)) (ci := 12) (v := .ref mv) (C := RX12) (T := TX12) (N := 27) hx hb hts (fun _ h0_ => List.mem_cons_of_mem _ (List.mem_append_right _ (List.mem_append_left _ h0_))) hown hK hP 0 rfl rfl 11 (by decide) (hts (.fieldLink RX12 36 "DeadlineShareModel" "tape" "[I") (List.mem_cons_of_mem _ (List.mem_append_left _ (List.mem_of_getElem? (i := 0) rfl)))) (fun _ h9 => h9) rfl dX12_four_8 ?_
  refine lv_aload_n hx hb dX12_four_11 rfl (lv_at hl 1 rfl) ?_
  refine va_get (D := (dC, dI)) (ci := 12) (v := .int 10) (C := RX12) (T := TX12) (N := 27) hx hb hts (fun _ h0_ => List.mem_cons_of_mem _ (List.mem_append_right _ (List.mem_append_left _ h0_))) hown hK hP 0 rfl rfl 12 (by decide) (hts (.fieldLink RX12 128 "DeadlineShareModel" "taped" "I") (List.mem_cons_of_mem _ (List.mem_append_left _ (List.mem_of_getElem? (i := 1) rfl)))) (fun _ h9 => h9) rfl dX12_four_12 ?_
  refine lv_iload_n hx hb dX12_four_15 rfl (lv_at hl 2 rfl) ?_
  refine lv_iload_n hx hb dX12_four_16 rfl (lv_at hl 0 rfl) ?_
  refine lv_ishr hx hb dX12_four_17 ?_
  refine lv_topi (fun v_9 ev_9 => ?_)
  refine lv_sipush (v := 255) hx hb dX12_four_18 (by decide) ?_
  refine lv_iand hx hb dX12_four_21 ?_
  refine lv_topi (fun v_10 ev_10 => ?_)
  refine va_iast hx hb hK hP hD hS 1 0 rfl rfl (by unfold vp_in; decide) dX12_four_22 (fun H locs hP hD hS => ?_)
  have hP : va_P (dC, dI) vwCl [(h0, .inr (12, [.int 0, .int 0, .ref mr, .ref mt, .ref mw, .ref mu, .ref mp, .ref mi, .ref mk, .ref ms, .int 0, .ref mv, .int 10, .int 0, .int 0, .int 0, .long 0, .int (-1), .int 0, .ref m1w, .ref m2w, .ref m3w, .ref m4w, .int 0, .long 0, .long 0, .long 0])), (mv, .inl (cm9, 200, .inl (upd f_7 (Int32.toNatClampNeg 10) v_10)))] H := hP
  have hD : va_D A [(h0, .inr (12, [.int 0, .int 0, .ref mr, .ref mt, .ref mw, .ref mu, .ref mp, .ref mi, .ref mk, .ref ms, .int 0, .ref mv, .int 10, .int 0, .int 0, .int 0, .long 0, .int (-1), .int 0, .ref m1w, .ref m2w, .ref m3w, .ref m4w, .int 0, .long 0, .long 0, .long 0])), (mv, .inl (cm9, 200, .inl (upd f_7 (Int32.toNatClampNeg 10) v_10)))] := hD
  generalize ef_11 : upd f_7 (Int32.toNatClampNeg 10) v_10 = f_11 at hP hD
  refine lv_aload_n hx hb dX12_four_23 rfl (lv_at hl 1 rfl) ?_
  refine lv_dup hx hb dX12_four_24 rfl ?_
  refine va_get (D := (dC, dI)) (ci := 12) (v := .int 10) (C := RX12) (T := TX12) (N := 27) hx hb hts (fun _ h0_ => List.mem_cons_of_mem _ (List.mem_append_right _ (List.mem_append_left _ h0_))) hown hK hP 0 rfl rfl 12 (by decide) (hts (.fieldLink RX12 128 "DeadlineShareModel" "taped" "I") (List.mem_cons_of_mem _ (List.mem_append_left _ (List.mem_of_getElem? (i := 1) rfl)))) (fun _ h9 => h9) rfl dX12_four_25 ?_
  refine lv_iconst (v := 1) hx hb dX12_four_28 (by decide) ?_
  refine lv_iadd hx hb dX12_four_29 ?_
  refine k_topi (y := 11) (by decide) ?_
  refine va_put (D := (dC, dI)) (ci := 12) (v := .int 11) (ty := .int) (C := RX12) (T := TX12) (N := 27) hx hb hts (fun _ h0_ => List.mem_cons_of_mem _ (List.mem_append_right _ (List.mem_append_left _ h0_))) tyX12 tyX12_ok nmX12 hown hK hP hD hS 0 rfl rfl 12 (by decide) (hts (.fieldLink RX12 128 "DeadlineShareModel" "taped" "I") (List.mem_cons_of_mem _ (List.mem_append_left _ (List.mem_of_getElem? (i := 1) rfl)))) (fun _ h9 => h9) rfl (by decide +kernel) rfl rfl (Nat.le_of_ble_eq_true rfl) dX12_four_30 (fun H locs hP hD hS => ?_)
  have hP : va_P (dC, dI) vwCl [(h0, .inr (12, [.int 0, .int 0, .ref mr, .ref mt, .ref mw, .ref mu, .ref mp, .ref mi, .ref mk, .ref ms, .int 0, .ref mv, .int 11, .int 0, .int 0, .int 0, .long 0, .int (-1), .int 0, .ref m1w, .ref m2w, .ref m3w, .ref m4w, .int 0, .long 0, .long 0, .long 0])), (mv, .inl (cm9, 200, .inl f_11))] H := hP
  have hD : va_D A [(h0, .inr (12, [.int 0, .int 0, .ref mr, .ref mt, .ref mw, .ref mu, .ref mp, .ref mi, .ref mk, .ref ms, .int 0, .ref mv, .int 11, .int 0, .int 0, .int 0, .long 0, .int (-1), .int 0, .ref m1w, .ref m2w, .ref m3w, .ref m4w, .int 0, .long 0, .long 0, .long 0])), (mv, .inl (cm9, 200, .inl f_11))] := hD
  refine lv_iinc (v := 0) (lv' := [(2, .int 0), (0, .ref h0), (1, .int vv)]) hx hb dX12_four_33 hl (k := 0) rfl (by decide) (by decide) rfl (fun ls hl => ?_)
  refine lv_goto (tgt := 3) hx hb dX12_four_36 (by decide) ?_
  refine lv_iload_n hx hb dX12_four_3 rfl (lv_at hl 0 rfl) ?_
  refine lv_if_lt (tgt := 39) hx hb dX12_four_4 (by decide) (fun c => absurd c (by decide)) (fun _ => ?_)
  refine lv_aload_n hx hb dX12_four_7 rfl (lv_at hl 1 rfl) ?_
  refine va_get (D := (dC, dI)) (ci := 12) (v := .ref mv) (C := RX12) (T := TX12) (N := 27) hx hb hts (fun _ h0_ => List.mem_cons_of_mem _ (List.mem_append_right _ (List.mem_append_left _ h0_))) hown hK hP 0 rfl rfl 11 (by decide) (hts (.fieldLink RX12 36 "DeadlineShareModel" "tape" "[I") (List.mem_cons_of_mem _ (List.mem_append_left _ (List.mem_of_getElem? (i := 0) rfl)))) (fun _ h9 => h9) rfl dX12_four_8 ?_
  refine lv_aload_n hx hb dX12_four_11 rfl (lv_at hl 1 rfl) ?_
  refine va_get (D := (dC, dI)) (ci := 12) (v := .int 11) (C := RX12) (T := TX12) (N := 27) hx hb hts (fun _ h0_ => List.mem_cons_of_mem _ (List.mem_append_right _ (List.mem_append_left _ h0_))) hown hK hP 0 rfl rfl 12 (by decide) (hts (.fieldLink RX12 128 "DeadlineShareModel" "taped" "I") (List.mem_cons_of_mem _ (List.mem_append_left _ (List.mem_of_getElem? (i := 1) rfl)))) (fun _ h9 => h9) rfl dX12_four_12 ?_
  refine lv_iload_n hx hb dX12_four_15 rfl (lv_at hl 2 rfl) ?_
  refine lv_iload_n hx hb dX12_four_16 rfl (lv_at hl 0 rfl) ?_
  refine lv_ishr hx hb dX12_four_17 ?_
  refine lv_topi (fun v_13 ev_13 => ?_)
  refine lv_sipush (v := 255) hx hb dX12_four_18 (by decide) ?_
  refine lv_iand hx hb dX12_four_21 ?_
  refine lv_topi (fun v_14 ev_14 => ?_)
  refine va_iast hx hb hK hP hD hS 1 0 rfl rfl (by unfold vp_in; decide) dX12_four_22 (fun H locs hP hD hS => ?_)
  have hP : va_P (dC, dI) vwCl [(h0, .inr (12, [.int 0, .int 0, .ref mr, .ref mt, .ref mw, .ref mu, .ref mp, .ref mi, .ref mk, .ref ms, .int 0, .ref mv, .int 11, .int 0, .int 0, .int 0, .long 0, .int (-1), .int 0, .ref m1w, .ref m2w, .ref m3w, .ref m4w, .int 0, .long 0, .long 0, .long 0])), (mv, .inl (cm9, 200, .inl (upd f_11 (Int32.toNatClampNeg 11) v_14)))] H := hP
  have hD : va_D A [(h0, .inr (12, [.int 0, .int 0, .ref mr, .ref mt, .ref mw, .ref mu, .ref mp, .ref mi, .ref mk, .ref ms, .int 0, .ref mv, .int 11, .int 0, .int 0, .int 0, .long 0, .int (-1), .int 0, .ref m1w, .ref m2w, .ref m3w, .ref m4w, .int 0, .long 0, .long 0, .long 0])), (mv, .inl (cm9, 200, .inl (upd f_11 (Int32.toNatClampNeg 11) v_14)))] := hD
  generalize ef_15 : upd f_11 (Int32.toNatClampNeg 11) v_14 = f_15 at hP hD
  refine lv_aload_n hx hb dX12_four_23 rfl (lv_at hl 1 rfl) ?_
  refine lv_dup hx hb dX12_four_24 rfl ?_
  refine va_get (D := (dC, dI)) (ci := 12) (v := .int 11) (C := RX12) (T := TX12) (N := 27) hx hb hts (fun _ h0_ => List.mem_cons_of_mem _ (List.mem_append_right _ (List.mem_append_left _ h0_))) hown hK hP 0 rfl rfl 12 (by decide) (hts (.fieldLink RX12 128 "DeadlineShareModel" "taped" "I") (List.mem_cons_of_mem _ (List.mem_append_left _ (List.mem_of_getElem? (i := 1) rfl)))) (fun _ h9 => h9) rfl dX12_four_25 ?_
  refine lv_iconst (v := 1) hx hb dX12_four_28 (by decide) ?_
  refine lv_iadd hx hb dX12_four_29 ?_
  refine k_topi (y := 12) (by decide) ?_
  refine va_put (D := (dC, dI)) (ci := 12) (v := .int 12) (ty := .int) (C := RX12) (T := TX12) (N := 27) hx hb hts (fun _ h0_ => List.mem_cons_of_mem _ (List.mem_append_right _ (List.mem_append_left _ h0_))) tyX12 tyX12_ok nmX12 hown hK hP hD hS 0 rfl rfl 12 (by decide) (hts (.fieldLink RX12 128 "DeadlineShareModel" "taped" "I") (List.mem_cons_of_mem _ (List.mem_append_left _ (List.mem_of_getElem? (i := 1) rfl)))) (fun _ h9 => h9) rfl (by decide +kernel) rfl rfl (Nat.le_of_ble_eq_true rfl) dX12_four_30 (fun H locs hP hD hS => ?_)
  have hP : va_P (dC, dI) vwCl [(h0, .inr (12, [.int 0, .int 0, .ref mr, .ref mt, .ref mw, .ref mu, .ref mp, .ref mi, .ref mk, .ref ms, .int 0, .ref mv, .int 12, .int 0, .int 0, .int 0, .long 0, .int (-1), .int 0, .ref m1w, .ref m2w, .ref m3w, .ref m4w, .int 0, .long 0, .long 0, .long 0])), (mv, .inl (cm9, 200, .inl f_15))] H := hP
  have hD : va_D A [(h0, .inr (12, [.int 0, .int 0, .ref mr, .ref mt, .ref mw, .ref mu, .ref mp, .ref mi, .ref mk, .ref ms, .int 0, .ref mv, .int 12, .int 0, .int 0, .int 0, .long 0, .int (-1), .int 0, .ref m1w, .ref m2w, .ref m3w, .ref m4w, .int 0, .long 0, .long 0, .long 0])), (mv, .inl (cm9, 200, .inl f_15))] := hD
  refine lv_iinc (v := (-8)) (lv' := [(2, .int (-8)), (0, .ref h0), (1, .int vv)]) hx hb dX12_four_33 hl (k := 0) rfl (by decide) (by decide) rfl (fun ls hl => ?_)
  refine lv_goto (tgt := 3) hx hb dX12_four_36 (by decide) ?_
  refine lv_iload_n hx hb dX12_four_3 rfl (lv_at hl 0 rfl) ?_
  refine lv_if_lt (tgt := 39) hx hb dX12_four_4 (by decide) (fun _ => ?_) (fun c => absurd (by decide) c)
  have hP9 := hP.sub (ws' := [(h0, .inr (12, [.int 0, .int 0, .ref mr, .ref mt, .ref mw, .ref mu, .ref mp, .ref mi, .ref mk, .ref ms, .int 0, .ref mv, .int 12, .int 0, .int 0, .int 0, .long 0, .int (-1), .int 0, .ref m1w, .ref m2w, .ref m3w, .ref m4w, .int 0, .long 0, .long 0, .long 0])), (mv, .inl (cm9, 200, .inl f_15))]) [0, 1] rfl
  have hD9 := hD.sub (ws' := [(h0, .inr (12, [.int 0, .int 0, .ref mr, .ref mt, .ref mw, .ref mu, .ref mp, .ref mi, .ref mk, .ref ms, .int 0, .ref mv, .int 12, .int 0, .int 0, .int 0, .long 0, .int (-1), .int 0, .ref m1w, .ref m2w, .ref m3w, .ref m4w, .int 0, .long 0, .long 0, .long 0])), (mv, .inl (cm9, 200, .inl f_15))]) [0, 1] (by decide) rfl
  have hK9 := hK.sub (tys' := [(cm9, .int)]) [0] rfl
  refine W.widen (k := 0) (n := 0) (Nat.le_of_ble_eq_true rfl) (Nat.le_of_ble_eq_true rfl) ?_
  exact W.vret hx hb hr (fun t ht hW => ⟨⟨(), rfl, trivial, f_15, by rw [ht]; exact hP9, va_K.moved hW.alike hK9, hD9⟩, hS.F ht⟩) hS.2.2 dX12_four_39
def ow_c_X12_four_12 : List Cond := [.fieldLink RX12 36 "DeadlineShareModel" "tape" "[I", .fieldLink RX12 128 "DeadlineShareModel" "taped" "I"]
def wq_c_X12_four_12 : List Cond := .code yX12_four cX12_four 3 none :: (ow_c_X12_four_12 ++ (u_ws RX12 TX12 27 ++ ([] : List Cond)))
theorem tb_c_X12_four_12 : ∀ w ∈ wq_c_X12_four_12, q_g w := by
  unfold wq_c_X12_four_12 ow_c_X12_four_12
  exact q_cons tw_445 (q_app (q_cons tw_419 (q_cons tw_444 q_nil)) (q_app tu_X12 q_nil))
set_option maxHeartbeats 4000000 in
set_option maxRecDepth 100000 in
theorem c_X12_four_12 (l : Launch) (dC : Nat → ClassId) (dI : Nat → Nat → Nat) (h0 : Nat) (vv : Int32) (mr : Nat) (mt : Nat) (mw : Nat) (mu : Nat) (mp : Nat) (mi : Nat) (mk : Nat) (ms : Nat) (mv : Nat) (m1w : Nat) (m2w : Nat) (m3w : Nat) (m4w : Nat) (cm9 : ClassId) (fv : Nat → Int32) (sz : Nat) : Met l yX12_four wq_c_X12_four_12 ({ frames := 0, cells := 0, slots := 0, locals := 0 } : Room) (va_Pc [.ref h0, .int vv] (fun U => U.heap.size = sz ∧ va_P (dC, dI) vwCl [(h0, .inr (12, [.int 0, .int 0, .ref mr, .ref mt, .ref mw, .ref mu, .ref mp, .ref mi, .ref mk, .ref ms, .int 0, .ref mv, .int 12, .int 0, .int 0, .int 0, .long 0, .int (-1), .int 0, .ref m1w, .ref m2w, .ref m3w, .ref m4w, .int 0, .long 0, .long 0, .long 0])), (mv, .inl (cm9, 200, .inl fv))] U.heap ∧ va_K (dC, dI) vwCl [(cm9, .int)] U ∧ va_D (fun _ => True) [(h0, .inr (12, [.int 0, .int 0, .ref mr, .ref mt, .ref mw, .ref mu, .ref mp, .ref mi, .ref mk, .ref ms, .int 0, .ref mv, .int 12, .int 0, .int 0, .int 0, .long 0, .int (-1), .int 0, .ref m1w, .ref m2w, .ref m3w, .ref m4w, .int 0, .long 0, .long 0, .long 0])), (mv, .inl (cm9, 200, .inl fv))])) (va_Qv (fun (_ : Unit) => True) (fun (_ : Unit) t => ∃ (f2 : Nat → Int32), va_P (dC, dI) vwCl [(h0, .inr (12, [.int 0, .int 0, .ref mr, .ref mt, .ref mw, .ref mu, .ref mp, .ref mi, .ref mk, .ref ms, .int 0, .ref mv, .int 16, .int 0, .int 0, .int 0, .long 0, .int (-1), .int 0, .ref m1w, .ref m2w, .ref m3w, .ref m4w, .int 0, .long 0, .long 0, .long 0])), (mv, .inl (cm9, 200, .inl f2))] t.heap ∧ va_K (dC, dI) vwCl [(cm9, .int)] t ∧ va_D (va_A [(h0, .inr (12, [.int 0, .int 0, .ref mr, .ref mt, .ref mw, .ref mu, .ref mp, .ref mi, .ref mk, .ref ms, .int 0, .ref mv, .int 12, .int 0, .int 0, .int 0, .long 0, .int (-1), .int 0, .ref m1w, .ref m2w, .ref m3w, .ref m4w, .int 0, .long 0, .long 0, .long 0])), (mv, .inl (cm9, 200, .inl fv))] sz) [(h0, .inr (12, [.int 0, .int 0, .ref mr, .ref mt, .ref mw, .ref mu, .ref mp, .ref mi, .ref mk, .ref ms, .int 0, .ref mv, .int 16, .int 0, .int 0, .int 0, .long 0, .int (-1), .int 0, .ref m1w, .ref m2w, .ref m3w, .ref m4w, .int 0, .long 0, .long 0, .long 0])), (mv, .inl (cm9, 200, .inl f2))]) (va_A [(h0, .inr (12, [.int 0, .int 0, .ref mr, .ref mt, .ref mw, .ref mu, .ref mp, .ref mi, .ref mk, .ref ms, .int 0, .ref mv, .int 12, .int 0, .int 0, .int 0, .long 0, .int (-1), .int 0, .ref m1w, .ref m2w, .ref m3w, .ref m4w, .int 0, .long 0, .long 0, .long 0])), (mv, .inl (cm9, 200, .inl fv))] sz)) 0 0 (va_A [(h0, .inr (12, [.int 0, .int 0, .ref mr, .ref mt, .ref mw, .ref mu, .ref mp, .ref mi, .ref mk, .ref ms, .int 0, .ref mv, .int 12, .int 0, .int 0, .int 0, .long 0, .int (-1), .int 0, .ref m1w, .ref m2w, .ref m3w, .ref m4w, .int 0, .long 0, .long 0, .long 0])), (mv, .inl (cm9, 200, .inl fv))] sz) := by
  refine Met.ofW (cc := cX12_four) (maxL := 3) (ret := none) (by decide) rfl ?_
  intro p e s m args below meth c s₁ B hml hv
  obtain ⟨rfl, hsz, hP, hK, hD0⟩ := hv
  have hx := B.exec
  have hb := B.bytes
  have hr := B.returns
  have hts := atoms_spec (ws := wq_c_X12_four_12) B.pre
  have hown : s.vm.findClass RX12 = some m.cls := findClass_of_methodNamed B.named
  have hlocks := B.notSynchronized
  subst hsz
  have hD := hD0.self (sz := s.heap.size)
  obtain ⟨A, hAe⟩ : ∃ A, A = va_A [(h0, .inr (12, [.int 0, .int 0, .ref mr, .ref mt, .ref mw, .ref mu, .ref mp, .ref mi, .ref mk, .ref ms, .int 0, .ref mv, .int 12, .int 0, .int 0, .int 0, .long 0, .int (-1), .int 0, .ref m1w, .ref m2w, .ref m3w, .ref m4w, .int 0, .long 0, .long 0, .long 0])), (mv, .inl (cm9, 200, .inl fv))] s.heap.size := ⟨_, rfl⟩
  rw [← hAe] at hD ⊢
  have hA : ∀ q : Nat, s.heap.size ≤ q → A q := fun q h => by rw [hAe]; exact Or.inr h
  have hS : va_S A s.heap s.heap [] := va_S.rf
  have hP : va_P (dC, dI) vwCl [(h0, .inr (12, [.int 0, .int 0, .ref mr, .ref mt, .ref mw, .ref mu, .ref mp, .ref mi, .ref mk, .ref ms, .int 0, .ref mv, .int 12, .int 0, .int 0, .int 0, .long 0, .int (-1), .int 0, .ref m1w, .ref m2w, .ref m3w, .ref m4w, .int 0, .long 0, .long 0, .long 0])), (mv, .inl (cm9, 200, .inl fv))] s.heap := hP
  have hl := lv_entry ([.ref h0, .int vv]) (n := 3) (Nat.le_of_ble_eq_true rfl)
  rw [lg_entry_eq]
  generalize (lg_sl ([.ref h0, .int vv]) ++ List.replicate (3 - (lg_sl ([.ref h0, .int vv])).length) Slot.unset).toArray = ls at hl ⊢
  have hl : lv_has ls 3 [(0, .ref h0), (1, .int vv)] := hl
  refine lv_bipush (v := 24) hx hb dX12_four_0 (by decide) ?_
  refine lv_istore_n (lv' := [(2, .int 24), (0, .ref h0), (1, .int vv)]) hx hb dX12_four_2 rfl hl (by decide) rfl (fun ls hl => ?_)
  refine lv_iload_n hx hb dX12_four_3 rfl (lv_at hl 0 rfl) ?_
  refine lv_if_lt (tgt := 39) hx hb dX12_four_4 (by decide) (fun c => absurd c (by decide)) (fun _ => ?_)
  refine lv_aload_n hx hb dX12_four_7 rfl (lv_at hl 1 rfl) ?_
  refine va_get (D := (dC, dI)) (ci := 12) (v := .ref mv) (C := RX12) (T := TX12) (N := 27) hx hb hts (fun _ h0_ => List.mem_cons_of_mem _ (List.mem_append_right _ (List.mem_append_left _ h0_))) hown hK hP 0 rfl rfl 11 (by decide) (hts (.fieldLink RX12 36 "DeadlineShareModel" "tape" "[I") (List.mem_cons_of_mem _ (List.mem_append_left _ (List.mem_of_getElem? (i := 0) rfl)))) (fun _ h9 => h9) rfl dX12_four_8 ?_
  refine lv_aload_n hx hb dX12_four_11 rfl (lv_at hl 1 rfl) ?_
  refine va_get (D := (dC, dI)) (ci := 12) (v := .int 12) (C := RX12) (T := TX12) (N := 27) hx hb hts (fun _ h0_ => List.mem_cons_of_mem _ (List.mem_append_right _ (List.mem_append_left _ h0_))) hown hK hP 0 rfl rfl 12 (by decide) (hts (.fieldLink RX12 128 "DeadlineShareModel" "taped" "I") (List.mem_cons_of_mem _ (List.mem_append_left _ (List.mem_of_getElem? (i := 1) rfl)))) (fun _ h9 => h9) rfl dX12_four_12 ?_
  refine lv_iload_n hx hb dX12_four_15 rfl (lv_at hl 2 rfl) ?_
  refine lv_iload_n hx hb dX12_four_16 rfl (lv_at hl 0 rfl) ?_
  refine lv_ishr hx hb dX12_four_17 ?_
  refine lv_topi (fun v_1 ev_1 => ?_)
  refine lv_sipush (v := 255) hx hb dX12_four_18 (by decide) ?_
  refine lv_iand hx hb dX12_four_21 ?_
  refine lv_topi (fun v_2 ev_2 => ?_)
  refine va_iast hx hb hK hP hD hS 1 0 rfl rfl (by unfold vp_in; decide) dX12_four_22 (fun H locs hP hD hS => ?_)
  have hP : va_P (dC, dI) vwCl [(h0, .inr (12, [.int 0, .int 0, .ref mr, .ref mt, .ref mw, .ref mu, .ref mp, .ref mi, .ref mk, .ref ms, .int 0, .ref mv, .int 12, .int 0, .int 0, .int 0, .long 0, .int (-1), .int 0, .ref m1w, .ref m2w, .ref m3w, .ref m4w, .int 0, .long 0, .long 0, .long 0])), (mv, .inl (cm9, 200, .inl (upd fv (Int32.toNatClampNeg 12) v_2)))] H := hP
  have hD : va_D A [(h0, .inr (12, [.int 0, .int 0, .ref mr, .ref mt, .ref mw, .ref mu, .ref mp, .ref mi, .ref mk, .ref ms, .int 0, .ref mv, .int 12, .int 0, .int 0, .int 0, .long 0, .int (-1), .int 0, .ref m1w, .ref m2w, .ref m3w, .ref m4w, .int 0, .long 0, .long 0, .long 0])), (mv, .inl (cm9, 200, .inl (upd fv (Int32.toNatClampNeg 12) v_2)))] := hD
  generalize ef_3 : upd fv (Int32.toNatClampNeg 12) v_2 = f_3 at hP hD
  refine lv_aload_n hx hb dX12_four_23 rfl (lv_at hl 1 rfl) ?_
  refine lv_dup hx hb dX12_four_24 rfl ?_
  refine va_get (D := (dC, dI)) (ci := 12) (v := .int 12) (C := RX12) (T := TX12) (N := 27) hx hb hts (fun _ h0_ => List.mem_cons_of_mem _ (List.mem_append_right _ (List.mem_append_left _ h0_))) hown hK hP 0 rfl rfl 12 (by decide) (hts (.fieldLink RX12 128 "DeadlineShareModel" "taped" "I") (List.mem_cons_of_mem _ (List.mem_append_left _ (List.mem_of_getElem? (i := 1) rfl)))) (fun _ h9 => h9) rfl dX12_four_25 ?_
  refine lv_iconst (v := 1) hx hb dX12_four_28 (by decide) ?_
  refine lv_iadd hx hb dX12_four_29 ?_
  refine k_topi (y := 13) (by decide) ?_
  refine va_put (D := (dC, dI)) (ci := 12) (v := .int 13) (ty := .int) (C := RX12) (T := TX12) (N := 27) hx hb hts (fun _ h0_ => List.mem_cons_of_mem _ (List.mem_append_right _ (List.mem_append_left _ h0_))) tyX12 tyX12_ok nmX12 hown hK hP hD hS 0 rfl rfl 12 (by decide) (hts (.fieldLink RX12 128 "DeadlineShareModel" "taped" "I") (List.mem_cons_of_mem _ (List.mem_append_left _ (List.mem_of_getElem? (i := 1) rfl)))) (fun _ h9 => h9) rfl (by decide +kernel) rfl rfl (Nat.le_of_ble_eq_true rfl) dX12_four_30 (fun H locs hP hD hS => ?_)
  have hP : va_P (dC, dI) vwCl [(h0, .inr (12, [.int 0, .int 0, .ref mr, .ref mt, .ref mw, .ref mu, .ref mp, .ref mi, .ref mk, .ref ms, .int 0, .ref mv, .int 13, .int 0, .int 0, .int 0, .long 0, .int (-1), .int 0, .ref m1w, .ref m2w, .ref m3w, .ref m4w, .int 0, .long 0, .long 0, .long 0])), (mv, .inl (cm9, 200, .inl f_3))] H := hP
  have hD : va_D A [(h0, .inr (12, [.int 0, .int 0, .ref mr, .ref mt, .ref mw, .ref mu, .ref mp, .ref mi, .ref mk, .ref ms, .int 0, .ref mv, .int 13, .int 0, .int 0, .int 0, .long 0, .int (-1), .int 0, .ref m1w, .ref m2w, .ref m3w, .ref m4w, .int 0, .long 0, .long 0, .long 0])), (mv, .inl (cm9, 200, .inl f_3))] := hD
  refine lv_iinc (v := 16) (lv' := [(2, .int 16), (0, .ref h0), (1, .int vv)]) hx hb dX12_four_33 hl (k := 0) rfl (by decide) (by decide) rfl (fun ls hl => ?_)
  refine lv_goto (tgt := 3) hx hb dX12_four_36 (by decide) ?_
  refine lv_iload_n hx hb dX12_four_3 rfl (lv_at hl 0 rfl) ?_
  refine lv_if_lt (tgt := 39) hx hb dX12_four_4 (by decide) (fun c => absurd c (by decide)) (fun _ => ?_)
  refine lv_aload_n hx hb dX12_four_7 rfl (lv_at hl 1 rfl) ?_
  refine va_get (D := (dC, dI)) (ci := 12) (v := .ref mv) (C := RX12) (T := TX12) (N := 27) hx hb hts (fun _ h0_ => List.mem_cons_of_mem _ (List.mem_append_right _ (List.mem_append_left _ h0_))) hown hK hP 0 rfl rfl 11 (by decide) (hts (.fieldLink RX12 36 "DeadlineShareModel" "tape" "[I") (List.mem_cons_of_mem _ (List.mem_append_left _ (List.mem_of_getElem? (i := 0) rfl)))) (fun _ h9 => h9) rfl dX12_four_8 ?_
  refine lv_aload_n hx hb dX12_four_11 rfl (lv_at hl 1 rfl) ?_
  refine va_get (D := (dC, dI)) (ci := 12) (v := .int 13) (C := RX12) (T := TX12) (N := 27) hx hb hts (fun _ h0_ => List.mem_cons_of_mem _ (List.mem_append_right _ (List.mem_append_left _ h0_))) hown hK hP 0 rfl rfl 12 (by decide) (hts (.fieldLink RX12 128 "DeadlineShareModel" "taped" "I") (List.mem_cons_of_mem _ (List.mem_append_left _ (List.mem_of_getElem? (i := 1) rfl)))) (fun _ h9 => h9) rfl dX12_four_12 ?_
  refine lv_iload_n hx hb dX12_four_15 rfl (lv_at hl 2 rfl) ?_
  refine lv_iload_n hx hb dX12_four_16 rfl (lv_at hl 0 rfl) ?_
  refine lv_ishr hx hb dX12_four_17 ?_
  refine lv_topi (fun v_5 ev_5 => ?_)
  refine lv_sipush (v := 255) hx hb dX12_four_18 (by decide) ?_
  refine lv_iand hx hb dX12_four_21 ?_
  refine lv_topi (fun v_6 ev_6 => ?_)
  refine va_iast hx hb hK hP hD hS 1 0 rfl rfl (by unfold vp_in; decide) dX12_four_22 (fun H locs hP hD hS => ?_)
  have hP : va_P (dC, dI) vwCl [(h0, .inr (12, [.int 0, .int 0, .ref mr, .ref mt, .ref mw, .ref mu, .ref mp, .ref mi, .ref mk, .ref ms, .int 0, .ref mv, .int 13, .int 0, .int 0, .int 0, .long 0, .int (-1), .int 0, .ref m1w, .ref m2w, .ref m3w, .ref m4w, .int 0, .long 0, .long 0, .long 0])), (mv, .inl (cm9, 200, .inl (upd f_3 (Int32.toNatClampNeg 13) v_6)))] H := hP
  have hD : va_D A [(h0, .inr (12, [.int 0, .int 0, .ref mr, .ref mt, .ref mw, .ref mu, .ref mp, .ref mi, .ref mk, .ref ms, .int 0, .ref mv, .int 13, .int 0, .int 0, .int 0, .long 0, .int (-1), .int 0, .ref m1w, .ref m2w, .ref m3w, .ref m4w, .int 0, .long 0, .long 0, .long 0])), (mv, .inl (cm9, 200, .inl (upd f_3 (Int32.toNatClampNeg 13) v_6)))] := hD
  generalize ef_7 : upd f_3 (Int32.toNatClampNeg 13) v_6 = f_7 at hP hD
  refine lv_aload_n hx hb dX12_four_23 rfl (lv_at hl 1 rfl) ?_
  refine lv_dup hx hb dX12_four_24 rfl ?_
  refine va_get (D := (dC, dI)) (ci := 12) (v := .int 13) (C := RX12) (T := TX12) (N := 27) hx hb hts (fun _ h0_ => List.mem_cons_of_mem _ (List.mem_append_right _ (List.mem_append_left _ h0_))) hown hK hP 0 rfl rfl 12 (by decide) (hts (.fieldLink RX12 128 "DeadlineShareModel" "taped" "I") (List.mem_cons_of_mem _ (List.mem_append_left _ (List.mem_of_getElem? (i := 1) rfl)))) (fun _ h9 => h9) rfl dX12_four_25 ?_
  refine lv_iconst (v := 1) hx hb dX12_four_28 (by decide) ?_
  refine lv_iadd hx hb dX12_four_29 ?_
  refine k_topi (y := 14) (by decide) ?_
  refine va_put (D := (dC, dI)) (ci := 12) (v := .int 14) (ty := .int) (C := RX12) (T := TX12) (N := 27) hx hb hts (fun _ h0_ => List.mem_cons_of_mem _ (List.mem_append_right _ (List.mem_append_left _ h0_))) tyX12 tyX12_ok nmX12 hown hK hP hD hS 0 rfl rfl 12 (by decide) (hts (.fieldLink RX12 128 "DeadlineShareModel" "taped" "I") (List.mem_cons_of_mem _ (List.mem_append_left _ (List.mem_of_getElem? (i := 1) rfl)))) (fun _ h9 => h9) rfl (by decide +kernel) rfl rfl (Nat.le_of_ble_eq_true rfl) dX12_four_30 (fun H locs hP hD hS => ?_)
  have hP : va_P (dC, dI) vwCl [(h0, .inr (12, [.int 0, .int 0, .ref mr, .ref mt, .ref mw, .ref mu, .ref mp, .ref mi, .ref mk, .ref ms, .int 0, .ref mv, .int 14, .int 0, .int 0, .int 0, .long 0, .int (-1), .int 0, .ref m1w, .ref m2w, .ref m3w, .ref m4w, .int 0, .long 0, .long 0, .long 0])), (mv, .inl (cm9, 200, .inl f_7))] H := hP
  have hD : va_D A [(h0, .inr (12, [.int 0, .int 0, .ref mr, .ref mt, .ref mw, .ref mu, .ref mp, .ref mi, .ref mk, .ref ms, .int 0, .ref mv, .int 14, .int 0, .int 0, .int 0, .long 0, .int (-1), .int 0, .ref m1w, .ref m2w, .ref m3w, .ref m4w, .int 0, .long 0, .long 0, .long 0])), (mv, .inl (cm9, 200, .inl f_7))] := hD
  refine lv_iinc (v := 8) (lv' := [(2, .int 8), (0, .ref h0), (1, .int vv)]) hx hb dX12_four_33 hl (k := 0) rfl (by decide) (by decide) rfl (fun ls hl => ?_)
  refine lv_goto (tgt := 3) hx hb dX12_four_36 (by decide) ?_
  refine lv_iload_n hx hb dX12_four_3 rfl (lv_at hl 0 rfl) ?_
  refine lv_if_lt (tgt := 39) hx hb dX12_four_4 (by decide) (fun c => absurd c (by decide)) (fun _ => ?_)
  refine lv_aload_n hx hb dX12_four_7 rfl (lv_at hl 1 rfl) ?_
  refine va_get (D := (dC, dI)) (ci := 12) (v := .ref mv) (C := RX12) (T := TX12) (N := 27) hx hb hts (fun _ h0_ => List.mem_cons_of_mem _ (List.mem_append_right _ (List.mem_append_left _ h0_))) hown hK hP 0 rfl rfl 11 (by decide) (hts (.fieldLink RX12 36 "DeadlineShareModel" "tape" "[I") (List.mem_cons_of_mem _ (List.mem_append_left _ (List.mem_of_getElem? (i := 0) rfl)))) (fun _ h9 => h9) rfl dX12_four_8 ?_
  refine lv_aload_n hx hb dX12_four_11 rfl (lv_at hl 1 rfl) ?_
  refine va_get (D := (dC, dI)) (ci := 12) (v := .int 14) (C := RX12) (T := TX12) (N := 27) hx hb hts (fun _ h0_ => List.mem_cons_of_mem _ (List.mem_append_right _ (List.mem_append_left _ h0_))) hown hK hP 0 rfl rfl 12 (by decide) (hts (.fieldLink RX12 128 "DeadlineShareModel" "taped" "I") (List.mem_cons_of_mem _ (List.mem_append_left _ (List.mem_of_getElem? (i := 1) rfl)))) (fun _ h9 => h9) rfl dX12_four_12 ?_
  refine lv_iload_n hx hb dX12_four_15 rfl (lv_at hl 2 rfl) ?_
  refine lv_iload_n hx hb dX12_four_16 rfl (lv_at hl 0 rfl) ?_
  refine lv_ishr hx hb dX12_four_17 ?_
  refine lv_topi (fun v_9 ev_9 => ?_)
  refine lv_sipush (v := 255) hx hb dX12_four_18 (by decide) ?_
  refine lv_iand hx hb dX12_four_21 ?_
  refine lv_topi (fun v_10 ev_10 => ?_)
  refine va_iast hx hb hK hP hD hS 1 0 rfl rfl (by unfold vp_in; decide) dX12_four_22 (fun H locs hP hD hS => ?_)
  have hP : va_P (dC, dI) vwCl [(h0, .inr (12, [.int 0, .int 0, .ref mr, .ref mt, .ref mw, .ref mu, .ref mp, .ref mi, .ref mk, .ref ms, .int 0, .ref mv, .int 14, .int 0, .int 0, .int 0, .long 0, .int (-1), .int 0, .ref m1w, .ref m2w, .ref m3w, .ref m4w, .int 0, .long 0, .long 0, .long 0])), (mv, .inl (cm9, 200, .inl (upd f_7 (Int32.toNatClampNeg 14) v_10)))] H := hP
  have hD : va_D A [(h0, .inr (12, [.int 0, .int 0, .ref mr, .ref mt, .ref mw, .ref mu, .ref mp, .ref mi, .ref mk, .ref ms, .int 0, .ref mv, .int 14, .int 0, .int 0, .int 0, .long 0, .int (-1), .int 0, .ref m1w, .ref m2w, .ref m3w, .ref m4w, .int 0, .long 0, .long 0, .long 0])), (mv, .inl (cm9, 200, .inl (upd f_7 (Int32.toNatClampNeg 14) v_10)))] := hD
  generalize ef_11 : upd f_7 (Int32.toNatClampNeg 14) v_10 = f_11 at hP hD
  refine lv_aload_n hx hb dX12_four_23 rfl (lv_at hl 1 rfl) ?_
  refine lv_dup hx hb dX12_four_24 rfl ?_
  refine va_get (D := (dC, dI)) (ci := 12) (v := .int 14) (C := RX12) (T := TX12) (N := 27) hx hb hts (fun _ h0_ => List.mem_cons_of_mem _ (List.mem_append_right _ (List.mem_append_left _ h0_))) hown hK hP 0 rfl rfl 12 (by decide) (hts (.fieldLink RX12 128 "DeadlineShareModel" "taped" "I") (List.mem_cons_of_mem _ (List.mem_append_left _ (List.mem_of_getElem? (i := 1) rfl)))) (fun _ h9 => h9) rfl dX12_four_25 ?_
  refine lv_iconst (v := 1) hx hb dX12_four_28 (by decide) ?_
  refine lv_iadd hx hb dX12_four_29 ?_
  refine k_topi (y := 15) (by decide) ?_
  refine va_put (D := (dC, dI)) (ci := 12) (v := .int 15) (ty := .int) (C := RX12) (T := TX12) (N := 27) hx hb hts (fun _ h0_ => List.mem_cons_of_mem _ (List.mem_append_right _ (List.mem_append_left _ h0_))) tyX12 tyX12_ok nmX12 hown hK hP hD hS 0 rfl rfl 12 (by decide) (hts (.fieldLink RX12 128 "DeadlineShareModel" "taped" "I") (List.mem_cons_of_mem _ (List.mem_append_left _ (List.mem_of_getElem? (i := 1) rfl)))) (fun _ h9 => h9) rfl (by decide +kernel) rfl rfl (Nat.le_of_ble_eq_true rfl) dX12_four_30 (fun H locs hP hD hS => ?_)
  have hP : va_P (dC, dI) vwCl [(h0, .inr (12, [.int 0, .int 0, .ref mr, .ref mt, .ref mw, .ref mu, .ref mp, .ref mi, .ref mk, .ref ms, .int 0, .ref mv, .int 15, .int 0, .int 0, .int 0, .long 0, .int (-1), .int 0, .ref m1w, .ref m2w, .ref m3w, .ref m4w, .int 0, .long 0, .long 0, .long 0])), (mv, .inl (cm9, 200, .inl f_11))] H := hP
  have hD : va_D A [(h0, .inr (12, [.int 0, .int 0, .ref mr, .ref mt, .ref mw, .ref mu, .ref mp, .ref mi, .ref mk, .ref ms, .int 0, .ref mv, .int 15, .int 0, .int 0, .int 0, .long 0, .int (-1), .int 0, .ref m1w, .ref m2w, .ref m3w, .ref m4w, .int 0, .long 0, .long 0, .long 0])), (mv, .inl (cm9, 200, .inl f_11))] := hD
  refine lv_iinc (v := 0) (lv' := [(2, .int 0), (0, .ref h0), (1, .int vv)]) hx hb dX12_four_33 hl (k := 0) rfl (by decide) (by decide) rfl (fun ls hl => ?_)
  refine lv_goto (tgt := 3) hx hb dX12_four_36 (by decide) ?_
  refine lv_iload_n hx hb dX12_four_3 rfl (lv_at hl 0 rfl) ?_
  refine lv_if_lt (tgt := 39) hx hb dX12_four_4 (by decide) (fun c => absurd c (by decide)) (fun _ => ?_)
  refine lv_aload_n hx hb dX12_four_7 rfl (lv_at hl 1 rfl) ?_
  refine va_get (D := (dC, dI)) (ci := 12) (v := .ref mv) (C := RX12) (T := TX12) (N := 27) hx hb hts (fun _ h0_ => List.mem_cons_of_mem _ (List.mem_append_right _ (List.mem_append_left _ h0_))) hown hK hP 0 rfl rfl 11 (by decide) (hts (.fieldLink RX12 36 "DeadlineShareModel" "tape" "[I") (List.mem_cons_of_mem _ (List.mem_append_left _ (List.mem_of_getElem? (i := 0) rfl)))) (fun _ h9 => h9) rfl dX12_four_8 ?_
  refine lv_aload_n hx hb dX12_four_11 rfl (lv_at hl 1 rfl) ?_
  refine va_get (D := (dC, dI)) (ci := 12) (v := .int 15) (C := RX12) (T := TX12) (N := 27) hx hb hts (fun _ h0_ => List.mem_cons_of_mem _ (List.mem_append_right _ (List.mem_append_left _ h0_))) hown hK hP 0 rfl rfl 12 (by decide) (hts (.fieldLink RX12 128 "DeadlineShareModel" "taped" "I") (List.mem_cons_of_mem _ (List.mem_append_left _ (List.mem_of_getElem? (i := 1) rfl)))) (fun _ h9 => h9) rfl dX12_four_12 ?_
  refine lv_iload_n hx hb dX12_four_15 rfl (lv_at hl 2 rfl) ?_
  refine lv_iload_n hx hb dX12_four_16 rfl (lv_at hl 0 rfl) ?_
  refine lv_ishr hx hb dX12_four_17 ?_
  refine lv_topi (fun v_13 ev_13 => ?_)
  refine lv_sipush (v := 255) hx hb dX12_four_18 (by decide) ?_
  refine lv_iand hx hb dX12_four_21 ?_
  refine lv_topi (fun v_14 ev_14 => ?_)
  refine va_iast hx hb hK hP hD hS 1 0 rfl rfl (by unfold vp_in; decide) dX12_four_22 (fun H locs hP hD hS => ?_)
  have hP : va_P (dC, dI) vwCl [(h0, .inr (12, [.int 0, .int 0, .ref mr, .ref mt, .ref mw, .ref mu, .ref mp, .ref mi, .ref mk, .ref ms, .int 0, .ref mv, .int 15, .int 0, .int 0, .int 0, .long 0, .int (-1), .int 0, .ref m1w, .ref m2w, .ref m3w, .ref m4w, .int 0, .long 0, .long 0, .long 0])), (mv, .inl (cm9, 200, .inl (upd f_11 (Int32.toNatClampNeg 15) v_14)))] H := hP
  have hD : va_D A [(h0, .inr (12, [.int 0, .int 0, .ref mr, .ref mt, .ref mw, .ref mu, .ref mp, .ref mi, .ref mk, .ref ms, .int 0, .ref mv, .int 15, .int 0, .int 0, .int 0, .long 0, .int (-1), .int 0, .ref m1w, .ref m2w, .ref m3w, .ref m4w, .int 0, .long 0, .long 0, .long 0])), (mv, .inl (cm9, 200, .inl (upd f_11 (Int32.toNatClampNeg 15) v_14)))] := hD
  generalize ef_15 : upd f_11 (Int32.toNatClampNeg 15) v_14 = f_15 at hP hD
  refine lv_aload_n hx hb dX12_four_23 rfl (lv_at hl 1 rfl) ?_
  refine lv_dup hx hb dX12_four_24 rfl ?_
  refine va_get (D := (dC, dI)) (ci := 12) (v := .int 15) (C := RX12) (T := TX12) (N := 27) hx hb hts (fun _ h0_ => List.mem_cons_of_mem _ (List.mem_append_right _ (List.mem_append_left _ h0_))) hown hK hP 0 rfl rfl 12 (by decide) (hts (.fieldLink RX12 128 "DeadlineShareModel" "taped" "I") (List.mem_cons_of_mem _ (List.mem_append_left _ (List.mem_of_getElem? (i := 1) rfl)))) (fun _ h9 => h9) rfl dX12_four_25 ?_
  refine lv_iconst (v := 1) hx hb dX12_four_28 (by decide) ?_
  refine lv_iadd hx hb dX12_four_29 ?_
  refine k_topi (y := 16) (by decide) ?_
  refine va_put (D := (dC, dI)) (ci := 12) (v := .int 16) (ty := .int) (C := RX12) (T := TX12) (N := 27) hx hb hts (fun _ h0_ => List.mem_cons_of_mem _ (List.mem_append_right _ (List.mem_append_left _ h0_))) tyX12 tyX12_ok nmX12 hown hK hP hD hS 0 rfl rfl 12 (by decide) (hts (.fieldLink RX12 128 "DeadlineShareModel" "taped" "I") (List.mem_cons_of_mem _ (List.mem_append_left _ (List.mem_of_getElem? (i := 1) rfl)))) (fun _ h9 => h9) rfl (by decide +kernel) rfl rfl (Nat.le_of_ble_eq_true rfl) dX12_four_30 (fun H locs hP hD hS => ?_)
  have hP : va_P (dC, dI) vwCl [(h0, .inr (12, [.int 0, .int 0, .ref mr, .ref mt, .ref mw, .ref mu, .ref mp, .ref mi, .ref mk, .ref ms, .int 0, .ref mv, .int 16, .int 0, .int 0, .int 0, .long 0, .int (-1), .int 0, .ref m1w, .ref m2w, .ref m3w, .ref m4w, .int 0, .long 0, .long 0, .long 0])), (mv, .inl (cm9, 200, .inl f_15))] H := hP
  have hD : va_D A [(h0, .inr (12, [.int 0, .int 0, .ref mr, .ref mt, .ref mw, .ref mu, .ref mp, .ref mi, .ref mk, .ref ms, .int 0, .ref mv, .int 16, .int 0, .int 0, .int 0, .long 0, .int (-1), .int 0, .ref m1w, .ref m2w, .ref m3w, .ref m4w, .int 0, .long 0, .long 0, .long 0])), (mv, .inl (cm9, 200, .inl f_15))] := hD
  refine lv_iinc (v := (-8)) (lv' := [(2, .int (-8)), (0, .ref h0), (1, .int vv)]) hx hb dX12_four_33 hl (k := 0) rfl (by decide) (by decide) rfl (fun ls hl => ?_)
  refine lv_goto (tgt := 3) hx hb dX12_four_36 (by decide) ?_
  refine lv_iload_n hx hb dX12_four_3 rfl (lv_at hl 0 rfl) ?_
  refine lv_if_lt (tgt := 39) hx hb dX12_four_4 (by decide) (fun _ => ?_) (fun c => absurd (by decide) c)
  have hP9 := hP.sub (ws' := [(h0, .inr (12, [.int 0, .int 0, .ref mr, .ref mt, .ref mw, .ref mu, .ref mp, .ref mi, .ref mk, .ref ms, .int 0, .ref mv, .int 16, .int 0, .int 0, .int 0, .long 0, .int (-1), .int 0, .ref m1w, .ref m2w, .ref m3w, .ref m4w, .int 0, .long 0, .long 0, .long 0])), (mv, .inl (cm9, 200, .inl f_15))]) [0, 1] rfl
  have hD9 := hD.sub (ws' := [(h0, .inr (12, [.int 0, .int 0, .ref mr, .ref mt, .ref mw, .ref mu, .ref mp, .ref mi, .ref mk, .ref ms, .int 0, .ref mv, .int 16, .int 0, .int 0, .int 0, .long 0, .int (-1), .int 0, .ref m1w, .ref m2w, .ref m3w, .ref m4w, .int 0, .long 0, .long 0, .long 0])), (mv, .inl (cm9, 200, .inl f_15))]) [0, 1] (by decide) rfl
  have hK9 := hK.sub (tys' := [(cm9, .int)]) [0] rfl
  refine W.widen (k := 0) (n := 0) (Nat.le_of_ble_eq_true rfl) (Nat.le_of_ble_eq_true rfl) ?_
  exact W.vret hx hb hr (fun t ht hW => ⟨⟨(), rfl, trivial, f_15, by rw [ht]; exact hP9, va_K.moved hW.alike hK9, hD9⟩, hS.F ht⟩) hS.2.2 dX12_four_39
def ow_c_X12_four_16 : List Cond := [.fieldLink RX12 36 "DeadlineShareModel" "tape" "[I", .fieldLink RX12 128 "DeadlineShareModel" "taped" "I"]
def wq_c_X12_four_16 : List Cond := .code yX12_four cX12_four 3 none :: (ow_c_X12_four_16 ++ (u_ws RX12 TX12 27 ++ ([] : List Cond)))
theorem tb_c_X12_four_16 : ∀ w ∈ wq_c_X12_four_16, q_g w := by
  unfold wq_c_X12_four_16 ow_c_X12_four_16
  exact q_cons tw_445 (q_app (q_cons tw_419 (q_cons tw_444 q_nil)) (q_app tu_X12 q_nil))
set_option maxHeartbeats 4000000 in
set_option maxRecDepth 100000 in
theorem c_X12_four_16 (l : Launch) (dC : Nat → ClassId) (dI : Nat → Nat → Nat) (h0 : Nat) (vv : Int32) (mr : Nat) (mt : Nat) (mw : Nat) (mu : Nat) (mp : Nat) (mi : Nat) (mk : Nat) (ms : Nat) (mv : Nat) (m1w : Nat) (m2w : Nat) (m3w : Nat) (m4w : Nat) (cm9 : ClassId) (fv : Nat → Int32) (sz : Nat) : Met l yX12_four wq_c_X12_four_16 ({ frames := 0, cells := 0, slots := 0, locals := 0 } : Room) (va_Pc [.ref h0, .int vv] (fun U => U.heap.size = sz ∧ va_P (dC, dI) vwCl [(h0, .inr (12, [.int 0, .int 0, .ref mr, .ref mt, .ref mw, .ref mu, .ref mp, .ref mi, .ref mk, .ref ms, .int 0, .ref mv, .int 16, .int 0, .int 0, .int 0, .long 0, .int (-1), .int 0, .ref m1w, .ref m2w, .ref m3w, .ref m4w, .int 0, .long 0, .long 0, .long 0])), (mv, .inl (cm9, 200, .inl fv))] U.heap ∧ va_K (dC, dI) vwCl [(cm9, .int)] U ∧ va_D (fun _ => True) [(h0, .inr (12, [.int 0, .int 0, .ref mr, .ref mt, .ref mw, .ref mu, .ref mp, .ref mi, .ref mk, .ref ms, .int 0, .ref mv, .int 16, .int 0, .int 0, .int 0, .long 0, .int (-1), .int 0, .ref m1w, .ref m2w, .ref m3w, .ref m4w, .int 0, .long 0, .long 0, .long 0])), (mv, .inl (cm9, 200, .inl fv))])) (va_Qv (fun (_ : Unit) => True) (fun (_ : Unit) t => ∃ (f2 : Nat → Int32), va_P (dC, dI) vwCl [(h0, .inr (12, [.int 0, .int 0, .ref mr, .ref mt, .ref mw, .ref mu, .ref mp, .ref mi, .ref mk, .ref ms, .int 0, .ref mv, .int 20, .int 0, .int 0, .int 0, .long 0, .int (-1), .int 0, .ref m1w, .ref m2w, .ref m3w, .ref m4w, .int 0, .long 0, .long 0, .long 0])), (mv, .inl (cm9, 200, .inl f2))] t.heap ∧ va_K (dC, dI) vwCl [(cm9, .int)] t ∧ va_D (va_A [(h0, .inr (12, [.int 0, .int 0, .ref mr, .ref mt, .ref mw, .ref mu, .ref mp, .ref mi, .ref mk, .ref ms, .int 0, .ref mv, .int 16, .int 0, .int 0, .int 0, .long 0, .int (-1), .int 0, .ref m1w, .ref m2w, .ref m3w, .ref m4w, .int 0, .long 0, .long 0, .long 0])), (mv, .inl (cm9, 200, .inl fv))] sz) [(h0, .inr (12, [.int 0, .int 0, .ref mr, .ref mt, .ref mw, .ref mu, .ref mp, .ref mi, .ref mk, .ref ms, .int 0, .ref mv, .int 20, .int 0, .int 0, .int 0, .long 0, .int (-1), .int 0, .ref m1w, .ref m2w, .ref m3w, .ref m4w, .int 0, .long 0, .long 0, .long 0])), (mv, .inl (cm9, 200, .inl f2))]) (va_A [(h0, .inr (12, [.int 0, .int 0, .ref mr, .ref mt, .ref mw, .ref mu, .ref mp, .ref mi, .ref mk, .ref ms, .int 0, .ref mv, .int 16, .int 0, .int 0, .int 0, .long 0, .int (-1), .int 0, .ref m1w, .ref m2w, .ref m3w, .ref m4w, .int 0, .long 0, .long 0, .long 0])), (mv, .inl (cm9, 200, .inl fv))] sz)) 0 0 (va_A [(h0, .inr (12, [.int 0, .int 0, .ref mr, .ref mt, .ref mw, .ref mu, .ref mp, .ref mi, .ref mk, .ref ms, .int 0, .ref mv, .int 16, .int 0, .int 0, .int 0, .long 0, .int (-1), .int 0, .ref m1w, .ref m2w, .ref m3w, .ref m4w, .int 0, .long 0, .long 0, .long 0])), (mv, .inl (cm9, 200, .inl fv))] sz) := by
  refine Met.ofW (cc := cX12_four) (maxL := 3) (ret := none) (by decide) rfl ?_
  intro p e s m args below meth c s₁ B hml hv
  obtain ⟨rfl, hsz, hP, hK, hD0⟩ := hv
  have hx := B.exec
  have hb := B.bytes
  have hr := B.returns
  have hts := atoms_spec (ws := wq_c_X12_four_16) B.pre
  have hown : s.vm.findClass RX12 = some m.cls := findClass_of_methodNamed B.named
  have hlocks := B.notSynchronized
  subst hsz
  have hD := hD0.self (sz := s.heap.size)
  obtain ⟨A, hAe⟩ : ∃ A, A = va_A [(h0, .inr (12, [.int 0, .int 0, .ref mr, .ref mt, .ref mw, .ref mu, .ref mp, .ref mi, .ref mk, .ref ms, .int 0, .ref mv, .int 16, .int 0, .int 0, .int 0, .long 0, .int (-1), .int 0, .ref m1w, .ref m2w, .ref m3w, .ref m4w, .int 0, .long 0, .long 0, .long 0])), (mv, .inl (cm9, 200, .inl fv))] s.heap.size := ⟨_, rfl⟩
  rw [← hAe] at hD ⊢
  have hA : ∀ q : Nat, s.heap.size ≤ q → A q := fun q h => by rw [hAe]; exact Or.inr h
  have hS : va_S A s.heap s.heap [] := va_S.rf
  have hP : va_P (dC, dI) vwCl [(h0, .inr (12, [.int 0, .int 0, .ref mr, .ref mt, .ref mw, .ref mu, .ref mp, .ref mi, .ref mk, .ref ms, .int 0, .ref mv, .int 16, .int 0, .int 0, .int 0, .long 0, .int (-1), .int 0, .ref m1w, .ref m2w, .ref m3w, .ref m4w, .int 0, .long 0, .long 0, .long 0])), (mv, .inl (cm9, 200, .inl fv))] s.heap := hP
  have hl := lv_entry ([.ref h0, .int vv]) (n := 3) (Nat.le_of_ble_eq_true rfl)
  rw [lg_entry_eq]
  generalize (lg_sl ([.ref h0, .int vv]) ++ List.replicate (3 - (lg_sl ([.ref h0, .int vv])).length) Slot.unset).toArray = ls at hl ⊢
  have hl : lv_has ls 3 [(0, .ref h0), (1, .int vv)] := hl
  refine lv_bipush (v := 24) hx hb dX12_four_0 (by decide) ?_
  refine lv_istore_n (lv' := [(2, .int 24), (0, .ref h0), (1, .int vv)]) hx hb dX12_four_2 rfl hl (by decide) rfl (fun ls hl => ?_)
  refine lv_iload_n hx hb dX12_four_3 rfl (lv_at hl 0 rfl) ?_
  refine lv_if_lt (tgt := 39) hx hb dX12_four_4 (by decide) (fun c => absurd c (by decide)) (fun _ => ?_)
  refine lv_aload_n hx hb dX12_four_7 rfl (lv_at hl 1 rfl) ?_
  refine va_get (D := (dC, dI)) (ci := 12) (v := .ref mv) (C := RX12) (T := TX12) (N := 27) hx hb hts (fun _ h0_ => List.mem_cons_of_mem _ (List.mem_append_right _ (List.mem_append_left _ h0_))) hown hK hP 0 rfl rfl 11 (by decide) (hts (.fieldLink RX12 36 "DeadlineShareModel" "tape" "[I") (List.mem_cons_of_mem _ (List.mem_append_left _ (List.mem_of_getElem? (i := 0) rfl)))) (fun _ h9 => h9) rfl dX12_four_8 ?_
  refine lv_aload_n hx hb dX12_four_11 rfl (lv_at hl 1 rfl) ?_
  refine va_get (D := (dC, dI)) (ci := 12) (v := .int 16) (C := RX12) (T := TX12) (N := 27) hx hb hts (fun _ h0_ => List.mem_cons_of_mem _ (List.mem_append_right _ (List.mem_append_left _ h0_))) hown hK hP 0 rfl rfl 12 (by decide) (hts (.fieldLink RX12 128 "DeadlineShareModel" "taped" "I") (List.mem_cons_of_mem _ (List.mem_append_left _ (List.mem_of_getElem? (i := 1) rfl)))) (fun _ h9 => h9) rfl dX12_four_12 ?_
  refine lv_iload_n hx hb dX12_four_15 rfl (lv_at hl 2 rfl) ?_
  refine lv_iload_n hx hb dX12_four_16 rfl (lv_at hl 0 rfl) ?_
  refine lv_ishr hx hb dX12_four_17 ?_
  refine lv_topi (fun v_1 ev_1 => ?_)
  refine lv_sipush (v := 255) hx hb dX12_four_18 (by decide) ?_
  refine lv_iand hx hb dX12_four_21 ?_
  refine lv_topi (fun v_2 ev_2 => ?_)
  refine va_iast hx hb hK hP hD hS 1 0 rfl rfl (by unfold vp_in; decide) dX12_four_22 (fun H locs hP hD hS => ?_)
  have hP : va_P (dC, dI) vwCl [(h0, .inr (12, [.int 0, .int 0, .ref mr, .ref mt, .ref mw, .ref mu, .ref mp, .ref mi, .ref mk, .ref ms, .int 0, .ref mv, .int 16, .int 0, .int 0, .int 0, .long 0, .int (-1), .int 0, .ref m1w, .ref m2w, .ref m3w, .ref m4w, .int 0, .long 0, .long 0, .long 0])), (mv, .inl (cm9, 200, .inl (upd fv (Int32.toNatClampNeg 16) v_2)))] H := hP
  have hD : va_D A [(h0, .inr (12, [.int 0, .int 0, .ref mr, .ref mt, .ref mw, .ref mu, .ref mp, .ref mi, .ref mk, .ref ms, .int 0, .ref mv, .int 16, .int 0, .int 0, .int 0, .long 0, .int (-1), .int 0, .ref m1w, .ref m2w, .ref m3w, .ref m4w, .int 0, .long 0, .long 0, .long 0])), (mv, .inl (cm9, 200, .inl (upd fv (Int32.toNatClampNeg 16) v_2)))] := hD
  generalize ef_3 : upd fv (Int32.toNatClampNeg 16) v_2 = f_3 at hP hD
  refine lv_aload_n hx hb dX12_four_23 rfl (lv_at hl 1 rfl) ?_
  refine lv_dup hx hb dX12_four_24 rfl ?_
  refine va_get (D := (dC, dI)) (ci := 12) (v := .int 16) (C := RX12) (T := TX12) (N := 27) hx hb hts (fun _ h0_ => List.mem_cons_of_mem _ (List.mem_append_right _ (List.mem_append_left _ h0_))) hown hK hP 0 rfl rfl 12 (by decide) (hts (.fieldLink RX12 128 "DeadlineShareModel" "taped" "I") (List.mem_cons_of_mem _ (List.mem_append_left _ (List.mem_of_getElem? (i := 1) rfl)))) (fun _ h9 => h9) rfl dX12_four_25 ?_
  refine lv_iconst (v := 1) hx hb dX12_four_28 (by decide) ?_
  refine lv_iadd hx hb dX12_four_29 ?_
  refine k_topi (y := 17) (by decide) ?_
  refine va_put (D := (dC, dI)) (ci := 12) (v := .int 17) (ty := .int) (C := RX12) (T := TX12) (N := 27) hx hb hts (fun _ h0_ => List.mem_cons_of_mem _ (List.mem_append_right _ (List.mem_append_left _ h0_))) tyX12 tyX12_ok nmX12 hown hK hP hD hS 0 rfl rfl 12 (by decide) (hts (.fieldLink RX12 128 "DeadlineShareModel" "taped" "I") (List.mem_cons_of_mem _ (List.mem_append_left _ (List.mem_of_getElem? (i := 1) rfl)))) (fun _ h9 => h9) rfl (by decide +kernel) rfl rfl (Nat.le_of_ble_eq_true rfl) dX12_four_30 (fun H locs hP hD hS => ?_)
  have hP : va_P (dC, dI) vwCl [(h0, .inr (12, [.int 0, .int 0, .ref mr, .ref mt, .ref mw, .ref mu, .ref mp, .ref mi, .ref mk, .ref ms, .int 0, .ref mv, .int 17, .int 0, .int 0, .int 0, .long 0, .int (-1), .int 0, .ref m1w, .ref m2w, .ref m3w, .ref m4w, .int 0, .long 0, .long 0, .long 0])), (mv, .inl (cm9, 200, .inl f_3))] H := hP
  have hD : va_D A [(h0, .inr (12, [.int 0, .int 0, .ref mr, .ref mt, .ref mw, .ref mu, .ref mp, .ref mi, .ref mk, .ref ms, .int 0, .ref mv, .int 17, .int 0, .int 0, .int 0, .long 0, .int (-1), .int 0, .ref m1w, .ref m2w, .ref m3w, .ref m4w, .int 0, .long 0, .long 0, .long 0])), (mv, .inl (cm9, 200, .inl f_3))] := hD
  refine lv_iinc (v := 16) (lv' := [(2, .int 16), (0, .ref h0), (1, .int vv)]) hx hb dX12_four_33 hl (k := 0) rfl (by decide) (by decide) rfl (fun ls hl => ?_)
  refine lv_goto (tgt := 3) hx hb dX12_four_36 (by decide) ?_
  refine lv_iload_n hx hb dX12_four_3 rfl (lv_at hl 0 rfl) ?_
  refine lv_if_lt (tgt := 39) hx hb dX12_four_4 (by decide) (fun c => absurd c (by decide)) (fun _ => ?_)
  refine lv_aload_n hx hb dX12_four_7 rfl (lv_at hl 1 rfl) ?_
  refine va_get (D := (dC, dI)) (ci := 12) (v := .ref mv) (C := RX12) (T := TX12) (N := 27) hx hb hts (fun _ h0_ => List.mem_cons_of_mem _ (List.mem_append_right _ (List.mem_append_left _ h0_))) hown hK hP 0 rfl rfl 11 (by decide) (hts (.fieldLink RX12 36 "DeadlineShareModel" "tape" "[I") (List.mem_cons_of_mem _ (List.mem_append_left _ (List.mem_of_getElem? (i := 0) rfl)))) (fun _ h9 => h9) rfl dX12_four_8 ?_
  refine lv_aload_n hx hb dX12_four_11 rfl (lv_at hl 1 rfl) ?_
  refine va_get (D := (dC, dI)) (ci := 12) (v := .int 17) (C := RX12) (T := TX12) (N := 27) hx hb hts (fun _ h0_ => List.mem_cons_of_mem _ (List.mem_append_right _ (List.mem_append_left _ h0_))) hown hK hP 0 rfl rfl 12 (by decide) (hts (.fieldLink RX12 128 "DeadlineShareModel" "taped" "I") (List.mem_cons_of_mem _ (List.mem_append_left _ (List.mem_of_getElem? (i := 1) rfl)))) (fun _ h9 => h9) rfl dX12_four_12 ?_
  refine lv_iload_n hx hb dX12_four_15 rfl (lv_at hl 2 rfl) ?_
  refine lv_iload_n hx hb dX12_four_16 rfl (lv_at hl 0 rfl) ?_
  refine lv_ishr hx hb dX12_four_17 ?_
  refine lv_topi (fun v_5 ev_5 => ?_)
  refine lv_sipush (v := 255) hx hb dX12_four_18 (by decide) ?_
  refine lv_iand hx hb dX12_four_21 ?_
  refine lv_topi (fun v_6 ev_6 => ?_)
  refine va_iast hx hb hK hP hD hS 1 0 rfl rfl (by unfold vp_in; decide) dX12_four_22 (fun H locs hP hD hS => ?_)
  have hP : va_P (dC, dI) vwCl [(h0, .inr (12, [.int 0, .int 0, .ref mr, .ref mt, .ref mw, .ref mu, .ref mp, .ref mi, .ref mk, .ref ms, .int 0, .ref mv, .int 17, .int 0, .int 0, .int 0, .long 0, .int (-1), .int 0, .ref m1w, .ref m2w, .ref m3w, .ref m4w, .int 0, .long 0, .long 0, .long 0])), (mv, .inl (cm9, 200, .inl (upd f_3 (Int32.toNatClampNeg 17) v_6)))] H := hP
  have hD : va_D A [(h0, .inr (12, [.int 0, .int 0, .ref mr, .ref mt, .ref mw, .ref mu, .ref mp, .ref mi, .ref mk, .ref ms, .int 0, .ref mv, .int 17, .int 0, .int 0, .int 0, .long 0, .int (-1), .int 0, .ref m1w, .ref m2w, .ref m3w, .ref m4w, .int 0, .long 0, .long 0, .long 0])), (mv, .inl (cm9, 200, .inl (upd f_3 (Int32.toNatClampNeg 17) v_6)))] := hD
  generalize ef_7 : upd f_3 (Int32.toNatClampNeg 17) v_6 = f_7 at hP hD
  refine lv_aload_n hx hb dX12_four_23 rfl (lv_at hl 1 rfl) ?_
  refine lv_dup hx hb dX12_four_24 rfl ?_
  refine va_get (D := (dC, dI)) (ci := 12) (v := .int 17) (C := RX12) (T := TX12) (N := 27) hx hb hts (fun _ h0_ => List.mem_cons_of_mem _ (List.mem_append_right _ (List.mem_append_left _ h0_))) hown hK hP 0 rfl rfl 12 (by decide) (hts (.fieldLink RX12 128 "DeadlineShareModel" "taped" "I") (List.mem_cons_of_mem _ (List.mem_append_left _ (List.mem_of_getElem? (i := 1) rfl)))) (fun _ h9 => h9) rfl dX12_four_25 ?_
  refine lv_iconst (v := 1) hx hb dX12_four_28 (by decide) ?_
  refine lv_iadd hx hb dX12_four_29 ?_
  refine k_topi (y := 18) (by decide) ?_
  refine va_put (D := (dC, dI)) (ci := 12) (v := .int 18) (ty := .int) (C := RX12) (T := TX12) (N := 27) hx hb hts (fun _ h0_ => List.mem_cons_of_mem _ (List.mem_append_right _ (List.mem_append_left _ h0_))) tyX12 tyX12_ok nmX12 hown hK hP hD hS 0 rfl rfl 12 (by decide) (hts (.fieldLink RX12 128 "DeadlineShareModel" "taped" "I") (List.mem_cons_of_mem _ (List.mem_append_left _ (List.mem_of_getElem? (i := 1) rfl)))) (fun _ h9 => h9) rfl (by decide +kernel) rfl rfl (Nat.le_of_ble_eq_true rfl) dX12_four_30 (fun H locs hP hD hS => ?_)
  have hP : va_P (dC, dI) vwCl [(h0, .inr (12, [.int 0, .int 0, .ref mr, .ref mt, .ref mw, .ref mu, .ref mp, .ref mi, .ref mk, .ref ms, .int 0, .ref mv, .int 18, .int 0, .int 0, .int 0, .long 0, .int (-1), .int 0, .ref m1w, .ref m2w, .ref m3w, .ref m4w, .int 0, .long 0, .long 0, .long 0])), (mv, .inl (cm9, 200, .inl f_7))] H := hP
  have hD : va_D A [(h0, .inr (12, [.int 0, .int 0, .ref mr, .ref mt, .ref mw, .ref mu, .ref mp, .ref mi, .ref mk, .ref ms, .int 0, .ref mv, .int 18, .int 0, .int 0, .int 0, .long 0, .int (-1), .int 0, .ref m1w, .ref m2w, .ref m3w, .ref m4w, .int 0, .long 0, .long 0, .long 0])), (mv, .inl (cm9, 200, .inl f_7))] := hD
  refine lv_iinc (v := 8) (lv' := [(2, .int 8), (0, .ref h0), (1, .int vv)]) hx hb dX12_four_33 hl (k := 0) rfl (by decide) (by decide) rfl (fun ls hl => ?_)
  refine lv_goto (tgt := 3) hx hb dX12_four_36 (by decide) ?_
  refine lv_iload_n hx hb dX12_four_3 rfl (lv_at hl 0 rfl) ?_
  refine lv_if_lt (tgt := 39) hx hb dX12_four_4 (by decide) (fun c => absurd c (by decide)) (fun _ => ?_)
  refine lv_aload_n hx hb dX12_four_7 rfl (lv_at hl 1 rfl) ?_
  refine va_get (D := (dC, dI)) (ci := 12) (v := .ref mv) (C := RX12) (T := TX12) (N := 27) hx hb hts (fun _ h0_ => List.mem_cons_of_mem _ (List.mem_append_right _ (List.mem_append_left _ h0_))) hown hK hP 0 rfl rfl 11 (by decide) (hts (.fieldLink RX12 36 "DeadlineShareModel" "tape" "[I") (List.mem_cons_of_mem _ (List.mem_append_left _ (List.mem_of_getElem? (i := 0) rfl)))) (fun _ h9 => h9) rfl dX12_four_8 ?_
  refine lv_aload_n hx hb dX12_four_11 rfl (lv_at hl 1 rfl) ?_
  refine va_get (D := (dC, dI)) (ci := 12) (v := .int 18) (C := RX12) (T := TX12) (N := 27) hx hb hts (fun _ h0_ => List.mem_cons_of_mem _ (List.mem_append_right _ (List.mem_append_left _ h0_))) hown hK hP 0 rfl rfl 12 (by decide) (hts (.fieldLink RX12 128 "DeadlineShareModel" "taped" "I") (List.mem_cons_of_mem _ (List.mem_append_left _ (List.mem_of_getElem? (i := 1) rfl)))) (fun _ h9 => h9) rfl dX12_four_12 ?_
  refine lv_iload_n hx hb dX12_four_15 rfl (lv_at hl 2 rfl) ?_
  refine lv_iload_n hx hb dX12_four_16 rfl (lv_at hl 0 rfl) ?_
  refine lv_ishr hx hb dX12_four_17 ?_
  refine lv_topi (fun v_9 ev_9 => ?_)
  refine lv_sipush (v := 255) hx hb dX12_four_18 (by decide) ?_
  refine lv_iand hx hb dX12_four_21 ?_
  refine lv_topi (fun v_10 ev_10 => ?_)
  refine va_iast hx hb hK hP hD hS 1 0 rfl rfl (by unfold vp_in; decide) dX12_four_22 (fun H locs hP hD hS => ?_)
  have hP : va_P (dC, dI) vwCl [(h0, .inr (12, [.int 0, .int 0, .ref mr, .ref mt, .ref mw, .ref mu, .ref mp, .ref mi, .ref mk, .ref ms, .int 0, .ref mv, .int 18, .int 0, .int 0, .int 0, .long 0, .int (-1), .int 0, .ref m1w, .ref m2w, .ref m3w, .ref m4w, .int 0, .long 0, .long 0, .long 0])), (mv, .inl (cm9, 200, .inl (upd f_7 (Int32.toNatClampNeg 18) v_10)))] H := hP
  have hD : va_D A [(h0, .inr (12, [.int 0, .int 0, .ref mr, .ref mt, .ref mw, .ref mu, .ref mp, .ref mi, .ref mk, .ref ms, .int 0, .ref mv, .int 18, .int 0, .int 0, .int 0, .long 0, .int (-1), .int 0, .ref m1w, .ref m2w, .ref m3w, .ref m4w, .int 0, .long 0, .long 0, .long 0])), (mv, .inl (cm9, 200, .inl (upd f_7 (Int32.toNatClampNeg 18) v_10)))] := hD
  generalize ef_11 : upd f_7 (Int32.toNatClampNeg 18) v_10 = f_11 at hP hD
  refine lv_aload_n hx hb dX12_four_23 rfl (lv_at hl 1 rfl) ?_
  refine lv_dup hx hb dX12_four_24 rfl ?_
  refine va_get (D := (dC, dI)) (ci := 12) (v := .int 18) (C := RX12) (T := TX12) (N := 27) hx hb hts (fun _ h0_ => List.mem_cons_of_mem _ (List.mem_append_right _ (List.mem_append_left _ h0_))) hown hK hP 0 rfl rfl 12 (by decide) (hts (.fieldLink RX12 128 "DeadlineShareModel" "taped" "I") (List.mem_cons_of_mem _ (List.mem_append_left _ (List.mem_of_getElem? (i := 1) rfl)))) (fun _ h9 => h9) rfl dX12_four_25 ?_
  refine lv_iconst (v := 1) hx hb dX12_four_28 (by decide) ?_
  refine lv_iadd hx hb dX12_four_29 ?_
  refine k_topi (y := 19) (by decide) ?_
  refine va_put (D := (dC, dI)) (ci := 12) (v := .int 19) (ty := .int) (C := RX12) (T := TX12) (N := 27) hx hb hts (fun _ h0_ => List.mem_cons_of_mem _ (List.mem_append_right _ (List.mem_append_left _ h0_))) tyX12 tyX12_ok nmX12 hown hK hP hD hS 0 rfl rfl 12 (by decide) (hts (.fieldLink RX12 128 "DeadlineShareModel" "taped" "I") (List.mem_cons_of_mem _ (List.mem_append_left _ (List.mem_of_getElem? (i := 1) rfl)))) (fun _ h9 => h9) rfl (by decide +kernel) rfl rfl (Nat.le_of_ble_eq_true rfl) dX12_four_30 (fun H locs hP hD hS => ?_)
  have hP : va_P (dC, dI) vwCl [(h0, .inr (12, [.int 0, .int 0, .ref mr, .ref mt, .ref mw, .ref mu, .ref mp, .ref mi, .ref mk, .ref ms, .int 0, .ref mv, .int 19, .int 0, .int 0, .int 0, .long 0, .int (-1), .int 0, .ref m1w, .ref m2w, .ref m3w, .ref m4w, .int 0, .long 0, .long 0, .long 0])), (mv, .inl (cm9, 200, .inl f_11))] H := hP
  have hD : va_D A [(h0, .inr (12, [.int 0, .int 0, .ref mr, .ref mt, .ref mw, .ref mu, .ref mp, .ref mi, .ref mk, .ref ms, .int 0, .ref mv, .int 19, .int 0, .int 0, .int 0, .long 0, .int (-1), .int 0, .ref m1w, .ref m2w, .ref m3w, .ref m4w, .int 0, .long 0, .long 0, .long 0])), (mv, .inl (cm9, 200, .inl f_11))] := hD
  refine lv_iinc (v := 0) (lv' := [(2, .int 0), (0, .ref h0), (1, .int vv)]) hx hb dX12_four_33 hl (k := 0) rfl (by decide) (by decide) rfl (fun ls hl => ?_)
  refine lv_goto (tgt := 3) hx hb dX12_four_36 (by decide) ?_
  refine lv_iload_n hx hb dX12_four_3 rfl (lv_at hl 0 rfl) ?_
  refine lv_if_lt (tgt := 39) hx hb dX12_four_4 (by decide) (fun c => absurd c (by decide)) (fun _ => ?_)
  refine lv_aload_n hx hb dX12_four_7 rfl (lv_at hl 1 rfl) ?_
  refine va_get (D := (dC, dI)) (ci := 12) (v := .ref mv) (C := RX12) (T := TX12) (N := 27) hx hb hts (fun _ h0_ => List.mem_cons_of_mem _ (List.mem_append_right _ (List.mem_append_left _ h0_))) hown hK hP 0 rfl rfl 11 (by decide) (hts (.fieldLink RX12 36 "DeadlineShareModel" "tape" "[I") (List.mem_cons_of_mem _ (List.mem_append_left _ (List.mem_of_getElem? (i := 0) rfl)))) (fun _ h9 => h9) rfl dX12_four_8 ?_
  refine lv_aload_n hx hb dX12_four_11 rfl (lv_at hl 1 rfl) ?_
  refine va_get (D := (dC, dI)) (ci := 12) (v := .int 19) (C := RX12) (T := TX12) (N := 27) hx hb hts (fun _ h0_ => List.mem_cons_of_mem _ (List.mem_append_right _ (List.mem_append_left _ h0_))) hown hK hP 0 rfl rfl 12 (by decide) (hts (.fieldLink RX12 128 "DeadlineShareModel" "taped" "I") (List.mem_cons_of_mem _ (List.mem_append_left _ (List.mem_of_getElem? (i := 1) rfl)))) (fun _ h9 => h9) rfl dX12_four_12 ?_
  refine lv_iload_n hx hb dX12_four_15 rfl (lv_at hl 2 rfl) ?_
  refine lv_iload_n hx hb dX12_four_16 rfl (lv_at hl 0 rfl) ?_
  refine lv_ishr hx hb dX12_four_17 ?_
  refine lv_topi (fun v_13 ev_13 => ?_)
  refine lv_sipush (v := 255) hx hb dX12_four_18 (by decide) ?_
  refine lv_iand hx hb dX12_four_21 ?_
  refine lv_topi (fun v_14 ev_14 => ?_)
  refine va_iast hx hb hK hP hD hS 1 0 rfl rfl (by unfold vp_in; decide) dX12_four_22 (fun H locs hP hD hS => ?_)
  have hP : va_P (dC, dI) vwCl [(h0, .inr (12, [.int 0, .int 0, .ref mr, .ref mt, .ref mw, .ref mu, .ref mp, .ref mi, .ref mk, .ref ms, .int 0, .ref mv, .int 19, .int 0, .int 0, .int 0, .long 0, .int (-1), .int 0, .ref m1w, .ref m2w, .ref m3w, .ref m4w, .int 0, .long 0, .long 0, .long 0])), (mv, .inl (cm9, 200, .inl (upd f_11 (Int32.toNatClampNeg 19) v_14)))] H := hP
  have hD : va_D A [(h0, .inr (12, [.int 0, .int 0, .ref mr, .ref mt, .ref mw, .ref mu, .ref mp, .ref mi, .ref mk, .ref ms, .int 0, .ref mv, .int 19, .int 0, .int 0, .int 0, .long 0, .int (-1), .int 0, .ref m1w, .ref m2w, .ref m3w, .ref m4w, .int 0, .long 0, .long 0, .long 0])), (mv, .inl (cm9, 200, .inl (upd f_11 (Int32.toNatClampNeg 19) v_14)))] := hD
  generalize ef_15 : upd f_11 (Int32.toNatClampNeg 19) v_14 = f_15 at hP hD
  refine lv_aload_n hx hb dX12_four_23 rfl (lv_at hl 1 rfl) ?_
  refine lv_dup hx hb dX12_four_24 rfl ?_
  refine va_get (D := (dC, dI)) (ci := 12) (v := .int 19) (C := RX12) (T := TX12) (N := 27) hx hb hts (fun _ h0_ => List.mem_cons_of_mem _ (List.mem_append_right _ (List.mem_append_left _ h0_))) hown hK hP 0 rfl rfl 12 (by decide) (hts (.fieldLink RX12 128 "DeadlineShareModel" "taped" "I") (List.mem_cons_of_mem _ (List.mem_append_left _ (List.mem_of_getElem? (i := 1) rfl)))) (fun _ h9 => h9) rfl dX12_four_25 ?_
  refine lv_iconst (v := 1) hx hb dX12_four_28 (by decide) ?_
  refine lv_iadd hx hb dX12_four_29 ?_
  refine k_topi (y := 20) (by decide) ?_
  refine va_put (D := (dC, dI)) (ci := 12) (v := .int 20) (ty := .int) (C := RX12) (T := TX12) (N := 27) hx hb hts (fun _ h0_ => List.mem_cons_of_mem _ (List.mem_append_right _ (List.mem_append_left _ h0_))) tyX12 tyX12_ok nmX12 hown hK hP hD hS 0 rfl rfl 12 (by decide) (hts (.fieldLink RX12 128 "DeadlineShareModel" "taped" "I") (List.mem_cons_of_mem _ (List.mem_append_left _ (List.mem_of_getElem? (i := 1) rfl)))) (fun _ h9 => h9) rfl (by decide +kernel) rfl rfl (Nat.le_of_ble_eq_true rfl) dX12_four_30 (fun H locs hP hD hS => ?_)
  have hP : va_P (dC, dI) vwCl [(h0, .inr (12, [.int 0, .int 0, .ref mr, .ref mt, .ref mw, .ref mu, .ref mp, .ref mi, .ref mk, .ref ms, .int 0, .ref mv, .int 20, .int 0, .int 0, .int 0, .long 0, .int (-1), .int 0, .ref m1w, .ref m2w, .ref m3w, .ref m4w, .int 0, .long 0, .long 0, .long 0])), (mv, .inl (cm9, 200, .inl f_15))] H := hP
  have hD : va_D A [(h0, .inr (12, [.int 0, .int 0, .ref mr, .ref mt, .ref mw, .ref mu, .ref mp, .ref mi, .ref mk, .ref ms, .int 0, .ref mv, .int 20, .int 0, .int 0, .int 0, .long 0, .int (-1), .int 0, .ref m1w, .ref m2w, .ref m3w, .ref m4w, .int 0, .long 0, .long 0, .long 0])), (mv, .inl (cm9, 200, .inl f_15))] := hD
  refine lv_iinc (v := (-8)) (lv' := [(2, .int (-8)), (0, .ref h0), (1, .int vv)]) hx hb dX12_four_33 hl (k := 0) rfl (by decide) (by decide) rfl (fun ls hl => ?_)
  refine lv_goto (tgt := 3) hx hb dX12_four_36 (by decide) ?_
  refine lv_iload_n hx hb dX12_four_3 rfl (lv_at hl 0 rfl) ?_
  refine lv_if_lt (tgt := 39) hx hb dX12_four_4 (by decide) (fun _ => ?_) (fun c => absurd (by decide) c)
  have hP9 := hP.sub (ws' := [(h0, .inr (12, [.int 0, .int 0, .ref mr, .ref mt, .ref mw, .ref mu, .ref mp, .ref mi, .ref mk, .ref ms, .int 0, .ref mv, .int 20, .int 0, .int 0, .int 0, .long 0, .int (-1), .int 0, .ref m1w, .ref m2w, .ref m3w, .ref m4w, .int 0, .long 0, .long 0, .long 0])), (mv, .inl (cm9, 200, .inl f_15))]) [0, 1] rfl
  have hD9 := hD.sub (ws' := [(h0, .inr (12, [.int 0, .int 0, .ref mr, .ref mt, .ref mw, .ref mu, .ref mp, .ref mi, .ref mk, .ref ms, .int 0, .ref mv, .int 20, .int 0, .int 0, .int 0, .long 0, .int (-1), .int 0, .ref m1w, .ref m2w, .ref m3w, .ref m4w, .int 0, .long 0, .long 0, .long 0])), (mv, .inl (cm9, 200, .inl f_15))]) [0, 1] (by decide) rfl
  have hK9 := hK.sub (tys' := [(cm9, .int)]) [0] rfl
  refine W.widen (k := 0) (n := 0) (Nat.le_of_ble_eq_true rfl) (Nat.le_of_ble_eq_true rfl) ?_
  exact W.vret hx hb hr (fun t ht hW => ⟨⟨(), rfl, trivial, f_15, by rw [ht]; exact hP9, va_K.moved hW.alike hK9, hD9⟩, hS.F ht⟩) hS.2.2 dX12_four_39
def ow_c_X12_logAt : List Cond := [.fieldLink RX12 16 "DeadlineShareModel" "row" "[J", .methodLink RX12 83 yX12_in, .static yX12_in, .initialized RX12]
def wq_c_X12_logAt : List Cond := .code yX12_logAt cX12_logAt 5 (some .int) :: (ow_c_X12_logAt ++ (u_ws RX12 TX12 27 ++ (wq_c_X12_in ++ ([] : List Cond))))
theorem tb_c_X12_logAt : ∀ w ∈ wq_c_X12_logAt, q_g w := by
  unfold wq_c_X12_logAt ow_c_X12_logAt
  exact q_cons tw_446 (q_app (q_cons tw_425 (q_cons tw_437 (q_cons tw_436 (q_cons tw_435 q_nil)))) (q_app tu_X12 (q_app tb_c_X12_in q_nil)))
set_option maxHeartbeats 4000000 in
set_option maxRecDepth 100000 in
theorem c_X12_logAt (l : Launch) (dC : Nat → ClassId) (dI : Nat → Nat → Nat) (h0 : Nat) (mr : Nat) (mt : Nat) (mw : Nat) (mu : Nat) (mp : Nat) (mi : Nat) (mk : Nat) (ms : Nat) (mv : Nat) (m1w : Nat) (m2w : Nat) (m3w : Nat) (m4w : Nat) (cm3 : ClassId) (fw : Nat → Int64) (wh : Int32) (sz : Nat) (hw0 : fw 0 = 0) (hw1 : fw 1 = 0) (hw5 : fw 5 = 0) : Met l yX12_logAt wq_c_X12_logAt ({ frames := 1, cells := 0, slots := 0, locals := 25 } : Room) (va_Pc [.ref h0, .long wh.toInt64] (fun U => U.heap.size = sz ∧ va_P (dC, dI) vwCl [(h0, .inr (12, [.int 0, .int 0, .ref mr, .ref mt, .ref mw, .ref mu, .ref mp, .ref mi, .ref mk, .ref ms, .int 0, .ref mv, .int 0, .int 0, .int 0, .int 0, .long 0, .int (-1), .int 0, .ref m1w, .ref m2w, .ref m3w, .ref m4w, .int 0, .long 0, .long 0, .long 0])), (mw, .inl (cm3, 906, .inr (.inl fw)))] U.heap ∧ va_K (dC, dI) vwCl [(cm3, .long)] U ∧ va_D (fun _ => True) [(h0, .inr (12, [.int 0, .int 0, .ref mr, .ref mt, .ref mw, .ref mu, .ref mp, .ref mi, .ref mk, .ref ms, .int 0, .ref mv, .int 0, .int 0, .int 0, .int 0, .long 0, .int (-1), .int 0, .ref m1w, .ref m2w, .ref m3w, .ref m4w, .int 0, .long 0, .long 0, .long 0])), (mw, .inl (cm3, 906, .inr (.inl fw)))])) (va_Qi (fun (r : Int32) (_ : Unit) => r = (-1)) (fun (_ : Unit) t => va_P (dC, dI) vwCl [(h0, .inr (12, [.int 0, .int 0, .ref mr, .ref mt, .ref mw, .ref mu, .ref mp, .ref mi, .ref mk, .ref ms, .int 0, .ref mv, .int 0, .int 0, .int 0, .int 0, .long 0, .int (-1), .int 0, .ref m1w, .ref m2w, .ref m3w, .ref m4w, .int 0, .long 0, .long 0, .long 0])), (mw, .inl (cm3, 906, .inr (.inl fw)))] t.heap ∧ va_K (dC, dI) vwCl [(cm3, .long)] t ∧ va_D (va_A [(h0, .inr (12, [.int 0, .int 0, .ref mr, .ref mt, .ref mw, .ref mu, .ref mp, .ref mi, .ref mk, .ref ms, .int 0, .ref mv, .int 0, .int 0, .int 0, .int 0, .long 0, .int (-1), .int 0, .ref m1w, .ref m2w, .ref m3w, .ref m4w, .int 0, .long 0, .long 0, .long 0])), (mw, .inl (cm3, 906, .inr (.inl fw)))] sz) [(h0, .inr (12, [.int 0, .int 0, .ref mr, .ref mt, .ref mw, .ref mu, .ref mp, .ref mi, .ref mk, .ref ms, .int 0, .ref mv, .int 0, .int 0, .int 0, .int 0, .long 0, .int (-1), .int 0, .ref m1w, .ref m2w, .ref m3w, .ref m4w, .int 0, .long 0, .long 0, .long 0])), (mw, .inl (cm3, 906, .inr (.inl fw)))]) (va_A [(h0, .inr (12, [.int 0, .int 0, .ref mr, .ref mt, .ref mw, .ref mu, .ref mp, .ref mi, .ref mk, .ref ms, .int 0, .ref mv, .int 0, .int 0, .int 0, .int 0, .long 0, .int (-1), .int 0, .ref m1w, .ref m2w, .ref m3w, .ref m4w, .int 0, .long 0, .long 0, .long 0])), (mw, .inl (cm3, 906, .inr (.inl fw)))] sz)) 0 0 (va_A [(h0, .inr (12, [.int 0, .int 0, .ref mr, .ref mt, .ref mw, .ref mu, .ref mp, .ref mi, .ref mk, .ref ms, .int 0, .ref mv, .int 0, .int 0, .int 0, .int 0, .long 0, .int (-1), .int 0, .ref m1w, .ref m2w, .ref m3w, .ref m4w, .int 0, .long 0, .long 0, .long 0])), (mw, .inl (cm3, 906, .inr (.inl fw)))] sz) := by
  refine Met.ofW (cc := cX12_logAt) (maxL := 5) (ret := (some .int)) (by decide) rfl ?_
  intro p e s m args below meth c s₁ B hml hv
  obtain ⟨rfl, hsz, hP, hK, hD0⟩ := hv
  have hx := B.exec
  have hb := B.bytes
  have hr := B.returns
  have hts := atoms_spec (ws := wq_c_X12_logAt) B.pre
  have hown : s.vm.findClass RX12 = some m.cls := findClass_of_methodNamed B.named
  have hlocks := B.notSynchronized
  subst hsz
  have hD := hD0.self (sz := s.heap.size)
  obtain ⟨A, hAe⟩ : ∃ A, A = va_A [(h0, .inr (12, [.int 0, .int 0, .ref mr, .ref mt, .ref mw, .ref mu, .ref mp, .ref mi, .ref mk, .ref ms, .int 0, .ref mv, .int 0, .int 0, .int 0, .int 0, .long 0, .int (-1), .int 0, .ref m1w, .ref m2w, .ref m3w, .ref m4w, .int 0, .long 0, .long 0, .long 0])), (mw, .inl (cm3, 906, .inr (.inl fw)))] s.heap.size := ⟨_, rfl⟩
  rw [← hAe] at hD ⊢
  have hA : ∀ q : Nat, s.heap.size ≤ q → A q := fun q h => by rw [hAe]; exact Or.inr h
  have hS : va_S A s.heap s.heap [] := va_S.rf
  have hP : va_P (dC, dI) vwCl [(h0, .inr (12, [.int 0, .int 0, .ref mr, .ref mt, .ref mw, .ref mu, .ref mp, .ref mi, .ref mk, .ref ms, .int 0, .ref mv, .int 0, .int 0, .int 0, .int 0, .long 0, .int (-1), .int 0, .ref m1w, .ref m2w, .ref m3w, .ref m4w, .int 0, .long 0, .long 0, .long 0])), (mw, .inl (cm3, 906, .inr (.inl fw)))] s.heap := hP
  have hl := lv_entry ([.ref h0, .long wh.toInt64]) (n := 5) (Nat.le_of_ble_eq_true rfl)
  rw [lg_entry_eq]
  generalize (lg_sl ([.ref h0, .long wh.toInt64]) ++ List.replicate (5 - (lg_sl ([.ref h0, .long wh.toInt64])).length) Slot.unset).toArray = ls at hl ⊢
  have hl : lv_has ls 5 [(0, .ref h0), (1, .long wh.toInt64)] := hl
  refine lv_aload_n hx hb dX12_logAt_0 rfl (lv_at hl 0 rfl) ?_
  refine va_get (D := (dC, dI)) (ci := 12) (v := .ref mw) (C := RX12) (T := TX12) (N := 27) hx hb hts (fun _ h0_ => List.mem_cons_of_mem _ (List.mem_append_right _ (List.mem_append_left _ h0_))) hown hK hP 0 rfl rfl 4 (by decide) (hts (.fieldLink RX12 16 "DeadlineShareModel" "row" "[J") (List.mem_cons_of_mem _ (List.mem_append_left _ (List.mem_of_getElem? (i := 0) rfl)))) (fun _ h9 => h9) rfl dX12_logAt_1 ?_
  refine lv_iconst (v := 1) hx hb dX12_logAt_4 (by decide) ?_
  refine va_lald hx hb hK hP 1 0 rfl rfl (by unfold vp_in; decide) dX12_logAt_5 ?_
  refine k_topl (y := 0) ((congrArg fw (show Int32.toNatClampNeg 1 = 1 by decide)).trans hw1) ?_
  refine lv_aload_n hx hb dX12_logAt_6 rfl (lv_at hl 0 rfl) ?_
  refine va_get (D := (dC, dI)) (ci := 12) (v := .ref mw) (C := RX12) (T := TX12) (N := 27) hx hb hts (fun _ h0_ => List.mem_cons_of_mem _ (List.mem_append_right _ (List.mem_append_left _ h0_))) hown hK hP 0 rfl rfl 4 (by decide) (hts (.fieldLink RX12 16 "DeadlineShareModel" "row" "[J") (List.mem_cons_of_mem _ (List.mem_append_left _ (List.mem_of_getElem? (i := 0) rfl)))) (fun _ h9 => h9) rfl dX12_logAt_7 ?_
  refine lv_iconst (v := 5) hx hb dX12_logAt_10 (by decide) ?_
  refine va_lald hx hb hK hP 1 0 rfl rfl (by unfold vp_in; decide) dX12_logAt_11 ?_
  refine k_topl (y := 0) ((congrArg fw (show Int32.toNatClampNeg 5 = 5 by decide)).trans hw5) ?_
  refine lv_lsub hx hb dX12_logAt_12 ?_
  refine k_topl (y := 0) (by decide) ?_
  refine lv_lstore_n (lv' := [(3, .long 0), (0, .ref h0), (1, .long wh.toInt64)]) hx hb dX12_logAt_13 rfl hl (by decide) rfl (fun ls hl => ?_)
  refine lv_lload_n hx hb dX12_logAt_14 rfl (lv_at hl 2 rfl) ?_
  refine lv_lload_n hx hb dX12_logAt_15 rfl (lv_at hl 0 rfl) ?_
  refine lv_aload_n hx hb dX12_logAt_16 rfl (lv_at hl 1 rfl) ?_
  refine va_get (D := (dC, dI)) (ci := 12) (v := .ref mw) (C := RX12) (T := TX12) (N := 27) hx hb hts (fun _ h0_ => List.mem_cons_of_mem _ (List.mem_append_right _ (List.mem_append_left _ h0_))) hown hK hP 0 rfl rfl 4 (by decide) (hts (.fieldLink RX12 16 "DeadlineShareModel" "row" "[J") (List.mem_cons_of_mem _ (List.mem_append_left _ (List.mem_of_getElem? (i := 0) rfl)))) (fun _ h9 => h9) rfl dX12_logAt_17 ?_
  refine lv_iconst (v := 1) hx hb dX12_logAt_20 (by decide) ?_
  refine va_lald hx hb hK hP 1 0 rfl rfl (by unfold vp_in; decide) dX12_logAt_21 ?_
  refine k_topl (y := 0) ((congrArg fw (show Int32.toNatClampNeg 1 = 1 by decide)).trans hw1) ?_
  refine lv_lconst (v := 1) hx hb dX12_logAt_22 (by decide) ?_
  refine lv_lsub hx hb dX12_logAt_23 ?_
  refine k_topl (y := (-1)) (by decide) ?_
  have hPc := hP.sub (ws' := []) [] rfl
  have hDc := hD.sub (ws' := []) [] (by decide) rfl
  have hKc := hK.sub (tys' := []) [] rfl
  have hFc := va_free (wc := []) hD hS hA [] rfl
  refine va_calli (va_runS (As := [.long wh.toInt64, .long 0, .long (-1)]) (rest := []) ⟨hx, hb, hml, hown, hts⟩ (c_X12_in l dC dI wh.toInt64 0 (-1) s.heap.size) (va_cwS 3 hts (gi_S (fun w_ h0_ => ⟨List.mem_cons_of_mem _ (List.mem_append_right _ (List.mem_append_right _ (List.mem_append_left _ h0_))), (tb_c_X12_in w_ h0_).2⟩) (List.mem_cons_of_mem _ (List.mem_append_left _ (List.mem_of_getElem? (i := 1) rfl))) (List.mem_cons_of_mem _ (List.mem_append_left _ (List.mem_of_getElem? (i := 2) rfl))) (List.mem_cons_of_mem _ (List.mem_append_left _ (List.mem_of_getElem? (i := 3) rfl)))) rfl rfl rfl (by decide +kernel) ⟨Nat.le_of_ble_eq_true rfl, Nat.le_of_ble_eq_true rfl⟩) ⟨fun a U g mk q => by obtain ⟨q0, q1, qP, qK, qD⟩ := q; exact ⟨q0, q1, qP, va_K.moved (u := U) (U := U.calling g mk a) (Vm.Alike.refl U.vm) qK, qD⟩, fun U hU hW => ⟨rfl, by rw [hU], by rw [hU]; exact hPc, va_K.moved hW.alike hKc, hDc.weaken (fun _ _ _ _ => trivial)⟩⟩ rfl rfl hl.1 rfl (lv_room (Nat.le_of_ble_eq_true rfl)) dX12_logAt_24 ⟨Nat.le_of_ble_eq_true rfl, Nat.le_of_ble_eq_true rfl⟩) hS (fun q _ h => hFc q h) hFc (fun r_1 u t H1 locs ht hvm hw hB hz1 hk1 hS => ?_)
  obtain ⟨hP1, hK1, hD1⟩ := hB
  rw [ht] at hP1
  have hK1 := va_K.moved hvm.symm hK1
  obtain ⟨hP, hD⟩ := va_join (wr := [(h0, .inr (12, [.int 0, .int 0, .ref mr, .ref mt, .ref mw, .ref mu, .ref mp, .ref mi, .ref mk, .ref ms, .int 0, .ref mv, .int 0, .int 0, .int 0, .int 0, .long 0, .int (-1), .int 0, .ref m1w, .ref m2w, .ref m3w, .ref m4w, .int 0, .long 0, .long 0, .long 0])), (mw, .inl (cm3, 906, .inr (.inl fw)))]) (w1 := []) hP hD [] [0, 1] rfl rfl (by decide) (by decide) hk1 hFc hP1 hD1
  generalize H1 = H at hP hS ⊢
  have hP : va_P (dC, dI) vwCl [(h0, .inr (12, [.int 0, .int 0, .ref mr, .ref mt, .ref mw, .ref mu, .ref mp, .ref mi, .ref mk, .ref ms, .int 0, .ref mv, .int 0, .int 0, .int 0, .int 0, .long 0, .int (-1), .int 0, .ref m1w, .ref m2w, .ref m3w, .ref m4w, .int 0, .long 0, .long 0, .long 0])), (mw, .inl (cm3, 906, .inr (.inl fw)))] H := hP
  have hD : va_D A [(h0, .inr (12, [.int 0, .int 0, .ref mr, .ref mt, .ref mw, .ref mu, .ref mp, .ref mi, .ref mk, .ref ms, .int 0, .ref mv, .int 0, .int 0, .int 0, .int 0, .long 0, .int (-1), .int 0, .ref m1w, .ref m2w, .ref m3w, .ref m4w, .int 0, .long 0, .long 0, .long 0])), (mw, .inl (cm3, 906, .inr (.inl fw)))] := hD
  refine W.widen (k := 0) (n := 0) (Nat.le_of_ble_eq_true rfl) (Nat.le_of_ble_eq_true rfl) ?_
  have hw : r_1 = sp_in wh.toInt64 0 (-1) := hw
  subst hw
  refine k_topi (y := sp_r wh 0 (-1)) (sp_in_r _ _ _ (by decide) (by decide)) ?_
  refine lv_if_eq (tgt := 43) hx hb dX12_logAt_27 (by decide) (fun _ => ?_) (fun c => absurd ((sp_r0 _ _ _).mpr (by skip; omega)) c)
  refine lv_iconst (v := (-1)) hx hb dX12_logAt_43 (by decide) ?_
  have hP9 := hP.sub (ws' := [(h0, .inr (12, [.int 0, .int 0, .ref mr, .ref mt, .ref mw, .ref mu, .ref mp, .ref mi, .ref mk, .ref ms, .int 0, .ref mv, .int 0, .int 0, .int 0, .int 0, .long 0, .int (-1), .int 0, .ref m1w, .ref m2w, .ref m3w, .ref m4w, .int 0, .long 0, .long 0, .long 0])), (mw, .inl (cm3, 906, .inr (.inl fw)))]) [0, 1] rfl
  have hD9 := hD.sub (ws' := [(h0, .inr (12, [.int 0, .int 0, .ref mr, .ref mt, .ref mw, .ref mu, .ref mp, .ref mi, .ref mk, .ref ms, .int 0, .ref mv, .int 0, .int 0, .int 0, .int 0, .long 0, .int (-1), .int 0, .ref m1w, .ref m2w, .ref m3w, .ref m4w, .int 0, .long 0, .long 0, .long 0])), (mw, .inl (cm3, 906, .inr (.inl fw)))]) [0, 1] (by decide) rfl
  have hK9 := hK.sub (tys' := [(cm3, .long)]) [0] rfl
  refine W.widen (k := 0) (n := 0) (Nat.le_of_ble_eq_true rfl) (Nat.le_of_ble_eq_true rfl) ?_
  exact W.iret (v := (-1)) hx hb hr (fun t ht hW => ⟨⟨(-1), (), rfl, rfl, by rw [ht]; exact hP9, va_K.moved hW.alike hK9, hD9⟩, hS.F ht⟩) hS.2.2 dX12_logAt_44
def ow_c_X12_inState : List Cond := [.fieldLink RX12 16 "DeadlineShareModel" "row" "[J"]
def wq_c_X12_inState : List Cond := .code yX12_inState cX12_inState 4 (some .int) :: (ow_c_X12_inState ++ (u_ws RX12 TX12 27 ++ ([] : List Cond)))
theorem tb_c_X12_inState : ∀ w ∈ wq_c_X12_inState, q_g w := by
  unfold wq_c_X12_inState ow_c_X12_inState
  exact q_cons tw_447 (q_app (q_cons tw_425 q_nil) (q_app tu_X12 q_nil))
set_option maxHeartbeats 4000000 in
set_option maxRecDepth 100000 in
theorem c_X12_inState (l : Launch) (dC : Nat → ClassId) (dI : Nat → Nat → Nat) (h0 : Nat) (kd : Int32) (mr : Nat) (mt : Nat) (mw : Nat) (mu : Nat) (mp : Nat) (mi : Nat) (mk : Nat) (ms : Nat) (mv : Nat) (m1w : Nat) (m2w : Nat) (m3w : Nat) (m4w : Nat) (cm3 : ClassId) (fw : Nat → Int64) (sz : Nat) (hw0 : fw 0 = 0) : Met l yX12_inState wq_c_X12_inState ({ frames := 0, cells := 0, slots := 0, locals := 0 } : Room) (va_Pc [.ref h0, .int kd] (fun U => U.heap.size = sz ∧ va_P (dC, dI) vwCl [(h0, .inr (12, [.int 0, .int 0, .ref mr, .ref mt, .ref mw, .ref mu, .ref mp, .ref mi, .ref mk, .ref ms, .int 0, .ref mv, .int 0, .int 0, .int 0, .int 0, .long 0, .int (-1), .int 0, .ref m1w, .ref m2w, .ref m3w, .ref m4w, .int 0, .long 0, .long 0, .long 0])), (mw, .inl (cm3, 906, .inr (.inl fw)))] U.heap ∧ va_K (dC, dI) vwCl [(cm3, .long)] U ∧ va_D (fun _ => True) [(h0, .inr (12, [.int 0, .int 0, .ref mr, .ref mt, .ref mw, .ref mu, .ref mp, .ref mi, .ref mk, .ref ms, .int 0, .ref mv, .int 0, .int 0, .int 0, .int 0, .long 0, .int (-1), .int 0, .ref m1w, .ref m2w, .ref m3w, .ref m4w, .int 0, .long 0, .long 0, .long 0])), (mw, .inl (cm3, 906, .inr (.inl fw)))])) (va_Qi (fun (r : Int32) (_ : Unit) => r = 0) (fun (_ : Unit) t => va_P (dC, dI) vwCl [(h0, .inr (12, [.int 0, .int 0, .ref mr, .ref mt, .ref mw, .ref mu, .ref mp, .ref mi, .ref mk, .ref ms, .int 0, .ref mv, .int 0, .int 0, .int 0, .int 0, .long 0, .int (-1), .int 0, .ref m1w, .ref m2w, .ref m3w, .ref m4w, .int 0, .long 0, .long 0, .long 0])), (mw, .inl (cm3, 906, .inr (.inl fw)))] t.heap ∧ va_K (dC, dI) vwCl [(cm3, .long)] t ∧ va_D (va_A [(h0, .inr (12, [.int 0, .int 0, .ref mr, .ref mt, .ref mw, .ref mu, .ref mp, .ref mi, .ref mk, .ref ms, .int 0, .ref mv, .int 0, .int 0, .int 0, .int 0, .long 0, .int (-1), .int 0, .ref m1w, .ref m2w, .ref m3w, .ref m4w, .int 0, .long 0, .long 0, .long 0])), (mw, .inl (cm3, 906, .inr (.inl fw)))] sz) [(h0, .inr (12, [.int 0, .int 0, .ref mr, .ref mt, .ref mw, .ref mu, .ref mp, .ref mi, .ref mk, .ref ms, .int 0, .ref mv, .int 0, .int 0, .int 0, .int 0, .long 0, .int (-1), .int 0, .ref m1w, .ref m2w, .ref m3w, .ref m4w, .int 0, .long 0, .long 0, .long 0])), (mw, .inl (cm3, 906, .inr (.inl fw)))]) (va_A [(h0, .inr (12, [.int 0, .int 0, .ref mr, .ref mt, .ref mw, .ref mu, .ref mp, .ref mi, .ref mk, .ref ms, .int 0, .ref mv, .int 0, .int 0, .int 0, .int 0, .long 0, .int (-1), .int 0, .ref m1w, .ref m2w, .ref m3w, .ref m4w, .int 0, .long 0, .long 0, .long 0])), (mw, .inl (cm3, 906, .inr (.inl fw)))] sz)) 0 0 (va_A [(h0, .inr (12, [.int 0, .int 0, .ref mr, .ref mt, .ref mw, .ref mu, .ref mp, .ref mi, .ref mk, .ref ms, .int 0, .ref mv, .int 0, .int 0, .int 0, .int 0, .long 0, .int (-1), .int 0, .ref m1w, .ref m2w, .ref m3w, .ref m4w, .int 0, .long 0, .long 0, .long 0])), (mw, .inl (cm3, 906, .inr (.inl fw)))] sz) := by
  refine Met.ofW (cc := cX12_inState) (maxL := 4) (ret := (some .int)) (by decide) rfl ?_
  intro p e s m args below meth c s₁ B hml hv
  obtain ⟨rfl, hsz, hP, hK, hD0⟩ := hv
  have hx := B.exec
  have hb := B.bytes
  have hr := B.returns
  have hts := atoms_spec (ws := wq_c_X12_inState) B.pre
  have hown : s.vm.findClass RX12 = some m.cls := findClass_of_methodNamed B.named
  have hlocks := B.notSynchronized
  subst hsz
  have hD := hD0.self (sz := s.heap.size)
  obtain ⟨A, hAe⟩ : ∃ A, A = va_A [(h0, .inr (12, [.int 0, .int 0, .ref mr, .ref mt, .ref mw, .ref mu, .ref mp, .ref mi, .ref mk, .ref ms, .int 0, .ref mv, .int 0, .int 0, .int 0, .int 0, .long 0, .int (-1), .int 0, .ref m1w, .ref m2w, .ref m3w, .ref m4w, .int 0, .long 0, .long 0, .long 0])), (mw, .inl (cm3, 906, .inr (.inl fw)))] s.heap.size := ⟨_, rfl⟩
  rw [← hAe] at hD ⊢
  have hA : ∀ q : Nat, s.heap.size ≤ q → A q := fun q h => by rw [hAe]; exact Or.inr h
  have hS : va_S A s.heap s.heap [] := va_S.rf
  have hP : va_P (dC, dI) vwCl [(h0, .inr (12, [.int 0, .int 0, .ref mr, .ref mt, .ref mw, .ref mu, .ref mp, .ref mi, .ref mk, .ref ms, .int 0, .ref mv, .int 0, .int 0, .int 0, .int 0, .long 0, .int (-1), .int 0, .ref m1w, .ref m2w, .ref m3w, .ref m4w, .int 0, .long 0, .long 0, .long 0])), (mw, .inl (cm3, 906, .inr (.inl fw)))] s.heap := hP
  have hl := lv_entry ([.ref h0, .int kd]) (n := 4) (Nat.le_of_ble_eq_true rfl)
  rw [lg_entry_eq]
  generalize (lg_sl ([.ref h0, .int kd]) ++ List.replicate (4 - (lg_sl ([.ref h0, .int kd])).length) Slot.unset).toArray = ls at hl ⊢
  have hl : lv_has ls 4 [(0, .ref h0), (1, .int kd)] := hl
  refine lv_iconst (v := 0) hx hb dX12_inState_0 (by decide) ?_
  refine lv_istore_n (lv' := [(2, .int 0), (0, .ref h0), (1, .int kd)]) hx hb dX12_inState_1 rfl hl (by decide) rfl (fun ls hl => ?_)
  refine lv_iconst (v := 0) hx hb dX12_inState_2 (by decide) ?_
  refine lv_istore_n (lv' := [(3, .int 0), (2, .int 0), (0, .ref h0), (1, .int kd)]) hx hb dX12_inState_3 rfl hl (by decide) rfl (fun ls hl => ?_)
  refine lv_iload_n hx hb dX12_inState_4 rfl (lv_at hl 0 rfl) ?_
  refine lv_i2l (v := 0) hx hb dX12_inState_5 (by decide) ?_
  refine lv_aload_n hx hb dX12_inState_6 rfl (lv_at hl 2 rfl) ?_
  refine va_get (D := (dC, dI)) (ci := 12) (v := .ref mw) (C := RX12) (T := TX12) (N := 27) hx hb hts (fun _ h0_ => List.mem_cons_of_mem _ (List.mem_append_right _ (List.mem_append_left _ h0_))) hown hK hP 0 rfl rfl 4 (by decide) (hts (.fieldLink RX12 16 "DeadlineShareModel" "row" "[J") (List.mem_cons_of_mem _ (List.mem_append_left _ (List.mem_of_getElem? (i := 0) rfl)))) (fun _ h9 => h9) rfl dX12_inState_7 ?_
  refine lv_iconst (v := 0) hx hb dX12_inState_10 (by decide) ?_
  refine va_lald hx hb hK hP 1 0 rfl rfl (by unfold vp_in; decide) dX12_inState_11 ?_
  refine k_topl (y := 0) ((congrArg fw (show Int32.toNatClampNeg 0 = 0 by decide)).trans hw0) ?_
  refine W.lcmp hx hb dX12_inState_12 ?_
  refine k_topi (y := 0) (by decide) ?_
  refine lv_if_ge (tgt := 47) hx hb dX12_inState_13 (by decide) (fun _ => ?_) (fun c => absurd (by decide) c)
  refine lv_iload_n hx hb dX12_inState_47 rfl (lv_at hl 1 rfl) ?_
  have hP9 := hP.sub (ws' := [(h0, .inr (12, [.int 0, .int 0, .ref mr, .ref mt, .ref mw, .ref mu, .ref mp, .ref mi, .ref mk, .ref ms, .int 0, .ref mv, .int 0, .int 0, .int 0, .int 0, .long 0, .int (-1), .int 0, .ref m1w, .ref m2w, .ref m3w, .ref m4w, .int 0, .long 0, .long 0, .long 0])), (mw, .inl (cm3, 906, .inr (.inl fw)))]) [0, 1] rfl
  have hD9 := hD.sub (ws' := [(h0, .inr (12, [.int 0, .int 0, .ref mr, .ref mt, .ref mw, .ref mu, .ref mp, .ref mi, .ref mk, .ref ms, .int 0, .ref mv, .int 0, .int 0, .int 0, .int 0, .long 0, .int (-1), .int 0, .ref m1w, .ref m2w, .ref m3w, .ref m4w, .int 0, .long 0, .long 0, .long 0])), (mw, .inl (cm3, 906, .inr (.inl fw)))]) [0, 1] (by decide) rfl
  have hK9 := hK.sub (tys' := [(cm3, .long)]) [0] rfl
  refine W.widen (k := 0) (n := 0) (Nat.le_of_ble_eq_true rfl) (Nat.le_of_ble_eq_true rfl) ?_
  exact W.iret (v := 0) hx hb hr (fun t ht hW => ⟨⟨0, (), rfl, rfl, by rw [ht]; exact hP9, va_K.moved hW.alike hK9, hD9⟩, hS.F ht⟩) hS.2.2 dX12_inState_48
def ow_c_X12_scripted : List Cond := [.fieldLink RX12 16 "DeadlineShareModel" "row" "[J"]
def wq_c_X12_scripted : List Cond := .code yX12_scripted cX12_scripted 3 (some .int) :: (ow_c_X12_scripted ++ (u_ws RX12 TX12 27 ++ ([] : List Cond)))
theorem tb_c_X12_scripted : ∀ w ∈ wq_c_X12_scripted, q_g w := by
  unfold wq_c_X12_scripted ow_c_X12_scripted
  exact q_cons tw_448 (q_app (q_cons tw_425 q_nil) (q_app tu_X12 q_nil))
set_option maxHeartbeats 4000000 in
set_option maxRecDepth 100000 in
theorem c_X12_scripted (l : Launch) (dC : Nat → ClassId) (dI : Nat → Nat → Nat) (h0 : Nat) (mr : Nat) (mt : Nat) (mw : Nat) (mu : Nat) (mp : Nat) (mi : Nat) (mk : Nat) (ms : Nat) (mv : Nat) (m1w : Nat) (m2w : Nat) (m3w : Nat) (m4w : Nat) (cm3 : ClassId) (fw : Nat → Int64) (sz : Nat) (hw0 : fw 0 = 0) : Met l yX12_scripted wq_c_X12_scripted ({ frames := 0, cells := 0, slots := 0, locals := 0 } : Room) (va_Pc [.ref h0] (fun U => U.heap.size = sz ∧ va_P (dC, dI) vwCl [(h0, .inr (12, [.int 0, .int 0, .ref mr, .ref mt, .ref mw, .ref mu, .ref mp, .ref mi, .ref mk, .ref ms, .int 0, .ref mv, .int 0, .int 0, .int 0, .int 0, .long 0, .int (-1), .int 0, .ref m1w, .ref m2w, .ref m3w, .ref m4w, .int 0, .long 0, .long 0, .long 0])), (mw, .inl (cm3, 906, .inr (.inl fw)))] U.heap ∧ va_K (dC, dI) vwCl [(cm3, .long)] U ∧ va_D (fun _ => True) [(h0, .inr (12, [.int 0, .int 0, .ref mr, .ref mt, .ref mw, .ref mu, .ref mp, .ref mi, .ref mk, .ref ms, .int 0, .ref mv, .int 0, .int 0, .int 0, .int 0, .long 0, .int (-1), .int 0, .ref m1w, .ref m2w, .ref m3w, .ref m4w, .int 0, .long 0, .long 0, .long 0])), (mw, .inl (cm3, 906, .inr (.inl fw)))])) (va_Qi (fun (r : Int32) (_ : Unit) => r = 0) (fun (_ : Unit) t => va_P (dC, dI) vwCl [(h0, .inr (12, [.int 0, .int 0, .ref mr, .ref mt, .ref mw, .ref mu, .ref mp, .ref mi, .ref mk, .ref ms, .int 0, .ref mv, .int 0, .int 0, .int 0, .int 0, .long 0, .int (-1), .int 0, .ref m1w, .ref m2w, .ref m3w, .ref m4w, .int 0, .long 0, .long 0, .long 0])), (mw, .inl (cm3, 906, .inr (.inl fw)))] t.heap ∧ va_K (dC, dI) vwCl [(cm3, .long)] t ∧ va_D (va_A [(h0, .inr (12, [.int 0, .int 0, .ref mr, .ref mt, .ref mw, .ref mu, .ref mp, .ref mi, .ref mk, .ref ms, .int 0, .ref mv, .int 0, .int 0, .int 0, .int 0, .long 0, .int (-1), .int 0, .ref m1w, .ref m2w, .ref m3w, .ref m4w, .int 0, .long 0, .long 0, .long 0])), (mw, .inl (cm3, 906, .inr (.inl fw)))] sz) [(h0, .inr (12, [.int 0, .int 0, .ref mr, .ref mt, .ref mw, .ref mu, .ref mp, .ref mi, .ref mk, .ref ms, .int 0, .ref mv, .int 0, .int 0, .int 0, .int 0, .long 0, .int (-1), .int 0, .ref m1w, .ref m2w, .ref m3w, .ref m4w, .int 0, .long 0, .long 0, .long 0])), (mw, .inl (cm3, 906, .inr (.inl fw)))]) (va_A [(h0, .inr (12, [.int 0, .int 0, .ref mr, .ref mt, .ref mw, .ref mu, .ref mp, .ref mi, .ref mk, .ref ms, .int 0, .ref mv, .int 0, .int 0, .int 0, .int 0, .long 0, .int (-1), .int 0, .ref m1w, .ref m2w, .ref m3w, .ref m4w, .int 0, .long 0, .long 0, .long 0])), (mw, .inl (cm3, 906, .inr (.inl fw)))] sz)) 0 0 (va_A [(h0, .inr (12, [.int 0, .int 0, .ref mr, .ref mt, .ref mw, .ref mu, .ref mp, .ref mi, .ref mk, .ref ms, .int 0, .ref mv, .int 0, .int 0, .int 0, .int 0, .long 0, .int (-1), .int 0, .ref m1w, .ref m2w, .ref m3w, .ref m4w, .int 0, .long 0, .long 0, .long 0])), (mw, .inl (cm3, 906, .inr (.inl fw)))] sz) := by
  refine Met.ofW (cc := cX12_scripted) (maxL := 3) (ret := (some .int)) (by decide) rfl ?_
  intro p e s m args below meth c s₁ B hml hv
  obtain ⟨rfl, hsz, hP, hK, hD0⟩ := hv
  have hx := B.exec
  have hb := B.bytes
  have hr := B.returns
  have hts := atoms_spec (ws := wq_c_X12_scripted) B.pre
  have hown : s.vm.findClass RX12 = some m.cls := findClass_of_methodNamed B.named
  have hlocks := B.notSynchronized
  subst hsz
  have hD := hD0.self (sz := s.heap.size)
  obtain ⟨A, hAe⟩ : ∃ A, A = va_A [(h0, .inr (12, [.int 0, .int 0, .ref mr, .ref mt, .ref mw, .ref mu, .ref mp, .ref mi, .ref mk, .ref ms, .int 0, .ref mv, .int 0, .int 0, .int 0, .int 0, .long 0, .int (-1), .int 0, .ref m1w, .ref m2w, .ref m3w, .ref m4w, .int 0, .long 0, .long 0, .long 0])), (mw, .inl (cm3, 906, .inr (.inl fw)))] s.heap.size := ⟨_, rfl⟩
  rw [← hAe] at hD ⊢
  have hA : ∀ q : Nat, s.heap.size ≤ q → A q := fun q h => by rw [hAe]; exact Or.inr h
  have hS : va_S A s.heap s.heap [] := va_S.rf
  have hP : va_P (dC, dI) vwCl [(h0, .inr (12, [.int 0, .int 0, .ref mr, .ref mt, .ref mw, .ref mu, .ref mp, .ref mi, .ref mk, .ref ms, .int 0, .ref mv, .int 0, .int 0, .int 0, .int 0, .long 0, .int (-1), .int 0, .ref m1w, .ref m2w, .ref m3w, .ref m4w, .int 0, .long 0, .long 0, .long 0])), (mw, .inl (cm3, 906, .inr (.inl fw)))] s.heap := hP
  have hl := lv_entry ([.ref h0]) (n := 3) (Nat.le_of_ble_eq_true rfl)
  rw [lg_entry_eq]
  generalize (lg_sl ([.ref h0]) ++ List.replicate (3 - (lg_sl ([.ref h0])).length) Slot.unset).toArray = ls at hl ⊢
  have hl : lv_has ls 3 [(0, .ref h0)] := hl
  refine lv_iconst (v := 0) hx hb dX12_scripted_0 (by decide) ?_
  refine lv_istore_n (lv' := [(1, .int 0), (0, .ref h0)]) hx hb dX12_scripted_1 rfl hl (by decide) rfl (fun ls hl => ?_)
  refine lv_iconst (v := 0) hx hb dX12_scripted_2 (by decide) ?_
  refine lv_istore_n (lv' := [(2, .int 0), (1, .int 0), (0, .ref h0)]) hx hb dX12_scripted_3 rfl hl (by decide) rfl (fun ls hl => ?_)
  refine lv_iload_n hx hb dX12_scripted_4 rfl (lv_at hl 0 rfl) ?_
  refine lv_i2l (v := 0) hx hb dX12_scripted_5 (by decide) ?_
  refine lv_aload_n hx hb dX12_scripted_6 rfl (lv_at hl 2 rfl) ?_
  refine va_get (D := (dC, dI)) (ci := 12) (v := .ref mw) (C := RX12) (T := TX12) (N := 27) hx hb hts (fun _ h0_ => List.mem_cons_of_mem _ (List.mem_append_right _ (List.mem_append_left _ h0_))) hown hK hP 0 rfl rfl 4 (by decide) (hts (.fieldLink RX12 16 "DeadlineShareModel" "row" "[J") (List.mem_cons_of_mem _ (List.mem_append_left _ (List.mem_of_getElem? (i := 0) rfl)))) (fun _ h9 => h9) rfl dX12_scripted_7 ?_
  refine lv_iconst (v := 0) hx hb dX12_scripted_10 (by decide) ?_
  refine va_lald hx hb hK hP 1 0 rfl rfl (by unfold vp_in; decide) dX12_scripted_11 ?_
  refine k_topl (y := 0) ((congrArg fw (show Int32.toNatClampNeg 0 = 0 by decide)).trans hw0) ?_
  refine W.lcmp hx hb dX12_scripted_12 ?_
  refine k_topi (y := 0) (by decide) ?_
  refine lv_if_ge (tgt := 47) hx hb dX12_scripted_13 (by decide) (fun _ => ?_) (fun c => absurd (by decide) c)
  refine lv_iload_n hx hb dX12_scripted_47 rfl (lv_at hl 1 rfl) ?_
  have hP9 := hP.sub (ws' := [(h0, .inr (12, [.int 0, .int 0, .ref mr, .ref mt, .ref mw, .ref mu, .ref mp, .ref mi, .ref mk, .ref ms, .int 0, .ref mv, .int 0, .int 0, .int 0, .int 0, .long 0, .int (-1), .int 0, .ref m1w, .ref m2w, .ref m3w, .ref m4w, .int 0, .long 0, .long 0, .long 0])), (mw, .inl (cm3, 906, .inr (.inl fw)))]) [0, 1] rfl
  have hD9 := hD.sub (ws' := [(h0, .inr (12, [.int 0, .int 0, .ref mr, .ref mt, .ref mw, .ref mu, .ref mp, .ref mi, .ref mk, .ref ms, .int 0, .ref mv, .int 0, .int 0, .int 0, .int 0, .long 0, .int (-1), .int 0, .ref m1w, .ref m2w, .ref m3w, .ref m4w, .int 0, .long 0, .long 0, .long 0])), (mw, .inl (cm3, 906, .inr (.inl fw)))]) [0, 1] (by decide) rfl
  have hK9 := hK.sub (tys' := [(cm3, .long)]) [0] rfl
  refine W.widen (k := 0) (n := 0) (Nat.le_of_ble_eq_true rfl) (Nat.le_of_ble_eq_true rfl) ?_
  exact W.iret (v := 0) hx hb hr (fun t ht hW => ⟨⟨0, (), rfl, rfl, by rw [ht]; exact hP9, va_K.moved hW.alike hK9, hD9⟩, hS.F ht⟩) hS.2.2 dX12_scripted_48
def ow_c_X12_byDeadline : List Cond := [.fieldLink RX12 16 "DeadlineShareModel" "row" "[J"]
def wq_c_X12_byDeadline : List Cond := .code yX12_byDeadline cX12_byDeadline 4 (some .int) :: (ow_c_X12_byDeadline ++ (u_ws RX12 TX12 27 ++ ([] : List Cond)))
theorem tb_c_X12_byDeadline : ∀ w ∈ wq_c_X12_byDeadline, q_g w := by
  unfold wq_c_X12_byDeadline ow_c_X12_byDeadline
  exact q_cons tw_449 (q_app (q_cons tw_425 q_nil) (q_app tu_X12 q_nil))
set_option maxHeartbeats 4000000 in
set_option maxRecDepth 100000 in
theorem c_X12_byDeadline (l : Launch) (dC : Nat → ClassId) (dI : Nat → Nat → Nat) (h0 : Nat) (eg : Int32) (g0 : Int32) (g1 : Int32) (mr : Nat) (mt : Nat) (mw : Nat) (mu : Nat) (mp : Nat) (mi : Nat) (mk : Nat) (ms : Nat) (g2 : Int32) (mv : Nat) (g3 : Int32) (g4 : Int32) (g5 : Int32) (g6 : Int32) (g7 : Int64) (g8 : Int32) (g9 : Int32) (m1w : Nat) (m2w : Nat) (m3w : Nat) (m4w : Nat) (g10 : Int32) (g11 : Int64) (g12 : Int64) (g13 : Int64) (cm3 : ClassId) (fw : Nat → Int64) (sz : Nat) (hw0 : fw 0 = 0) : Met l yX12_byDeadline wq_c_X12_byDeadline ({ frames := 0, cells := 0, slots := 0, locals := 0 } : Room) (va_Pc [.ref h0, .int eg] (fun U => U.heap.size = sz ∧ va_P (dC, dI) vwCl [(h0, .inr (12, [.int g0, .int g1, .ref mr, .ref mt, .ref mw, .ref mu, .ref mp, .ref mi, .ref mk, .ref ms, .int g2, .ref mv, .int g3, .int g4, .int g5, .int g6, .long g7, .int g8, .int g9, .ref m1w, .ref m2w, .ref m3w, .ref m4w, .int g10, .long g11, .long g12, .long g13])), (mw, .inl (cm3, 906, .inr (.inl fw)))] U.heap ∧ va_K (dC, dI) vwCl [(cm3, .long)] U ∧ va_D (fun _ => True) [(h0, .inr (12, [.int g0, .int g1, .ref mr, .ref mt, .ref mw, .ref mu, .ref mp, .ref mi, .ref mk, .ref ms, .int g2, .ref mv, .int g3, .int g4, .int g5, .int g6, .long g7, .int g8, .int g9, .ref m1w, .ref m2w, .ref m3w, .ref m4w, .int g10, .long g11, .long g12, .long g13])), (mw, .inl (cm3, 906, .inr (.inl fw)))])) (va_Qi (fun (r : Int32) (_ : Unit) => r = (-1)) (fun (_ : Unit) t => va_P (dC, dI) vwCl [(h0, .inr (12, [.int g0, .int g1, .ref mr, .ref mt, .ref mw, .ref mu, .ref mp, .ref mi, .ref mk, .ref ms, .int g2, .ref mv, .int g3, .int g4, .int g5, .int g6, .long g7, .int g8, .int g9, .ref m1w, .ref m2w, .ref m3w, .ref m4w, .int g10, .long g11, .long g12, .long g13])), (mw, .inl (cm3, 906, .inr (.inl fw)))] t.heap ∧ va_K (dC, dI) vwCl [(cm3, .long)] t ∧ va_D (va_A [(h0, .inr (12, [.int g0, .int g1, .ref mr, .ref mt, .ref mw, .ref mu, .ref mp, .ref mi, .ref mk, .ref ms, .int g2, .ref mv, .int g3, .int g4, .int g5, .int g6, .long g7, .int g8, .int g9, .ref m1w, .ref m2w, .ref m3w, .ref m4w, .int g10, .long g11, .long g12, .long g13])), (mw, .inl (cm3, 906, .inr (.inl fw)))] sz) [(h0, .inr (12, [.int g0, .int g1, .ref mr, .ref mt, .ref mw, .ref mu, .ref mp, .ref mi, .ref mk, .ref ms, .int g2, .ref mv, .int g3, .int g4, .int g5, .int g6, .long g7, .int g8, .int g9, .ref m1w, .ref m2w, .ref m3w, .ref m4w, .int g10, .long g11, .long g12, .long g13])), (mw, .inl (cm3, 906, .inr (.inl fw)))]) (va_A [(h0, .inr (12, [.int g0, .int g1, .ref mr, .ref mt, .ref mw, .ref mu, .ref mp, .ref mi, .ref mk, .ref ms, .int g2, .ref mv, .int g3, .int g4, .int g5, .int g6, .long g7, .int g8, .int g9, .ref m1w, .ref m2w, .ref m3w, .ref m4w, .int g10, .long g11, .long g12, .long g13])), (mw, .inl (cm3, 906, .inr (.inl fw)))] sz)) 0 0 (va_A [(h0, .inr (12, [.int g0, .int g1, .ref mr, .ref mt, .ref mw, .ref mu, .ref mp, .ref mi, .ref mk, .ref ms, .int g2, .ref mv, .int g3, .int g4, .int g5, .int g6, .long g7, .int g8, .int g9, .ref m1w, .ref m2w, .ref m3w, .ref m4w, .int g10, .long g11, .long g12, .long g13])), (mw, .inl (cm3, 906, .inr (.inl fw)))] sz) := by
  refine Met.ofW (cc := cX12_byDeadline) (maxL := 4) (ret := (some .int)) (by decide) rfl ?_
  intro p e s m args below meth c s₁ B hml hv
  obtain ⟨rfl, hsz, hP, hK, hD0⟩ := hv
  have hx := B.exec
  have hb := B.bytes
  have hr := B.returns
  have hts := atoms_spec (ws := wq_c_X12_byDeadline) B.pre
  have hown : s.vm.findClass RX12 = some m.cls := findClass_of_methodNamed B.named
  have hlocks := B.notSynchronized
  subst hsz
  have hD := hD0.self (sz := s.heap.size)
  obtain ⟨A, hAe⟩ : ∃ A, A = va_A [(h0, .inr (12, [.int g0, .int g1, .ref mr, .ref mt, .ref mw, .ref mu, .ref mp, .ref mi, .ref mk, .ref ms, .int g2, .ref mv, .int g3, .int g4, .int g5, .int g6, .long g7, .int g8, .int g9, .ref m1w, .ref m2w, .ref m3w, .ref m4w, .int g10, .long g11, .long g12, .long g13])), (mw, .inl (cm3, 906, .inr (.inl fw)))] s.heap.size := ⟨_, rfl⟩
  rw [← hAe] at hD ⊢
  have hA : ∀ q : Nat, s.heap.size ≤ q → A q := fun q h => by rw [hAe]; exact Or.inr h
  have hS : va_S A s.heap s.heap [] := va_S.rf
  have hP : va_P (dC, dI) vwCl [(h0, .inr (12, [.int g0, .int g1, .ref mr, .ref mt, .ref mw, .ref mu, .ref mp, .ref mi, .ref mk, .ref ms, .int g2, .ref mv, .int g3, .int g4, .int g5, .int g6, .long g7, .int g8, .int g9, .ref m1w, .ref m2w, .ref m3w, .ref m4w, .int g10, .long g11, .long g12, .long g13])), (mw, .inl (cm3, 906, .inr (.inl fw)))] s.heap := hP
  have hl := lv_entry ([.ref h0, .int eg]) (n := 4) (Nat.le_of_ble_eq_true rfl)
  rw [lg_entry_eq]
  generalize (lg_sl ([.ref h0, .int eg]) ++ List.replicate (4 - (lg_sl ([.ref h0, .int eg])).length) Slot.unset).toArray = ls at hl ⊢
  have hl : lv_has ls 4 [(0, .ref h0), (1, .int eg)] := hl
  refine lv_iconst (v := (-1)) hx hb dX12_byDeadline_0 (by decide) ?_
  refine lv_istore_n (lv' := [(2, .int (-1)), (0, .ref h0), (1, .int eg)]) hx hb dX12_byDeadline_1 rfl hl (by decide) rfl (fun ls hl => ?_)
  refine lv_iconst (v := 0) hx hb dX12_byDeadline_2 (by decide) ?_
  refine lv_istore_n (lv' := [(3, .int 0), (2, .int (-1)), (0, .ref h0), (1, .int eg)]) hx hb dX12_byDeadline_3 rfl hl (by decide) rfl (fun ls hl => ?_)
  refine lv_iload_n hx hb dX12_byDeadline_4 rfl (lv_at hl 0 rfl) ?_
  refine lv_i2l (v := 0) hx hb dX12_byDeadline_5 (by decide) ?_
  refine lv_aload_n hx hb dX12_byDeadline_6 rfl (lv_at hl 2 rfl) ?_
  refine va_get (D := (dC, dI)) (ci := 12) (v := .ref mw) (C := RX12) (T := TX12) (N := 27) hx hb hts (fun _ h0_ => List.mem_cons_of_mem _ (List.mem_append_right _ (List.mem_append_left _ h0_))) hown hK hP 0 rfl rfl 4 (by decide) (hts (.fieldLink RX12 16 "DeadlineShareModel" "row" "[J") (List.mem_cons_of_mem _ (List.mem_append_left _ (List.mem_of_getElem? (i := 0) rfl)))) (fun _ h9 => h9) rfl dX12_byDeadline_7 ?_
  refine lv_iconst (v := 0) hx hb dX12_byDeadline_10 (by decide) ?_
  refine va_lald hx hb hK hP 1 0 rfl rfl (by unfold vp_in; decide) dX12_byDeadline_11 ?_
  refine k_topl (y := 0) ((congrArg fw (show Int32.toNatClampNeg 0 = 0 by decide)).trans hw0) ?_
  refine W.lcmp hx hb dX12_byDeadline_12 ?_
  refine k_topi (y := 0) (by decide) ?_
  refine lv_if_ge (tgt := 67) hx hb dX12_byDeadline_13 (by decide) (fun _ => ?_) (fun c => absurd (by decide) c)
  refine lv_iload_n hx hb dX12_byDeadline_67 rfl (lv_at hl 1 rfl) ?_
  have hP9 := hP.sub (ws' := [(h0, .inr (12, [.int g0, .int g1, .ref mr, .ref mt, .ref mw, .ref mu, .ref mp, .ref mi, .ref mk, .ref ms, .int g2, .ref mv, .int g3, .int g4, .int g5, .int g6, .long g7, .int g8, .int g9, .ref m1w, .ref m2w, .ref m3w, .ref m4w, .int g10, .long g11, .long g12, .long g13])), (mw, .inl (cm3, 906, .inr (.inl fw)))]) [0, 1] rfl
  have hD9 := hD.sub (ws' := [(h0, .inr (12, [.int g0, .int g1, .ref mr, .ref mt, .ref mw, .ref mu, .ref mp, .ref mi, .ref mk, .ref ms, .int g2, .ref mv, .int g3, .int g4, .int g5, .int g6, .long g7, .int g8, .int g9, .ref m1w, .ref m2w, .ref m3w, .ref m4w, .int g10, .long g11, .long g12, .long g13])), (mw, .inl (cm3, 906, .inr (.inl fw)))]) [0, 1] (by decide) rfl
  have hK9 := hK.sub (tys' := [(cm3, .long)]) [0] rfl
  refine W.widen (k := 0) (n := 0) (Nat.le_of_ble_eq_true rfl) (Nat.le_of_ble_eq_true rfl) ?_
  exact W.iret (v := (-1)) hx hb hr (fun t ht hW => ⟨⟨(-1), (), rfl, rfl, by rw [ht]; exact hP9, va_K.moved hW.alike hK9, hD9⟩, hS.F ht⟩) hS.2.2 dX12_byDeadline_68
def ow_c_X12_byVirtual : List Cond := [.fieldLink RX12 16 "DeadlineShareModel" "row" "[J"]
def wq_c_X12_byVirtual : List Cond := .code yX12_byVirtual cX12_byVirtual 3 (some .int) :: (ow_c_X12_byVirtual ++ (u_ws RX12 TX12 27 ++ ([] : List Cond)))
theorem tb_c_X12_byVirtual : ∀ w ∈ wq_c_X12_byVirtual, q_g w := by
  unfold wq_c_X12_byVirtual ow_c_X12_byVirtual
  exact q_cons tw_450 (q_app (q_cons tw_425 q_nil) (q_app tu_X12 q_nil))
set_option maxHeartbeats 4000000 in
set_option maxRecDepth 100000 in
theorem c_X12_byVirtual (l : Launch) (dC : Nat → ClassId) (dI : Nat → Nat → Nat) (h0 : Nat) (g0 : Int32) (g1 : Int32) (mr : Nat) (mt : Nat) (mw : Nat) (mu : Nat) (mp : Nat) (mi : Nat) (mk : Nat) (ms : Nat) (g2 : Int32) (mv : Nat) (g3 : Int32) (g4 : Int32) (g5 : Int32) (g6 : Int32) (g7 : Int64) (g8 : Int32) (g9 : Int32) (m1w : Nat) (m2w : Nat) (m3w : Nat) (m4w : Nat) (g10 : Int32) (g11 : Int64) (g12 : Int64) (g13 : Int64) (cm3 : ClassId) (fw : Nat → Int64) (sz : Nat) (hw0 : fw 0 = 0) : Met l yX12_byVirtual wq_c_X12_byVirtual ({ frames := 0, cells := 0, slots := 0, locals := 0 } : Room) (va_Pc [.ref h0] (fun U => U.heap.size = sz ∧ va_P (dC, dI) vwCl [(h0, .inr (12, [.int g0, .int g1, .ref mr, .ref mt, .ref mw, .ref mu, .ref mp, .ref mi, .ref mk, .ref ms, .int g2, .ref mv, .int g3, .int g4, .int g5, .int g6, .long g7, .int g8, .int g9, .ref m1w, .ref m2w, .ref m3w, .ref m4w, .int g10, .long g11, .long g12, .long g13])), (mw, .inl (cm3, 906, .inr (.inl fw)))] U.heap ∧ va_K (dC, dI) vwCl [(cm3, .long)] U ∧ va_D (fun _ => True) [(h0, .inr (12, [.int g0, .int g1, .ref mr, .ref mt, .ref mw, .ref mu, .ref mp, .ref mi, .ref mk, .ref ms, .int g2, .ref mv, .int g3, .int g4, .int g5, .int g6, .long g7, .int g8, .int g9, .ref m1w, .ref m2w, .ref m3w, .ref m4w, .int g10, .long g11, .long g12, .long g13])), (mw, .inl (cm3, 906, .inr (.inl fw)))])) (va_Qi (fun (r : Int32) (_ : Unit) => r = (-1)) (fun (_ : Unit) t => va_P (dC, dI) vwCl [(h0, .inr (12, [.int g0, .int g1, .ref mr, .ref mt, .ref mw, .ref mu, .ref mp, .ref mi, .ref mk, .ref ms, .int g2, .ref mv, .int g3, .int g4, .int g5, .int g6, .long g7, .int g8, .int g9, .ref m1w, .ref m2w, .ref m3w, .ref m4w, .int g10, .long g11, .long g12, .long g13])), (mw, .inl (cm3, 906, .inr (.inl fw)))] t.heap ∧ va_K (dC, dI) vwCl [(cm3, .long)] t ∧ va_D (va_A [(h0, .inr (12, [.int g0, .int g1, .ref mr, .ref mt, .ref mw, .ref mu, .ref mp, .ref mi, .ref mk, .ref ms, .int g2, .ref mv, .int g3, .int g4, .int g5, .int g6, .long g7, .int g8, .int g9, .ref m1w, .ref m2w, .ref m3w, .ref m4w, .int g10, .long g11, .long g12, .long g13])), (mw, .inl (cm3, 906, .inr (.inl fw)))] sz) [(h0, .inr (12, [.int g0, .int g1, .ref mr, .ref mt, .ref mw, .ref mu, .ref mp, .ref mi, .ref mk, .ref ms, .int g2, .ref mv, .int g3, .int g4, .int g5, .int g6, .long g7, .int g8, .int g9, .ref m1w, .ref m2w, .ref m3w, .ref m4w, .int g10, .long g11, .long g12, .long g13])), (mw, .inl (cm3, 906, .inr (.inl fw)))]) (va_A [(h0, .inr (12, [.int g0, .int g1, .ref mr, .ref mt, .ref mw, .ref mu, .ref mp, .ref mi, .ref mk, .ref ms, .int g2, .ref mv, .int g3, .int g4, .int g5, .int g6, .long g7, .int g8, .int g9, .ref m1w, .ref m2w, .ref m3w, .ref m4w, .int g10, .long g11, .long g12, .long g13])), (mw, .inl (cm3, 906, .inr (.inl fw)))] sz)) 0 0 (va_A [(h0, .inr (12, [.int g0, .int g1, .ref mr, .ref mt, .ref mw, .ref mu, .ref mp, .ref mi, .ref mk, .ref ms, .int g2, .ref mv, .int g3, .int g4, .int g5, .int g6, .long g7, .int g8, .int g9, .ref m1w, .ref m2w, .ref m3w, .ref m4w, .int g10, .long g11, .long g12, .long g13])), (mw, .inl (cm3, 906, .inr (.inl fw)))] sz) := by
  refine Met.ofW (cc := cX12_byVirtual) (maxL := 3) (ret := (some .int)) (by decide) rfl ?_
  intro p e s m args below meth c s₁ B hml hv
  obtain ⟨rfl, hsz, hP, hK, hD0⟩ := hv
  have hx := B.exec
  have hb := B.bytes
  have hr := B.returns
  have hts := atoms_spec (ws := wq_c_X12_byVirtual) B.pre
  have hown : s.vm.findClass RX12 = some m.cls := findClass_of_methodNamed B.named
  have hlocks := B.notSynchronized
  subst hsz
  have hD := hD0.self (sz := s.heap.size)
  obtain ⟨A, hAe⟩ : ∃ A, A = va_A [(h0, .inr (12, [.int g0, .int g1, .ref mr, .ref mt, .ref mw, .ref mu, .ref mp, .ref mi, .ref mk, .ref ms, .int g2, .ref mv, .int g3, .int g4, .int g5, .int g6, .long g7, .int g8, .int g9, .ref m1w, .ref m2w, .ref m3w, .ref m4w, .int g10, .long g11, .long g12, .long g13])), (mw, .inl (cm3, 906, .inr (.inl fw)))] s.heap.size := ⟨_, rfl⟩
  rw [← hAe] at hD ⊢
  have hA : ∀ q : Nat, s.heap.size ≤ q → A q := fun q h => by rw [hAe]; exact Or.inr h
  have hS : va_S A s.heap s.heap [] := va_S.rf
  have hP : va_P (dC, dI) vwCl [(h0, .inr (12, [.int g0, .int g1, .ref mr, .ref mt, .ref mw, .ref mu, .ref mp, .ref mi, .ref mk, .ref ms, .int g2, .ref mv, .int g3, .int g4, .int g5, .int g6, .long g7, .int g8, .int g9, .ref m1w, .ref m2w, .ref m3w, .ref m4w, .int g10, .long g11, .long g12, .long g13])), (mw, .inl (cm3, 906, .inr (.inl fw)))] s.heap := hP
  have hl := lv_entry ([.ref h0]) (n := 3) (Nat.le_of_ble_eq_true rfl)
  rw [lg_entry_eq]
  generalize (lg_sl ([.ref h0]) ++ List.replicate (3 - (lg_sl ([.ref h0])).length) Slot.unset).toArray = ls at hl ⊢
  have hl : lv_has ls 3 [(0, .ref h0)] := hl
  refine lv_iconst (v := (-1)) hx hb dX12_byVirtual_0 (by decide) ?_
  refine lv_istore_n (lv' := [(1, .int (-1)), (0, .ref h0)]) hx hb dX12_byVirtual_1 rfl hl (by decide) rfl (fun ls hl => ?_)
  refine lv_iconst (v := 0) hx hb dX12_byVirtual_2 (by decide) ?_
  refine lv_istore_n (lv' := [(2, .int 0), (1, .int (-1)), (0, .ref h0)]) hx hb dX12_byVirtual_3 rfl hl (by decide) rfl (fun ls hl => ?_)
  refine lv_iload_n hx hb dX12_byVirtual_4 rfl (lv_at hl 0 rfl) ?_
  refine lv_i2l (v := 0) hx hb dX12_byVirtual_5 (by decide) ?_
  refine lv_aload_n hx hb dX12_byVirtual_6 rfl (lv_at hl 2 rfl) ?_
  refine va_get (D := (dC, dI)) (ci := 12) (v := .ref mw) (C := RX12) (T := TX12) (N := 27) hx hb hts (fun _ h0_ => List.mem_cons_of_mem _ (List.mem_append_right _ (List.mem_append_left _ h0_))) hown hK hP 0 rfl rfl 4 (by decide) (hts (.fieldLink RX12 16 "DeadlineShareModel" "row" "[J") (List.mem_cons_of_mem _ (List.mem_append_left _ (List.mem_of_getElem? (i := 0) rfl)))) (fun _ h9 => h9) rfl dX12_byVirtual_7 ?_
  refine lv_iconst (v := 0) hx hb dX12_byVirtual_10 (by decide) ?_
  refine va_lald hx hb hK hP 1 0 rfl rfl (by unfold vp_in; decide) dX12_byVirtual_11 ?_
  refine k_topl (y := 0) ((congrArg fw (show Int32.toNatClampNeg 0 = 0 by decide)).trans hw0) ?_
  refine W.lcmp hx hb dX12_byVirtual_12 ?_
  refine k_topi (y := 0) (by decide) ?_
  refine lv_if_ge (tgt := 55) hx hb dX12_byVirtual_13 (by decide) (fun _ => ?_) (fun c => absurd (by decide) c)
  refine lv_iload_n hx hb dX12_byVirtual_55 rfl (lv_at hl 1 rfl) ?_
  have hP9 := hP.sub (ws' := [(h0, .inr (12, [.int g0, .int g1, .ref mr, .ref mt, .ref mw, .ref mu, .ref mp, .ref mi, .ref mk, .ref ms, .int g2, .ref mv, .int g3, .int g4, .int g5, .int g6, .long g7, .int g8, .int g9, .ref m1w, .ref m2w, .ref m3w, .ref m4w, .int g10, .long g11, .long g12, .long g13])), (mw, .inl (cm3, 906, .inr (.inl fw)))]) [0, 1] rfl
  have hD9 := hD.sub (ws' := [(h0, .inr (12, [.int g0, .int g1, .ref mr, .ref mt, .ref mw, .ref mu, .ref mp, .ref mi, .ref mk, .ref ms, .int g2, .ref mv, .int g3, .int g4, .int g5, .int g6, .long g7, .int g8, .int g9, .ref m1w, .ref m2w, .ref m3w, .ref m4w, .int g10, .long g11, .long g12, .long g13])), (mw, .inl (cm3, 906, .inr (.inl fw)))]) [0, 1] (by decide) rfl
  have hK9 := hK.sub (tys' := [(cm3, .long)]) [0] rfl
  refine W.widen (k := 0) (n := 0) (Nat.le_of_ble_eq_true rfl) (Nat.le_of_ble_eq_true rfl) ?_
  exact W.iret (v := (-1)) hx hb hr (fun t ht hW => ⟨⟨(-1), (), rfl, rfl, by rw [ht]; exact hP9, va_K.moved hW.alike hK9, hD9⟩, hS.F ht⟩) hS.2.2 dX12_byVirtual_56
def ow_c_X12_inTurn : List Cond := [.fieldLink RX12 16 "DeadlineShareModel" "row" "[J"]
def wq_c_X12_inTurn : List Cond := .code yX12_inTurn cX12_inTurn 6 (some .int) :: (ow_c_X12_inTurn ++ (u_ws RX12 TX12 27 ++ ([] : List Cond)))
theorem tb_c_X12_inTurn : ∀ w ∈ wq_c_X12_inTurn, q_g w := by
  unfold wq_c_X12_inTurn ow_c_X12_inTurn
  exact q_cons tw_451 (q_app (q_cons tw_425 q_nil) (q_app tu_X12 q_nil))
set_option maxHeartbeats 4000000 in
set_option maxRecDepth 100000 in
theorem c_X12_inTurn (l : Launch) (dC : Nat → ClassId) (dI : Nat → Nat → Nat) (h0 : Nat) (g0 : Int32) (g1 : Int32) (mr : Nat) (mt : Nat) (mw : Nat) (mu : Nat) (mp : Nat) (mi : Nat) (mk : Nat) (ms : Nat) (g2 : Int32) (mv : Nat) (g3 : Int32) (g4 : Int32) (g5 : Int32) (g6 : Int32) (g7 : Int64) (g8 : Int32) (g9 : Int32) (m1w : Nat) (m2w : Nat) (m3w : Nat) (m4w : Nat) (g10 : Int32) (g11 : Int64) (g12 : Int64) (g13 : Int64) (cm3 : ClassId) (fw : Nat → Int64) (sz : Nat) (hw0 : fw 0 = 0) (hw3 : fw 3 = (-1)) : Met l yX12_inTurn wq_c_X12_inTurn ({ frames := 0, cells := 0, slots := 0, locals := 0 } : Room) (va_Pc [.ref h0] (fun U => U.heap.size = sz ∧ va_P (dC, dI) vwCl [(h0, .inr (12, [.int g0, .int g1, .ref mr, .ref mt, .ref mw, .ref mu, .ref mp, .ref mi, .ref mk, .ref ms, .int g2, .ref mv, .int g3, .int g4, .int g5, .int g6, .long g7, .int g8, .int g9, .ref m1w, .ref m2w, .ref m3w, .ref m4w, .int g10, .long g11, .long g12, .long g13])), (mw, .inl (cm3, 906, .inr (.inl fw)))] U.heap ∧ va_K (dC, dI) vwCl [(cm3, .long)] U ∧ va_D (fun _ => True) [(h0, .inr (12, [.int g0, .int g1, .ref mr, .ref mt, .ref mw, .ref mu, .ref mp, .ref mi, .ref mk, .ref ms, .int g2, .ref mv, .int g3, .int g4, .int g5, .int g6, .long g7, .int g8, .int g9, .ref m1w, .ref m2w, .ref m3w, .ref m4w, .int g10, .long g11, .long g12, .long g13])), (mw, .inl (cm3, 906, .inr (.inl fw)))])) (va_Qi (fun (r : Int32) (_ : Unit) => r = (-1)) (fun (_ : Unit) t => va_P (dC, dI) vwCl [(h0, .inr (12, [.int g0, .int g1, .ref mr, .ref mt, .ref mw, .ref mu, .ref mp, .ref mi, .ref mk, .ref ms, .int g2, .ref mv, .int g3, .int g4, .int g5, .int g6, .long g7, .int g8, .int g9, .ref m1w, .ref m2w, .ref m3w, .ref m4w, .int g10, .long g11, .long g12, .long g13])), (mw, .inl (cm3, 906, .inr (.inl fw)))] t.heap ∧ va_K (dC, dI) vwCl [(cm3, .long)] t ∧ va_D (va_A [(h0, .inr (12, [.int g0, .int g1, .ref mr, .ref mt, .ref mw, .ref mu, .ref mp, .ref mi, .ref mk, .ref ms, .int g2, .ref mv, .int g3, .int g4, .int g5, .int g6, .long g7, .int g8, .int g9, .ref m1w, .ref m2w, .ref m3w, .ref m4w, .int g10, .long g11, .long g12, .long g13])), (mw, .inl (cm3, 906, .inr (.inl fw)))] sz) [(h0, .inr (12, [.int g0, .int g1, .ref mr, .ref mt, .ref mw, .ref mu, .ref mp, .ref mi, .ref mk, .ref ms, .int g2, .ref mv, .int g3, .int g4, .int g5, .int g6, .long g7, .int g8, .int g9, .ref m1w, .ref m2w, .ref m3w, .ref m4w, .int g10, .long g11, .long g12, .long g13])), (mw, .inl (cm3, 906, .inr (.inl fw)))]) (va_A [(h0, .inr (12, [.int g0, .int g1, .ref mr, .ref mt, .ref mw, .ref mu, .ref mp, .ref mi, .ref mk, .ref ms, .int g2, .ref mv, .int g3, .int g4, .int g5, .int g6, .long g7, .int g8, .int g9, .ref m1w, .ref m2w, .ref m3w, .ref m4w, .int g10, .long g11, .long g12, .long g13])), (mw, .inl (cm3, 906, .inr (.inl fw)))] sz)) 0 0 (va_A [(h0, .inr (12, [.int g0, .int g1, .ref mr, .ref mt, .ref mw, .ref mu, .ref mp, .ref mi, .ref mk, .ref ms, .int g2, .ref mv, .int g3, .int g4, .int g5, .int g6, .long g7, .int g8, .int g9, .ref m1w, .ref m2w, .ref m3w, .ref m4w, .int g10, .long g11, .long g12, .long g13])), (mw, .inl (cm3, 906, .inr (.inl fw)))] sz) := by
  refine Met.ofW (cc := cX12_inTurn) (maxL := 6) (ret := (some .int)) (by decide) rfl ?_
  intro p e s m args below meth c s₁ B hml hv
  obtain ⟨rfl, hsz, hP, hK, hD0⟩ := hv
  have hx := B.exec
  have hb := B.bytes
  have hr := B.returns
  have hts := atoms_spec (ws := wq_c_X12_inTurn) B.pre
  have hown : s.vm.findClass RX12 = some m.cls := findClass_of_methodNamed B.named
  have hlocks := B.notSynchronized
  subst hsz
  have hD := hD0.self (sz := s.heap.size)
  obtain ⟨A, hAe⟩ : ∃ A, A = va_A [(h0, .inr (12, [.int g0, .int g1, .ref mr, .ref mt, .ref mw, .ref mu, .ref mp, .ref mi, .ref mk, .ref ms, .int g2, .ref mv, .int g3, .int g4, .int g5, .int g6, .long g7, .int g8, .int g9, .ref m1w, .ref m2w, .ref m3w, .ref m4w, .int g10, .long g11, .long g12, .long g13])), (mw, .inl (cm3, 906, .inr (.inl fw)))] s.heap.size := ⟨_, rfl⟩
  rw [← hAe] at hD ⊢
  have hA : ∀ q : Nat, s.heap.size ≤ q → A q := fun q h => by rw [hAe]; exact Or.inr h
  have hS : va_S A s.heap s.heap [] := va_S.rf
  have hP : va_P (dC, dI) vwCl [(h0, .inr (12, [.int g0, .int g1, .ref mr, .ref mt, .ref mw, .ref mu, .ref mp, .ref mi, .ref mk, .ref ms, .int g2, .ref mv, .int g3, .int g4, .int g5, .int g6, .long g7, .int g8, .int g9, .ref m1w, .ref m2w, .ref m3w, .ref m4w, .int g10, .long g11, .long g12, .long g13])), (mw, .inl (cm3, 906, .inr (.inl fw)))] s.heap := hP
  have hl := lv_entry ([.ref h0]) (n := 6) (Nat.le_of_ble_eq_true rfl)
  rw [lg_entry_eq]
  generalize (lg_sl ([.ref h0]) ++ List.replicate (6 - (lg_sl ([.ref h0])).length) Slot.unset).toArray = ls at hl ⊢
  have hl : lv_has ls 6 [(0, .ref h0)] := hl
  refine lv_aload_n hx hb dX12_inTurn_0 rfl (lv_at hl 0 rfl) ?_
  refine va_get (D := (dC, dI)) (ci := 12) (v := .ref mw) (C := RX12) (T := TX12) (N := 27) hx hb hts (fun _ h0_ => List.mem_cons_of_mem _ (List.mem_append_right _ (List.mem_append_left _ h0_))) hown hK hP 0 rfl rfl 4 (by decide) (hts (.fieldLink RX12 16 "DeadlineShareModel" "row" "[J") (List.mem_cons_of_mem _ (List.mem_append_left _ (List.mem_of_getElem? (i := 0) rfl)))) (fun _ h9 => h9) rfl dX12_inTurn_1 ?_
  refine lv_iconst (v := 0) hx hb dX12_inTurn_4 (by decide) ?_
  refine va_lald hx hb hK hP 1 0 rfl rfl (by unfold vp_in; decide) dX12_inTurn_5 ?_
  refine k_topl (y := 0) ((congrArg fw (show Int32.toNatClampNeg 0 = 0 by decide)).trans hw0) ?_
  refine lv_l2i (v := 0) hx hb dX12_inTurn_6 (by decide) ?_
  refine lv_istore_n (lv' := [(1, .int 0), (0, .ref h0)]) hx hb dX12_inTurn_7 rfl hl (by decide) rfl (fun ls hl => ?_)
  refine lv_aload_n hx hb dX12_inTurn_8 rfl (lv_at hl 1 rfl) ?_
  refine va_get (D := (dC, dI)) (ci := 12) (v := .ref mw) (C := RX12) (T := TX12) (N := 27) hx hb hts (fun _ h0_ => List.mem_cons_of_mem _ (List.mem_append_right _ (List.mem_append_left _ h0_))) hown hK hP 0 rfl rfl 4 (by decide) (hts (.fieldLink RX12 16 "DeadlineShareModel" "row" "[J") (List.mem_cons_of_mem _ (List.mem_append_left _ (List.mem_of_getElem? (i := 0) rfl)))) (fun _ h9 => h9) rfl dX12_inTurn_9 ?_
  refine lv_iconst (v := 3) hx hb dX12_inTurn_12 (by decide) ?_
  refine va_lald hx hb hK hP 1 0 rfl rfl (by unfold vp_in; decide) dX12_inTurn_13 ?_
  refine k_topl (y := (-1)) ((congrArg fw (show Int32.toNatClampNeg 3 = 3 by decide)).trans hw3) ?_
  refine lv_l2i (v := (-1)) hx hb dX12_inTurn_14 (by decide) ?_
  refine lv_istore_n (lv' := [(2, .int (-1)), (1, .int 0), (0, .ref h0)]) hx hb dX12_inTurn_15 rfl hl (by decide) rfl (fun ls hl => ?_)
  refine lv_iconst (v := (-1)) hx hb dX12_inTurn_16 (by decide) ?_
  refine lv_istore_n (lv' := [(3, .int (-1)), (2, .int (-1)), (1, .int 0), (0, .ref h0)]) hx hb dX12_inTurn_17 rfl hl (by decide) rfl (fun ls hl => ?_)
  refine lv_iload_n hx hb dX12_inTurn_18 rfl (lv_at hl 2 rfl) ?_
  refine lv_istore (lv' := [(4, .int 0), (3, .int (-1)), (2, .int (-1)), (1, .int 0), (0, .ref h0)]) hx hb dX12_inTurn_19 hl (by decide) rfl (fun ls hl => ?_)
  refine lv_iload hx hb dX12_inTurn_21 (lv_at hl 0 rfl) ?_
  refine lv_if_le (tgt := 56) hx hb dX12_inTurn_23 (by decide) (fun _ => ?_) (fun c => absurd (by decide) c)
  refine lv_iload_n hx hb dX12_inTurn_56 rfl (lv_at hl 1 rfl) ?_
  have hP9 := hP.sub (ws' := [(h0, .inr (12, [.int g0, .int g1, .ref mr, .ref mt, .ref mw, .ref mu, .ref mp, .ref mi, .ref mk, .ref ms, .int g2, .ref mv, .int g3, .int g4, .int g5, .int g6, .long g7, .int g8, .int g9, .ref m1w, .ref m2w, .ref m3w, .ref m4w, .int g10, .long g11, .long g12, .long g13])), (mw, .inl (cm3, 906, .inr (.inl fw)))]) [0, 1] rfl
  have hD9 := hD.sub (ws' := [(h0, .inr (12, [.int g0, .int g1, .ref mr, .ref mt, .ref mw, .ref mu, .ref mp, .ref mi, .ref mk, .ref ms, .int g2, .ref mv, .int g3, .int g4, .int g5, .int g6, .long g7, .int g8, .int g9, .ref m1w, .ref m2w, .ref m3w, .ref m4w, .int g10, .long g11, .long g12, .long g13])), (mw, .inl (cm3, 906, .inr (.inl fw)))]) [0, 1] (by decide) rfl
  have hK9 := hK.sub (tys' := [(cm3, .long)]) [0] rfl
  refine W.widen (k := 0) (n := 0) (Nat.le_of_ble_eq_true rfl) (Nat.le_of_ble_eq_true rfl) ?_
  exact W.iret (v := (-1)) hx hb hr (fun t ht hW => ⟨⟨(-1), (), rfl, rfl, by rw [ht]; exact hP9, va_K.moved hW.alike hK9, hD9⟩, hS.F ht⟩) hS.2.2 dX12_inTurn_57
def ow_c_X12_byDraws : List Cond := [.methodLink RX12 105 yX12_heavy, .instanceMethod yX12_heavy, .selects RX12 yX12_heavy yX12_heavy, .initialized RX12]
def wq_c_X12_byDraws : List Cond := .code yX12_byDraws cX12_byDraws 7 (some .int) :: (ow_c_X12_byDraws ++ (wq_c_X12_heavy ++ ([] : List Cond)))
theorem tb_c_X12_byDraws : ∀ w ∈ wq_c_X12_byDraws, q_g w := by
  unfold wq_c_X12_byDraws ow_c_X12_byDraws
  exact q_cons tw_455 (q_app (q_cons tw_454 (q_cons tw_453 (q_cons tw_452 (q_cons tw_435 q_nil)))) (q_app tb_c_X12_heavy q_nil))
set_option maxHeartbeats 4000000 in
set_option maxRecDepth 100000 in
theorem c_X12_byDraws (l : Launch) (dC : Nat → ClassId) (dI : Nat → Nat → Nat) (h0 : Nat) (g0 : Int32) (g1 : Int32) (mr : Nat) (mt : Nat) (mw : Nat) (mu : Nat) (mp : Nat) (mi : Nat) (mk : Nat) (ms : Nat) (g2 : Int32) (mv : Nat) (g3 : Int32) (g4 : Int32) (g5 : Int32) (g6 : Int32) (g7 : Int64) (g8 : Int32) (g9 : Int32) (m1w : Nat) (m2w : Nat) (m3w : Nat) (m4w : Nat) (g10 : Int32) (g11 : Int64) (g12 : Int64) (g13 : Int64) (cm3 : ClassId) (fw : Nat → Int64) (sz : Nat) (hw0 : fw 0 = 0) : Met l yX12_byDraws wq_c_X12_byDraws ({ frames := 1, cells := 0, slots := 0, locals := 23 } : Room) (va_Pc [.ref h0] (fun U => U.heap.size = sz ∧ va_P (dC, dI) vwCl [(h0, .inr (12, [.int g0, .int g1, .ref mr, .ref mt, .ref mw, .ref mu, .ref mp, .ref mi, .ref mk, .ref ms, .int g2, .ref mv, .int g3, .int g4, .int g5, .int g6, .long g7, .int g8, .int g9, .ref m1w, .ref m2w, .ref m3w, .ref m4w, .int g10, .long g11, .long g12, .long g13])), (mw, .inl (cm3, 906, .inr (.inl fw)))] U.heap ∧ va_K (dC, dI) vwCl [(cm3, .long)] U ∧ va_D (fun _ => True) [(h0, .inr (12, [.int g0, .int g1, .ref mr, .ref mt, .ref mw, .ref mu, .ref mp, .ref mi, .ref mk, .ref ms, .int g2, .ref mv, .int g3, .int g4, .int g5, .int g6, .long g7, .int g8, .int g9, .ref m1w, .ref m2w, .ref m3w, .ref m4w, .int g10, .long g11, .long g12, .long g13])), (mw, .inl (cm3, 906, .inr (.inl fw)))])) (va_Qi (fun (r : Int32) (_ : Unit) => r = (-1)) (fun (_ : Unit) t => va_P (dC, dI) vwCl [(h0, .inr (12, [.int g0, .int g1, .ref mr, .ref mt, .ref mw, .ref mu, .ref mp, .ref mi, .ref mk, .ref ms, .int g2, .ref mv, .int g3, .int g4, .int g5, .int g6, .long g7, .int g8, .int g9, .ref m1w, .ref m2w, .ref m3w, .ref m4w, .int g10, .long g11, .long g12, .long g13])), (mw, .inl (cm3, 906, .inr (.inl fw)))] t.heap ∧ va_K (dC, dI) vwCl [(cm3, .long)] t ∧ va_D (va_A [(h0, .inr (12, [.int g0, .int g1, .ref mr, .ref mt, .ref mw, .ref mu, .ref mp, .ref mi, .ref mk, .ref ms, .int g2, .ref mv, .int g3, .int g4, .int g5, .int g6, .long g7, .int g8, .int g9, .ref m1w, .ref m2w, .ref m3w, .ref m4w, .int g10, .long g11, .long g12, .long g13])), (mw, .inl (cm3, 906, .inr (.inl fw)))] sz) [(h0, .inr (12, [.int g0, .int g1, .ref mr, .ref mt, .ref mw, .ref mu, .ref mp, .ref mi, .ref mk, .ref ms, .int g2, .ref mv, .int g3, .int g4, .int g5, .int g6, .long g7, .int g8, .int g9, .ref m1w, .ref m2w, .ref m3w, .ref m4w, .int g10, .long g11, .long g12, .long g13])), (mw, .inl (cm3, 906, .inr (.inl fw)))]) (va_A [(h0, .inr (12, [.int g0, .int g1, .ref mr, .ref mt, .ref mw, .ref mu, .ref mp, .ref mi, .ref mk, .ref ms, .int g2, .ref mv, .int g3, .int g4, .int g5, .int g6, .long g7, .int g8, .int g9, .ref m1w, .ref m2w, .ref m3w, .ref m4w, .int g10, .long g11, .long g12, .long g13])), (mw, .inl (cm3, 906, .inr (.inl fw)))] sz)) 0 0 (va_A [(h0, .inr (12, [.int g0, .int g1, .ref mr, .ref mt, .ref mw, .ref mu, .ref mp, .ref mi, .ref mk, .ref ms, .int g2, .ref mv, .int g3, .int g4, .int g5, .int g6, .long g7, .int g8, .int g9, .ref m1w, .ref m2w, .ref m3w, .ref m4w, .int g10, .long g11, .long g12, .long g13])), (mw, .inl (cm3, 906, .inr (.inl fw)))] sz) := by
  refine Met.ofW (cc := cX12_byDraws) (maxL := 7) (ret := (some .int)) (by decide) rfl ?_
  intro p e s m args below meth c s₁ B hml hv
  obtain ⟨rfl, hsz, hP, hK, hD0⟩ := hv
  have hx := B.exec
  have hb := B.bytes
  have hr := B.returns
  have hts := atoms_spec (ws := wq_c_X12_byDraws) B.pre
  have hown : s.vm.findClass RX12 = some m.cls := findClass_of_methodNamed B.named
  have hlocks := B.notSynchronized
  subst hsz
  have hD := hD0.self (sz := s.heap.size)
  obtain ⟨A, hAe⟩ : ∃ A, A = va_A [(h0, .inr (12, [.int g0, .int g1, .ref mr, .ref mt, .ref mw, .ref mu, .ref mp, .ref mi, .ref mk, .ref ms, .int g2, .ref mv, .int g3, .int g4, .int g5, .int g6, .long g7, .int g8, .int g9, .ref m1w, .ref m2w, .ref m3w, .ref m4w, .int g10, .long g11, .long g12, .long g13])), (mw, .inl (cm3, 906, .inr (.inl fw)))] s.heap.size := ⟨_, rfl⟩
  rw [← hAe] at hD ⊢
  have hA : ∀ q : Nat, s.heap.size ≤ q → A q := fun q h => by rw [hAe]; exact Or.inr h
  have hS : va_S A s.heap s.heap [] := va_S.rf
  have hP : va_P (dC, dI) vwCl [(h0, .inr (12, [.int g0, .int g1, .ref mr, .ref mt, .ref mw, .ref mu, .ref mp, .ref mi, .ref mk, .ref ms, .int g2, .ref mv, .int g3, .int g4, .int g5, .int g6, .long g7, .int g8, .int g9, .ref m1w, .ref m2w, .ref m3w, .ref m4w, .int g10, .long g11, .long g12, .long g13])), (mw, .inl (cm3, 906, .inr (.inl fw)))] s.heap := hP
  have hl := lv_entry ([.ref h0]) (n := 7) (Nat.le_of_ble_eq_true rfl)
  rw [lg_entry_eq]
  generalize (lg_sl ([.ref h0]) ++ List.replicate (7 - (lg_sl ([.ref h0])).length) Slot.unset).toArray = ls at hl ⊢
  have hl : lv_has ls 7 [(0, .ref h0)] := hl
  refine lv_aload_n hx hb dX12_byDraws_0 rfl (lv_at hl 0 rfl) ?_
  have hPc := hP.sub (ws' := [(h0, .inr (12, [.int g0, .int g1, .ref mr, .ref mt, .ref mw, .ref mu, .ref mp, .ref mi, .ref mk, .ref ms, .int g2, .ref mv, .int g3, .int g4, .int g5, .int g6, .long g7, .int g8, .int g9, .ref m1w, .ref m2w, .ref m3w, .ref m4w, .int g10, .long g11, .long g12, .long g13])), (mw, .inl (cm3, 906, .inr (.inl fw)))]) [0, 1] rfl
  have hDc := hD.sub (ws' := [(h0, .inr (12, [.int g0, .int g1, .ref mr, .ref mt, .ref mw, .ref mu, .ref mp, .ref mi, .ref mk, .ref ms, .int g2, .ref mv, .int g3, .int g4, .int g5, .int g6, .long g7, .int g8, .int g9, .ref m1w, .ref m2w, .ref m3w, .ref m4w, .int g10, .long g11, .long g12, .long g13])), (mw, .inl (cm3, 906, .inr (.inl fw)))]) [0, 1] (by decide) rfl
  have hKc := hK.sub (tys' := [(cm3, .long)]) [0] rfl
  have hFc := va_free (wc := [(h0, .inr (12, [.int g0, .int g1, .ref mr, .ref mt, .ref mw, .ref mu, .ref mp, .ref mi, .ref mk, .ref ms, .int g2, .ref mv, .int g3, .int g4, .int g5, .int g6, .long g7, .int g8, .int g9, .ref m1w, .ref m2w, .ref m3w, .ref m4w, .int g10, .long g11, .long g12, .long g13])), (mw, .inl (cm3, 906, .inr (.inl fw)))]) hD hS hA [0, 1] rfl
  refine va_calll (va_runV (As := []) (rest := []) ⟨hx, hb, hml, hown, hts⟩ (c_X12_heavy l dC dI h0 g0 g1 mr mt mw mu mp mi mk ms g2 mv g3 g4 g5 g6 g7 g8 g9 m1w m2w m3w m4w g10 g11 g12 g13 cm3 fw s.heap.size hw0) (cwV 0 hts (gi_V (fun w_ h0_ => ⟨List.mem_cons_of_mem _ (List.mem_append_right _ (List.mem_append_left _ h0_)), (tb_c_X12_heavy w_ h0_).2⟩) (List.mem_cons_of_mem _ (List.mem_append_left _ (List.mem_of_getElem? (i := 0) rfl))) (List.mem_cons_of_mem _ (List.mem_append_left _ (List.mem_of_getElem? (i := 1) rfl))) (List.mem_cons_of_mem _ (List.mem_append_left _ (List.mem_of_getElem? (i := 2) rfl))) (List.mem_cons_of_mem _ (List.mem_append_left _ (List.mem_of_getElem? (i := 3) rfl)))) rfl rfl rfl (by decide +kernel) ⟨Nat.le_of_ble_eq_true rfl, Nat.le_of_ble_eq_true rfl⟩) ⟨fun a U g mk q => by obtain ⟨q0, q1, qP, qK, qD⟩ := q; exact ⟨q0, q1, qP, va_K.moved (u := U) (U := U.calling g mk a) (Vm.Alike.refl U.vm) qK, qD⟩, va_recv hKc hPc (ci := 12) (q0 := 0) rfl rfl, fun U hU hW => ⟨rfl, by rw [hU], by rw [hU]; exact hPc, va_K.moved hW.alike hKc, hDc.weaken (fun _ _ _ _ => trivial)⟩⟩ rfl rfl hl.1 rfl (lv_room (Nat.le_of_ble_eq_true rfl)) dX12_byDraws_1 ⟨Nat.le_of_ble_eq_true rfl, Nat.le_of_ble_eq_true rfl⟩) hS (fun q _ h => hFc q h) hFc (fun r_1 u t H1 locs ht hvm hw hB hz1 hk1 hS => ?_)
  obtain ⟨hP1, hK1, hD1⟩ := hB
  rw [ht] at hP1
  have hK1 := va_K.moved hvm.symm hK1
  obtain ⟨hP, hD⟩ := va_join (wr := []) (w1 := [(h0, .inr (12, [.int g0, .int g1, .ref mr, .ref mt, .ref mw, .ref mu, .ref mp, .ref mi, .ref mk, .ref ms, .int g2, .ref mv, .int g3, .int g4, .int g5, .int g6, .long g7, .int g8, .int g9, .ref m1w, .ref m2w, .ref m3w, .ref m4w, .int g10, .long g11, .long g12, .long g13])), (mw, .inl (cm3, 906, .inr (.inl fw)))]) hP hD [0, 1] [] rfl rfl (by decide) (by decide) hk1 hFc hP1 hD1
  generalize H1 = H at hP hS ⊢
  have hP : va_P (dC, dI) vwCl [(h0, .inr (12, [.int g0, .int g1, .ref mr, .ref mt, .ref mw, .ref mu, .ref mp, .ref mi, .ref mk, .ref ms, .int g2, .ref mv, .int g3, .int g4, .int g5, .int g6, .long g7, .int g8, .int g9, .ref m1w, .ref m2w, .ref m3w, .ref m4w, .int g10, .long g11, .long g12, .long g13])), (mw, .inl (cm3, 906, .inr (.inl fw)))] H := hP
  have hD : va_D A [(h0, .inr (12, [.int g0, .int g1, .ref mr, .ref mt, .ref mw, .ref mu, .ref mp, .ref mi, .ref mk, .ref ms, .int g2, .ref mv, .int g3, .int g4, .int g5, .int g6, .long g7, .int g8, .int g9, .ref m1w, .ref m2w, .ref m3w, .ref m4w, .int g10, .long g11, .long g12, .long g13])), (mw, .inl (cm3, 906, .inr (.inl fw)))] := hD
  refine W.widen (k := 0) (n := 0) (Nat.le_of_ble_eq_true rfl) (Nat.le_of_ble_eq_true rfl) ?_
  have hw : r_1 = 0 := hw
  subst hw
  refine lv_lstore_n (lv' := [(1, .long 0), (0, .ref h0)]) hx hb dX12_byDraws_4 rfl hl (by decide) rfl (fun ls hl => ?_)
  refine lv_lload_n hx hb dX12_byDraws_5 rfl (lv_at hl 0 rfl) ?_
  refine lv_lconst (v := 0) hx hb dX12_byDraws_6 (by decide) ?_
  refine W.lcmp hx hb dX12_byDraws_7 ?_
  refine k_topi (y := 0) (by decide) ?_
  refine lv_if_ne (tgt := 13) hx hb dX12_byDraws_8 (by decide) (fun c => absurd c (by decide)) (fun _ => ?_)
  refine lv_iconst (v := (-1)) hx hb dX12_byDraws_11 (by decide) ?_
  have hP9 := hP.sub (ws' := [(h0, .inr (12, [.int g0, .int g1, .ref mr, .ref mt, .ref mw, .ref mu, .ref mp, .ref mi, .ref mk, .ref ms, .int g2, .ref mv, .int g3, .int g4, .int g5, .int g6, .long g7, .int g8, .int g9, .ref m1w, .ref m2w, .ref m3w, .ref m4w, .int g10, .long g11, .long g12, .long g13])), (mw, .inl (cm3, 906, .inr (.inl fw)))]) [0, 1] rfl
  have hD9 := hD.sub (ws' := [(h0, .inr (12, [.int g0, .int g1, .ref mr, .ref mt, .ref mw, .ref mu, .ref mp, .ref mi, .ref mk, .ref ms, .int g2, .ref mv, .int g3, .int g4, .int g5, .int g6, .long g7, .int g8, .int g9, .ref m1w, .ref m2w, .ref m3w, .ref m4w, .int g10, .long g11, .long g12, .long g13])), (mw, .inl (cm3, 906, .inr (.inl fw)))]) [0, 1] (by decide) rfl
  have hK9 := hK.sub (tys' := [(cm3, .long)]) [0] rfl
  refine W.widen (k := 0) (n := 0) (Nat.le_of_ble_eq_true rfl) (Nat.le_of_ble_eq_true rfl) ?_
  exact W.iret (v := (-1)) hx hb hr (fun t ht hW => ⟨⟨(-1), (), rfl, rfl, by rw [ht]; exact hP9, va_K.moved hW.alike hK9, hD9⟩, hS.F ht⟩) hS.2.2 dX12_byDraws_12
def ow_c_X12_chosen : List Cond := [.methodLink RX12 256 yX12_byVirtual, .instanceMethod yX12_byVirtual, .selects RX12 yX12_byVirtual yX12_byVirtual, .initialized RX12, .methodLink RX12 260 yX12_byDeadline, .instanceMethod yX12_byDeadline, .selects RX12 yX12_byDeadline yX12_byDeadline, .methodLink RX12 264 yX12_inTurn, .instanceMethod yX12_inTurn, .selects RX12 yX12_inTurn yX12_inTurn, .methodLink RX12 267 yX12_byDraws, .instanceMethod yX12_byDraws, .selects RX12 yX12_byDraws yX12_byDraws, .fieldLink RX12 16 "DeadlineShareModel" "row" "[J", .fieldLink RX12 13 "DeadlineShareModel" "term" "[I"]
def wq_c_X12_chosen : List Cond := .code yX12_chosen cX12_chosen 3 (some .int) :: (ow_c_X12_chosen ++ (wq_c_X12_byVirtual ++ (wq_c_X12_byDeadline ++ (wq_c_X12_inTurn ++ (wq_c_X12_byDraws ++ (u_ws RX12 TX12 27 ++ ([] : List Cond)))))))
theorem tb_c_X12_chosen : ∀ w ∈ wq_c_X12_chosen, q_g w := by
  unfold wq_c_X12_chosen ow_c_X12_chosen
  exact q_cons tw_468 (q_app (q_cons tw_467 (q_cons tw_466 (q_cons tw_465 (q_cons tw_435 (q_cons tw_464 (q_cons tw_463 (q_cons tw_462 (q_cons tw_461 (q_cons tw_460 (q_cons tw_459 (q_cons tw_458 (q_cons tw_457 (q_cons tw_456 (q_cons tw_425 (q_cons tw_426 q_nil))))))))))))))) (q_app tb_c_X12_byVirtual (q_app tb_c_X12_byDeadline (q_app tb_c_X12_inTurn (q_app tb_c_X12_byDraws (q_app tu_X12 q_nil))))))
set_option maxHeartbeats 4000000 in
set_option maxRecDepth 100000 in
theorem c_X12_chosen (l : Launch) (dC : Nat → ClassId) (dI : Nat → Nat → Nat) (h0 : Nat) (wy : Int32) (g0 : Int32) (g1 : Int32) (mr : Nat) (mt : Nat) (mw : Nat) (mu : Nat) (mp : Nat) (mi : Nat) (mk : Nat) (ms : Nat) (g2 : Int32) (mv : Nat) (g3 : Int32) (g4 : Int32) (g5 : Int32) (g6 : Int32) (g7 : Int64) (g8 : Int32) (g9 : Int32) (m1w : Nat) (m2w : Nat) (m3w : Nat) (m4w : Nat) (g10 : Int32) (g11 : Int64) (g12 : Int64) (g13 : Int64) (cm3 : ClassId) (fw : Nat → Int64) (cm2 : ClassId) (ft : Nat → Int32) (sz : Nat) (hw0 : fw 0 = 0) (hw3 : fw 3 = (-1)) (hw4 : fw 4 = (-1)) (ht0 : ft 0 = 0) : Met l yX12_chosen wq_c_X12_chosen ({ frames := 2, cells := 0, slots := 0, locals := 49 } : Room) (va_Pc [.ref h0, .int wy] (fun U => U.heap.size = sz ∧ va_P (dC, dI) vwCl [(h0, .inr (12, [.int g0, .int g1, .ref mr, .ref mt, .ref mw, .ref mu, .ref mp, .ref mi, .ref mk, .ref ms, .int g2, .ref mv, .int g3, .int g4, .int g5, .int g6, .long g7, .int g8, .int g9, .ref m1w, .ref m2w, .ref m3w, .ref m4w, .int g10, .long g11, .long g12, .long g13])), (mw, .inl (cm3, 906, .inr (.inl fw))), (mt, .inl (cm2, 3, .inl ft))] U.heap ∧ va_K (dC, dI) vwCl [(cm3, .long), (cm2, .int)] U ∧ va_D (fun _ => True) [(h0, .inr (12, [.int g0, .int g1, .ref mr, .ref mt, .ref mw, .ref mu, .ref mp, .ref mi, .ref mk, .ref ms, .int g2, .ref mv, .int g3, .int g4, .int g5, .int g6, .long g7, .int g8, .int g9, .ref m1w, .ref m2w, .ref m3w, .ref m4w, .int g10, .long g11, .long g12, .long g13])), (mw, .inl (cm3, 906, .inr (.inl fw))), (mt, .inl (cm2, 3, .inl ft))])) (va_Qi (fun (r : Int32) (_ : Unit) => r = (-1)) (fun (_ : Unit) t => va_P (dC, dI) vwCl [(h0, .inr (12, [.int g0, .int g1, .ref mr, .ref mt, .ref mw, .ref mu, .ref mp, .ref mi, .ref mk, .ref ms, .int g2, .ref mv, .int g3, .int g4, .int g5, .int g6, .long g7, .int g8, .int g9, .ref m1w, .ref m2w, .ref m3w, .ref m4w, .int g10, .long g11, .long g12, .long g13])), (mw, .inl (cm3, 906, .inr (.inl fw))), (mt, .inl (cm2, 3, .inl ft))] t.heap ∧ va_K (dC, dI) vwCl [(cm3, .long), (cm2, .int)] t ∧ va_D (va_A [(h0, .inr (12, [.int g0, .int g1, .ref mr, .ref mt, .ref mw, .ref mu, .ref mp, .ref mi, .ref mk, .ref ms, .int g2, .ref mv, .int g3, .int g4, .int g5, .int g6, .long g7, .int g8, .int g9, .ref m1w, .ref m2w, .ref m3w, .ref m4w, .int g10, .long g11, .long g12, .long g13])), (mw, .inl (cm3, 906, .inr (.inl fw))), (mt, .inl (cm2, 3, .inl ft))] sz) [(h0, .inr (12, [.int g0, .int g1, .ref mr, .ref mt, .ref mw, .ref mu, .ref mp, .ref mi, .ref mk, .ref ms, .int g2, .ref mv, .int g3, .int g4, .int g5, .int g6, .long g7, .int g8, .int g9, .ref m1w, .ref m2w, .ref m3w, .ref m4w, .int g10, .long g11, .long g12, .long g13])), (mw, .inl (cm3, 906, .inr (.inl fw))), (mt, .inl (cm2, 3, .inl ft))]) (va_A [(h0, .inr (12, [.int g0, .int g1, .ref mr, .ref mt, .ref mw, .ref mu, .ref mp, .ref mi, .ref mk, .ref ms, .int g2, .ref mv, .int g3, .int g4, .int g5, .int g6, .long g7, .int g8, .int g9, .ref m1w, .ref m2w, .ref m3w, .ref m4w, .int g10, .long g11, .long g12, .long g13])), (mw, .inl (cm3, 906, .inr (.inl fw))), (mt, .inl (cm2, 3, .inl ft))] sz)) 0 0 (va_A [(h0, .inr (12, [.int g0, .int g1, .ref mr, .ref mt, .ref mw, .ref mu, .ref mp, .ref mi, .ref mk, .ref ms, .int g2, .ref mv, .int g3, .int g4, .int g5, .int g6, .long g7, .int g8, .int g9, .ref m1w, .ref m2w, .ref m3w, .ref m4w, .int g10, .long g11, .long g12, .long g13])), (mw, .inl (cm3, 906, .inr (.inl fw))), (mt, .inl (cm2, 3, .inl ft))] sz) := by
  refine Met.ofW (cc := cX12_chosen) (maxL := 3) (ret := (some .int)) (by decide) rfl ?_
  intro p e s m args below meth c s₁ B hml hv
  obtain ⟨rfl, hsz, hP, hK, hD0⟩ := hv
  have hx := B.exec
  have hb := B.bytes
  have hr := B.returns
  have hts := atoms_spec (ws := wq_c_X12_chosen) B.pre
  have hown : s.vm.findClass RX12 = some m.cls := findClass_of_methodNamed B.named
  have hlocks := B.notSynchronized
  subst hsz
  have hD := hD0.self (sz := s.heap.size)
  obtain ⟨A, hAe⟩ : ∃ A, A = va_A [(h0, .inr (12, [.int g0, .int g1, .ref mr, .ref mt, .ref mw, .ref mu, .ref mp, .ref mi, .ref mk, .ref ms, .int g2, .ref mv, .int g3, .int g4, .int g5, .int g6, .long g7, .int g8, .int g9, .ref m1w, .ref m2w, .ref m3w, .ref m4w, .int g10, .long g11, .long g12, .long g13])), (mw, .inl (cm3, 906, .inr (.inl fw))), (mt, .inl (cm2, 3, .inl ft))] s.heap.size := ⟨_, rfl⟩
  rw [← hAe] at hD ⊢
  have hA : ∀ q : Nat, s.heap.size ≤ q → A q := fun q h => by rw [hAe]; exact Or.inr h
  have hS : va_S A s.heap s.heap [] := va_S.rf
  have hP : va_P (dC, dI) vwCl [(h0, .inr (12, [.int g0, .int g1, .ref mr, .ref mt, .ref mw, .ref mu, .ref mp, .ref mi, .ref mk, .ref ms, .int g2, .ref mv, .int g3, .int g4, .int g5, .int g6, .long g7, .int g8, .int g9, .ref m1w, .ref m2w, .ref m3w, .ref m4w, .int g10, .long g11, .long g12, .long g13])), (mw, .inl (cm3, 906, .inr (.inl fw))), (mt, .inl (cm2, 3, .inl ft))] s.heap := hP
  have hl := lv_entry ([.ref h0, .int wy]) (n := 3) (Nat.le_of_ble_eq_true rfl)
  rw [lg_entry_eq]
  generalize (lg_sl ([.ref h0, .int wy]) ++ List.replicate (3 - (lg_sl ([.ref h0, .int wy])).length) Slot.unset).toArray = ls at hl ⊢
  have hl : lv_has ls 3 [(0, .ref h0), (1, .int wy)] := hl
  refine lv_iload_n hx hb dX12_chosen_0 rfl (lv_at hl 1 rfl) ?_
  by_cases h_1 : wy = 1
  · subst h_1
    refine lv_tableIn (tgt := 32) hx hb dX12_chosen_1 (by decide) (by decide) rfl (by decide) ?_
    refine lv_aload_n hx hb dX12_chosen_32 rfl (lv_at hl 0 rfl) ?_
    have hPc := hP.sub (ws' := [(h0, .inr (12, [.int g0, .int g1, .ref mr, .ref mt, .ref mw, .ref mu, .ref mp, .ref mi, .ref mk, .ref ms, .int g2, .ref mv, .int g3, .int g4, .int g5, .int g6, .long g7, .int g8, .int g9, .ref m1w, .ref m2w, .ref m3w, .ref m4w, .int g10, .long g11, .long g12, .long g13])), (mw, .inl (cm3, 906, .inr (.inl fw)))]) [0, 1] rfl
    have hDc := hD.sub (ws' := [(h0, .inr (12, [.int g0, .int g1, .ref mr, .ref mt, .ref mw, .ref mu, .ref mp, .ref mi, .ref mk, .ref ms, .int g2, .ref mv, .int g3, .int g4, .int g5, .int g6, .long g7, .int g8, .int g9, .ref m1w, .ref m2w, .ref m3w, .ref m4w, .int g10, .long g11, .long g12, .long g13])), (mw, .inl (cm3, 906, .inr (.inl fw)))]) [0, 1] (by decide) rfl
    have hKc := hK.sub (tys' := [(cm3, .long)]) [0] rfl
    have hFc := va_free (wc := [(h0, .inr (12, [.int g0, .int g1, .ref mr, .ref mt, .ref mw, .ref mu, .ref mp, .ref mi, .ref mk, .ref ms, .int g2, .ref mv, .int g3, .int g4, .int g5, .int g6, .long g7, .int g8, .int g9, .ref m1w, .ref m2w, .ref m3w, .ref m4w, .int g10, .long g11, .long g12, .long g13])), (mw, .inl (cm3, 906, .inr (.inl fw)))]) hD hS hA [0, 1] rfl
    refine va_calli (va_runV (As := []) (rest := []) ⟨hx, hb, hml, hown, hts⟩ (c_X12_byVirtual l dC dI h0 g0 g1 mr mt mw mu mp mi mk ms g2 mv g3 g4 g5 g6 g7 g8 g9 m1w m2w m3w m4w g10 g11 g12 g13 cm3 fw s.heap.size hw0) (cwV 0 hts (gi_V (fun w_ h0_ => ⟨List.mem_cons_of_mem _ (List.mem_append_right _ (List.mem_append_left _ h0_)), (tb_c_X12_byVirtual w_ h0_).2⟩) (List.mem_cons_of_mem _ (List.mem_append_left _ (List.mem_of_getElem? (i := 0) rfl))) (List.mem_cons_of_mem _ (List.mem_append_left _ (List.mem_of_getElem? (i := 1) rfl))) (List.mem_cons_of_mem _ (List.mem_append_left _ (List.mem_of_getElem? (i := 2) rfl))) (List.mem_cons_of_mem _ (List.mem_append_left _ (List.mem_of_getElem? (i := 3) rfl)))) rfl rfl rfl (by decide +kernel) ⟨Nat.le_of_ble_eq_true rfl, Nat.le_of_ble_eq_true rfl⟩) ⟨fun a U g mk q => by obtain ⟨q0, q1, qP, qK, qD⟩ := q; exact ⟨q0, q1, qP, va_K.moved (u := U) (U := U.calling g mk a) (Vm.Alike.refl U.vm) qK, qD⟩, va_recv hKc hPc (ci := 12) (q0 := 0) rfl rfl, fun U hU hW => ⟨rfl, by rw [hU], by rw [hU]; exact hPc, va_K.moved hW.alike hKc, hDc.weaken (fun _ _ _ _ => trivial)⟩⟩ rfl rfl hl.1 rfl (lv_room (Nat.le_of_ble_eq_true rfl)) dX12_chosen_33 ⟨Nat.le_of_ble_eq_true rfl, Nat.le_of_ble_eq_true rfl⟩) hS (fun q _ h => hFc q h) hFc (fun r_2 u t H1 locs ht hvm hw hB hz1 hk1 hS => ?_)
    obtain ⟨hP1, hK1, hD1⟩ := hB
    rw [ht] at hP1
    have hK1 := va_K.moved hvm.symm hK1
    obtain ⟨hP, hD⟩ := va_join (wr := [(mt, .inl (cm2, 3, .inl ft))]) (w1 := [(h0, .inr (12, [.int g0, .int g1, .ref mr, .ref mt, .ref mw, .ref mu, .ref mp, .ref mi, .ref mk, .ref ms, .int g2, .ref mv, .int g3, .int g4, .int g5, .int g6, .long g7, .int g8, .int g9, .ref m1w, .ref m2w, .ref m3w, .ref m4w, .int g10, .long g11, .long g12, .long g13])), (mw, .inl (cm3, 906, .inr (.inl fw)))]) hP hD [0, 1] [2] rfl rfl (by decide) (by decide) hk1 hFc hP1 hD1
    generalize H1 = H at hP hS ⊢
    have hP : va_P (dC, dI) vwCl [(mt, .inl (cm2, 3, .inl ft)), (h0, .inr (12, [.int g0, .int g1, .ref mr, .ref mt, .ref mw, .ref mu, .ref mp, .ref mi, .ref mk, .ref ms, .int g2, .ref mv, .int g3, .int g4, .int g5, .int g6, .long g7, .int g8, .int g9, .ref m1w, .ref m2w, .ref m3w, .ref m4w, .int g10, .long g11, .long g12, .long g13])), (mw, .inl (cm3, 906, .inr (.inl fw)))] H := hP
    have hD : va_D A [(mt, .inl (cm2, 3, .inl ft)), (h0, .inr (12, [.int g0, .int g1, .ref mr, .ref mt, .ref mw, .ref mu, .ref mp, .ref mi, .ref mk, .ref ms, .int g2, .ref mv, .int g3, .int g4, .int g5, .int g6, .long g7, .int g8, .int g9, .ref m1w, .ref m2w, .ref m3w, .ref m4w, .int g10, .long g11, .long g12, .long g13])), (mw, .inl (cm3, 906, .inr (.inl fw)))] := hD
    refine W.widen (k := 0) (n := 0) (Nat.le_of_ble_eq_true rfl) (Nat.le_of_ble_eq_true rfl) ?_
    have hw : r_2 = (-1) := hw
    subst hw
    have hP9 := hP.sub (ws' := [(h0, .inr (12, [.int g0, .int g1, .ref mr, .ref mt, .ref mw, .ref mu, .ref mp, .ref mi, .ref mk, .ref ms, .int g2, .ref mv, .int g3, .int g4, .int g5, .int g6, .long g7, .int g8, .int g9, .ref m1w, .ref m2w, .ref m3w, .ref m4w, .int g10, .long g11, .long g12, .long g13])), (mw, .inl (cm3, 906, .inr (.inl fw))), (mt, .inl (cm2, 3, .inl ft))]) [1, 2, 0] rfl
    have hD9 := hD.sub (ws' := [(h0, .inr (12, [.int g0, .int g1, .ref mr, .ref mt, .ref mw, .ref mu, .ref mp, .ref mi, .ref mk, .ref ms, .int g2, .ref mv, .int g3, .int g4, .int g5, .int g6, .long g7, .int g8, .int g9, .ref m1w, .ref m2w, .ref m3w, .ref m4w, .int g10, .long g11, .long g12, .long g13])), (mw, .inl (cm3, 906, .inr (.inl fw))), (mt, .inl (cm2, 3, .inl ft))]) [1, 2, 0] (by decide) rfl
    have hK9 := hK.sub (tys' := [(cm3, .long), (cm2, .int)]) [0, 1] rfl
    refine W.widen (k := 0) (n := 0) (Nat.le_of_ble_eq_true rfl) (Nat.le_of_ble_eq_true rfl) ?_
    exact W.iret (v := (-1)) hx hb hr (fun t ht hW => ⟨⟨(-1), (), rfl, rfl, by rw [ht]; exact hP9, va_K.moved hW.alike hK9, hD9⟩, hS.F ht⟩) hS.2.2 dX12_chosen_36
  by_cases h_3 : wy = 2
  · subst h_3
    refine lv_tableIn (tgt := 37) hx hb dX12_chosen_1 (by decide) (by decide) rfl (by decide) ?_
    refine lv_aload_n hx hb dX12_chosen_37 rfl (lv_at hl 0 rfl) ?_
    refine lv_iconst (v := 0) hx hb dX12_chosen_38 (by decide) ?_
    have hPc := hP.sub (ws' := [(h0, .inr (12, [.int g0, .int g1, .ref mr, .ref mt, .ref mw, .ref mu, .ref mp, .ref mi, .ref mk, .ref ms, .int g2, .ref mv, .int g3, .int g4, .int g5, .int g6, .long g7, .int g8, .int g9, .ref m1w, .ref m2w, .ref m3w, .ref m4w, .int g10, .long g11, .long g12, .long g13])), (mw, .inl (cm3, 906, .inr (.inl fw)))]) [0, 1] rfl
    have hDc := hD.sub (ws' := [(h0, .inr (12, [.int g0, .int g1, .ref mr, .ref mt, .ref mw, .ref mu, .ref mp, .ref mi, .ref mk, .ref ms, .int g2, .ref mv, .int g3, .int g4, .int g5, .int g6, .long g7, .int g8, .int g9, .ref m1w, .ref m2w, .ref m3w, .ref m4w, .int g10, .long g11, .long g12, .long g13])), (mw, .inl (cm3, 906, .inr (.inl fw)))]) [0, 1] (by decide) rfl
    have hKc := hK.sub (tys' := [(cm3, .long)]) [0] rfl
    have hFc := va_free (wc := [(h0, .inr (12, [.int g0, .int g1, .ref mr, .ref mt, .ref mw, .ref mu, .ref mp, .ref mi, .ref mk, .ref ms, .int g2, .ref mv, .int g3, .int g4, .int g5, .int g6, .long g7, .int g8, .int g9, .ref m1w, .ref m2w, .ref m3w, .ref m4w, .int g10, .long g11, .long g12, .long g13])), (mw, .inl (cm3, 906, .inr (.inl fw)))]) hD hS hA [0, 1] rfl
    refine va_calli (va_runV (As := [.int 0]) (rest := []) ⟨hx, hb, hml, hown, hts⟩ (c_X12_byDeadline l dC dI h0 0 g0 g1 mr mt mw mu mp mi mk ms g2 mv g3 g4 g5 g6 g7 g8 g9 m1w m2w m3w m4w g10 g11 g12 g13 cm3 fw s.heap.size hw0) (cwV 1 hts (gi_V (fun w_ h0_ => ⟨List.mem_cons_of_mem _ (List.mem_append_right _ (List.mem_append_right _ (List.mem_append_left _ h0_))), (tb_c_X12_byDeadline w_ h0_).2⟩) (List.mem_cons_of_mem _ (List.mem_append_left _ (List.mem_of_getElem? (i := 4) rfl))) (List.mem_cons_of_mem _ (List.mem_append_left _ (List.mem_of_getElem? (i := 5) rfl))) (List.mem_cons_of_mem _ (List.mem_append_left _ (List.mem_of_getElem? (i := 6) rfl))) (List.mem_cons_of_mem _ (List.mem_append_left _ (List.mem_of_getElem? (i := 3) rfl)))) rfl rfl rfl (by decide +kernel) ⟨Nat.le_of_ble_eq_true rfl, Nat.le_of_ble_eq_true rfl⟩) ⟨fun a U g mk q => by obtain ⟨q0, q1, qP, qK, qD⟩ := q; exact ⟨q0, q1, qP, va_K.moved (u := U) (U := U.calling g mk a) (Vm.Alike.refl U.vm) qK, qD⟩, va_recv hKc hPc (ci := 12) (q0 := 0) rfl rfl, fun U hU hW => ⟨rfl, by rw [hU], by rw [hU]; exact hPc, va_K.moved hW.alike hKc, hDc.weaken (fun _ _ _ _ => trivial)⟩⟩ rfl rfl hl.1 rfl (lv_room (Nat.le_of_ble_eq_true rfl)) dX12_chosen_39 ⟨Nat.le_of_ble_eq_true rfl, Nat.le_of_ble_eq_true rfl⟩) hS (fun q _ h => hFc q h) hFc (fun r_4 u t H1 locs ht hvm hw hB hz1 hk1 hS => ?_)
    obtain ⟨hP1, hK1, hD1⟩ := hB
    rw [ht] at hP1
    have hK1 := va_K.moved hvm.symm hK1
    obtain ⟨hP, hD⟩ := va_join (wr := [(mt, .inl (cm2, 3, .inl ft))]) (w1 := [(h0, .inr (12, [.int g0, .int g1, .ref mr, .ref mt, .ref mw, .ref mu, .ref mp, .ref mi, .ref mk, .ref ms, .int g2, .ref mv, .int g3, .int g4, .int g5, .int g6, .long g7, .int g8, .int g9, .ref m1w, .ref m2w, .ref m3w, .ref m4w, .int g10, .long g11, .long g12, .long g13])), (mw, .inl (cm3, 906, .inr (.inl fw)))]) hP hD [0, 1] [2] rfl rfl (by decide) (by decide) hk1 hFc hP1 hD1
    generalize H1 = H at hP hS ⊢
    have hP : va_P (dC, dI) vwCl [(mt, .inl (cm2, 3, .inl ft)), (h0, .inr (12, [.int g0, .int g1, .ref mr, .ref mt, .ref mw, .ref mu, .ref mp, .ref mi, .ref mk, .ref ms, .int g2, .ref mv, .int g3, .int g4, .int g5, .int g6, .long g7, .int g8, .int g9, .ref m1w, .ref m2w, .ref m3w, .ref m4w, .int g10, .long g11, .long g12, .long g13])), (mw, .inl (cm3, 906, .inr (.inl fw)))] H := hP
    have hD : va_D A [(mt, .inl (cm2, 3, .inl ft)), (h0, .inr (12, [.int g0, .int g1, .ref mr, .ref mt, .ref mw, .ref mu, .ref mp, .ref mi, .ref mk, .ref ms, .int g2, .ref mv, .int g3, .int g4, .int g5, .int g6, .long g7, .int g8, .int g9, .ref m1w, .ref m2w, .ref m3w, .ref m4w, .int g10, .long g11, .long g12, .long g13])), (mw, .inl (cm3, 906, .inr (.inl fw)))] := hD
    refine W.widen (k := 0) (n := 0) (Nat.le_of_ble_eq_true rfl) (Nat.le_of_ble_eq_true rfl) ?_
    have hw : r_4 = (-1) := hw
    subst hw
    have hP9 := hP.sub (ws' := [(h0, .inr (12, [.int g0, .int g1, .ref mr, .ref mt, .ref mw, .ref mu, .ref mp, .ref mi, .ref mk, .ref ms, .int g2, .ref mv, .int g3, .int g4, .int g5, .int g6, .long g7, .int g8, .int g9, .ref m1w, .ref m2w, .ref m3w, .ref m4w, .int g10, .long g11, .long g12, .long g13])), (mw, .inl (cm3, 906, .inr (.inl fw))), (mt, .inl (cm2, 3, .inl ft))]) [1, 2, 0] rfl
    have hD9 := hD.sub (ws' := [(h0, .inr (12, [.int g0, .int g1, .ref mr, .ref mt, .ref mw, .ref mu, .ref mp, .ref mi, .ref mk, .ref ms, .int g2, .ref mv, .int g3, .int g4, .int g5, .int g6, .long g7, .int g8, .int g9, .ref m1w, .ref m2w, .ref m3w, .ref m4w, .int g10, .long g11, .long g12, .long g13])), (mw, .inl (cm3, 906, .inr (.inl fw))), (mt, .inl (cm2, 3, .inl ft))]) [1, 2, 0] (by decide) rfl
    have hK9 := hK.sub (tys' := [(cm3, .long), (cm2, .int)]) [0, 1] rfl
    refine W.widen (k := 0) (n := 0) (Nat.le_of_ble_eq_true rfl) (Nat.le_of_ble_eq_true rfl) ?_
    exact W.iret (v := (-1)) hx hb hr (fun t ht hW => ⟨⟨(-1), (), rfl, rfl, by rw [ht]; exact hP9, va_K.moved hW.alike hK9, hD9⟩, hS.F ht⟩) hS.2.2 dX12_chosen_42
  by_cases h_5 : wy = 3
  · subst h_5
    refine lv_tableIn (tgt := 43) hx hb dX12_chosen_1 (by decide) (by decide) rfl (by decide) ?_
    refine lv_aload_n hx hb dX12_chosen_43 rfl (lv_at hl 0 rfl) ?_
    have hPc := hP.sub (ws' := [(h0, .inr (12, [.int g0, .int g1, .ref mr, .ref mt, .ref mw, .ref mu, .ref mp, .ref mi, .ref mk, .ref ms, .int g2, .ref mv, .int g3, .int g4, .int g5, .int g6, .long g7, .int g8, .int g9, .ref m1w, .ref m2w, .ref m3w, .ref m4w, .int g10, .long g11, .long g12, .long g13])), (mw, .inl (cm3, 906, .inr (.inl fw)))]) [0, 1] rfl
    have hDc := hD.sub (ws' := [(h0, .inr (12, [.int g0, .int g1, .ref mr, .ref mt, .ref mw, .ref mu, .ref mp, .ref mi, .ref mk, .ref ms, .int g2, .ref mv, .int g3, .int g4, .int g5, .int g6, .long g7, .int g8, .int g9, .ref m1w, .ref m2w, .ref m3w, .ref m4w, .int g10, .long g11, .long g12, .long g13])), (mw, .inl (cm3, 906, .inr (.inl fw)))]) [0, 1] (by decide) rfl
    have hKc := hK.sub (tys' := [(cm3, .long)]) [0] rfl
    have hFc := va_free (wc := [(h0, .inr (12, [.int g0, .int g1, .ref mr, .ref mt, .ref mw, .ref mu, .ref mp, .ref mi, .ref mk, .ref ms, .int g2, .ref mv, .int g3, .int g4, .int g5, .int g6, .long g7, .int g8, .int g9, .ref m1w, .ref m2w, .ref m3w, .ref m4w, .int g10, .long g11, .long g12, .long g13])), (mw, .inl (cm3, 906, .inr (.inl fw)))]) hD hS hA [0, 1] rfl
    refine va_calli (va_runV (As := []) (rest := []) ⟨hx, hb, hml, hown, hts⟩ (c_X12_inTurn l dC dI h0 g0 g1 mr mt mw mu mp mi mk ms g2 mv g3 g4 g5 g6 g7 g8 g9 m1w m2w m3w m4w g10 g11 g12 g13 cm3 fw s.heap.size hw0 hw3) (cwV 0 hts (gi_V (fun w_ h0_ => ⟨List.mem_cons_of_mem _ (List.mem_append_right _ (List.mem_append_right _ (List.mem_append_right _ (List.mem_append_left _ h0_)))), (tb_c_X12_inTurn w_ h0_).2⟩) (List.mem_cons_of_mem _ (List.mem_append_left _ (List.mem_of_getElem? (i := 7) rfl))) (List.mem_cons_of_mem _ (List.mem_append_left _ (List.mem_of_getElem? (i := 8) rfl))) (List.mem_cons_of_mem _ (List.mem_append_left _ (List.mem_of_getElem? (i := 9) rfl))) (List.mem_cons_of_mem _ (List.mem_append_left _ (List.mem_of_getElem? (i := 3) rfl)))) rfl rfl rfl (by decide +kernel) ⟨Nat.le_of_ble_eq_true rfl, Nat.le_of_ble_eq_true rfl⟩) ⟨fun a U g mk q => by obtain ⟨q0, q1, qP, qK, qD⟩ := q; exact ⟨q0, q1, qP, va_K.moved (u := U) (U := U.calling g mk a) (Vm.Alike.refl U.vm) qK, qD⟩, va_recv hKc hPc (ci := 12) (q0 := 0) rfl rfl, fun U hU hW => ⟨rfl, by rw [hU], by rw [hU]; exact hPc, va_K.moved hW.alike hKc, hDc.weaken (fun _ _ _ _ => trivial)⟩⟩ rfl rfl hl.1 rfl (lv_room (Nat.le_of_ble_eq_true rfl)) dX12_chosen_44 ⟨Nat.le_of_ble_eq_true rfl, Nat.le_of_ble_eq_true rfl⟩) hS (fun q _ h => hFc q h) hFc (fun r_6 u t H1 locs ht hvm hw hB hz1 hk1 hS => ?_)
    obtain ⟨hP1, hK1, hD1⟩ := hB
    rw [ht] at hP1
    have hK1 := va_K.moved hvm.symm hK1
    obtain ⟨hP, hD⟩ := va_join (wr := [(mt, .inl (cm2, 3, .inl ft))]) (w1 := [(h0, .inr (12, [.int g0, .int g1, .ref mr, .ref mt, .ref mw, .ref mu, .ref mp, .ref mi, .ref mk, .ref ms, .int g2, .ref mv, .int g3, .int g4, .int g5, .int g6, .long g7, .int g8, .int g9, .ref m1w, .ref m2w, .ref m3w, .ref m4w, .int g10, .long g11, .long g12, .long g13])), (mw, .inl (cm3, 906, .inr (.inl fw)))]) hP hD [0, 1] [2] rfl rfl (by decide) (by decide) hk1 hFc hP1 hD1
    generalize H1 = H at hP hS ⊢
    have hP : va_P (dC, dI) vwCl [(mt, .inl (cm2, 3, .inl ft)), (h0, .inr (12, [.int g0, .int g1, .ref mr, .ref mt, .ref mw, .ref mu, .ref mp, .ref mi, .ref mk, .ref ms, .int g2, .ref mv, .int g3, .int g4, .int g5, .int g6, .long g7, .int g8, .int g9, .ref m1w, .ref m2w, .ref m3w, .ref m4w, .int g10, .long g11, .long g12, .long g13])), (mw, .inl (cm3, 906, .inr (.inl fw)))] H := hP
    have hD : va_D A [(mt, .inl (cm2, 3, .inl ft)), (h0, .inr (12, [.int g0, .int g1, .ref mr, .ref mt, .ref mw, .ref mu, .ref mp, .ref mi, .ref mk, .ref ms, .int g2, .ref mv, .int g3, .int g4, .int g5, .int g6, .long g7, .int g8, .int g9, .ref m1w, .ref m2w, .ref m3w, .ref m4w, .int g10, .long g11, .long g12, .long g13])), (mw, .inl (cm3, 906, .inr (.inl fw)))] := hD
    refine W.widen (k := 0) (n := 0) (Nat.le_of_ble_eq_true rfl) (Nat.le_of_ble_eq_true rfl) ?_
    have hw : r_6 = (-1) := hw
    subst hw
    have hP9 := hP.sub (ws' := [(h0, .inr (12, [.int g0, .int g1, .ref mr, .ref mt, .ref mw, .ref mu, .ref mp, .ref mi, .ref mk, .ref ms, .int g2, .ref mv, .int g3, .int g4, .int g5, .int g6, .long g7, .int g8, .int g9, .ref m1w, .ref m2w, .ref m3w, .ref m4w, .int g10, .long g11, .long g12, .long g13])), (mw, .inl (cm3, 906, .inr (.inl fw))), (mt, .inl (cm2, 3, .inl ft))]) [1, 2, 0] rfl
    have hD9 := hD.sub (ws' := [(h0, .inr (12, [.int g0, .int g1, .ref mr, .ref mt, .ref mw, .ref mu, .ref mp, .ref mi, .ref mk, .ref ms, .int g2, .ref mv, .int g3, .int g4, .int g5, .int g6, .long g7, .int g8, .int g9, .ref m1w, .ref m2w, .ref m3w, .ref m4w, .int g10, .long g11, .long g12, .long g13])), (mw, .inl (cm3, 906, .inr (.inl fw))), (mt, .inl (cm2, 3, .inl ft))]) [1, 2, 0] (by decide) rfl
    have hK9 := hK.sub (tys' := [(cm3, .long), (cm2, .int)]) [0, 1] rfl
    refine W.widen (k := 0) (n := 0) (Nat.le_of_ble_eq_true rfl) (Nat.le_of_ble_eq_true rfl) ?_
    exact W.iret (v := (-1)) hx hb hr (fun t ht hW => ⟨⟨(-1), (), rfl, rfl, by rw [ht]; exact hP9, va_K.moved hW.alike hK9, hD9⟩, hS.F ht⟩) hS.2.2 dX12_chosen_47
  by_cases h_7 : wy = 4
  · subst h_7
    refine lv_tableIn (tgt := 48) hx hb dX12_chosen_1 (by decide) (by decide) rfl (by decide) ?_
    refine lv_aload_n hx hb dX12_chosen_48 rfl (lv_at hl 0 rfl) ?_
    have hPc := hP.sub (ws' := [(h0, .inr (12, [.int g0, .int g1, .ref mr, .ref mt, .ref mw, .ref mu, .ref mp, .ref mi, .ref mk, .ref ms, .int g2, .ref mv, .int g3, .int g4, .int g5, .int g6, .long g7, .int g8, .int g9, .ref m1w, .ref m2w, .ref m3w, .ref m4w, .int g10, .long g11, .long g12, .long g13])), (mw, .inl (cm3, 906, .inr (.inl fw)))]) [0, 1] rfl
    have hDc := hD.sub (ws' := [(h0, .inr (12, [.int g0, .int g1, .ref mr, .ref mt, .ref mw, .ref mu, .ref mp, .ref mi, .ref mk, .ref ms, .int g2, .ref mv, .int g3, .int g4, .int g5, .int g6, .long g7, .int g8, .int g9, .ref m1w, .ref m2w, .ref m3w, .ref m4w, .int g10, .long g11, .long g12, .long g13])), (mw, .inl (cm3, 906, .inr (.inl fw)))]) [0, 1] (by decide) rfl
    have hKc := hK.sub (tys' := [(cm3, .long)]) [0] rfl
    have hFc := va_free (wc := [(h0, .inr (12, [.int g0, .int g1, .ref mr, .ref mt, .ref mw, .ref mu, .ref mp, .ref mi, .ref mk, .ref ms, .int g2, .ref mv, .int g3, .int g4, .int g5, .int g6, .long g7, .int g8, .int g9, .ref m1w, .ref m2w, .ref m3w, .ref m4w, .int g10, .long g11, .long g12, .long g13])), (mw, .inl (cm3, 906, .inr (.inl fw)))]) hD hS hA [0, 1] rfl
    refine va_calli (va_runV (As := []) (rest := []) ⟨hx, hb, hml, hown, hts⟩ (c_X12_byDraws l dC dI h0 g0 g1 mr mt mw mu mp mi mk ms g2 mv g3 g4 g5 g6 g7 g8 g9 m1w m2w m3w m4w g10 g11 g12 g13 cm3 fw s.heap.size hw0) (cwV 0 hts (gi_V (fun w_ h0_ => ⟨List.mem_cons_of_mem _ (List.mem_append_right _ (List.mem_append_right _ (List.mem_append_right _ (List.mem_append_right _ (List.mem_append_left _ h0_))))), (tb_c_X12_byDraws w_ h0_).2⟩) (List.mem_cons_of_mem _ (List.mem_append_left _ (List.mem_of_getElem? (i := 10) rfl))) (List.mem_cons_of_mem _ (List.mem_append_left _ (List.mem_of_getElem? (i := 11) rfl))) (List.mem_cons_of_mem _ (List.mem_append_left _ (List.mem_of_getElem? (i := 12) rfl))) (List.mem_cons_of_mem _ (List.mem_append_left _ (List.mem_of_getElem? (i := 3) rfl)))) rfl rfl rfl (by decide +kernel) ⟨Nat.le_of_ble_eq_true rfl, Nat.le_of_ble_eq_true rfl⟩) ⟨fun a U g mk q => by obtain ⟨q0, q1, qP, qK, qD⟩ := q; exact ⟨q0, q1, qP, va_K.moved (u := U) (U := U.calling g mk a) (Vm.Alike.refl U.vm) qK, qD⟩, va_recv hKc hPc (ci := 12) (q0 := 0) rfl rfl, fun U hU hW => ⟨rfl, by rw [hU], by rw [hU]; exact hPc, va_K.moved hW.alike hKc, hDc.weaken (fun _ _ _ _ => trivial)⟩⟩ rfl rfl hl.1 rfl (lv_room (Nat.le_of_ble_eq_true rfl)) dX12_chosen_49 ⟨Nat.le_of_ble_eq_true rfl, Nat.le_of_ble_eq_true rfl⟩) hS (fun q _ h => hFc q h) hFc (fun r_8 u t H1 locs ht hvm hw hB hz1 hk1 hS => ?_)
    obtain ⟨hP1, hK1, hD1⟩ := hB
    rw [ht] at hP1
    have hK1 := va_K.moved hvm.symm hK1
    obtain ⟨hP, hD⟩ := va_join (wr := [(mt, .inl (cm2, 3, .inl ft))]) (w1 := [(h0, .inr (12, [.int g0, .int g1, .ref mr, .ref mt, .ref mw, .ref mu, .ref mp, .ref mi, .ref mk, .ref ms, .int g2, .ref mv, .int g3, .int g4, .int g5, .int g6, .long g7, .int g8, .int g9, .ref m1w, .ref m2w, .ref m3w, .ref m4w, .int g10, .long g11, .long g12, .long g13])), (mw, .inl (cm3, 906, .inr (.inl fw)))]) hP hD [0, 1] [2] rfl rfl (by decide) (by decide) hk1 hFc hP1 hD1
    generalize H1 = H at hP hS ⊢
    have hP : va_P (dC, dI) vwCl [(mt, .inl (cm2, 3, .inl ft)), (h0, .inr (12, [.int g0, .int g1, .ref mr, .ref mt, .ref mw, .ref mu, .ref mp, .ref mi, .ref mk, .ref ms, .int g2, .ref mv, .int g3, .int g4, .int g5, .int g6, .long g7, .int g8, .int g9, .ref m1w, .ref m2w, .ref m3w, .ref m4w, .int g10, .long g11, .long g12, .long g13])), (mw, .inl (cm3, 906, .inr (.inl fw)))] H := hP
    have hD : va_D A [(mt, .inl (cm2, 3, .inl ft)), (h0, .inr (12, [.int g0, .int g1, .ref mr, .ref mt, .ref mw, .ref mu, .ref mp, .ref mi, .ref mk, .ref ms, .int g2, .ref mv, .int g3, .int g4, .int g5, .int g6, .long g7, .int g8, .int g9, .ref m1w, .ref m2w, .ref m3w, .ref m4w, .int g10, .long g11, .long g12, .long g13])), (mw, .inl (cm3, 906, .inr (.inl fw)))] := hD
    refine W.widen (k := 0) (n := 0) (Nat.le_of_ble_eq_true rfl) (Nat.le_of_ble_eq_true rfl) ?_
    have hw : r_8 = (-1) := hw
    subst hw
    have hP9 := hP.sub (ws' := [(h0, .inr (12, [.int g0, .int g1, .ref mr, .ref mt, .ref mw, .ref mu, .ref mp, .ref mi, .ref mk, .ref ms, .int g2, .ref mv, .int g3, .int g4, .int g5, .int g6, .long g7, .int g8, .int g9, .ref m1w, .ref m2w, .ref m3w, .ref m4w, .int g10, .long g11, .long g12, .long g13])), (mw, .inl (cm3, 906, .inr (.inl fw))), (mt, .inl (cm2, 3, .inl ft))]) [1, 2, 0] rfl
    have hD9 := hD.sub (ws' := [(h0, .inr (12, [.int g0, .int g1, .ref mr, .ref mt, .ref mw, .ref mu, .ref mp, .ref mi, .ref mk, .ref ms, .int g2, .ref mv, .int g3, .int g4, .int g5, .int g6, .long g7, .int g8, .int g9, .ref m1w, .ref m2w, .ref m3w, .ref m4w, .int g10, .long g11, .long g12, .long g13])), (mw, .inl (cm3, 906, .inr (.inl fw))), (mt, .inl (cm2, 3, .inl ft))]) [1, 2, 0] (by decide) rfl
    have hK9 := hK.sub (tys' := [(cm3, .long), (cm2, .int)]) [0, 1] rfl
    refine W.widen (k := 0) (n := 0) (Nat.le_of_ble_eq_true rfl) (Nat.le_of_ble_eq_true rfl) ?_
    exact W.iret (v := (-1)) hx hb hr (fun t ht hW => ⟨⟨(-1), (), rfl, rfl, by rw [ht]; exact hP9, va_K.moved hW.alike hK9, hD9⟩, hS.F ht⟩) hS.2.2 dX12_chosen_52
  have z_9 := lv_neT (a := 1) h_1 (by decide)
  have z_10 := lv_neT (a := 2) h_3 (by decide)
  have z_11 := lv_neT (a := 3) h_5 (by decide)
  have z_12 := lv_neT (a := 4) h_7 (by decide)
  refine lv_tableOut (tgt := 53) hx hb dX12_chosen_1 (by omega) (by decide) ?_
  refine lv_aload_n hx hb dX12_chosen_53 rfl (lv_at hl 0 rfl) ?_
  refine va_get (D := (dC, dI)) (ci := 12) (v := .ref mw) (C := RX12) (T := TX12) (N := 27) hx hb hts (fun _ h0_ => List.mem_cons_of_mem _ (List.mem_append_right _ (List.mem_append_right _ (List.mem_append_right _ (List.mem_append_right _ (List.mem_append_right _ (List.mem_append_left _ h0_))))))) hown hK hP 0 rfl rfl 4 (by decide) (hts (.fieldLink RX12 16 "DeadlineShareModel" "row" "[J") (List.mem_cons_of_mem _ (List.mem_append_left _ (List.mem_of_getElem? (i := 13) rfl)))) (fun _ h9 => h9) rfl dX12_chosen_54 ?_
  refine lv_iconst (v := 4) hx hb dX12_chosen_57 (by decide) ?_
  refine va_lald hx hb hK hP 1 0 rfl rfl (by unfold vp_in; decide) dX12_chosen_58 ?_
  refine k_topl (y := (-1)) ((congrArg fw (show Int32.toNatClampNeg 4 = 4 by decide)).trans hw4) ?_
  refine lv_l2i (v := (-1)) hx hb dX12_chosen_59 (by decide) ?_
  refine lv_istore_n (lv' := [(2, .int (-1)), (0, .ref h0), (1, .int wy)]) hx hb dX12_chosen_60 rfl hl (by decide) rfl (fun ls hl => ?_)
  refine lv_aload_n hx hb dX12_chosen_61 rfl (lv_at hl 1 rfl) ?_
  refine va_get (D := (dC, dI)) (ci := 12) (v := .ref mt) (C := RX12) (T := TX12) (N := 27) hx hb hts (fun _ h0_ => List.mem_cons_of_mem _ (List.mem_append_right _ (List.mem_append_right _ (List.mem_append_right _ (List.mem_append_right _ (List.mem_append_right _ (List.mem_append_left _ h0_))))))) hown hK hP 0 rfl rfl 3 (by decide) (hts (.fieldLink RX12 13 "DeadlineShareModel" "term" "[I") (List.mem_cons_of_mem _ (List.mem_append_left _ (List.mem_of_getElem? (i := 14) rfl)))) (fun _ h9 => h9) rfl dX12_chosen_62 ?_
  refine lv_iconst (v := 0) hx hb dX12_chosen_65 (by decide) ?_
  refine va_iald hx hb hK hP 2 1 rfl rfl (by unfold vp_in; decide) dX12_chosen_66 ?_
  refine k_topi (y := 0) ((congrArg ft (show Int32.toNatClampNeg 0 = 0 by decide)).trans ht0) ?_
  refine lv_iconst (v := 1) hx hb dX12_chosen_67 (by decide) ?_
  refine lv_icmp_ne (tgt := 80) hx hb dX12_chosen_68 (by decide) (fun _ => ?_) (fun c => absurd c (by decide))
  refine lv_aload_n hx hb dX12_chosen_80 rfl (lv_at hl 1 rfl) ?_
  refine lv_iconst (v := 1) hx hb dX12_chosen_81 (by decide) ?_
  have hPc := hP.sub (ws' := [(h0, .inr (12, [.int g0, .int g1, .ref mr, .ref mt, .ref mw, .ref mu, .ref mp, .ref mi, .ref mk, .ref ms, .int g2, .ref mv, .int g3, .int g4, .int g5, .int g6, .long g7, .int g8, .int g9, .ref m1w, .ref m2w, .ref m3w, .ref m4w, .int g10, .long g11, .long g12, .long g13])), (mw, .inl (cm3, 906, .inr (.inl fw)))]) [0, 1] rfl
  have hDc := hD.sub (ws' := [(h0, .inr (12, [.int g0, .int g1, .ref mr, .ref mt, .ref mw, .ref mu, .ref mp, .ref mi, .ref mk, .ref ms, .int g2, .ref mv, .int g3, .int g4, .int g5, .int g6, .long g7, .int g8, .int g9, .ref m1w, .ref m2w, .ref m3w, .ref m4w, .int g10, .long g11, .long g12, .long g13])), (mw, .inl (cm3, 906, .inr (.inl fw)))]) [0, 1] (by decide) rfl
  have hKc := hK.sub (tys' := [(cm3, .long)]) [0] rfl
  have hFc := va_free (wc := [(h0, .inr (12, [.int g0, .int g1, .ref mr, .ref mt, .ref mw, .ref mu, .ref mp, .ref mi, .ref mk, .ref ms, .int g2, .ref mv, .int g3, .int g4, .int g5, .int g6, .long g7, .int g8, .int g9, .ref m1w, .ref m2w, .ref m3w, .ref m4w, .int g10, .long g11, .long g12, .long g13])), (mw, .inl (cm3, 906, .inr (.inl fw)))]) hD hS hA [0, 1] rfl
  refine va_calli (va_runV (As := [.int 1]) (rest := []) ⟨hx, hb, hml, hown, hts⟩ (c_X12_byDeadline l dC dI h0 1 g0 g1 mr mt mw mu mp mi mk ms g2 mv g3 g4 g5 g6 g7 g8 g9 m1w m2w m3w m4w g10 g11 g12 g13 cm3 fw s.heap.size hw0) (cwV 1 hts (gi_V (fun w_ h0_ => ⟨List.mem_cons_of_mem _ (List.mem_append_right _ (List.mem_append_right _ (List.mem_append_left _ h0_))), (tb_c_X12_byDeadline w_ h0_).2⟩) (List.mem_cons_of_mem _ (List.mem_append_left _ (List.mem_of_getElem? (i := 4) rfl))) (List.mem_cons_of_mem _ (List.mem_append_left _ (List.mem_of_getElem? (i := 5) rfl))) (List.mem_cons_of_mem _ (List.mem_append_left _ (List.mem_of_getElem? (i := 6) rfl))) (List.mem_cons_of_mem _ (List.mem_append_left _ (List.mem_of_getElem? (i := 3) rfl)))) rfl rfl rfl (by decide +kernel) ⟨Nat.le_of_ble_eq_true rfl, Nat.le_of_ble_eq_true rfl⟩) ⟨fun a U g mk q => by obtain ⟨q0, q1, qP, qK, qD⟩ := q; exact ⟨q0, q1, qP, va_K.moved (u := U) (U := U.calling g mk a) (Vm.Alike.refl U.vm) qK, qD⟩, va_recv hKc hPc (ci := 12) (q0 := 0) rfl rfl, fun U hU hW => ⟨rfl, by rw [hU], by rw [hU]; exact hPc, va_K.moved hW.alike hKc, hDc.weaken (fun _ _ _ _ => trivial)⟩⟩ rfl rfl hl.1 rfl (lv_room (Nat.le_of_ble_eq_true rfl)) dX12_chosen_82 ⟨Nat.le_of_ble_eq_true rfl, Nat.le_of_ble_eq_true rfl⟩) hS (fun q _ h => hFc q h) hFc (fun r_13 u t H1 locs ht hvm hw hB hz1 hk1 hS => ?_)
  obtain ⟨hP1, hK1, hD1⟩ := hB
  rw [ht] at hP1
  have hK1 := va_K.moved hvm.symm hK1
  obtain ⟨hP, hD⟩ := va_join (wr := [(mt, .inl (cm2, 3, .inl ft))]) (w1 := [(h0, .inr (12, [.int g0, .int g1, .ref mr, .ref mt, .ref mw, .ref mu, .ref mp, .ref mi, .ref mk, .ref ms, .int g2, .ref mv, .int g3, .int g4, .int g5, .int g6, .long g7, .int g8, .int g9, .ref m1w, .ref m2w, .ref m3w, .ref m4w, .int g10, .long g11, .long g12, .long g13])), (mw, .inl (cm3, 906, .inr (.inl fw)))]) hP hD [0, 1] [2] rfl rfl (by decide) (by decide) hk1 hFc hP1 hD1
  generalize H1 = H at hP hS ⊢
  have hP : va_P (dC, dI) vwCl [(mt, .inl (cm2, 3, .inl ft)), (h0, .inr (12, [.int g0, .int g1, .ref mr, .ref mt, .ref mw, .ref mu, .ref mp, .ref mi, .ref mk, .ref ms, .int g2, .ref mv, .int g3, .int g4, .int g5, .int g6, .long g7, .int g8, .int g9, .ref m1w, .ref m2w, .ref m3w, .ref m4w, .int g10, .long g11, .long g12, .long g13])), (mw, .inl (cm3, 906, .inr (.inl fw)))] H := hP
  have hD : va_D A [(mt, .inl (cm2, 3, .inl ft)), (h0, .inr (12, [.int g0, .int g1, .ref mr, .ref mt, .ref mw, .ref mu, .ref mp, .ref mi, .ref mk, .ref ms, .int g2, .ref mv, .int g3, .int g4, .int g5, .int g6, .long g7, .int g8, .int g9, .ref m1w, .ref m2w, .ref m3w, .ref m4w, .int g10, .long g11, .long g12, .long g13])), (mw, .inl (cm3, 906, .inr (.inl fw)))] := hD
  refine W.widen (k := 0) (n := 0) (Nat.le_of_ble_eq_true rfl) (Nat.le_of_ble_eq_true rfl) ?_
  have hw : r_13 = (-1) := hw
  subst hw
  have hP9 := hP.sub (ws' := [(h0, .inr (12, [.int g0, .int g1, .ref mr, .ref mt, .ref mw, .ref mu, .ref mp, .ref mi, .ref mk, .ref ms, .int g2, .ref mv, .int g3, .int g4, .int g5, .int g6, .long g7, .int g8, .int g9, .ref m1w, .ref m2w, .ref m3w, .ref m4w, .int g10, .long g11, .long g12, .long g13])), (mw, .inl (cm3, 906, .inr (.inl fw))), (mt, .inl (cm2, 3, .inl ft))]) [1, 2, 0] rfl
  have hD9 := hD.sub (ws' := [(h0, .inr (12, [.int g0, .int g1, .ref mr, .ref mt, .ref mw, .ref mu, .ref mp, .ref mi, .ref mk, .ref ms, .int g2, .ref mv, .int g3, .int g4, .int g5, .int g6, .long g7, .int g8, .int g9, .ref m1w, .ref m2w, .ref m3w, .ref m4w, .int g10, .long g11, .long g12, .long g13])), (mw, .inl (cm3, 906, .inr (.inl fw))), (mt, .inl (cm2, 3, .inl ft))]) [1, 2, 0] (by decide) rfl
  have hK9 := hK.sub (tys' := [(cm3, .long), (cm2, .int)]) [0, 1] rfl
  refine W.widen (k := 0) (n := 0) (Nat.le_of_ble_eq_true rfl) (Nat.le_of_ble_eq_true rfl) ?_
  exact W.iret (v := (-1)) hx hb hr (fun t ht hW => ⟨⟨(-1), (), rfl, rfl, by rw [ht]; exact hP9, va_K.moved hW.alike hK9, hD9⟩, hS.F ht⟩) hS.2.2 dX12_chosen_85
def ow_c_X12_lookAtLags : List Cond := [.fieldLink RX12 16 "DeadlineShareModel" "row" "[J"]
def wq_c_X12_lookAtLags : List Cond := .code yX12_lookAtLags cX12_lookAtLags 4 none :: (ow_c_X12_lookAtLags ++ (u_ws RX12 TX12 27 ++ ([] : List Cond)))
theorem tb_c_X12_lookAtLags : ∀ w ∈ wq_c_X12_lookAtLags, q_g w := by
  unfold wq_c_X12_lookAtLags ow_c_X12_lookAtLags
  exact q_cons tw_469 (q_app (q_cons tw_425 q_nil) (q_app tu_X12 q_nil))
set_option maxHeartbeats 4000000 in
set_option maxRecDepth 100000 in
theorem c_X12_lookAtLags (l : Launch) (dC : Nat → ClassId) (dI : Nat → Nat → Nat) (h0 : Nat) (g0 : Int32) (g1 : Int32) (mr : Nat) (mt : Nat) (mw : Nat) (mu : Nat) (mp : Nat) (mi : Nat) (mk : Nat) (ms : Nat) (g2 : Int32) (mv : Nat) (g3 : Int32) (g4 : Int32) (g5 : Int32) (g6 : Int32) (g7 : Int64) (g8 : Int32) (g9 : Int32) (m1w : Nat) (m2w : Nat) (m3w : Nat) (m4w : Nat) (g10 : Int32) (g11 : Int64) (g12 : Int64) (g13 : Int64) (cm3 : ClassId) (fw : Nat → Int64) (sz : Nat) (hw0 : fw 0 = 0) : Met l yX12_lookAtLags wq_c_X12_lookAtLags ({ frames := 0, cells := 0, slots := 0, locals := 0 } : Room) (va_Pc [.ref h0] (fun U => U.heap.size = sz ∧ va_P (dC, dI) vwCl [(h0, .inr (12, [.int g0, .int g1, .ref mr, .ref mt, .ref mw, .ref mu, .ref mp, .ref mi, .ref mk, .ref ms, .int g2, .ref mv, .int g3, .int g4, .int g5, .int g6, .long g7, .int g8, .int g9, .ref m1w, .ref m2w, .ref m3w, .ref m4w, .int g10, .long g11, .long g12, .long g13])), (mw, .inl (cm3, 906, .inr (.inl fw)))] U.heap ∧ va_K (dC, dI) vwCl [(cm3, .long)] U ∧ va_D (fun _ => True) [(h0, .inr (12, [.int g0, .int g1, .ref mr, .ref mt, .ref mw, .ref mu, .ref mp, .ref mi, .ref mk, .ref ms, .int g2, .ref mv, .int g3, .int g4, .int g5, .int g6, .long g7, .int g8, .int g9, .ref m1w, .ref m2w, .ref m3w, .ref m4w, .int g10, .long g11, .long g12, .long g13])), (mw, .inl (cm3, 906, .inr (.inl fw)))])) (va_Qv (fun (_ : Unit) => True) (fun (_ : Unit) t => va_P (dC, dI) vwCl [(h0, .inr (12, [.int g0, .int g1, .ref mr, .ref mt, .ref mw, .ref mu, .ref mp, .ref mi, .ref mk, .ref ms, .int g2, .ref mv, .int g3, .int g4, .int g5, .int g6, .long g7, .int g8, .int g9, .ref m1w, .ref m2w, .ref m3w, .ref m4w, .int g10, .long g11, .long g12, .long g13])), (mw, .inl (cm3, 906, .inr (.inl fw)))] t.heap ∧ va_K (dC, dI) vwCl [(cm3, .long)] t ∧ va_D (va_A [(h0, .inr (12, [.int g0, .int g1, .ref mr, .ref mt, .ref mw, .ref mu, .ref mp, .ref mi, .ref mk, .ref ms, .int g2, .ref mv, .int g3, .int g4, .int g5, .int g6, .long g7, .int g8, .int g9, .ref m1w, .ref m2w, .ref m3w, .ref m4w, .int g10, .long g11, .long g12, .long g13])), (mw, .inl (cm3, 906, .inr (.inl fw)))] sz) [(h0, .inr (12, [.int g0, .int g1, .ref mr, .ref mt, .ref mw, .ref mu, .ref mp, .ref mi, .ref mk, .ref ms, .int g2, .ref mv, .int g3, .int g4, .int g5, .int g6, .long g7, .int g8, .int g9, .ref m1w, .ref m2w, .ref m3w, .ref m4w, .int g10, .long g11, .long g12, .long g13])), (mw, .inl (cm3, 906, .inr (.inl fw)))]) (va_A [(h0, .inr (12, [.int g0, .int g1, .ref mr, .ref mt, .ref mw, .ref mu, .ref mp, .ref mi, .ref mk, .ref ms, .int g2, .ref mv, .int g3, .int g4, .int g5, .int g6, .long g7, .int g8, .int g9, .ref m1w, .ref m2w, .ref m3w, .ref m4w, .int g10, .long g11, .long g12, .long g13])), (mw, .inl (cm3, 906, .inr (.inl fw)))] sz)) 0 0 (va_A [(h0, .inr (12, [.int g0, .int g1, .ref mr, .ref mt, .ref mw, .ref mu, .ref mp, .ref mi, .ref mk, .ref ms, .int g2, .ref mv, .int g3, .int g4, .int g5, .int g6, .long g7, .int g8, .int g9, .ref m1w, .ref m2w, .ref m3w, .ref m4w, .int g10, .long g11, .long g12, .long g13])), (mw, .inl (cm3, 906, .inr (.inl fw)))] sz) := by
  refine Met.ofW (cc := cX12_lookAtLags) (maxL := 4) (ret := none) (by decide) rfl ?_
  intro p e s m args below meth c s₁ B hml hv
  obtain ⟨rfl, hsz, hP, hK, hD0⟩ := hv
  have hx := B.exec
  have hb := B.bytes
  have hr := B.returns
  have hts := atoms_spec (ws := wq_c_X12_lookAtLags) B.pre
  have hown : s.vm.findClass RX12 = some m.cls := findClass_of_methodNamed B.named
  have hlocks := B.notSynchronized
  subst hsz
  have hD := hD0.self (sz := s.heap.size)
  obtain ⟨A, hAe⟩ : ∃ A, A = va_A [(h0, .inr (12, [.int g0, .int g1, .ref mr, .ref mt, .ref mw, .ref mu, .ref mp, .ref mi, .ref mk, .ref ms, .int g2, .ref mv, .int g3, .int g4, .int g5, .int g6, .long g7, .int g8, .int g9, .ref m1w, .ref m2w, .ref m3w, .ref m4w, .int g10, .long g11, .long g12, .long g13])), (mw, .inl (cm3, 906, .inr (.inl fw)))] s.heap.size := ⟨_, rfl⟩
  rw [← hAe] at hD ⊢
  have hA : ∀ q : Nat, s.heap.size ≤ q → A q := fun q h => by rw [hAe]; exact Or.inr h
  have hS : va_S A s.heap s.heap [] := va_S.rf
  have hP : va_P (dC, dI) vwCl [(h0, .inr (12, [.int g0, .int g1, .ref mr, .ref mt, .ref mw, .ref mu, .ref mp, .ref mi, .ref mk, .ref ms, .int g2, .ref mv, .int g3, .int g4, .int g5, .int g6, .long g7, .int g8, .int g9, .ref m1w, .ref m2w, .ref m3w, .ref m4w, .int g10, .long g11, .long g12, .long g13])), (mw, .inl (cm3, 906, .inr (.inl fw)))] s.heap := hP
  have hl := lv_entry ([.ref h0]) (n := 4) (Nat.le_of_ble_eq_true rfl)
  rw [lg_entry_eq]
  generalize (lg_sl ([.ref h0]) ++ List.replicate (4 - (lg_sl ([.ref h0])).length) Slot.unset).toArray = ls at hl ⊢
  have hl : lv_has ls 4 [(0, .ref h0)] := hl
  refine lv_iconst (v := 0) hx hb dX12_lookAtLags_0 (by decide) ?_
  refine lv_istore_n (lv' := [(1, .int 0), (0, .ref h0)]) hx hb dX12_lookAtLags_1 rfl hl (by decide) rfl (fun ls hl => ?_)
  refine lv_iload_n hx hb dX12_lookAtLags_2 rfl (lv_at hl 0 rfl) ?_
  refine lv_i2l (v := 0) hx hb dX12_lookAtLags_3 (by decide) ?_
  refine lv_aload_n hx hb dX12_lookAtLags_4 rfl (lv_at hl 1 rfl) ?_
  refine va_get (D := (dC, dI)) (ci := 12) (v := .ref mw) (C := RX12) (T := TX12) (N := 27) hx hb hts (fun _ h0_ => List.mem_cons_of_mem _ (List.mem_append_right _ (List.mem_append_left _ h0_))) hown hK hP 0 rfl rfl 4 (by decide) (hts (.fieldLink RX12 16 "DeadlineShareModel" "row" "[J") (List.mem_cons_of_mem _ (List.mem_append_left _ (List.mem_of_getElem? (i := 0) rfl)))) (fun _ h9 => h9) rfl dX12_lookAtLags_5 ?_
  refine lv_iconst (v := 0) hx hb dX12_lookAtLags_8 (by decide) ?_
  refine va_lald hx hb hK hP 1 0 rfl rfl (by unfold vp_in; decide) dX12_lookAtLags_9 ?_
  refine k_topl (y := 0) ((congrArg fw (show Int32.toNatClampNeg 0 = 0 by decide)).trans hw0) ?_
  refine W.lcmp hx hb dX12_lookAtLags_10 ?_
  refine k_topi (y := 0) (by decide) ?_
  refine lv_if_ge (tgt := 91) hx hb dX12_lookAtLags_11 (by decide) (fun _ => ?_) (fun c => absurd (by decide) c)
  have hP9 := hP.sub (ws' := [(h0, .inr (12, [.int g0, .int g1, .ref mr, .ref mt, .ref mw, .ref mu, .ref mp, .ref mi, .ref mk, .ref ms, .int g2, .ref mv, .int g3, .int g4, .int g5, .int g6, .long g7, .int g8, .int g9, .ref m1w, .ref m2w, .ref m3w, .ref m4w, .int g10, .long g11, .long g12, .long g13])), (mw, .inl (cm3, 906, .inr (.inl fw)))]) [0, 1] rfl
  have hD9 := hD.sub (ws' := [(h0, .inr (12, [.int g0, .int g1, .ref mr, .ref mt, .ref mw, .ref mu, .ref mp, .ref mi, .ref mk, .ref ms, .int g2, .ref mv, .int g3, .int g4, .int g5, .int g6, .long g7, .int g8, .int g9, .ref m1w, .ref m2w, .ref m3w, .ref m4w, .int g10, .long g11, .long g12, .long g13])), (mw, .inl (cm3, 906, .inr (.inl fw)))]) [0, 1] (by decide) rfl
  have hK9 := hK.sub (tys' := [(cm3, .long)]) [0] rfl
  refine W.widen (k := 0) (n := 0) (Nat.le_of_ble_eq_true rfl) (Nat.le_of_ble_eq_true rfl) ?_
  exact W.vret hx hb hr (fun t ht hW => ⟨⟨(), rfl, trivial, by rw [ht]; exact hP9, va_K.moved hW.alike hK9, hD9⟩, hS.F ht⟩) hS.2.2 dX12_lookAtLags_91
def ow_c_X12_log : List Cond := [.fieldLink RX12 16 "DeadlineShareModel" "row" "[J", .constantLong RX12 270 (128), .methodLink RX12 105 yX12_heavy, .instanceMethod yX12_heavy, .selects RX12 yX12_heavy yX12_heavy, .initialized RX12]
def wq_c_X12_log : List Cond := .code yX12_log cX12_log 4 none :: (ow_c_X12_log ++ (u_ws RX12 TX12 27 ++ (wq_c_X12_heavy ++ ([] : List Cond))))
theorem tb_c_X12_log : ∀ w ∈ wq_c_X12_log, q_g w := by
  unfold wq_c_X12_log ow_c_X12_log
  exact q_cons tw_471 (q_app (q_cons tw_425 (q_cons tw_470 (q_cons tw_454 (q_cons tw_453 (q_cons tw_452 (q_cons tw_435 q_nil)))))) (q_app tu_X12 (q_app tb_c_X12_heavy q_nil)))
set_option maxHeartbeats 4000000 in
set_option maxRecDepth 100000 in
theorem c_X12_log (l : Launch) (dC : Nat → ClassId) (dI : Nat → Nat → Nat) (h0 : Nat) (g0 : Int32) (g1 : Int32) (mr : Nat) (mt : Nat) (mw : Nat) (mu : Nat) (mp : Nat) (mi : Nat) (mk : Nat) (ms : Nat) (g2 : Int32) (mv : Nat) (g3 : Int32) (g4 : Int32) (g5 : Int32) (g6 : Int32) (g7 : Int64) (g8 : Int32) (g9 : Int32) (m1w : Nat) (m2w : Nat) (m3w : Nat) (m4w : Nat) (g10 : Int32) (g11 : Int64) (g12 : Int64) (g13 : Int64) (cm3 : ClassId) (fw : Nat → Int64) (tt : Nat) (gg : Nat) (sz : Nat) (hw0 : fw 0 = 0) (hw1 : fw 1 = lN tt) (hw3 : fw 3 = (-1)) (hw4 : fw 4 = (-1)) (hw5 : fw 5 = lN gg) (hgg : gg < 60) : Met l yX12_log wq_c_X12_log ({ frames := 1, cells := 0, slots := 0, locals := 23 } : Room) (va_Pc [.ref h0, .int (-1)] (fun U => U.heap.size = sz ∧ va_P (dC, dI) vwCl [(h0, .inr (12, [.int g0, .int g1, .ref mr, .ref mt, .ref mw, .ref mu, .ref mp, .ref mi, .ref mk, .ref ms, .int g2, .ref mv, .int g3, .int g4, .int g5, .int g6, .long g7, .int g8, .int g9, .ref m1w, .ref m2w, .ref m3w, .ref m4w, .int g10, .long g11, .long g12, .long g13])), (mw, .inl (cm3, 906, .inr (.inl fw)))] U.heap ∧ va_K (dC, dI) vwCl [(cm3, .long)] U ∧ va_D (fun _ => True) [(h0, .inr (12, [.int g0, .int g1, .ref mr, .ref mt, .ref mw, .ref mu, .ref mp, .ref mi, .ref mk, .ref ms, .int g2, .ref mv, .int g3, .int g4, .int g5, .int g6, .long g7, .int g8, .int g9, .ref m1w, .ref m2w, .ref m3w, .ref m4w, .int g10, .long g11, .long g12, .long g13])), (mw, .inl (cm3, 906, .inr (.inl fw)))])) (va_Qv (fun (_ : Unit) => True) (fun (_ : Unit) t => ∃ (f2 : Nat → Int64), f2 0 = 0 ∧ f2 1 = lN tt ∧ f2 3 = (-1) ∧ f2 4 = (-1) ∧ f2 5 = lN (gg + 1) ∧ va_P (dC, dI) vwCl [(h0, .inr (12, [.int g0, .int g1, .ref mr, .ref mt, .ref mw, .ref mu, .ref mp, .ref mi, .ref mk, .ref ms, .int g2, .ref mv, .int g3, .int g4, .int g5, .int g6, .long g7, .int g8, .int g9, .ref m1w, .ref m2w, .ref m3w, .ref m4w, .int g10, .long g11, .long g12, .long g13])), (mw, .inl (cm3, 906, .inr (.inl f2)))] t.heap ∧ va_K (dC, dI) vwCl [(cm3, .long)] t ∧ va_D (va_A [(h0, .inr (12, [.int g0, .int g1, .ref mr, .ref mt, .ref mw, .ref mu, .ref mp, .ref mi, .ref mk, .ref ms, .int g2, .ref mv, .int g3, .int g4, .int g5, .int g6, .long g7, .int g8, .int g9, .ref m1w, .ref m2w, .ref m3w, .ref m4w, .int g10, .long g11, .long g12, .long g13])), (mw, .inl (cm3, 906, .inr (.inl fw)))] sz) [(h0, .inr (12, [.int g0, .int g1, .ref mr, .ref mt, .ref mw, .ref mu, .ref mp, .ref mi, .ref mk, .ref ms, .int g2, .ref mv, .int g3, .int g4, .int g5, .int g6, .long g7, .int g8, .int g9, .ref m1w, .ref m2w, .ref m3w, .ref m4w, .int g10, .long g11, .long g12, .long g13])), (mw, .inl (cm3, 906, .inr (.inl f2)))]) (va_A [(h0, .inr (12, [.int g0, .int g1, .ref mr, .ref mt, .ref mw, .ref mu, .ref mp, .ref mi, .ref mk, .ref ms, .int g2, .ref mv, .int g3, .int g4, .int g5, .int g6, .long g7, .int g8, .int g9, .ref m1w, .ref m2w, .ref m3w, .ref m4w, .int g10, .long g11, .long g12, .long g13])), (mw, .inl (cm3, 906, .inr (.inl fw)))] sz)) 0 0 (va_A [(h0, .inr (12, [.int g0, .int g1, .ref mr, .ref mt, .ref mw, .ref mu, .ref mp, .ref mi, .ref mk, .ref ms, .int g2, .ref mv, .int g3, .int g4, .int g5, .int g6, .long g7, .int g8, .int g9, .ref m1w, .ref m2w, .ref m3w, .ref m4w, .int g10, .long g11, .long g12, .long g13])), (mw, .inl (cm3, 906, .inr (.inl fw)))] sz) := by
  refine Met.ofW (cc := cX12_log) (maxL := 4) (ret := none) (by decide) rfl ?_
  intro p e s m args below meth c s₁ B hml hv
  obtain ⟨rfl, hsz, hP, hK, hD0⟩ := hv
  have hx := B.exec
  have hb := B.bytes
  have hr := B.returns
  have hts := atoms_spec (ws := wq_c_X12_log) B.pre
  have hown : s.vm.findClass RX12 = some m.cls := findClass_of_methodNamed B.named
  have hlocks := B.notSynchronized
  subst hsz
  have hD := hD0.self (sz := s.heap.size)
  obtain ⟨A, hAe⟩ : ∃ A, A = va_A [(h0, .inr (12, [.int g0, .int g1, .ref mr, .ref mt, .ref mw, .ref mu, .ref mp, .ref mi, .ref mk, .ref ms, .int g2, .ref mv, .int g3, .int g4, .int g5, .int g6, .long g7, .int g8, .int g9, .ref m1w, .ref m2w, .ref m3w, .ref m4w, .int g10, .long g11, .long g12, .long g13])), (mw, .inl (cm3, 906, .inr (.inl fw)))] s.heap.size := ⟨_, rfl⟩
  rw [← hAe] at hD ⊢
  have hA : ∀ q : Nat, s.heap.size ≤ q → A q := fun q h => by rw [hAe]; exact Or.inr h
  have hS : va_S A s.heap s.heap [] := va_S.rf
  have hP : va_P (dC, dI) vwCl [(h0, .inr (12, [.int g0, .int g1, .ref mr, .ref mt, .ref mw, .ref mu, .ref mp, .ref mi, .ref mk, .ref ms, .int g2, .ref mv, .int g3, .int g4, .int g5, .int g6, .long g7, .int g8, .int g9, .ref m1w, .ref m2w, .ref m3w, .ref m4w, .int g10, .long g11, .long g12, .long g13])), (mw, .inl (cm3, 906, .inr (.inl fw)))] s.heap := hP
  have hl := lv_entry ([.ref h0, .int (-1)]) (n := 4) (Nat.le_of_ble_eq_true rfl)
  rw [lg_entry_eq]
  generalize (lg_sl ([.ref h0, .int (-1)]) ++ List.replicate (4 - (lg_sl ([.ref h0, .int (-1)])).length) Slot.unset).toArray = ls at hl ⊢
  have hl : lv_has ls 4 [(0, .ref h0), (1, .int (-1))] := hl
  refine lv_aload_n hx hb dX12_log_0 rfl (lv_at hl 0 rfl) ?_
  refine va_get (D := (dC, dI)) (ci := 12) (v := .ref mw) (C := RX12) (T := TX12) (N := 27) hx hb hts (fun _ h0_ => List.mem_cons_of_mem _ (List.mem_append_right _ (List.mem_append_left _ h0_))) hown hK hP 0 rfl rfl 4 (by decide) (hts (.fieldLink RX12 16 "DeadlineShareModel" "row" "[J") (List.mem_cons_of_mem _ (List.mem_append_left _ (List.mem_of_getElem? (i := 0) rfl)))) (fun _ h9 => h9) rfl dX12_log_1 ?_
  refine lv_iconst (v := 5) hx hb dX12_log_4 (by decide) ?_
  refine va_lald hx hb hK hP 1 0 rfl rfl (by unfold vp_in; decide) dX12_log_5 ?_
  refine k_topl (y := lN gg) ((congrArg fw (show Int32.toNatClampNeg 5 = 5 by decide)).trans hw5) ?_
  refine lv_ldc2 hx hb hown (hts (.constantLong RX12 270 (128)) (List.mem_cons_of_mem _ (List.mem_append_left _ (List.mem_of_getElem? (i := 1) rfl)))) dX12_log_6 ?_
  refine W.lcmp hx hb dX12_log_9 ?_
  refine lv_if_ne (tgt := 54) hx hb dX12_log_10 (by decide) (fun _ => ?_) (fun c => (fun c9 => absurd c9 ((k_cmp_ne _ _).mpr (fun h9 => absurd ((lN_eq (a := gg) (b := 128) (by omega) (by omega)).mp h9) (by omega)))) c)
  refine lv_sipush (v := 522) hx hb dX12_log_54 (by decide) ?_
  refine lv_iconst (v := 3) hx hb dX12_log_57 (by decide) ?_
  refine lv_aload_n hx hb dX12_log_58 rfl (lv_at hl 0 rfl) ?_
  refine va_get (D := (dC, dI)) (ci := 12) (v := .ref mw) (C := RX12) (T := TX12) (N := 27) hx hb hts (fun _ h0_ => List.mem_cons_of_mem _ (List.mem_append_right _ (List.mem_append_left _ h0_))) hown hK hP 0 rfl rfl 4 (by decide) (hts (.fieldLink RX12 16 "DeadlineShareModel" "row" "[J") (List.mem_cons_of_mem _ (List.mem_append_left _ (List.mem_of_getElem? (i := 0) rfl)))) (fun _ h9 => h9) rfl dX12_log_59 ?_
  refine lv_iconst (v := 5) hx hb dX12_log_62 (by decide) ?_
  refine va_lald hx hb hK hP 1 0 rfl rfl (by unfold vp_in; decide) dX12_log_63 ?_
  refine k_topl (y := lN gg) ((congrArg fw (show Int32.toNatClampNeg 5 = 5 by decide)).trans hw5) ?_
  refine lv_l2i (v := nI (gg)) hx hb dX12_log_64 (lN_i _) ?_
  refine lv_imul hx hb dX12_log_65 ?_
  refine k_topi (y := nI (3 * gg)) ((pk_mul 3 gg).trans (congrArg nI (by omega))) ?_
  refine lv_iadd hx hb dX12_log_66 ?_
  refine k_topi (y := nI (522 + 3 * gg)) ((nI_add 522 (3 * gg)).trans (congrArg nI (by omega))) ?_
  refine lv_istore_n (lv' := [(2, .int (nI (522 + 3 * gg))), (0, .ref h0), (1, .int (-1))]) hx hb dX12_log_67 rfl hl (by decide) rfl (fun ls hl => ?_)
  refine lv_aload_n hx hb dX12_log_68 rfl (lv_at hl 1 rfl) ?_
  refine va_get (D := (dC, dI)) (ci := 12) (v := .ref mw) (C := RX12) (T := TX12) (N := 27) hx hb hts (fun _ h0_ => List.mem_cons_of_mem _ (List.mem_append_right _ (List.mem_append_left _ h0_))) hown hK hP 0 rfl rfl 4 (by decide) (hts (.fieldLink RX12 16 "DeadlineShareModel" "row" "[J") (List.mem_cons_of_mem _ (List.mem_append_left _ (List.mem_of_getElem? (i := 0) rfl)))) (fun _ h9 => h9) rfl dX12_log_69 ?_
  refine lv_iload_n hx hb dX12_log_72 rfl (lv_at hl 0 rfl) ?_
  refine lv_iload_n hx hb dX12_log_73 rfl (lv_at hl 2 rfl) ?_
  refine lv_i2l (v := (-1)) hx hb dX12_log_74 (by decide) ?_
  refine va_last hx hb hK hP hD hS 1 0 rfl rfl (vp_in_nI (by omega) (by omega)) dX12_log_75 (fun H locs hP hD hS => ?_)
  have hP : va_P (dC, dI) vwCl [(h0, .inr (12, [.int g0, .int g1, .ref mr, .ref mt, .ref mw, .ref mu, .ref mp, .ref mi, .ref mk, .ref ms, .int g2, .ref mv, .int g3, .int g4, .int g5, .int g6, .long g7, .int g8, .int g9, .ref m1w, .ref m2w, .ref m3w, .ref m4w, .int g10, .long g11, .long g12, .long g13])), (mw, .inl (cm3, 906, .inr (.inl (vp_updL fw (Int32.toNatClampNeg (nI (522 + 3 * gg))) (-1)))))] H := hP
  have hD : va_D A [(h0, .inr (12, [.int g0, .int g1, .ref mr, .ref mt, .ref mw, .ref mu, .ref mp, .ref mi, .ref mk, .ref ms, .int g2, .ref mv, .int g3, .int g4, .int g5, .int g6, .long g7, .int g8, .int g9, .ref m1w, .ref m2w, .ref m3w, .ref m4w, .int g10, .long g11, .long g12, .long g13])), (mw, .inl (cm3, 906, .inr (.inl (vp_updL fw (Int32.toNatClampNeg (nI (522 + 3 * gg))) (-1)))))] := hD
  generalize ef_1 : vp_updL fw (Int32.toNatClampNeg (nI (522 + 3 * gg))) (-1) = f_1 at hP hD
  have k_2 : f_1 0 = 0 := by rw [← ef_1]; exact (k_upL_ne (by rw [nI_clamp (by omega)]; omega)).trans hw0
  have k_3 : f_1 1 = lN tt := by rw [← ef_1]; exact (k_upL_ne (by rw [nI_clamp (by omega)]; omega)).trans hw1
  have k_4 : f_1 3 = (-1) := by rw [← ef_1]; exact (k_upL_ne (by rw [nI_clamp (by omega)]; omega)).trans hw3
  have k_5 : f_1 4 = (-1) := by rw [← ef_1]; exact (k_upL_ne (by rw [nI_clamp (by omega)]; omega)).trans hw4
  have k_6 : f_1 5 = lN gg := by rw [← ef_1]; exact (k_upL_ne (by rw [nI_clamp (by omega)]; omega)).trans hw5
  refine lv_aload_n hx hb dX12_log_76 rfl (lv_at hl 1 rfl) ?_
  refine va_get (D := (dC, dI)) (ci := 12) (v := .ref mw) (C := RX12) (T := TX12) (N := 27) hx hb hts (fun _ h0_ => List.mem_cons_of_mem _ (List.mem_append_right _ (List.mem_append_left _ h0_))) hown hK hP 0 rfl rfl 4 (by decide) (hts (.fieldLink RX12 16 "DeadlineShareModel" "row" "[J") (List.mem_cons_of_mem _ (List.mem_append_left _ (List.mem_of_getElem? (i := 0) rfl)))) (fun _ h9 => h9) rfl dX12_log_77 ?_
  refine lv_iload_n hx hb dX12_log_80 rfl (lv_at hl 0 rfl) ?_
  refine lv_iconst (v := 1) hx hb dX12_log_81 (by decide) ?_
  refine lv_iadd hx hb dX12_log_82 ?_
  refine k_topi (y := nI (522 + 3 * gg + 1)) ((nI_add (522 + 3 * gg) 1).trans (congrArg nI (by omega))) ?_
  refine lv_aload_n hx hb dX12_log_83 rfl (lv_at hl 1 rfl) ?_
  have hPc := hP.sub (ws' := [(h0, .inr (12, [.int g0, .int g1, .ref mr, .ref mt, .ref mw, .ref mu, .ref mp, .ref mi, .ref mk, .ref ms, .int g2, .ref mv, .int g3, .int g4, .int g5, .int g6, .long g7, .int g8, .int g9, .ref m1w, .ref m2w, .ref m3w, .ref m4w, .int g10, .long g11, .long g12, .long g13])), (mw, .inl (cm3, 906, .inr (.inl f_1)))]) [0, 1] rfl
  have hDc := hD.sub (ws' := [(h0, .inr (12, [.int g0, .int g1, .ref mr, .ref mt, .ref mw, .ref mu, .ref mp, .ref mi, .ref mk, .ref ms, .int g2, .ref mv, .int g3, .int g4, .int g5, .int g6, .long g7, .int g8, .int g9, .ref m1w, .ref m2w, .ref m3w, .ref m4w, .int g10, .long g11, .long g12, .long g13])), (mw, .inl (cm3, 906, .inr (.inl f_1)))]) [0, 1] (by decide) rfl
  have hKc := hK.sub (tys' := [(cm3, .long)]) [0] rfl
  have hFc := va_free (wc := [(h0, .inr (12, [.int g0, .int g1, .ref mr, .ref mt, .ref mw, .ref mu, .ref mp, .ref mi, .ref mk, .ref ms, .int g2, .ref mv, .int g3, .int g4, .int g5, .int g6, .long g7, .int g8, .int g9, .ref m1w, .ref m2w, .ref m3w, .ref m4w, .int g10, .long g11, .long g12, .long g13])), (mw, .inl (cm3, 906, .inr (.inl f_1)))]) hD hS hA [0, 1] rfl
  refine va_calll (va_runV (As := []) (rest := [.int (nI (522 + 3 * gg + 1)), .ref mw]) ⟨hx, hb, hml, hown, hts⟩ (c_X12_heavy l dC dI h0 g0 g1 mr mt mw mu mp mi mk ms g2 mv g3 g4 g5 g6 g7 g8 g9 m1w m2w m3w m4w g10 g11 g12 g13 cm3 f_1 H.size k_2) (cwV 0 hts (gi_V (fun w_ h0_ => ⟨List.mem_cons_of_mem _ (List.mem_append_right _ (List.mem_append_right _ (List.mem_append_left _ h0_))), (tb_c_X12_heavy w_ h0_).2⟩) (List.mem_cons_of_mem _ (List.mem_append_left _ (List.mem_of_getElem? (i := 2) rfl))) (List.mem_cons_of_mem _ (List.mem_append_left _ (List.mem_of_getElem? (i := 3) rfl))) (List.mem_cons_of_mem _ (List.mem_append_left _ (List.mem_of_getElem? (i := 4) rfl))) (List.mem_cons_of_mem _ (List.mem_append_left _ (List.mem_of_getElem? (i := 5) rfl)))) rfl rfl rfl (by decide +kernel) ⟨Nat.le_of_ble_eq_true rfl, Nat.le_of_ble_eq_true rfl⟩) ⟨fun a U g mk q => by obtain ⟨q0, q1, qP, qK, qD⟩ := q; exact ⟨q0, q1, qP, va_K.moved (u := U) (U := U.calling g mk a) (Vm.Alike.refl U.vm) qK, qD⟩, va_recv hKc hPc (ci := 12) (q0 := 0) rfl rfl, fun U hU hW => ⟨rfl, by rw [hU], by rw [hU]; exact hPc, va_K.moved hW.alike hKc, hDc.weaken (fun _ _ _ _ => trivial)⟩⟩ rfl rfl hl.1 rfl (lv_room (Nat.le_of_ble_eq_true rfl)) dX12_log_84 ⟨Nat.le_of_ble_eq_true rfl, Nat.le_of_ble_eq_true rfl⟩) hS (fun q _ h => hFc q h) hFc (fun r_7 u t H1 locs ht hvm hw hB hz1 hk1 hS => ?_)
  obtain ⟨hP1, hK1, hD1⟩ := hB
  rw [ht] at hP1
  have hK1 := va_K.moved hvm.symm hK1
  obtain ⟨hP, hD⟩ := va_join (wr := []) (w1 := [(h0, .inr (12, [.int g0, .int g1, .ref mr, .ref mt, .ref mw, .ref mu, .ref mp, .ref mi, .ref mk, .ref ms, .int g2, .ref mv, .int g3, .int g4, .int g5, .int g6, .long g7, .int g8, .int g9, .ref m1w, .ref m2w, .ref m3w, .ref m4w, .int g10, .long g11, .long g12, .long g13])), (mw, .inl (cm3, 906, .inr (.inl f_1)))]) hP hD [0, 1] [] rfl rfl (by decide) (by decide) hk1 hFc hP1 hD1
  generalize H1 = H at hP hS ⊢
  have hP : va_P (dC, dI) vwCl [(h0, .inr (12, [.int g0, .int g1, .ref mr, .ref mt, .ref mw, .ref mu, .ref mp, .ref mi, .ref mk, .ref ms, .int g2, .ref mv, .int g3, .int g4, .int g5, .int g6, .long g7, .int g8, .int g9, .ref m1w, .ref m2w, .ref m3w, .ref m4w, .int g10, .long g11, .long g12, .long g13])), (mw, .inl (cm3, 906, .inr (.inl f_1)))] H := hP
  have hD : va_D A [(h0, .inr (12, [.int g0, .int g1, .ref mr, .ref mt, .ref mw, .ref mu, .ref mp, .ref mi, .ref mk, .ref ms, .int g2, .ref mv, .int g3, .int g4, .int g5, .int g6, .long g7, .int g8, .int g9, .ref m1w, .ref m2w, .ref m3w, .ref m4w, .int g10, .long g11, .long g12, .long g13])), (mw, .inl (cm3, 906, .inr (.inl f_1)))] := hD
  refine W.widen (k := 0) (n := 0) (Nat.le_of_ble_eq_true rfl) (Nat.le_of_ble_eq_true rfl) ?_
  have hw : r_7 = 0 := hw
  subst hw
  refine va_last hx hb hK hP hD hS 1 0 rfl rfl (vp_in_nI (by omega) (by omega)) dX12_log_87 (fun H locs hP hD hS => ?_)
  have hP : va_P (dC, dI) vwCl [(h0, .inr (12, [.int g0, .int g1, .ref mr, .ref mt, .ref mw, .ref mu, .ref mp, .ref mi, .ref mk, .ref ms, .int g2, .ref mv, .int g3, .int g4, .int g5, .int g6, .long g7, .int g8, .int g9, .ref m1w, .ref m2w, .ref m3w, .ref m4w, .int g10, .long g11, .long g12, .long g13])), (mw, .inl (cm3, 906, .inr (.inl (vp_updL f_1 (Int32.toNatClampNeg (nI (522 + 3 * gg + 1))) 0))))] H := hP
  have hD : va_D A [(h0, .inr (12, [.int g0, .int g1, .ref mr, .ref mt, .ref mw, .ref mu, .ref mp, .ref mi, .ref mk, .ref ms, .int g2, .ref mv, .int g3, .int g4, .int g5, .int g6, .long g7, .int g8, .int g9, .ref m1w, .ref m2w, .ref m3w, .ref m4w, .int g10, .long g11, .long g12, .long g13])), (mw, .inl (cm3, 906, .inr (.inl (vp_updL f_1 (Int32.toNatClampNeg (nI (522 + 3 * gg + 1))) 0))))] := hD
  generalize ef_8 : vp_updL f_1 (Int32.toNatClampNeg (nI (522 + 3 * gg + 1))) 0 = f_8 at hP hD
  have k_9 : f_8 0 = 0 := by rw [← ef_8]; exact (k_upL_ne (by rw [nI_clamp (by omega)]; omega)).trans k_2
  have k_10 : f_8 1 = lN tt := by rw [← ef_8]; exact (k_upL_ne (by rw [nI_clamp (by omega)]; omega)).trans k_3
  have k_11 : f_8 3 = (-1) := by rw [← ef_8]; exact (k_upL_ne (by rw [nI_clamp (by omega)]; omega)).trans k_4
  have k_12 : f_8 4 = (-1) := by rw [← ef_8]; exact (k_upL_ne (by rw [nI_clamp (by omega)]; omega)).trans k_5
  have k_13 : f_8 5 = lN gg := by rw [← ef_8]; exact (k_upL_ne (by rw [nI_clamp (by omega)]; omega)).trans k_6
  refine lv_aload_n hx hb dX12_log_88 rfl (lv_at hl 1 rfl) ?_
  refine va_get (D := (dC, dI)) (ci := 12) (v := .ref mw) (C := RX12) (T := TX12) (N := 27) hx hb hts (fun _ h0_ => List.mem_cons_of_mem _ (List.mem_append_right _ (List.mem_append_left _ h0_))) hown hK hP 0 rfl rfl 4 (by decide) (hts (.fieldLink RX12 16 "DeadlineShareModel" "row" "[J") (List.mem_cons_of_mem _ (List.mem_append_left _ (List.mem_of_getElem? (i := 0) rfl)))) (fun _ h9 => h9) rfl dX12_log_89 ?_
  refine lv_iload_n hx hb dX12_log_92 rfl (lv_at hl 0 rfl) ?_
  refine lv_iconst (v := 2) hx hb dX12_log_93 (by decide) ?_
  refine lv_iadd hx hb dX12_log_94 ?_
  refine k_topi (y := nI (522 + 3 * gg + 2)) ((nI_add (522 + 3 * gg) 2).trans (congrArg nI (by omega))) ?_
  refine lv_lconst (v := 0) hx hb dX12_log_95 (by decide) ?_
  refine va_last hx hb hK hP hD hS 1 0 rfl rfl (vp_in_nI (by omega) (by omega)) dX12_log_96 (fun H locs hP hD hS => ?_)
  have hP : va_P (dC, dI) vwCl [(h0, .inr (12, [.int g0, .int g1, .ref mr, .ref mt, .ref mw, .ref mu, .ref mp, .ref mi, .ref mk, .ref ms, .int g2, .ref mv, .int g3, .int g4, .int g5, .int g6, .long g7, .int g8, .int g9, .ref m1w, .ref m2w, .ref m3w, .ref m4w, .int g10, .long g11, .long g12, .long g13])), (mw, .inl (cm3, 906, .inr (.inl (vp_updL f_8 (Int32.toNatClampNeg (nI (522 + 3 * gg + 2))) 0))))] H := hP
  have hD : va_D A [(h0, .inr (12, [.int g0, .int g1, .ref mr, .ref mt, .ref mw, .ref mu, .ref mp, .ref mi, .ref mk, .ref ms, .int g2, .ref mv, .int g3, .int g4, .int g5, .int g6, .long g7, .int g8, .int g9, .ref m1w, .ref m2w, .ref m3w, .ref m4w, .int g10, .long g11, .long g12, .long g13])), (mw, .inl (cm3, 906, .inr (.inl (vp_updL f_8 (Int32.toNatClampNeg (nI (522 + 3 * gg + 2))) 0))))] := hD
  generalize ef_14 : vp_updL f_8 (Int32.toNatClampNeg (nI (522 + 3 * gg + 2))) 0 = f_14 at hP hD
  have k_15 : f_14 0 = 0 := by rw [← ef_14]; exact (k_upL_ne (by rw [nI_clamp (by omega)]; omega)).trans k_9
  have k_16 : f_14 1 = lN tt := by rw [← ef_14]; exact (k_upL_ne (by rw [nI_clamp (by omega)]; omega)).trans k_10
  have k_17 : f_14 3 = (-1) := by rw [← ef_14]; exact (k_upL_ne (by rw [nI_clamp (by omega)]; omega)).trans k_11
  have k_18 : f_14 4 = (-1) := by rw [← ef_14]; exact (k_upL_ne (by rw [nI_clamp (by omega)]; omega)).trans k_12
  have k_19 : f_14 5 = lN gg := by rw [← ef_14]; exact (k_upL_ne (by rw [nI_clamp (by omega)]; omega)).trans k_13
  refine lv_iconst (v := 0) hx hb dX12_log_97 (by decide) ?_
  refine lv_istore_n (lv' := [(3, .int 0), (2, .int (nI (522 + 3 * gg))), (0, .ref h0), (1, .int (-1))]) hx hb dX12_log_98 rfl hl (by decide) rfl (fun ls hl => ?_)
  refine lv_iload_n hx hb dX12_log_99 rfl (lv_at hl 0 rfl) ?_
  refine lv_i2l (v := 0) hx hb dX12_log_100 (by decide) ?_
  refine lv_aload_n hx hb dX12_log_101 rfl (lv_at hl 2 rfl) ?_
  refine va_get (D := (dC, dI)) (ci := 12) (v := .ref mw) (C := RX12) (T := TX12) (N := 27) hx hb hts (fun _ h0_ => List.mem_cons_of_mem _ (List.mem_append_right _ (List.mem_append_left _ h0_))) hown hK hP 0 rfl rfl 4 (by decide) (hts (.fieldLink RX12 16 "DeadlineShareModel" "row" "[J") (List.mem_cons_of_mem _ (List.mem_append_left _ (List.mem_of_getElem? (i := 0) rfl)))) (fun _ h9 => h9) rfl dX12_log_102 ?_
  refine lv_iconst (v := 0) hx hb dX12_log_105 (by decide) ?_
  refine va_lald hx hb hK hP 1 0 rfl rfl (by unfold vp_in; decide) dX12_log_106 ?_
  refine k_topl (y := 0) ((congrArg f_14 (show Int32.toNatClampNeg 0 = 0 by decide)).trans k_15) ?_
  refine W.lcmp hx hb dX12_log_107 ?_
  refine k_topi (y := 0) (by decide) ?_
  refine lv_if_ge (tgt := 149) hx hb dX12_log_108 (by decide) (fun _ => ?_) (fun c => absurd (by decide) c)
  refine lv_aload_n hx hb dX12_log_149 rfl (lv_at hl 2 rfl) ?_
  refine va_get (D := (dC, dI)) (ci := 12) (v := .ref mw) (C := RX12) (T := TX12) (N := 27) hx hb hts (fun _ h0_ => List.mem_cons_of_mem _ (List.mem_append_right _ (List.mem_append_left _ h0_))) hown hK hP 0 rfl rfl 4 (by decide) (hts (.fieldLink RX12 16 "DeadlineShareModel" "row" "[J") (List.mem_cons_of_mem _ (List.mem_append_left _ (List.mem_of_getElem? (i := 0) rfl)))) (fun _ h9 => h9) rfl dX12_log_150 ?_
  refine lv_iconst (v := 5) hx hb dX12_log_153 (by decide) ?_
  refine lv_dup2_11 hx hb dX12_log_154 rfl rfl ?_
  refine va_lald hx hb hK hP 1 0 rfl rfl (by unfold vp_in; decide) dX12_log_155 ?_
  refine k_topl (y := lN gg) ((congrArg f_14 (show Int32.toNatClampNeg 5 = 5 by decide)).trans k_19) ?_
  refine lv_lconst (v := 1) hx hb dX12_log_156 (by decide) ?_
  refine lv_ladd hx hb dX12_log_157 ?_
  refine k_topl (y := lN (gg + 1)) ((lN_add gg 1).trans (congrArg lN (by omega))) ?_
  refine va_last hx hb hK hP hD hS 1 0 rfl rfl (by unfold vp_in; decide) dX12_log_158 (fun H locs hP hD hS => ?_)
  have hP : va_P (dC, dI) vwCl [(h0, .inr (12, [.int g0, .int g1, .ref mr, .ref mt, .ref mw, .ref mu, .ref mp, .ref mi, .ref mk, .ref ms, .int g2, .ref mv, .int g3, .int g4, .int g5, .int g6, .long g7, .int g8, .int g9, .ref m1w, .ref m2w, .ref m3w, .ref m4w, .int g10, .long g11, .long g12, .long g13])), (mw, .inl (cm3, 906, .inr (.inl (vp_updL f_14 (Int32.toNatClampNeg 5) (lN (gg + 1))))))] H := hP
  have hD : va_D A [(h0, .inr (12, [.int g0, .int g1, .ref mr, .ref mt, .ref mw, .ref mu, .ref mp, .ref mi, .ref mk, .ref ms, .int g2, .ref mv, .int g3, .int g4, .int g5, .int g6, .long g7, .int g8, .int g9, .ref m1w, .ref m2w, .ref m3w, .ref m4w, .int g10, .long g11, .long g12, .long g13])), (mw, .inl (cm3, 906, .inr (.inl (vp_updL f_14 (Int32.toNatClampNeg 5) (lN (gg + 1))))))] := hD
  generalize ef_20 : vp_updL f_14 (Int32.toNatClampNeg 5) (lN (gg + 1)) = f_20 at hP hD
  have k_21 : f_20 5 = lN (gg + 1) := by rw [← ef_20]; exact k_upL_eq (by decide)
  have k_22 : f_20 0 = 0 := by rw [← ef_20]; exact (k_upL_ne (by decide)).trans k_15
  have k_23 : f_20 1 = lN tt := by rw [← ef_20]; exact (k_upL_ne (by decide)).trans k_16
  have k_24 : f_20 3 = (-1) := by rw [← ef_20]; exact (k_upL_ne (by decide)).trans k_17
  have k_25 : f_20 4 = (-1) := by rw [← ef_20]; exact (k_upL_ne (by decide)).trans k_18
  have hP9 := hP.sub (ws' := [(h0, .inr (12, [.int g0, .int g1, .ref mr, .ref mt, .ref mw, .ref mu, .ref mp, .ref mi, .ref mk, .ref ms, .int g2, .ref mv, .int g3, .int g4, .int g5, .int g6, .long g7, .int g8, .int g9, .ref m1w, .ref m2w, .ref m3w, .ref m4w, .int g10, .long g11, .long g12, .long g13])), (mw, .inl (cm3, 906, .inr (.inl f_20)))]) [0, 1] rfl
  have hD9 := hD.sub (ws' := [(h0, .inr (12, [.int g0, .int g1, .ref mr, .ref mt, .ref mw, .ref mu, .ref mp, .ref mi, .ref mk, .ref ms, .int g2, .ref mv, .int g3, .int g4, .int g5, .int g6, .long g7, .int g8, .int g9, .ref m1w, .ref m2w, .ref m3w, .ref m4w, .int g10, .long g11, .long g12, .long g13])), (mw, .inl (cm3, 906, .inr (.inl f_20)))]) [0, 1] (by decide) rfl
  have hK9 := hK.sub (tys' := [(cm3, .long)]) [0] rfl
  refine W.widen (k := 0) (n := 0) (Nat.le_of_ble_eq_true rfl) (Nat.le_of_ble_eq_true rfl) ?_
  exact W.vret hx hb hr (fun t ht hW => ⟨⟨(), rfl, trivial, f_20, k_22, k_23, k_24, k_25, k_21, by rw [ht]; exact hP9, va_K.moved hW.alike hK9, hD9⟩, hS.F ht⟩) hS.2.2 dX12_log_159
def ow_c_X12_tick : List Cond := [.fieldLink RX12 16 "DeadlineShareModel" "row" "[J", .methodLink RX12 277 yX12_chosen, .instanceMethod yX12_chosen, .selects RX12 yX12_chosen yX12_chosen, .initialized RX12, .methodLink RX12 280 yX12_log, .instanceMethod yX12_log, .selects RX12 yX12_log yX12_log]
def wq_c_X12_tick : List Cond := .code yX12_tick cX12_tick 4 (some .int) :: (ow_c_X12_tick ++ (u_ws RX12 TX12 27 ++ (wq_c_X12_chosen ++ (wq_c_X12_log ++ ([] : List Cond)))))
theorem tb_c_X12_tick : ∀ w ∈ wq_c_X12_tick, q_g w := by
  unfold wq_c_X12_tick ow_c_X12_tick
  exact q_cons tw_478 (q_app (q_cons tw_425 (q_cons tw_477 (q_cons tw_476 (q_cons tw_475 (q_cons tw_435 (q_cons tw_474 (q_cons tw_473 (q_cons tw_472 q_nil)))))))) (q_app tu_X12 (q_app tb_c_X12_chosen (q_app tb_c_X12_log q_nil))))
set_option maxHeartbeats 4000000 in
set_option maxRecDepth 100000 in
theorem c_X12_tick (l : Launch) (dC : Nat → ClassId) (dI : Nat → Nat → Nat) (h0 : Nat) (wy : Int32) (g0 : Int32) (g1 : Int32) (mr : Nat) (mt : Nat) (mw : Nat) (mu : Nat) (mp : Nat) (mi : Nat) (mk : Nat) (ms : Nat) (g2 : Int32) (mv : Nat) (g3 : Int32) (g4 : Int32) (g5 : Int32) (g6 : Int32) (g7 : Int64) (g8 : Int32) (g9 : Int32) (m1w : Nat) (m2w : Nat) (m3w : Nat) (m4w : Nat) (g10 : Int32) (g11 : Int64) (g12 : Int64) (g13 : Int64) (cm3 : ClassId) (fw : Nat → Int64) (cm2 : ClassId) (ft : Nat → Int32) (tt : Nat) (gg : Nat) (sz : Nat) (hw0 : fw 0 = 0) (hw1 : fw 1 = lN tt) (hw3 : fw 3 = (-1)) (hw4 : fw 4 = (-1)) (hw5 : fw 5 = lN gg) (ht0 : ft 0 = 0) (hgg : gg < 60) : Met l yX12_tick wq_c_X12_tick ({ frames := 3, cells := 0, slots := 0, locals := 71 } : Room) (va_Pc [.ref h0, .int wy] (fun U => U.heap.size = sz ∧ va_P (dC, dI) vwCl [(h0, .inr (12, [.int g0, .int g1, .ref mr, .ref mt, .ref mw, .ref mu, .ref mp, .ref mi, .ref mk, .ref ms, .int g2, .ref mv, .int g3, .int g4, .int g5, .int g6, .long g7, .int g8, .int g9, .ref m1w, .ref m2w, .ref m3w, .ref m4w, .int g10, .long g11, .long g12, .long g13])), (mw, .inl (cm3, 906, .inr (.inl fw))), (mt, .inl (cm2, 3, .inl ft))] U.heap ∧ va_K (dC, dI) vwCl [(cm3, .long), (cm2, .int)] U ∧ va_D (fun _ => True) [(h0, .inr (12, [.int g0, .int g1, .ref mr, .ref mt, .ref mw, .ref mu, .ref mp, .ref mi, .ref mk, .ref ms, .int g2, .ref mv, .int g3, .int g4, .int g5, .int g6, .long g7, .int g8, .int g9, .ref m1w, .ref m2w, .ref m3w, .ref m4w, .int g10, .long g11, .long g12, .long g13])), (mw, .inl (cm3, 906, .inr (.inl fw))), (mt, .inl (cm2, 3, .inl ft))])) (va_Qi (fun (r : Int32) (_ : Unit) => r = (-1)) (fun (_ : Unit) t => ∃ (f2 : Nat → Int64), f2 0 = 0 ∧ f2 1 = lN (tt + 1) ∧ f2 3 = (-1) ∧ f2 4 = (-1) ∧ f2 5 = lN (gg + 1) ∧ va_P (dC, dI) vwCl [(h0, .inr (12, [.int g0, .int g1, .ref mr, .ref mt, .ref mw, .ref mu, .ref mp, .ref mi, .ref mk, .ref ms, .int g2, .ref mv, .int g3, .int g4, .int g5, .int g6, .long g7, .int g8, .int g9, .ref m1w, .ref m2w, .ref m3w, .ref m4w, .int g10, .long g11, .long g12, .long g13])), (mw, .inl (cm3, 906, .inr (.inl f2))), (mt, .inl (cm2, 3, .inl ft))] t.heap ∧ va_K (dC, dI) vwCl [(cm3, .long), (cm2, .int)] t ∧ va_D (va_A [(h0, .inr (12, [.int g0, .int g1, .ref mr, .ref mt, .ref mw, .ref mu, .ref mp, .ref mi, .ref mk, .ref ms, .int g2, .ref mv, .int g3, .int g4, .int g5, .int g6, .long g7, .int g8, .int g9, .ref m1w, .ref m2w, .ref m3w, .ref m4w, .int g10, .long g11, .long g12, .long g13])), (mw, .inl (cm3, 906, .inr (.inl fw))), (mt, .inl (cm2, 3, .inl ft))] sz) [(h0, .inr (12, [.int g0, .int g1, .ref mr, .ref mt, .ref mw, .ref mu, .ref mp, .ref mi, .ref mk, .ref ms, .int g2, .ref mv, .int g3, .int g4, .int g5, .int g6, .long g7, .int g8, .int g9, .ref m1w, .ref m2w, .ref m3w, .ref m4w, .int g10, .long g11, .long g12, .long g13])), (mw, .inl (cm3, 906, .inr (.inl f2))), (mt, .inl (cm2, 3, .inl ft))]) (va_A [(h0, .inr (12, [.int g0, .int g1, .ref mr, .ref mt, .ref mw, .ref mu, .ref mp, .ref mi, .ref mk, .ref ms, .int g2, .ref mv, .int g3, .int g4, .int g5, .int g6, .long g7, .int g8, .int g9, .ref m1w, .ref m2w, .ref m3w, .ref m4w, .int g10, .long g11, .long g12, .long g13])), (mw, .inl (cm3, 906, .inr (.inl fw))), (mt, .inl (cm2, 3, .inl ft))] sz)) 0 0 (va_A [(h0, .inr (12, [.int g0, .int g1, .ref mr, .ref mt, .ref mw, .ref mu, .ref mp, .ref mi, .ref mk, .ref ms, .int g2, .ref mv, .int g3, .int g4, .int g5, .int g6, .long g7, .int g8, .int g9, .ref m1w, .ref m2w, .ref m3w, .ref m4w, .int g10, .long g11, .long g12, .long g13])), (mw, .inl (cm3, 906, .inr (.inl fw))), (mt, .inl (cm2, 3, .inl ft))] sz) := by
  refine Met.ofW (cc := cX12_tick) (maxL := 4) (ret := (some .int)) (by decide) rfl ?_
  intro p e s m args below meth c s₁ B hml hv
  obtain ⟨rfl, hsz, hP, hK, hD0⟩ := hv
  have hx := B.exec
  have hb := B.bytes
  have hr := B.returns
  have hts := atoms_spec (ws := wq_c_X12_tick) B.pre
  have hown : s.vm.findClass RX12 = some m.cls := findClass_of_methodNamed B.named
  have hlocks := B.notSynchronized
  subst hsz
  have hD := hD0.self (sz := s.heap.size)
  obtain ⟨A, hAe⟩ : ∃ A, A = va_A [(h0, .inr (12, [.int g0, .int g1, .ref mr, .ref mt, .ref mw, .ref mu, .ref mp, .ref mi, .ref mk, .ref ms, .int g2, .ref mv, .int g3, .int g4, .int g5, .int g6, .long g7, .int g8, .int g9, .ref m1w, .ref m2w, .ref m3w, .ref m4w, .int g10, .long g11, .long g12, .long g13])), (mw, .inl (cm3, 906, .inr (.inl fw))), (mt, .inl (cm2, 3, .inl ft))] s.heap.size := ⟨_, rfl⟩
  rw [← hAe] at hD ⊢
  have hA : ∀ q : Nat, s.heap.size ≤ q → A q := fun q h => by rw [hAe]; exact Or.inr h
  have hS : va_S A s.heap s.heap [] := va_S.rf
  have hP : va_P (dC, dI) vwCl [(h0, .inr (12, [.int g0, .int g1, .ref mr, .ref mt, .ref mw, .ref mu, .ref mp, .ref mi, .ref mk, .ref ms, .int g2, .ref mv, .int g3, .int g4, .int g5, .int g6, .long g7, .int g8, .int g9, .ref m1w, .ref m2w, .ref m3w, .ref m4w, .int g10, .long g11, .long g12, .long g13])), (mw, .inl (cm3, 906, .inr (.inl fw))), (mt, .inl (cm2, 3, .inl ft))] s.heap := hP
  have hl := lv_entry ([.ref h0, .int wy]) (n := 4) (Nat.le_of_ble_eq_true rfl)
  rw [lg_entry_eq]
  generalize (lg_sl ([.ref h0, .int wy]) ++ List.replicate (4 - (lg_sl ([.ref h0, .int wy])).length) Slot.unset).toArray = ls at hl ⊢
  have hl : lv_has ls 4 [(0, .ref h0), (1, .int wy)] := hl
  refine lv_iconst (v := 0) hx hb dX12_tick_0 (by decide) ?_
  refine lv_istore_n (lv' := [(2, .int 0), (0, .ref h0), (1, .int wy)]) hx hb dX12_tick_1 rfl hl (by decide) rfl (fun ls hl => ?_)
  refine lv_iload_n hx hb dX12_tick_2 rfl (lv_at hl 0 rfl) ?_
  refine lv_i2l (v := 0) hx hb dX12_tick_3 (by decide) ?_
  refine lv_aload_n hx hb dX12_tick_4 rfl (lv_at hl 1 rfl) ?_
  refine va_get (D := (dC, dI)) (ci := 12) (v := .ref mw) (C := RX12) (T := TX12) (N := 27) hx hb hts (fun _ h0_ => List.mem_cons_of_mem _ (List.mem_append_right _ (List.mem_append_left _ h0_))) hown hK hP 0 rfl rfl 4 (by decide) (hts (.fieldLink RX12 16 "DeadlineShareModel" "row" "[J") (List.mem_cons_of_mem _ (List.mem_append_left _ (List.mem_of_getElem? (i := 0) rfl)))) (fun _ h9 => h9) rfl dX12_tick_5 ?_
  refine lv_iconst (v := 0) hx hb dX12_tick_8 (by decide) ?_
  refine va_lald hx hb hK hP 1 0 rfl rfl (by unfold vp_in; decide) dX12_tick_9 ?_
  refine k_topl (y := 0) ((congrArg fw (show Int32.toNatClampNeg 0 = 0 by decide)).trans hw0) ?_
  refine W.lcmp hx hb dX12_tick_10 ?_
  refine k_topi (y := 0) (by decide) ?_
  refine lv_if_ge (tgt := 90) hx hb dX12_tick_11 (by decide) (fun _ => ?_) (fun c => absurd (by decide) c)
  refine lv_iconst (v := 0) hx hb dX12_tick_90 (by decide) ?_
  refine lv_istore_n (lv' := [(2, .int 0), (0, .ref h0), (1, .int wy)]) hx hb dX12_tick_91 rfl hl (by decide) rfl (fun ls hl => ?_)
  refine lv_iload_n hx hb dX12_tick_92 rfl (lv_at hl 0 rfl) ?_
  refine lv_i2l (v := 0) hx hb dX12_tick_93 (by decide) ?_
  refine lv_aload_n hx hb dX12_tick_94 rfl (lv_at hl 1 rfl) ?_
  refine va_get (D := (dC, dI)) (ci := 12) (v := .ref mw) (C := RX12) (T := TX12) (N := 27) hx hb hts (fun _ h0_ => List.mem_cons_of_mem _ (List.mem_append_right _ (List.mem_append_left _ h0_))) hown hK hP 0 rfl rfl 4 (by decide) (hts (.fieldLink RX12 16 "DeadlineShareModel" "row" "[J") (List.mem_cons_of_mem _ (List.mem_append_left _ (List.mem_of_getElem? (i := 0) rfl)))) (fun _ h9 => h9) rfl dX12_tick_95 ?_
  refine lv_iconst (v := 0) hx hb dX12_tick_98 (by decide) ?_
  refine va_lald hx hb hK hP 1 0 rfl rfl (by unfold vp_in; decide) dX12_tick_99 ?_
  refine k_topl (y := 0) ((congrArg fw (show Int32.toNatClampNeg 0 = 0 by decide)).trans hw0) ?_
  refine W.lcmp hx hb dX12_tick_100 ?_
  refine k_topi (y := 0) (by decide) ?_
  refine lv_if_ge (tgt := 197) hx hb dX12_tick_101 (by decide) (fun _ => ?_) (fun c => absurd (by decide) c)
  refine lv_aload_n hx hb dX12_tick_197 rfl (lv_at hl 1 rfl) ?_
  refine lv_iload_n hx hb dX12_tick_198 rfl (lv_at hl 2 rfl) ?_
  have hPc := hP.sub (ws' := [(h0, .inr (12, [.int g0, .int g1, .ref mr, .ref mt, .ref mw, .ref mu, .ref mp, .ref mi, .ref mk, .ref ms, .int g2, .ref mv, .int g3, .int g4, .int g5, .int g6, .long g7, .int g8, .int g9, .ref m1w, .ref m2w, .ref m3w, .ref m4w, .int g10, .long g11, .long g12, .long g13])), (mw, .inl (cm3, 906, .inr (.inl fw))), (mt, .inl (cm2, 3, .inl ft))]) [0, 1, 2] rfl
  have hDc := hD.sub (ws' := [(h0, .inr (12, [.int g0, .int g1, .ref mr, .ref mt, .ref mw, .ref mu, .ref mp, .ref mi, .ref mk, .ref ms, .int g2, .ref mv, .int g3, .int g4, .int g5, .int g6, .long g7, .int g8, .int g9, .ref m1w, .ref m2w, .ref m3w, .ref m4w, .int g10, .long g11, .long g12, .long g13])), (mw, .inl (cm3, 906, .inr (.inl fw))), (mt, .inl (cm2, 3, .inl ft))]) [0, 1, 2] (by decide) rfl
  have hKc := hK.sub (tys' := [(cm3, .long), (cm2, .int)]) [0, 1] rfl
  have hFc := va_free (wc := [(h0, .inr (12, [.int g0, .int g1, .ref mr, .ref mt, .ref mw, .ref mu, .ref mp, .ref mi, .ref mk, .ref ms, .int g2, .ref mv, .int g3, .int g4, .int g5, .int g6, .long g7, .int g8, .int g9, .ref m1w, .ref m2w, .ref m3w, .ref m4w, .int g10, .long g11, .long g12, .long g13])), (mw, .inl (cm3, 906, .inr (.inl fw))), (mt, .inl (cm2, 3, .inl ft))]) hD hS hA [0, 1, 2] rfl
  refine va_calli (va_runV (As := [.int wy]) (rest := []) ⟨hx, hb, hml, hown, hts⟩ (c_X12_chosen l dC dI h0 wy g0 g1 mr mt mw mu mp mi mk ms g2 mv g3 g4 g5 g6 g7 g8 g9 m1w m2w m3w m4w g10 g11 g12 g13 cm3 fw cm2 ft s.heap.size hw0 hw3 hw4 ht0) (cwV 1 hts (gi_V (fun w_ h0_ => ⟨List.mem_cons_of_mem _ (List.mem_append_right _ (List.mem_append_right _ (List.mem_append_left _ h0_))), (tb_c_X12_chosen w_ h0_).2⟩) (List.mem_cons_of_mem _ (List.mem_append_left _ (List.mem_of_getElem? (i := 1) rfl))) (List.mem_cons_of_mem _ (List.mem_append_left _ (List.mem_of_getElem? (i := 2) rfl))) (List.mem_cons_of_mem _ (List.mem_append_left _ (List.mem_of_getElem? (i := 3) rfl))) (List.mem_cons_of_mem _ (List.mem_append_left _ (List.mem_of_getElem? (i := 4) rfl)))) rfl rfl rfl (by decide +kernel) ⟨Nat.le_of_ble_eq_true rfl, Nat.le_of_ble_eq_true rfl⟩) ⟨fun a U g mk q => by obtain ⟨q0, q1, qP, qK, qD⟩ := q; exact ⟨q0, q1, qP, va_K.moved (u := U) (U := U.calling g mk a) (Vm.Alike.refl U.vm) qK, qD⟩, va_recv hKc hPc (ci := 12) (q0 := 0) rfl rfl, fun U hU hW => ⟨rfl, by rw [hU], by rw [hU]; exact hPc, va_K.moved hW.alike hKc, hDc.weaken (fun _ _ _ _ => trivial)⟩⟩ rfl rfl hl.1 rfl (lv_room (Nat.le_of_ble_eq_true rfl)) dX12_tick_199 ⟨Nat.le_of_ble_eq_true rfl, Nat.le_of_ble_eq_true rfl⟩) hS (fun q _ h => hFc q h) hFc (fun r_1 u t H1 locs ht hvm hw hB hz1 hk1 hS => ?_)
  obtain ⟨hP1, hK1, hD1⟩ := hB
  rw [ht] at hP1
  have hK1 := va_K.moved hvm.symm hK1
  obtain ⟨hP, hD⟩ := va_join (wr := []) (w1 := [(h0, .inr (12, [.int g0, .int g1, .ref mr, .ref mt, .ref mw, .ref mu, .ref mp, .ref mi, .ref mk, .ref ms, .int g2, .ref mv, .int g3, .int g4, .int g5, .int g6, .long g7, .int g8, .int g9, .ref m1w, .ref m2w, .ref m3w, .ref m4w, .int g10, .long g11, .long g12, .long g13])), (mw, .inl (cm3, 906, .inr (.inl fw))), (mt, .inl (cm2, 3, .inl ft))]) hP hD [0, 1, 2] [] rfl rfl (by decide) (by decide) hk1 hFc hP1 hD1
  generalize H1 = H at hP hS ⊢
  have hP : va_P (dC, dI) vwCl [(h0, .inr (12, [.int g0, .int g1, .ref mr, .ref mt, .ref mw, .ref mu, .ref mp, .ref mi, .ref mk, .ref ms, .int g2, .ref mv, .int g3, .int g4, .int g5, .int g6, .long g7, .int g8, .int g9, .ref m1w, .ref m2w, .ref m3w, .ref m4w, .int g10, .long g11, .long g12, .long g13])), (mw, .inl (cm3, 906, .inr (.inl fw))), (mt, .inl (cm2, 3, .inl ft))] H := hP
  have hD : va_D A [(h0, .inr (12, [.int g0, .int g1, .ref mr, .ref mt, .ref mw, .ref mu, .ref mp, .ref mi, .ref mk, .ref ms, .int g2, .ref mv, .int g3, .int g4, .int g5, .int g6, .long g7, .int g8, .int g9, .ref m1w, .ref m2w, .ref m3w, .ref m4w, .int g10, .long g11, .long g12, .long g13])), (mw, .inl (cm3, 906, .inr (.inl fw))), (mt, .inl (cm2, 3, .inl ft))] := hD
  refine W.widen (k := 0) (n := 0) (Nat.le_of_ble_eq_true rfl) (Nat.le_of_ble_eq_true rfl) ?_
  have hw : r_1 = (-1) := hw
  subst hw
  refine lv_istore_n (lv' := [(2, .int (-1)), (0, .ref h0), (1, .int wy)]) hx hb dX12_tick_202 rfl hl (by decide) rfl (fun ls hl => ?_)
  refine lv_aload_n hx hb dX12_tick_203 rfl (lv_at hl 1 rfl) ?_
  refine lv_iload_n hx hb dX12_tick_204 rfl (lv_at hl 0 rfl) ?_
  have hPc := hP.sub (ws' := [(h0, .inr (12, [.int g0, .int g1, .ref mr, .ref mt, .ref mw, .ref mu, .ref mp, .ref mi, .ref mk, .ref ms, .int g2, .ref mv, .int g3, .int g4, .int g5, .int g6, .long g7, .int g8, .int g9, .ref m1w, .ref m2w, .ref m3w, .ref m4w, .int g10, .long g11, .long g12, .long g13])), (mw, .inl (cm3, 906, .inr (.inl fw)))]) [0, 1] rfl
  have hDc := hD.sub (ws' := [(h0, .inr (12, [.int g0, .int g1, .ref mr, .ref mt, .ref mw, .ref mu, .ref mp, .ref mi, .ref mk, .ref ms, .int g2, .ref mv, .int g3, .int g4, .int g5, .int g6, .long g7, .int g8, .int g9, .ref m1w, .ref m2w, .ref m3w, .ref m4w, .int g10, .long g11, .long g12, .long g13])), (mw, .inl (cm3, 906, .inr (.inl fw)))]) [0, 1] (by decide) rfl
  have hKc := hK.sub (tys' := [(cm3, .long)]) [0] rfl
  have hFc := va_free (wc := [(h0, .inr (12, [.int g0, .int g1, .ref mr, .ref mt, .ref mw, .ref mu, .ref mp, .ref mi, .ref mk, .ref ms, .int g2, .ref mv, .int g3, .int g4, .int g5, .int g6, .long g7, .int g8, .int g9, .ref m1w, .ref m2w, .ref m3w, .ref m4w, .int g10, .long g11, .long g12, .long g13])), (mw, .inl (cm3, 906, .inr (.inl fw)))]) hD hS hA [0, 1] rfl
  refine va_callv (va_runV (As := [.int (-1)]) (rest := []) ⟨hx, hb, hml, hown, hts⟩ (c_X12_log l dC dI h0 g0 g1 mr mt mw mu mp mi mk ms g2 mv g3 g4 g5 g6 g7 g8 g9 m1w m2w m3w m4w g10 g11 g12 g13 cm3 fw tt gg H.size hw0 hw1 hw3 hw4 hw5 (by omega)) (cwV 1 hts (gi_V (fun w_ h0_ => ⟨List.mem_cons_of_mem _ (List.mem_append_right _ (List.mem_append_right _ (List.mem_append_right _ (List.mem_append_left _ h0_)))), (tb_c_X12_log w_ h0_).2⟩) (List.mem_cons_of_mem _ (List.mem_append_left _ (List.mem_of_getElem? (i := 5) rfl))) (List.mem_cons_of_mem _ (List.mem_append_left _ (List.mem_of_getElem? (i := 6) rfl))) (List.mem_cons_of_mem _ (List.mem_append_left _ (List.mem_of_getElem? (i := 7) rfl))) (List.mem_cons_of_mem _ (List.mem_append_left _ (List.mem_of_getElem? (i := 4) rfl)))) rfl rfl rfl (by decide +kernel) ⟨Nat.le_of_ble_eq_true rfl, Nat.le_of_ble_eq_true rfl⟩) ⟨fun a U g mk q => by obtain ⟨q0, q1, qP, qK, qD⟩ := q; exact ⟨q0, q1, qP, va_K.moved (u := U) (U := U.calling g mk a) (Vm.Alike.refl U.vm) qK, qD⟩, va_recv hKc hPc (ci := 12) (q0 := 0) rfl rfl, fun U hU hW => ⟨rfl, by rw [hU], by rw [hU]; exact hPc, va_K.moved hW.alike hKc, hDc.weaken (fun _ _ _ _ => trivial)⟩⟩ rfl rfl hl.1 rfl (lv_room (Nat.le_of_ble_eq_true rfl)) dX12_tick_205 ⟨Nat.le_of_ble_eq_true rfl, Nat.le_of_ble_eq_true rfl⟩) hS (fun q _ h => hFc q h) hFc (fun u t H1 locs ht hvm hw hB hz1 hk1 hS => ?_)
  obtain ⟨f_2, k_3, k_4, k_5, k_6, k_7, hP1, hK1, hD1⟩ := hB
  rw [ht] at hP1
  have hK1 := va_K.moved hvm.symm hK1
  obtain ⟨hP, hD⟩ := va_join (wr := [(mt, .inl (cm2, 3, .inl ft))]) (w1 := [(h0, .inr (12, [.int g0, .int g1, .ref mr, .ref mt, .ref mw, .ref mu, .ref mp, .ref mi, .ref mk, .ref ms, .int g2, .ref mv, .int g3, .int g4, .int g5, .int g6, .long g7, .int g8, .int g9, .ref m1w, .ref m2w, .ref m3w, .ref m4w, .int g10, .long g11, .long g12, .long g13])), (mw, .inl (cm3, 906, .inr (.inl f_2)))]) hP hD [0, 1] [2] rfl rfl (by decide) (by decide) hk1 hFc hP1 hD1
  generalize H1 = H at hP hS ⊢
  have hP : va_P (dC, dI) vwCl [(mt, .inl (cm2, 3, .inl ft)), (h0, .inr (12, [.int g0, .int g1, .ref mr, .ref mt, .ref mw, .ref mu, .ref mp, .ref mi, .ref mk, .ref ms, .int g2, .ref mv, .int g3, .int g4, .int g5, .int g6, .long g7, .int g8, .int g9, .ref m1w, .ref m2w, .ref m3w, .ref m4w, .int g10, .long g11, .long g12, .long g13])), (mw, .inl (cm3, 906, .inr (.inl f_2)))] H := hP
  have hD : va_D A [(mt, .inl (cm2, 3, .inl ft)), (h0, .inr (12, [.int g0, .int g1, .ref mr, .ref mt, .ref mw, .ref mu, .ref mp, .ref mi, .ref mk, .ref ms, .int g2, .ref mv, .int g3, .int g4, .int g5, .int g6, .long g7, .int g8, .int g9, .ref m1w, .ref m2w, .ref m3w, .ref m4w, .int g10, .long g11, .long g12, .long g13])), (mw, .inl (cm3, 906, .inr (.inl f_2)))] := hD
  refine W.widen (k := 0) (n := 0) (Nat.le_of_ble_eq_true rfl) (Nat.le_of_ble_eq_true rfl) ?_
  refine lv_aload_n hx hb dX12_tick_208 rfl (lv_at hl 1 rfl) ?_
  refine va_get (D := (dC, dI)) (ci := 12) (v := .ref mw) (C := RX12) (T := TX12) (N := 27) hx hb hts (fun _ h0_ => List.mem_cons_of_mem _ (List.mem_append_right _ (List.mem_append_left _ h0_))) hown hK hP 1 rfl rfl 4 (by decide) (hts (.fieldLink RX12 16 "DeadlineShareModel" "row" "[J") (List.mem_cons_of_mem _ (List.mem_append_left _ (List.mem_of_getElem? (i := 0) rfl)))) (fun _ h9 => h9) rfl dX12_tick_209 ?_
  refine lv_iconst (v := 4) hx hb dX12_tick_212 (by decide) ?_
  refine lv_iload_n hx hb dX12_tick_213 rfl (lv_at hl 0 rfl) ?_
  refine lv_i2l (v := (-1)) hx hb dX12_tick_214 (by decide) ?_
  refine va_last hx hb hK hP hD hS 2 0 rfl rfl (by unfold vp_in; decide) dX12_tick_215 (fun H locs hP hD hS => ?_)
  have hP : va_P (dC, dI) vwCl [(mt, .inl (cm2, 3, .inl ft)), (h0, .inr (12, [.int g0, .int g1, .ref mr, .ref mt, .ref mw, .ref mu, .ref mp, .ref mi, .ref mk, .ref ms, .int g2, .ref mv, .int g3, .int g4, .int g5, .int g6, .long g7, .int g8, .int g9, .ref m1w, .ref m2w, .ref m3w, .ref m4w, .int g10, .long g11, .long g12, .long g13])), (mw, .inl (cm3, 906, .inr (.inl (vp_updL f_2 (Int32.toNatClampNeg 4) (-1)))))] H := hP
  have hD : va_D A [(mt, .inl (cm2, 3, .inl ft)), (h0, .inr (12, [.int g0, .int g1, .ref mr, .ref mt, .ref mw, .ref mu, .ref mp, .ref mi, .ref mk, .ref ms, .int g2, .ref mv, .int g3, .int g4, .int g5, .int g6, .long g7, .int g8, .int g9, .ref m1w, .ref m2w, .ref m3w, .ref m4w, .int g10, .long g11, .long g12, .long g13])), (mw, .inl (cm3, 906, .inr (.inl (vp_updL f_2 (Int32.toNatClampNeg 4) (-1)))))] := hD
  generalize ef_8 : vp_updL f_2 (Int32.toNatClampNeg 4) (-1) = f_8 at hP hD
  have k_9 : f_8 4 = (-1) := by rw [← ef_8]; exact k_upL_eq (by decide)
  have k_10 : f_8 0 = 0 := by rw [← ef_8]; exact (k_upL_ne (by decide)).trans k_3
  have k_11 : f_8 1 = lN tt := by rw [← ef_8]; exact (k_upL_ne (by decide)).trans k_4
  have k_12 : f_8 3 = (-1) := by rw [← ef_8]; exact (k_upL_ne (by decide)).trans k_5
  have k_13 : f_8 5 = lN (gg + 1) := by rw [← ef_8]; exact (k_upL_ne (by decide)).trans k_7
  refine lv_iload_n hx hb dX12_tick_216 rfl (lv_at hl 0 rfl) ?_
  refine lv_iconst (v := (-1)) hx hb dX12_tick_217 (by decide) ?_
  refine lv_icmp_eq (tgt := 337) hx hb dX12_tick_218 (by decide) (fun _ => ?_) (fun c => absurd (by decide) c)
  refine lv_aload_n hx hb dX12_tick_337 rfl (lv_at hl 1 rfl) ?_
  refine va_get (D := (dC, dI)) (ci := 12) (v := .ref mw) (C := RX12) (T := TX12) (N := 27) hx hb hts (fun _ h0_ => List.mem_cons_of_mem _ (List.mem_append_right _ (List.mem_append_left _ h0_))) hown hK hP 1 rfl rfl 4 (by decide) (hts (.fieldLink RX12 16 "DeadlineShareModel" "row" "[J") (List.mem_cons_of_mem _ (List.mem_append_left _ (List.mem_of_getElem? (i := 0) rfl)))) (fun _ h9 => h9) rfl dX12_tick_338 ?_
  refine lv_iconst (v := 1) hx hb dX12_tick_341 (by decide) ?_
  refine lv_dup2_11 hx hb dX12_tick_342 rfl rfl ?_
  refine va_lald hx hb hK hP 2 0 rfl rfl (by unfold vp_in; decide) dX12_tick_343 ?_
  refine k_topl (y := lN tt) ((congrArg f_8 (show Int32.toNatClampNeg 1 = 1 by decide)).trans k_11) ?_
  refine lv_lconst (v := 1) hx hb dX12_tick_344 (by decide) ?_
  refine lv_ladd hx hb dX12_tick_345 ?_
  refine k_topl (y := lN (tt + 1)) ((lN_add tt 1).trans (congrArg lN (by omega))) ?_
  refine va_last hx hb hK hP hD hS 2 0 rfl rfl (by unfold vp_in; decide) dX12_tick_346 (fun H locs hP hD hS => ?_)
  have hP : va_P (dC, dI) vwCl [(mt, .inl (cm2, 3, .inl ft)), (h0, .inr (12, [.int g0, .int g1, .ref mr, .ref mt, .ref mw, .ref mu, .ref mp, .ref mi, .ref mk, .ref ms, .int g2, .ref mv, .int g3, .int g4, .int g5, .int g6, .long g7, .int g8, .int g9, .ref m1w, .ref m2w, .ref m3w, .ref m4w, .int g10, .long g11, .long g12, .long g13])), (mw, .inl (cm3, 906, .inr (.inl (vp_updL f_8 (Int32.toNatClampNeg 1) (lN (tt + 1))))))] H := hP
  have hD : va_D A [(mt, .inl (cm2, 3, .inl ft)), (h0, .inr (12, [.int g0, .int g1, .ref mr, .ref mt, .ref mw, .ref mu, .ref mp, .ref mi, .ref mk, .ref ms, .int g2, .ref mv, .int g3, .int g4, .int g5, .int g6, .long g7, .int g8, .int g9, .ref m1w, .ref m2w, .ref m3w, .ref m4w, .int g10, .long g11, .long g12, .long g13])), (mw, .inl (cm3, 906, .inr (.inl (vp_updL f_8 (Int32.toNatClampNeg 1) (lN (tt + 1))))))] := hD
  generalize ef_14 : vp_updL f_8 (Int32.toNatClampNeg 1) (lN (tt + 1)) = f_14 at hP hD
  have k_15 : f_14 1 = lN (tt + 1) := by rw [← ef_14]; exact k_upL_eq (by decide)
  have k_16 : f_14 4 = (-1) := by rw [← ef_14]; exact (k_upL_ne (by decide)).trans k_9
  have k_17 : f_14 0 = 0 := by rw [← ef_14]; exact (k_upL_ne (by decide)).trans k_10
  have k_18 : f_14 3 = (-1) := by rw [← ef_14]; exact (k_upL_ne (by decide)).trans k_12
  have k_19 : f_14 5 = lN (gg + 1) := by rw [← ef_14]; exact (k_upL_ne (by decide)).trans k_13
  refine lv_iload_n hx hb dX12_tick_347 rfl (lv_at hl 0 rfl) ?_
  have hP9 := hP.sub (ws' := [(h0, .inr (12, [.int g0, .int g1, .ref mr, .ref mt, .ref mw, .ref mu, .ref mp, .ref mi, .ref mk, .ref ms, .int g2, .ref mv, .int g3, .int g4, .int g5, .int g6, .long g7, .int g8, .int g9, .ref m1w, .ref m2w, .ref m3w, .ref m4w, .int g10, .long g11, .long g12, .long g13])), (mw, .inl (cm3, 906, .inr (.inl f_14))), (mt, .inl (cm2, 3, .inl ft))]) [1, 2, 0] rfl
  have hD9 := hD.sub (ws' := [(h0, .inr (12, [.int g0, .int g1, .ref mr, .ref mt, .ref mw, .ref mu, .ref mp, .ref mi, .ref mk, .ref ms, .int g2, .ref mv, .int g3, .int g4, .int g5, .int g6, .long g7, .int g8, .int g9, .ref m1w, .ref m2w, .ref m3w, .ref m4w, .int g10, .long g11, .long g12, .long g13])), (mw, .inl (cm3, 906, .inr (.inl f_14))), (mt, .inl (cm2, 3, .inl ft))]) [1, 2, 0] (by decide) rfl
  have hK9 := hK.sub (tys' := [(cm3, .long), (cm2, .int)]) [0, 1] rfl
  refine W.widen (k := 0) (n := 0) (Nat.le_of_ble_eq_true rfl) (Nat.le_of_ble_eq_true rfl) ?_
  exact W.iret (v := (-1)) hx hb hr (fun t ht hW => ⟨⟨(-1), (), rfl, rfl, f_14, k_17, k_15, k_18, k_16, k_19, by rw [ht]; exact hP9, va_K.moved hW.alike hK9, hD9⟩, hS.F ht⟩) hS.2.2 dX12_tick_348
