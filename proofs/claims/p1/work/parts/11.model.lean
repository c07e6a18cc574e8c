def ow_c_X12_terms : List Cond := [.fieldLink RX12 67 "DeadlineShareModel" "thrown" "I", .constantLong RX12 122 (2), .methodLink RX12 83 yX12_in, .static yX12_in, .initialized RX12, .fieldLink RX12 13 "DeadlineShareModel" "term" "[I", .methodLink RX12 80 yX12_tell, .instanceMethod yX12_tell, .selects RX12 yX12_tell yX12_tell, .methodLink RX12 76 yX12_refuse, .instanceMethod yX12_refuse, .selects RX12 yX12_refuse yX12_refuse, .constantLong RX12 124 (3), .constantLong RX12 126 (1000000)]
def wq_c_X12_terms : List Cond := .code yX12_terms cX12_terms 4 (some .int) :: (ow_c_X12_terms ++ (u_ws RX12 TX12 27 ++ (wq_c_X12_in ++ (wq_c_X12_tell ++ (wq_c_X12_refuse_1 ++ ([] : List Cond))))))
theorem tb_c_X12_terms : ∀ w ∈ wq_c_X12_terms, q_g w := by
  unfold wq_c_X12_terms ow_c_X12_terms
  exact q_cons tw_489 (q_app (q_cons tw_488 (q_cons tw_487 (q_cons tw_437 (q_cons tw_436 (q_cons tw_435 (q_cons tw_426 (q_cons tw_486 (q_cons tw_485 (q_cons tw_484 (q_cons tw_483 (q_cons tw_482 (q_cons tw_481 (q_cons tw_480 (q_cons tw_479 q_nil)))))))))))))) (q_app tu_X12 (q_app tb_c_X12_in (q_app tb_c_X12_tell (q_app tb_c_X12_refuse_1 q_nil)))))
set_option maxHeartbeats 4000000 in
set_option maxRecDepth 100000 in
theorem c_X12_terms (l : Launch) (dC : Nat → ClassId) (dI : Nat → Nat → Nat) (h0 : Nat) (wa : Int32) (va : Int32) (mr : Nat) (mt : Nat) (mw : Nat) (mu : Nat) (mp : Nat) (mi : Nat) (mk : Nat) (ms : Nat) (mv : Nat) (m1w : Nat) (m2w : Nat) (m3w : Nat) (m4w : Nat) (cm1 : ClassId) (cm2 : ClassId) (ft : Nat → Int32) (sz : Nat) (ht0 : ft 0 = 0) (ht1 : ft 1 = 1) (ht2 : ft 2 = 1) : Met l yX12_terms wq_c_X12_terms ({ frames := 1, cells := 0, slots := 0, locals := 25 } : Room) (va_Pc [.ref h0, .int wa, .int va] (fun U => U.heap.size = sz ∧ va_P (dC, dI) vwCl [(h0, .inr (12, [.int 0, .int 0, .ref mr, .ref mt, .ref mw, .ref mu, .ref mp, .ref mi, .ref mk, .ref ms, .int 0, .ref mv, .int 0, .int 0, .int 0, .int 0, .long 0, .int (-1), .int 0, .ref m1w, .ref m2w, .ref m3w, .ref m4w, .int 0, .long 0, .long 0, .long 0])), (mr, .inl (cm1, 7, .inl (fun _ => 0))), (mt, .inl (cm2, 3, .inl ft))] U.heap ∧ va_K (dC, dI) vwCl [(cm1, .int), (cm2, .int)] U ∧ va_D (fun _ => True) [(h0, .inr (12, [.int 0, .int 0, .ref mr, .ref mt, .ref mw, .ref mu, .ref mp, .ref mi, .ref mk, .ref ms, .int 0, .ref mv, .int 0, .int 0, .int 0, .int 0, .long 0, .int (-1), .int 0, .ref m1w, .ref m2w, .ref m3w, .ref m4w, .int 0, .long 0, .long 0, .long 0])), (mr, .inl (cm1, 7, .inl (fun _ => 0))), (mt, .inl (cm2, 3, .inl ft))])) (va_Qi (fun (r : Int32) (_ : Unit) => r = sp_terms wa va) (fun (_ : Unit) t => va_P (dC, dI) vwCl [] t.heap ∧ va_K (dC, dI) vwCl [] t ∧ va_D (va_A [(h0, .inr (12, [.int 0, .int 0, .ref mr, .ref mt, .ref mw, .ref mu, .ref mp, .ref mi, .ref mk, .ref ms, .int 0, .ref mv, .int 0, .int 0, .int 0, .int 0, .long 0, .int (-1), .int 0, .ref m1w, .ref m2w, .ref m3w, .ref m4w, .int 0, .long 0, .long 0, .long 0])), (mr, .inl (cm1, 7, .inl (fun _ => 0))), (mt, .inl (cm2, 3, .inl ft))] sz) []) (va_A [(h0, .inr (12, [.int 0, .int 0, .ref mr, .ref mt, .ref mw, .ref mu, .ref mp, .ref mi, .ref mk, .ref ms, .int 0, .ref mv, .int 0, .int 0, .int 0, .int 0, .long 0, .int (-1), .int 0, .ref m1w, .ref m2w, .ref m3w, .ref m4w, .int 0, .long 0, .long 0, .long 0])), (mr, .inl (cm1, 7, .inl (fun _ => 0))), (mt, .inl (cm2, 3, .inl ft))] sz)) 0 0 (va_A [(h0, .inr (12, [.int 0, .int 0, .ref mr, .ref mt, .ref mw, .ref mu, .ref mp, .ref mi, .ref mk, .ref ms, .int 0, .ref mv, .int 0, .int 0, .int 0, .int 0, .long 0, .int (-1), .int 0, .ref m1w, .ref m2w, .ref m3w, .ref m4w, .int 0, .long 0, .long 0, .long 0])), (mr, .inl (cm1, 7, .inl (fun _ => 0))), (mt, .inl (cm2, 3, .inl ft))] sz) := by
  refine Met.ofW (cc := cX12_terms) (maxL := 4) (ret := (some .int)) (by decide) rfl ?_
  intro p e s m args below meth c s₁ B hml hv
  obtain ⟨rfl, hsz, hP, hK, hD0⟩ := hv
  have hx := B.exec
  have hb := B.bytes
  have hr := B.returns
  have hts := atoms_spec (ws := wq_c_X12_terms) B.pre
  have hown : s.vm.findClass RX12 = some m.cls := findClass_of_methodNamed B.named
  have hlocks := B.notSynchronized
  subst hsz
  have hD := hD0.self (sz := s.heap.size)
  obtain ⟨A, hAe⟩ : ∃ A, A = va_A [(h0, .inr (12, [.int 0, .int 0, .ref mr, .ref mt, .ref mw, .ref mu, .ref mp, .ref mi, .ref mk, .ref ms, .int 0, .ref mv, .int 0, .int 0, .int 0, .int 0, .long 0, .int (-1), .int 0, .ref m1w, .ref m2w, .ref m3w, .ref m4w, .int 0, .long 0, .long 0, .long 0])), (mr, .inl (cm1, 7, .inl (fun _ => 0))), (mt, .inl (cm2, 3, .inl ft))] s.heap.size := ⟨_, rfl⟩
  rw [← hAe] at hD ⊢
  have hA : ∀ q : Nat, s.heap.size ≤ q → A q := fun q h => by rw [hAe]; exact Or.inr h
  have hS : va_S A s.heap s.heap [] := va_S.rf
  have hP : va_P (dC, dI) vwCl [(h0, .inr (12, [.int 0, .int 0, .ref mr, .ref mt, .ref mw, .ref mu, .ref mp, .ref mi, .ref mk, .ref ms, .int 0, .ref mv, .int 0, .int 0, .int 0, .int 0, .long 0, .int (-1), .int 0, .ref m1w, .ref m2w, .ref m3w, .ref m4w, .int 0, .long 0, .long 0, .long 0])), (mr, .inl (cm1, 7, .inl (fun _ => 0))), (mt, .inl (cm2, 3, .inl ft))] s.heap := hP
  have hl := lv_entry ([.ref h0, .int wa, .int va]) (n := 4) (Nat.le_of_ble_eq_true rfl)
  rw [lg_entry_eq]
  generalize (lg_sl ([.ref h0, .int wa, .int va]) ++ List.replicate (4 - (lg_sl ([.ref h0, .int wa, .int va])).length) Slot.unset).toArray = ls at hl ⊢
  have hl : lv_has ls 4 [(0, .ref h0), (1, .int wa), (2, .int va)] := hl
  by_cases h_1 : wa = 0
  · subst h_1
    refine lv_aload_n hx hb dX12_terms_0 rfl (lv_at hl 0 rfl) ?_
    refine lv_iconst (v := 0) hx hb dX12_terms_1 (by decide) ?_
    refine va_put (D := (dC, dI)) (ci := 12) (v := .int 0) (ty := .int) (C := RX12) (T := TX12) (N := 27) hx hb hts (fun _ h0_ => List.mem_cons_of_mem _ (List.mem_append_right _ (List.mem_append_left _ h0_))) tyX12 tyX12_ok nmX12 hown hK hP hD hS 0 rfl rfl 0 (by decide) (hts (.fieldLink RX12 67 "DeadlineShareModel" "thrown" "I") (List.mem_cons_of_mem _ (List.mem_append_left _ (List.mem_of_getElem? (i := 0) rfl)))) (fun _ h9 => h9) rfl (by decide +kernel) rfl rfl (Nat.le_of_ble_eq_true rfl) dX12_terms_2 (fun H locs hP hD hS => ?_)
    have hP : va_P (dC, dI) vwCl [(h0, .inr (12, [.int 0, .int 0, .ref mr, .ref mt, .ref mw, .ref mu, .ref mp, .ref mi, .ref mk, .ref ms, .int 0, .ref mv, .int 0, .int 0, .int 0, .int 0, .long 0, .int (-1), .int 0, .ref m1w, .ref m2w, .ref m3w, .ref m4w, .int 0, .long 0, .long 0, .long 0])), (mr, .inl (cm1, 7, .inl (fun _ => 0))), (mt, .inl (cm2, 3, .inl ft))] H := hP
    have hD : va_D A [(h0, .inr (12, [.int 0, .int 0, .ref mr, .ref mt, .ref mw, .ref mu, .ref mp, .ref mi, .ref mk, .ref ms, .int 0, .ref mv, .int 0, .int 0, .int 0, .int 0, .long 0, .int (-1), .int 0, .ref m1w, .ref m2w, .ref m3w, .ref m4w, .int 0, .long 0, .long 0, .long 0])), (mr, .inl (cm1, 7, .inl (fun _ => 0))), (mt, .inl (cm2, 3, .inl ft))] := hD
    refine lv_iload_n hx hb dX12_terms_5 rfl (lv_at hl 1 rfl) ?_
    refine lv_i2l (v := 0) hx hb dX12_terms_6 (by decide) ?_
    refine lv_lconst (v := 0) hx hb dX12_terms_7 (by decide) ?_
    refine lv_ldc2 hx hb hown (hts (.constantLong RX12 122 (2)) (List.mem_cons_of_mem _ (List.mem_append_left _ (List.mem_of_getElem? (i := 1) rfl)))) dX12_terms_8 ?_
    have hPc := hP.sub (ws' := []) [] rfl
    have hDc := hD.sub (ws' := []) [] (by decide) rfl
    have hKc := hK.sub (tys' := []) [] rfl
    have hFc := va_free (wc := []) hD hS hA [] rfl
    refine va_calli (va_runS (As := [.long 0, .long 0, .long 2]) (rest := []) ⟨hx, hb, hml, hown, hts⟩ (c_X12_in l dC dI 0 0 2 H.size) (va_cwS 3 hts (gi_S (fun w_ h0_ => ⟨List.mem_cons_of_mem _ (List.mem_append_right _ (List.mem_append_right _ (List.mem_append_left _ h0_))), (tb_c_X12_in w_ h0_).2⟩) (List.mem_cons_of_mem _ (List.mem_append_left _ (List.mem_of_getElem? (i := 2) rfl))) (List.mem_cons_of_mem _ (List.mem_append_left _ (List.mem_of_getElem? (i := 3) rfl))) (List.mem_cons_of_mem _ (List.mem_append_left _ (List.mem_of_getElem? (i := 4) rfl)))) rfl rfl rfl (by decide +kernel) ⟨Nat.le_of_ble_eq_true rfl, Nat.le_of_ble_eq_true rfl⟩) ⟨fun a U g mk q => by obtain ⟨q0, q1, qP, qK, qD⟩ := q; exact ⟨q0, q1, qP, va_K.moved (u := U) (U := U.calling g mk a) (Vm.Alike.refl U.vm) qK, qD⟩, fun U hU hW => ⟨rfl, by rw [hU], by rw [hU]; exact hPc, va_K.moved hW.alike hKc, hDc.weaken (fun _ _ _ _ => trivial)⟩⟩ rfl rfl hl.1 rfl (lv_room (Nat.le_of_ble_eq_true rfl)) dX12_terms_11 ⟨Nat.le_of_ble_eq_true rfl, Nat.le_of_ble_eq_true rfl⟩) hS (fun q _ h => hFc q h) hFc (fun r_2 u t H1 locs ht hvm hw hB hz1 hk1 hS => ?_)
    obtain ⟨hP1, hK1, hD1⟩ := hB
    rw [ht] at hP1
    have hK1 := va_K.moved hvm.symm hK1
    obtain ⟨hP, hD⟩ := va_join (wr := [(h0, .inr (12, [.int 0, .int 0, .ref mr, .ref mt, .ref mw, .ref mu, .ref mp, .ref mi, .ref mk, .ref ms, .int 0, .ref mv, .int 0, .int 0, .int 0, .int 0, .long 0, .int (-1), .int 0, .ref m1w, .ref m2w, .ref m3w, .ref m4w, .int 0, .long 0, .long 0, .long 0])), (mr, .inl (cm1, 7, .inl (fun _ => 0))), (mt, .inl (cm2, 3, .inl ft))]) (w1 := []) hP hD [] [0, 1, 2] rfl rfl (by decide) (by decide) hk1 hFc hP1 hD1
    generalize H1 = H at hP hS ⊢
    have hP : va_P (dC, dI) vwCl [(h0, .inr (12, [.int 0, .int 0, .ref mr, .ref mt, .ref mw, .ref mu, .ref mp, .ref mi, .ref mk, .ref ms, .int 0, .ref mv, .int 0, .int 0, .int 0, .int 0, .long 0, .int (-1), .int 0, .ref m1w, .ref m2w, .ref m3w, .ref m4w, .int 0, .long 0, .long 0, .long 0])), (mr, .inl (cm1, 7, .inl (fun _ => 0))), (mt, .inl (cm2, 3, .inl ft))] H := hP
    have hD : va_D A [(h0, .inr (12, [.int 0, .int 0, .ref mr, .ref mt, .ref mw, .ref mu, .ref mp, .ref mi, .ref mk, .ref ms, .int 0, .ref mv, .int 0, .int 0, .int 0, .int 0, .long 0, .int (-1), .int 0, .ref m1w, .ref m2w, .ref m3w, .ref m4w, .int 0, .long 0, .long 0, .long 0])), (mr, .inl (cm1, 7, .inl (fun _ => 0))), (mt, .inl (cm2, 3, .inl ft))] := hD
    refine W.widen (k := 0) (n := 0) (Nat.le_of_ble_eq_true rfl) (Nat.le_of_ble_eq_true rfl) ?_
    have hw : r_2 = sp_in 0 0 2 := hw
    subst hw
    refine k_topi (y := 1) (by decide) ?_
    refine lv_if_eq (tgt := 48) hx hb dX12_terms_14 (by decide) (fun c => absurd c (by decide)) (fun _ => ?_)
    refine lv_iload_n hx hb dX12_terms_17 rfl (lv_at hl 2 rfl) ?_
    refine lv_i2l (v := va.toInt64) hx hb dX12_terms_18 rfl ?_
    refine lv_lconst (v := 0) hx hb dX12_terms_19 (by decide) ?_
    refine lv_iload_n hx hb dX12_terms_20 rfl (lv_at hl 1 rfl) ?_
    refine lv_if_ne (tgt := 28) hx hb dX12_terms_21 (by decide) (fun c => absurd c (by decide)) (fun _ => ?_)
    refine lv_lconst (v := 1) hx hb dX12_terms_24 (by decide) ?_
    refine lv_goto (tgt := 42) hx hb dX12_terms_25 (by decide) ?_
    have hPc := hP.sub (ws' := []) [] rfl
    have hDc := hD.sub (ws' := []) [] (by decide) rfl
    have hKc := hK.sub (tys' := []) [] rfl
    have hFc := va_free (wc := []) hD hS hA [] rfl
    refine va_calli (va_runS (As := [.long va.toInt64, .long 0, .long 1]) (rest := []) ⟨hx, hb, hml, hown, hts⟩ (c_X12_in l dC dI va.toInt64 0 1 H.size) (va_cwS 3 hts (gi_S (fun w_ h0_ => ⟨List.mem_cons_of_mem _ (List.mem_append_right _ (List.mem_append_right _ (List.mem_append_left _ h0_))), (tb_c_X12_in w_ h0_).2⟩) (List.mem_cons_of_mem _ (List.mem_append_left _ (List.mem_of_getElem? (i := 2) rfl))) (List.mem_cons_of_mem _ (List.mem_append_left _ (List.mem_of_getElem? (i := 3) rfl))) (List.mem_cons_of_mem _ (List.mem_append_left _ (List.mem_of_getElem? (i := 4) rfl)))) rfl rfl rfl (by decide +kernel) ⟨Nat.le_of_ble_eq_true rfl, Nat.le_of_ble_eq_true rfl⟩) ⟨fun a U g mk q => by obtain ⟨q0, q1, qP, qK, qD⟩ := q; exact ⟨q0, q1, qP, va_K.moved (u := U) (U := U.calling g mk a) (Vm.Alike.refl U.vm) qK, qD⟩, fun U hU hW => ⟨rfl, by rw [hU], by rw [hU]; exact hPc, va_K.moved hW.alike hKc, hDc.weaken (fun _ _ _ _ => trivial)⟩⟩ rfl rfl hl.1 rfl (lv_room (Nat.le_of_ble_eq_true rfl)) dX12_terms_42 ⟨Nat.le_of_ble_eq_true rfl, Nat.le_of_ble_eq_true rfl⟩) hS (fun q _ h => hFc q h) hFc (fun r_3 u t H1 locs ht hvm hw hB hz1 hk1 hS => ?_)
    obtain ⟨hP1, hK1, hD1⟩ := hB
    rw [ht] at hP1
    have hK1 := va_K.moved hvm.symm hK1
    obtain ⟨hP, hD⟩ := va_join (wr := [(h0, .inr (12, [.int 0, .int 0, .ref mr, .ref mt, .ref mw, .ref mu, .ref mp, .ref mi, .ref mk, .ref ms, .int 0, .ref mv, .int 0, .int 0, .int 0, .int 0, .long 0, .int (-1), .int 0, .ref m1w, .ref m2w, .ref m3w, .ref m4w, .int 0, .long 0, .long 0, .long 0])), (mr, .inl (cm1, 7, .inl (fun _ => 0))), (mt, .inl (cm2, 3, .inl ft))]) (w1 := []) hP hD [] [0, 1, 2] rfl rfl (by decide) (by decide) hk1 hFc hP1 hD1
    generalize H1 = H at hP hS ⊢
    have hP : va_P (dC, dI) vwCl [(h0, .inr (12, [.int 0, .int 0, .ref mr, .ref mt, .ref mw, .ref mu, .ref mp, .ref mi, .ref mk, .ref ms, .int 0, .ref mv, .int 0, .int 0, .int 0, .int 0, .long 0, .int (-1), .int 0, .ref m1w, .ref m2w, .ref m3w, .ref m4w, .int 0, .long 0, .long 0, .long 0])), (mr, .inl (cm1, 7, .inl (fun _ => 0))), (mt, .inl (cm2, 3, .inl ft))] H := hP
    have hD : va_D A [(h0, .inr (12, [.int 0, .int 0, .ref mr, .ref mt, .ref mw, .ref mu, .ref mp, .ref mi, .ref mk, .ref ms, .int 0, .ref mv, .int 0, .int 0, .int 0, .int 0, .long 0, .int (-1), .int 0, .ref m1w, .ref m2w, .ref m3w, .ref m4w, .int 0, .long 0, .long 0, .long 0])), (mr, .inl (cm1, 7, .inl (fun _ => 0))), (mt, .inl (cm2, 3, .inl ft))] := hD
    refine W.widen (k := 0) (n := 0) (Nat.le_of_ble_eq_true rfl) (Nat.le_of_ble_eq_true rfl) ?_
    have hw : r_3 = sp_in va.toInt64 0 1 := hw
    subst hw
    refine k_topi (y := sp_r va 0 1) (sp_in_r _ _ _ (by decide) (by decide)) ?_
    refine lv_if_ne (tgt := 54) hx hb dX12_terms_45 (by decide) (fun c_4 => ?_) (fun c_4 => ?_)
    · refine lv_aload_n hx hb dX12_terms_54 rfl (lv_at hl 0 rfl) ?_
      refine va_get (D := (dC, dI)) (ci := 12) (v := .ref mt) (C := RX12) (T := TX12) (N := 27) hx hb hts (fun _ h0_ => List.mem_cons_of_mem _ (List.mem_append_right _ (List.mem_append_left _ h0_))) hown hK hP 0 rfl rfl 3 (by decide) (hts (.fieldLink RX12 13 "DeadlineShareModel" "term" "[I") (List.mem_cons_of_mem _ (List.mem_append_left _ (List.mem_of_getElem? (i := 5) rfl)))) (fun _ h9 => h9) rfl dX12_terms_55 ?_
      refine lv_iload_n hx hb dX12_terms_58 rfl (lv_at hl 1 rfl) ?_
      refine va_iald hx hb hK hP 2 1 rfl rfl (by unfold vp_in; decide) dX12_terms_59 ?_
      refine k_topi (y := 0) ((congrArg ft (show Int32.toNatClampNeg 0 = 0 by decide)).trans ht0) ?_
      refine lv_istore_n (lv' := [(3, .int 0), (0, .ref h0), (1, .int 0), (2, .int va)]) hx hb dX12_terms_60 rfl hl (by decide) rfl (fun ls hl => ?_)
      refine lv_aload_n hx hb dX12_terms_61 rfl (lv_at hl 1 rfl) ?_
      refine va_get (D := (dC, dI)) (ci := 12) (v := .ref mt) (C := RX12) (T := TX12) (N := 27) hx hb hts (fun _ h0_ => List.mem_cons_of_mem _ (List.mem_append_right _ (List.mem_append_left _ h0_))) hown hK hP 0 rfl rfl 3 (by decide) (hts (.fieldLink RX12 13 "DeadlineShareModel" "term" "[I") (List.mem_cons_of_mem _ (List.mem_append_left _ (List.mem_of_getElem? (i := 5) rfl)))) (fun _ h9 => h9) rfl dX12_terms_62 ?_
      refine lv_iload_n hx hb dX12_terms_65 rfl (lv_at hl 2 rfl) ?_
      refine lv_iload_n hx hb dX12_terms_66 rfl (lv_at hl 3 rfl) ?_
      refine va_iast hx hb hK hP hD hS 2 1 rfl rfl (by unfold vp_in; decide) dX12_terms_67 (fun H locs hP hD hS => ?_)
      have hP : va_P (dC, dI) vwCl [(h0, .inr (12, [.int 0, .int 0, .ref mr, .ref mt, .ref mw, .ref mu, .ref mp, .ref mi, .ref mk, .ref ms, .int 0, .ref mv, .int 0, .int 0, .int 0, .int 0, .long 0, .int (-1), .int 0, .ref m1w, .ref m2w, .ref m3w, .ref m4w, .int 0, .long 0, .long 0, .long 0])), (mr, .inl (cm1, 7, .inl (fun _ => 0))), (mt, .inl (cm2, 3, .inl (upd ft (Int32.toNatClampNeg 0) va)))] H := hP
      have hD : va_D A [(h0, .inr (12, [.int 0, .int 0, .ref mr, .ref mt, .ref mw, .ref mu, .ref mp, .ref mi, .ref mk, .ref ms, .int 0, .ref mv, .int 0, .int 0, .int 0, .int 0, .long 0, .int (-1), .int 0, .ref m1w, .ref m2w, .ref m3w, .ref m4w, .int 0, .long 0, .long 0, .long 0])), (mr, .inl (cm1, 7, .inl (fun _ => 0))), (mt, .inl (cm2, 3, .inl (upd ft (Int32.toNatClampNeg 0) va)))] := hD
      generalize ef_5 : upd ft (Int32.toNatClampNeg 0) va = f_5 at hP hD
      have k_6 : f_5 0 = va := by rw [← ef_5]; exact k_upI_eq (by decide)
      have k_7 : f_5 1 = 1 := by rw [← ef_5]; exact (k_upI_ne (by decide)).trans ht1
      have k_8 : f_5 2 = 1 := by rw [← ef_5]; exact (k_upI_ne (by decide)).trans ht2
      refine lv_aload_n hx hb dX12_terms_68 rfl (lv_at hl 1 rfl) ?_
      refine lv_iload_n hx hb dX12_terms_69 rfl (lv_at hl 0 rfl) ?_
      have hPc := hP.sub (ws' := [(h0, .inr (12, [.int 0, .int 0, .ref mr, .ref mt, .ref mw, .ref mu, .ref mp, .ref mi, .ref mk, .ref ms, .int 0, .ref mv, .int 0, .int 0, .int 0, .int 0, .long 0, .int (-1), .int 0, .ref m1w, .ref m2w, .ref m3w, .ref m4w, .int 0, .long 0, .long 0, .long 0]))]) [0] rfl
      have hDc := hD.sub (ws' := [(h0, .inr (12, [.int 0, .int 0, .ref mr, .ref mt, .ref mw, .ref mu, .ref mp, .ref mi, .ref mk, .ref ms, .int 0, .ref mv, .int 0, .int 0, .int 0, .int 0, .long 0, .int (-1), .int 0, .ref m1w, .ref m2w, .ref m3w, .ref m4w, .int 0, .long 0, .long 0, .long 0]))]) [0] (by decide) rfl
      have hKc := hK.sub (tys' := []) [] rfl
      have hFc := va_free (wc := [(h0, .inr (12, [.int 0, .int 0, .ref mr, .ref mt, .ref mw, .ref mu, .ref mp, .ref mi, .ref mk, .ref ms, .int 0, .ref mv, .int 0, .int 0, .int 0, .int 0, .long 0, .int (-1), .int 0, .ref m1w, .ref m2w, .ref m3w, .ref m4w, .int 0, .long 0, .long 0, .long 0]))]) hD hS hA [0] rfl
      refine va_calli (va_runV (As := [.int 0]) (rest := []) ⟨hx, hb, hml, hown, hts⟩ (c_X12_tell l dC dI h0 0 0 0 mr mt mw mu mp mi mk ms 0 mv 0 0 0 0 0 (-1) 0 m1w m2w m3w m4w 0 0 0 0 H.size) (cwV 1 hts (gi_V (fun w_ h0_ => ⟨List.mem_cons_of_mem _ (List.mem_append_right _ (List.mem_append_right _ (List.mem_append_right _ (List.mem_append_left _ h0_)))), (tb_c_X12_tell w_ h0_).2⟩) (List.mem_cons_of_mem _ (List.mem_append_left _ (List.mem_of_getElem? (i := 6) rfl))) (List.mem_cons_of_mem _ (List.mem_append_left _ (List.mem_of_getElem? (i := 7) rfl))) (List.mem_cons_of_mem _ (List.mem_append_left _ (List.mem_of_getElem? (i := 8) rfl))) (List.mem_cons_of_mem _ (List.mem_append_left _ (List.mem_of_getElem? (i := 4) rfl)))) rfl rfl rfl (by decide +kernel) ⟨Nat.le_of_ble_eq_true rfl, Nat.le_of_ble_eq_true rfl⟩) ⟨fun a U g mk q => by obtain ⟨q0, q1, qP, qK, qD⟩ := q; exact ⟨q0, q1, qP, va_K.moved (u := U) (U := U.calling g mk a) (Vm.Alike.refl U.vm) qK, qD⟩, va_recv hKc hPc (ci := 12) (q0 := 0) rfl rfl, fun U hU hW => ⟨rfl, by rw [hU], by rw [hU]; exact hPc, va_K.moved hW.alike hKc, hDc.weaken (fun _ _ _ _ => trivial)⟩⟩ rfl rfl hl.1 rfl (lv_room (Nat.le_of_ble_eq_true rfl)) dX12_terms_70 ⟨Nat.le_of_ble_eq_true rfl, Nat.le_of_ble_eq_true rfl⟩) hS (fun q _ h => hFc q h) hFc (fun r_9 u t H1 locs ht hvm hw hB hz1 hk1 hS => ?_)
      obtain ⟨hP1, hK1, hD1⟩ := hB
      rw [ht] at hP1
      have hK1 := va_K.moved hvm.symm hK1
      obtain ⟨hP, hD⟩ := va_join (wr := [(mr, .inl (cm1, 7, .inl (fun _ => 0))), (mt, .inl (cm2, 3, .inl f_5))]) (w1 := []) hP hD [0] [1, 2] rfl rfl (by decide) (by decide) hk1 hFc hP1 hD1
      generalize H1 = H at hP hS ⊢
      have hP : va_P (dC, dI) vwCl [(mr, .inl (cm1, 7, .inl (fun _ => 0))), (mt, .inl (cm2, 3, .inl f_5))] H := hP
      have hD : va_D A [(mr, .inl (cm1, 7, .inl (fun _ => 0))), (mt, .inl (cm2, 3, .inl f_5))] := hD
      refine W.widen (k := 0) (n := 0) (Nat.le_of_ble_eq_true rfl) (Nat.le_of_ble_eq_true rfl) ?_
      have hw : r_9 = 0 := hw
      subst hw
      have hP9 := hP.sub (ws' := []) [] rfl
      have hD9 := hD.sub (ws' := []) [] (by decide) rfl
      have hK9 := hK.sub (tys' := []) [] rfl
      refine W.widen (k := 0) (n := 0) (Nat.le_of_ble_eq_true rfl) (Nat.le_of_ble_eq_true rfl) ?_
      exact W.iret (v := 0) hx hb hr (fun t ht hW => ⟨⟨0, (), rfl, (by have z0 := (sp_r1 _ _ _).mp c_4; have li0 : Int32.toInt 0 = 0 := (by decide); unfold sp_terms sp_get; (repeat' split) <;> first | rfl | omega | (refine Int32.toInt_inj.mp ?_; omega)), by rw [ht]; exact hP9, va_K.moved hW.alike hK9, hD9⟩, hS.F ht⟩) hS.2.2 dX12_terms_73
    · have c_4 := not_not_intro c_4
      refine lv_aload_n hx hb dX12_terms_48 rfl (lv_at hl 0 rfl) ?_
      refine lv_iconst (v := (-1)) hx hb dX12_terms_49 (by decide) ?_
      have hPc := hP.sub (ws' := [(h0, .inr (12, [.int 0, .int 0, .ref mr, .ref mt, .ref mw, .ref mu, .ref mp, .ref mi, .ref mk, .ref ms, .int 0, .ref mv, .int 0, .int 0, .int 0, .int 0, .long 0, .int (-1), .int 0, .ref m1w, .ref m2w, .ref m3w, .ref m4w, .int 0, .long 0, .long 0, .long 0])), (mr, .inl (cm1, 7, .inl (fun _ => 0)))]) [0, 1] rfl
      have hDc := hD.sub (ws' := [(h0, .inr (12, [.int 0, .int 0, .ref mr, .ref mt, .ref mw, .ref mu, .ref mp, .ref mi, .ref mk, .ref ms, .int 0, .ref mv, .int 0, .int 0, .int 0, .int 0, .long 0, .int (-1), .int 0, .ref m1w, .ref m2w, .ref m3w, .ref m4w, .int 0, .long 0, .long 0, .long 0])), (mr, .inl (cm1, 7, .inl (fun _ => 0)))]) [0, 1] (by decide) rfl
      have hKc := hK.sub (tys' := [(cm1, .int)]) [0] rfl
      have hFc := va_free (wc := [(h0, .inr (12, [.int 0, .int 0, .ref mr, .ref mt, .ref mw, .ref mu, .ref mp, .ref mi, .ref mk, .ref ms, .int 0, .ref mv, .int 0, .int 0, .int 0, .int 0, .long 0, .int (-1), .int 0, .ref m1w, .ref m2w, .ref m3w, .ref m4w, .int 0, .long 0, .long 0, .long 0])), (mr, .inl (cm1, 7, .inl (fun _ => 0)))]) hD hS hA [0, 1] rfl
      refine va_calli (va_runV (As := [.int (-1)]) (rest := []) ⟨hx, hb, hml, hown, hts⟩ (c_X12_refuse_1 l dC dI h0 mr mt mw mu mp mi mk ms mv m1w m2w m3w m4w cm1 H.size) (cwV 1 hts (gi_V (fun w_ h0_ => ⟨List.mem_cons_of_mem _ (List.mem_append_right _ (List.mem_append_right _ (List.mem_append_right _ (List.mem_append_right _ (List.mem_append_left _ h0_))))), (tb_c_X12_refuse_1 w_ h0_).2⟩) (List.mem_cons_of_mem _ (List.mem_append_left _ (List.mem_of_getElem? (i := 9) rfl))) (List.mem_cons_of_mem _ (List.mem_append_left _ (List.mem_of_getElem? (i := 10) rfl))) (List.mem_cons_of_mem _ (List.mem_append_left _ (List.mem_of_getElem? (i := 11) rfl))) (List.mem_cons_of_mem _ (List.mem_append_left _ (List.mem_of_getElem? (i := 4) rfl)))) rfl rfl rfl (by decide +kernel) ⟨Nat.le_of_ble_eq_true rfl, Nat.le_of_ble_eq_true rfl⟩) ⟨fun a U g mk q => by obtain ⟨q0, q1, qP, qK, qD⟩ := q; exact ⟨q0, q1, qP, va_K.moved (u := U) (U := U.calling g mk a) (Vm.Alike.refl U.vm) qK, qD⟩, va_recv hKc hPc (ci := 12) (q0 := 0) rfl rfl, fun U hU hW => ⟨rfl, by rw [hU], by rw [hU]; exact hPc, va_K.moved hW.alike hKc, hDc.weaken (fun _ _ _ _ => trivial)⟩⟩ rfl rfl hl.1 rfl (lv_room (Nat.le_of_ble_eq_true rfl)) dX12_terms_50 ⟨Nat.le_of_ble_eq_true rfl, Nat.le_of_ble_eq_true rfl⟩) hS (fun q _ h => hFc q h) hFc (fun r_10 u t H1 locs ht hvm hw hB hz1 hk1 hS => ?_)
      obtain ⟨hP1, hK1, hD1⟩ := hB
      rw [ht] at hP1
      have hK1 := va_K.moved hvm.symm hK1
      obtain ⟨hP, hD⟩ := va_join (wr := [(mt, .inl (cm2, 3, .inl ft))]) (w1 := []) hP hD [0, 1] [2] rfl rfl (by decide) (by decide) hk1 hFc hP1 hD1
      generalize H1 = H at hP hS ⊢
      have hP : va_P (dC, dI) vwCl [(mt, .inl (cm2, 3, .inl ft))] H := hP
      have hD : va_D A [(mt, .inl (cm2, 3, .inl ft))] := hD
      refine W.widen (k := 0) (n := 0) (Nat.le_of_ble_eq_true rfl) (Nat.le_of_ble_eq_true rfl) ?_
      have hw : r_10 = (-1) := hw
      subst hw
      have hP9 := hP.sub (ws' := []) [] rfl
      have hD9 := hD.sub (ws' := []) [] (by decide) rfl
      have hK9 := hK.sub (tys' := []) [] rfl
      refine W.widen (k := 0) (n := 0) (Nat.le_of_ble_eq_true rfl) (Nat.le_of_ble_eq_true rfl) ?_
      exact W.iret (v := (-1)) hx hb hr (fun t ht hW => ⟨⟨(-1), (), rfl, (by have z0 := (sp_r0 _ _ _).mp (Classical.not_not.mp c_4); have li0 : Int32.toInt 0 = 0 := (by decide); unfold sp_terms sp_get; (repeat' split) <;> first | rfl | omega | (refine Int32.toInt_inj.mp ?_; omega)), by rw [ht]; exact hP9, va_K.moved hW.alike hK9, hD9⟩, hS.F ht⟩) hS.2.2 dX12_terms_53
  by_cases h_11 : wa = 1
  · subst h_11
    refine lv_aload_n hx hb dX12_terms_0 rfl (lv_at hl 0 rfl) ?_
    refine lv_iconst (v := 0) hx hb dX12_terms_1 (by decide) ?_
    refine va_put (D := (dC, dI)) (ci := 12) (v := .int 0) (ty := .int) (C := RX12) (T := TX12) (N := 27) hx hb hts (fun _ h0_ => List.mem_cons_of_mem _ (List.mem_append_right _ (List.mem_append_left _ h0_))) tyX12 tyX12_ok nmX12 hown hK hP hD hS 0 rfl rfl 0 (by decide) (hts (.fieldLink RX12 67 "DeadlineShareModel" "thrown" "I") (List.mem_cons_of_mem _ (List.mem_append_left _ (List.mem_of_getElem? (i := 0) rfl)))) (fun _ h9 => h9) rfl (by decide +kernel) rfl rfl (Nat.le_of_ble_eq_true rfl) dX12_terms_2 (fun H locs hP hD hS => ?_)
    have hP : va_P (dC, dI) vwCl [(h0, .inr (12, [.int 0, .int 0, .ref mr, .ref mt, .ref mw, .ref mu, .ref mp, .ref mi, .ref mk, .ref ms, .int 0, .ref mv, .int 0, .int 0, .int 0, .int 0, .long 0, .int (-1), .int 0, .ref m1w, .ref m2w, .ref m3w, .ref m4w, .int 0, .long 0, .long 0, .long 0])), (mr, .inl (cm1, 7, .inl (fun _ => 0))), (mt, .inl (cm2, 3, .inl ft))] H := hP
    have hD : va_D A [(h0, .inr (12, [.int 0, .int 0, .ref mr, .ref mt, .ref mw, .ref mu, .ref mp, .ref mi, .ref mk, .ref ms, .int 0, .ref mv, .int 0, .int 0, .int 0, .int 0, .long 0, .int (-1), .int 0, .ref m1w, .ref m2w, .ref m3w, .ref m4w, .int 0, .long 0, .long 0, .long 0])), (mr, .inl (cm1, 7, .inl (fun _ => 0))), (mt, .inl (cm2, 3, .inl ft))] := hD
    refine lv_iload_n hx hb dX12_terms_5 rfl (lv_at hl 1 rfl) ?_
    refine lv_i2l (v := 1) hx hb dX12_terms_6 (by decide) ?_
    refine lv_lconst (v := 0) hx hb dX12_terms_7 (by decide) ?_
    refine lv_ldc2 hx hb hown (hts (.constantLong RX12 122 (2)) (List.mem_cons_of_mem _ (List.mem_append_left _ (List.mem_of_getElem? (i := 1) rfl)))) dX12_terms_8 ?_
    have hPc := hP.sub (ws' := []) [] rfl
    have hDc := hD.sub (ws' := []) [] (by decide) rfl
    have hKc := hK.sub (tys' := []) [] rfl
    have hFc := va_free (wc := []) hD hS hA [] rfl
    refine va_calli (va_runS (As := [.long 1, .long 0, .long 2]) (rest := []) ⟨hx, hb, hml, hown, hts⟩ (c_X12_in l dC dI 1 0 2 H.size) (va_cwS 3 hts (gi_S (fun w_ h0_ => ⟨List.mem_cons_of_mem _ (List.mem_append_right _ (List.mem_append_right _ (List.mem_append_left _ h0_))), (tb_c_X12_in w_ h0_).2⟩) (List.mem_cons_of_mem _ (List.mem_append_left _ (List.mem_of_getElem? (i := 2) rfl))) (List.mem_cons_of_mem _ (List.mem_append_left _ (List.mem_of_getElem? (i := 3) rfl))) (List.mem_cons_of_mem _ (List.mem_append_left _ (List.mem_of_getElem? (i := 4) rfl)))) rfl rfl rfl (by decide +kernel) ⟨Nat.le_of_ble_eq_true rfl, Nat.le_of_ble_eq_true rfl⟩) ⟨fun a U g mk q => by obtain ⟨q0, q1, qP, qK, qD⟩ := q; exact ⟨q0, q1, qP, va_K.moved (u := U) (U := U.calling g mk a) (Vm.Alike.refl U.vm) qK, qD⟩, fun U hU hW => ⟨rfl, by rw [hU], by rw [hU]; exact hPc, va_K.moved hW.alike hKc, hDc.weaken (fun _ _ _ _ => trivial)⟩⟩ rfl rfl hl.1 rfl (lv_room (Nat.le_of_ble_eq_true rfl)) dX12_terms_11 ⟨Nat.le_of_ble_eq_true rfl, Nat.le_of_ble_eq_true rfl⟩) hS (fun q _ h => hFc q h) hFc (fun r_12 u t H1 locs ht hvm hw hB hz1 hk1 hS => ?_)
    obtain ⟨hP1, hK1, hD1⟩ := hB
    rw [ht] at hP1
    have hK1 := va_K.moved hvm.symm hK1
    obtain ⟨hP, hD⟩ := va_join (wr := [(h0, .inr (12, [.int 0, .int 0, .ref mr, .ref mt, .ref mw, .ref mu, .ref mp, .ref mi, .ref mk, .ref ms, .int 0, .ref mv, .int 0, .int 0, .int 0, .int 0, .long 0, .int (-1), .int 0, .ref m1w, .ref m2w, .ref m3w, .ref m4w, .int 0, .long 0, .long 0, .long 0])), (mr, .inl (cm1, 7, .inl (fun _ => 0))), (mt, .inl (cm2, 3, .inl ft))]) (w1 := []) hP hD [] [0, 1, 2] rfl rfl (by decide) (by decide) hk1 hFc hP1 hD1
    generalize H1 = H at hP hS ⊢
    have hP : va_P (dC, dI) vwCl [(h0, .inr (12, [.int 0, .int 0, .ref mr, .ref mt, .ref mw, .ref mu, .ref mp, .ref mi, .ref mk, .ref ms, .int 0, .ref mv, .int 0, .int 0, .int 0, .int 0, .long 0, .int (-1), .int 0, .ref m1w, .ref m2w, .ref m3w, .ref m4w, .int 0, .long 0, .long 0, .long 0])), (mr, .inl (cm1, 7, .inl (fun _ => 0))), (mt, .inl (cm2, 3, .inl ft))] H := hP
    have hD : va_D A [(h0, .inr (12, [.int 0, .int 0, .ref mr, .ref mt, .ref mw, .ref mu, .ref mp, .ref mi, .ref mk, .ref ms, .int 0, .ref mv, .int 0, .int 0, .int 0, .int 0, .long 0, .int (-1), .int 0, .ref m1w, .ref m2w, .ref m3w, .ref m4w, .int 0, .long 0, .long 0, .long 0])), (mr, .inl (cm1, 7, .inl (fun _ => 0))), (mt, .inl (cm2, 3, .inl ft))] := hD
    refine W.widen (k := 0) (n := 0) (Nat.le_of_ble_eq_true rfl) (Nat.le_of_ble_eq_true rfl) ?_
    have hw : r_12 = sp_in 1 0 2 := hw
    subst hw
    refine k_topi (y := 1) (by decide) ?_
    refine lv_if_eq (tgt := 48) hx hb dX12_terms_14 (by decide) (fun c => absurd c (by decide)) (fun _ => ?_)
    refine lv_iload_n hx hb dX12_terms_17 rfl (lv_at hl 2 rfl) ?_
    refine lv_i2l (v := va.toInt64) hx hb dX12_terms_18 rfl ?_
    refine lv_lconst (v := 0) hx hb dX12_terms_19 (by decide) ?_
    refine lv_iload_n hx hb dX12_terms_20 rfl (lv_at hl 1 rfl) ?_
    refine lv_if_ne (tgt := 28) hx hb dX12_terms_21 (by decide) (fun _ => ?_) (fun c => absurd c (by decide))
    refine lv_iload_n hx hb dX12_terms_28 rfl (lv_at hl 1 rfl) ?_
    refine lv_iconst (v := 1) hx hb dX12_terms_29 (by decide) ?_
    refine lv_icmp_ne (tgt := 39) hx hb dX12_terms_30 (by decide) (fun c => absurd c (by decide)) (fun _ => ?_)
    refine lv_ldc2 hx hb hown (hts (.constantLong RX12 124 (3)) (List.mem_cons_of_mem _ (List.mem_append_left _ (List.mem_of_getElem? (i := 12) rfl)))) dX12_terms_33 ?_
    refine lv_goto (tgt := 42) hx hb dX12_terms_36 (by decide) ?_
    have hPc := hP.sub (ws' := []) [] rfl
    have hDc := hD.sub (ws' := []) [] (by decide) rfl
    have hKc := hK.sub (tys' := []) [] rfl
    have hFc := va_free (wc := []) hD hS hA [] rfl
    refine va_calli (va_runS (As := [.long va.toInt64, .long 0, .long 3]) (rest := []) ⟨hx, hb, hml, hown, hts⟩ (c_X12_in l dC dI va.toInt64 0 3 H.size) (va_cwS 3 hts (gi_S (fun w_ h0_ => ⟨List.mem_cons_of_mem _ (List.mem_append_right _ (List.mem_append_right _ (List.mem_append_left _ h0_))), (tb_c_X12_in w_ h0_).2⟩) (List.mem_cons_of_mem _ (List.mem_append_left _ (List.mem_of_getElem? (i := 2) rfl))) (List.mem_cons_of_mem _ (List.mem_append_left _ (List.mem_of_getElem? (i := 3) rfl))) (List.mem_cons_of_mem _ (List.mem_append_left _ (List.mem_of_getElem? (i := 4) rfl)))) rfl rfl rfl (by decide +kernel) ⟨Nat.le_of_ble_eq_true rfl, Nat.le_of_ble_eq_true rfl⟩) ⟨fun a U g mk q => by obtain ⟨q0, q1, qP, qK, qD⟩ := q; exact ⟨q0, q1, qP, va_K.moved (u := U) (U := U.calling g mk a) (Vm.Alike.refl U.vm) qK, qD⟩, fun U hU hW => ⟨rfl, by rw [hU], by rw [hU]; exact hPc, va_K.moved hW.alike hKc, hDc.weaken (fun _ _ _ _ => trivial)⟩⟩ rfl rfl hl.1 rfl (lv_room (Nat.le_of_ble_eq_true rfl)) dX12_terms_42 ⟨Nat.le_of_ble_eq_true rfl, Nat.le_of_ble_eq_true rfl⟩) hS (fun q _ h => hFc q h) hFc (fun r_13 u t H1 locs ht hvm hw hB hz1 hk1 hS => ?_)
    obtain ⟨hP1, hK1, hD1⟩ := hB
    rw [ht] at hP1
    have hK1 := va_K.moved hvm.symm hK1
    obtain ⟨hP, hD⟩ := va_join (wr := [(h0, .inr (12, [.int 0, .int 0, .ref mr, .ref mt, .ref mw, .ref mu, .ref mp, .ref mi, .ref mk, .ref ms, .int 0, .ref mv, .int 0, .int 0, .int 0, .int 0, .long 0, .int (-1), .int 0, .ref m1w, .ref m2w, .ref m3w, .ref m4w, .int 0, .long 0, .long 0, .long 0])), (mr, .inl (cm1, 7, .inl (fun _ => 0))), (mt, .inl (cm2, 3, .inl ft))]) (w1 := []) hP hD [] [0, 1, 2] rfl rfl (by decide) (by decide) hk1 hFc hP1 hD1
    generalize H1 = H at hP hS ⊢
    have hP : va_P (dC, dI) vwCl [(h0, .inr (12, [.int 0, .int 0, .ref mr, .ref mt, .ref mw, .ref mu, .ref mp, .ref mi, .ref mk, .ref ms, .int 0, .ref mv, .int 0, .int 0, .int 0, .int 0, .long 0, .int (-1), .int 0, .ref m1w, .ref m2w, .ref m3w, .ref m4w, .int 0, .long 0, .long 0, .long 0])), (mr, .inl (cm1, 7, .inl (fun _ => 0))), (mt, .inl (cm2, 3, .inl ft))] H := hP
    have hD : va_D A [(h0, .inr (12, [.int 0, .int 0, .ref mr, .ref mt, .ref mw, .ref mu, .ref mp, .ref mi, .ref mk, .ref ms, .int 0, .ref mv, .int 0, .int 0, .int 0, .int 0, .long 0, .int (-1), .int 0, .ref m1w, .ref m2w, .ref m3w, .ref m4w, .int 0, .long 0, .long 0, .long 0])), (mr, .inl (cm1, 7, .inl (fun _ => 0))), (mt, .inl (cm2, 3, .inl ft))] := hD
    refine W.widen (k := 0) (n := 0) (Nat.le_of_ble_eq_true rfl) (Nat.le_of_ble_eq_true rfl) ?_
    have hw : r_13 = sp_in va.toInt64 0 3 := hw
    subst hw
    refine k_topi (y := sp_r va 0 3) (sp_in_r _ _ _ (by decide) (by decide)) ?_
    refine lv_if_ne (tgt := 54) hx hb dX12_terms_45 (by decide) (fun c_14 => ?_) (fun c_14 => ?_)
    · refine lv_aload_n hx hb dX12_terms_54 rfl (lv_at hl 0 rfl) ?_
      refine va_get (D := (dC, dI)) (ci := 12) (v := .ref mt) (C := RX12) (T := TX12) (N := 27) hx hb hts (fun _ h0_ => List.mem_cons_of_mem _ (List.mem_append_right _ (List.mem_append_left _ h0_))) hown hK hP 0 rfl rfl 3 (by decide) (hts (.fieldLink RX12 13 "DeadlineShareModel" "term" "[I") (List.mem_cons_of_mem _ (List.mem_append_left _ (List.mem_of_getElem? (i := 5) rfl)))) (fun _ h9 => h9) rfl dX12_terms_55 ?_
      refine lv_iload_n hx hb dX12_terms_58 rfl (lv_at hl 1 rfl) ?_
      refine va_iald hx hb hK hP 2 1 rfl rfl (by unfold vp_in; decide) dX12_terms_59 ?_
      refine k_topi (y := 1) ((congrArg ft (show Int32.toNatClampNeg 1 = 1 by decide)).trans ht1) ?_
      refine lv_istore_n (lv' := [(3, .int 1), (0, .ref h0), (1, .int 1), (2, .int va)]) hx hb dX12_terms_60 rfl hl (by decide) rfl (fun ls hl => ?_)
      refine lv_aload_n hx hb dX12_terms_61 rfl (lv_at hl 1 rfl) ?_
      refine va_get (D := (dC, dI)) (ci := 12) (v := .ref mt) (C := RX12) (T := TX12) (N := 27) hx hb hts (fun _ h0_ => List.mem_cons_of_mem _ (List.mem_append_right _ (List.mem_append_left _ h0_))) hown hK hP 0 rfl rfl 3 (by decide) (hts (.fieldLink RX12 13 "DeadlineShareModel" "term" "[I") (List.mem_cons_of_mem _ (List.mem_append_left _ (List.mem_of_getElem? (i := 5) rfl)))) (fun _ h9 => h9) rfl dX12_terms_62 ?_
      refine lv_iload_n hx hb dX12_terms_65 rfl (lv_at hl 2 rfl) ?_
      refine lv_iload_n hx hb dX12_terms_66 rfl (lv_at hl 3 rfl) ?_
      refine va_iast hx hb hK hP hD hS 2 1 rfl rfl (by unfold vp_in; decide) dX12_terms_67 (fun H locs hP hD hS => ?_)
      have hP : va_P (dC, dI) vwCl [(h0, .inr (12, [.int 0, .int 0, .ref mr, .ref mt, .ref mw, .ref mu, .ref mp, .ref mi, .ref mk, .ref ms, .int 0, .ref mv, .int 0, .int 0, .int 0, .int 0, .long 0, .int (-1), .int 0, .ref m1w, .ref m2w, .ref m3w, .ref m4w, .int 0, .long 0, .long 0, .long 0])), (mr, .inl (cm1, 7, .inl (fun _ => 0))), (mt, .inl (cm2, 3, .inl (upd ft (Int32.toNatClampNeg 1) va)))] H := hP
      have hD : va_D A [(h0, .inr (12, [.int 0, .int 0, .ref mr, .ref mt, .ref mw, .ref mu, .ref mp, .ref mi, .ref mk, .ref ms, .int 0, .ref mv, .int 0, .int 0, .int 0, .int 0, .long 0, .int (-1), .int 0, .ref m1w, .ref m2w, .ref m3w, .ref m4w, .int 0, .long 0, .long 0, .long 0])), (mr, .inl (cm1, 7, .inl (fun _ => 0))), (mt, .inl (cm2, 3, .inl (upd ft (Int32.toNatClampNeg 1) va)))] := hD
      generalize ef_15 : upd ft (Int32.toNatClampNeg 1) va = f_15 at hP hD
      have k_16 : f_15 1 = va := by rw [← ef_15]; exact k_upI_eq (by decide)
      have k_17 : f_15 0 = 0 := by rw [← ef_15]; exact (k_upI_ne (by decide)).trans ht0
      have k_18 : f_15 2 = 1 := by rw [← ef_15]; exact (k_upI_ne (by decide)).trans ht2
      refine lv_aload_n hx hb dX12_terms_68 rfl (lv_at hl 1 rfl) ?_
      refine lv_iload_n hx hb dX12_terms_69 rfl (lv_at hl 0 rfl) ?_
      have hPc := hP.sub (ws' := [(h0, .inr (12, [.int 0, .int 0, .ref mr, .ref mt, .ref mw, .ref mu, .ref mp, .ref mi, .ref mk, .ref ms, .int 0, .ref mv, .int 0, .int 0, .int 0, .int 0, .long 0, .int (-1), .int 0, .ref m1w, .ref m2w, .ref m3w, .ref m4w, .int 0, .long 0, .long 0, .long 0]))]) [0] rfl
      have hDc := hD.sub (ws' := [(h0, .inr (12, [.int 0, .int 0, .ref mr, .ref mt, .ref mw, .ref mu, .ref mp, .ref mi, .ref mk, .ref ms, .int 0, .ref mv, .int 0, .int 0, .int 0, .int 0, .long 0, .int (-1), .int 0, .ref m1w, .ref m2w, .ref m3w, .ref m4w, .int 0, .long 0, .long 0, .long 0]))]) [0] (by decide) rfl
      have hKc := hK.sub (tys' := []) [] rfl
      have hFc := va_free (wc := [(h0, .inr (12, [.int 0, .int 0, .ref mr, .ref mt, .ref mw, .ref mu, .ref mp, .ref mi, .ref mk, .ref ms, .int 0, .ref mv, .int 0, .int 0, .int 0, .int 0, .long 0, .int (-1), .int 0, .ref m1w, .ref m2w, .ref m3w, .ref m4w, .int 0, .long 0, .long 0, .long 0]))]) hD hS hA [0] rfl
      refine va_calli (va_runV (As := [.int 1]) (rest := []) ⟨hx, hb, hml, hown, hts⟩ (c_X12_tell l dC dI h0 1 0 0 mr mt mw mu mp mi mk ms 0 mv 0 0 0 0 0 (-1) 0 m1w m2w m3w m4w 0 0 0 0 H.size) (cwV 1 hts (gi_V (fun w_ h0_ => ⟨List.mem_cons_of_mem _ (List.mem_append_right _ (List.mem_append_right _ (List.mem_append_right _ (List.mem_append_left _ h0_)))), (tb_c_X12_tell w_ h0_).2⟩) (List.mem_cons_of_mem _ (List.mem_append_left _ (List.mem_of_getElem? (i := 6) rfl))) (List.mem_cons_of_mem _ (List.mem_append_left _ (List.mem_of_getElem? (i := 7) rfl))) (List.mem_cons_of_mem _ (List.mem_append_left _ (List.mem_of_getElem? (i := 8) rfl))) (List.mem_cons_of_mem _ (List.mem_append_left _ (List.mem_of_getElem? (i := 4) rfl)))) rfl rfl rfl (by decide +kernel) ⟨Nat.le_of_ble_eq_true rfl, Nat.le_of_ble_eq_true rfl⟩) ⟨fun a U g mk q => by obtain ⟨q0, q1, qP, qK, qD⟩ := q; exact ⟨q0, q1, qP, va_K.moved (u := U) (U := U.calling g mk a) (Vm.Alike.refl U.vm) qK, qD⟩, va_recv hKc hPc (ci := 12) (q0 := 0) rfl rfl, fun U hU hW => ⟨rfl, by rw [hU], by rw [hU]; exact hPc, va_K.moved hW.alike hKc, hDc.weaken (fun _ _ _ _ => trivial)⟩⟩ rfl rfl hl.1 rfl (lv_room (Nat.le_of_ble_eq_true rfl)) dX12_terms_70 ⟨Nat.le_of_ble_eq_true rfl, Nat.le_of_ble_eq_true rfl⟩) hS (fun q _ h => hFc q h) hFc (fun r_19 u t H1 locs ht hvm hw hB hz1 hk1 hS => ?_)
      obtain ⟨hP1, hK1, hD1⟩ := hB
      rw [ht] at hP1
      have hK1 := va_K.moved hvm.symm hK1
      obtain ⟨hP, hD⟩ := va_join (wr := [(mr, .inl (cm1, 7, .inl (fun _ => 0))), (mt, .inl (cm2, 3, .inl f_15))]) (w1 := []) hP hD [0] [1, 2] rfl rfl (by decide) (by decide) hk1 hFc hP1 hD1
      generalize H1 = H at hP hS ⊢
      have hP : va_P (dC, dI) vwCl [(mr, .inl (cm1, 7, .inl (fun _ => 0))), (mt, .inl (cm2, 3, .inl f_15))] H := hP
      have hD : va_D A [(mr, .inl (cm1, 7, .inl (fun _ => 0))), (mt, .inl (cm2, 3, .inl f_15))] := hD
      refine W.widen (k := 0) (n := 0) (Nat.le_of_ble_eq_true rfl) (Nat.le_of_ble_eq_true rfl) ?_
      have hw : r_19 = 1 := hw
      subst hw
      have hP9 := hP.sub (ws' := []) [] rfl
      have hD9 := hD.sub (ws' := []) [] (by decide) rfl
      have hK9 := hK.sub (tys' := []) [] rfl
      refine W.widen (k := 0) (n := 0) (Nat.le_of_ble_eq_true rfl) (Nat.le_of_ble_eq_true rfl) ?_
      exact W.iret (v := 1) hx hb hr (fun t ht hW => ⟨⟨1, (), rfl, (by have z0 := (sp_r1 _ _ _).mp c_14; have li1 : Int32.toInt 1 = 1 := (by decide); unfold sp_terms sp_get; (repeat' split) <;> first | rfl | omega | (refine Int32.toInt_inj.mp ?_; omega)), by rw [ht]; exact hP9, va_K.moved hW.alike hK9, hD9⟩, hS.F ht⟩) hS.2.2 dX12_terms_73
    · have c_14 := not_not_intro c_14
      refine lv_aload_n hx hb dX12_terms_48 rfl (lv_at hl 0 rfl) ?_
      refine lv_iconst (v := (-1)) hx hb dX12_terms_49 (by decide) ?_
      have hPc := hP.sub (ws' := [(h0, .inr (12, [.int 0, .int 0, .ref mr, .ref mt, .ref mw, .ref mu, .ref mp, .ref mi, .ref mk, .ref ms, .int 0, .ref mv, .int 0, .int 0, .int 0, .int 0, .long 0, .int (-1), .int 0, .ref m1w, .ref m2w, .ref m3w, .ref m4w, .int 0, .long 0, .long 0, .long 0])), (mr, .inl (cm1, 7, .inl (fun _ => 0)))]) [0, 1] rfl
      have hDc := hD.sub (ws' := [(h0, .inr (12, [.int 0, .int 0, .ref mr, .ref mt, .ref mw, .ref mu, .ref mp, .ref mi, .ref mk, .ref ms, .int 0, .ref mv, .int 0, .int 0, .int 0, .int 0, .long 0, .int (-1), .int 0, .ref m1w, .ref m2w, .ref m3w, .ref m4w, .int 0, .long 0, .long 0, .long 0])), (mr, .inl (cm1, 7, .inl (fun _ => 0)))]) [0, 1] (by decide) rfl
      have hKc := hK.sub (tys' := [(cm1, .int)]) [0] rfl
      have hFc := va_free (wc := [(h0, .inr (12, [.int 0, .int 0, .ref mr, .ref mt, .ref mw, .ref mu, .ref mp, .ref mi, .ref mk, .ref ms, .int 0, .ref mv, .int 0, .int 0, .int 0, .int 0, .long 0, .int (-1), .int 0, .ref m1w, .ref m2w, .ref m3w, .ref m4w, .int 0, .long 0, .long 0, .long 0])), (mr, .inl (cm1, 7, .inl (fun _ => 0)))]) hD hS hA [0, 1] rfl
      refine va_calli (va_runV (As := [.int (-1)]) (rest := []) ⟨hx, hb, hml, hown, hts⟩ (c_X12_refuse_1 l dC dI h0 mr mt mw mu mp mi mk ms mv m1w m2w m3w m4w cm1 H.size) (cwV 1 hts (gi_V (fun w_ h0_ => ⟨List.mem_cons_of_mem _ (List.mem_append_right _ (List.mem_append_right _ (List.mem_append_right _ (List.mem_append_right _ (List.mem_append_left _ h0_))))), (tb_c_X12_refuse_1 w_ h0_).2⟩) (List.mem_cons_of_mem _ (List.mem_append_left _ (List.mem_of_getElem? (i := 9) rfl))) (List.mem_cons_of_mem _ (List.mem_append_left _ (List.mem_of_getElem? (i := 10) rfl))) (List.mem_cons_of_mem _ (List.mem_append_left _ (List.mem_of_getElem? (i := 11) rfl))) (List.mem_cons_of_mem _ (List.mem_append_left _ (List.mem_of_getElem? (i := 4) rfl)))) rfl rfl rfl (by decide +kernel) ⟨Nat.le_of_ble_eq_true rfl, Nat.le_of_ble_eq_true rfl⟩) ⟨fun a U g mk q => by obtain ⟨q0, q1, qP, qK, qD⟩ := q; exact ⟨q0, q1, qP, va_K.moved (u := U) (U := U.calling g mk a) (Vm.Alike.refl U.vm) qK, qD⟩, va_recv hKc hPc (ci := 12) (q0 := 0) rfl rfl, fun U hU hW => ⟨rfl, by rw [hU], by rw [hU]; exact hPc, va_K.moved hW.alike hKc, hDc.weaken (fun _ _ _ _ => trivial)⟩⟩ rfl rfl hl.1 rfl (lv_room (Nat.le_of_ble_eq_true rfl)) dX12_terms_50 ⟨Nat.le_of_ble_eq_true rfl, Nat.le_of_ble_eq_true rfl⟩) hS (fun q _ h => hFc q h) hFc (fun r_20 u t H1 locs ht hvm hw hB hz1 hk1 hS => ?_)
      obtain ⟨hP1, hK1, hD1⟩ := hB
      rw [ht] at hP1
      have hK1 := va_K.moved hvm.symm hK1
      obtain ⟨hP, hD⟩ := va_join (wr := [(mt, .inl (cm2, 3, .inl ft))]) (w1 := []) hP hD [0, 1] [2] rfl rfl (by decide) (by decide) hk1 hFc hP1 hD1
      generalize H1 = H at hP hS ⊢
      have hP : va_P (dC, dI) vwCl [(mt, .inl (cm2, 3, .inl ft))] H := hP
      have hD : va_D A [(mt, .inl (cm2, 3, .inl ft))] := hD
      refine W.widen (k := 0) (n := 0) (Nat.le_of_ble_eq_true rfl) (Nat.le_of_ble_eq_true rfl) ?_
      have hw : r_20 = (-1) := hw
      subst hw
      have hP9 := hP.sub (ws' := []) [] rfl
      have hD9 := hD.sub (ws' := []) [] (by decide) rfl
      have hK9 := hK.sub (tys' := []) [] rfl
      refine W.widen (k := 0) (n := 0) (Nat.le_of_ble_eq_true rfl) (Nat.le_of_ble_eq_true rfl) ?_
      exact W.iret (v := (-1)) hx hb hr (fun t ht hW => ⟨⟨(-1), (), rfl, (by have z0 := (sp_r0 _ _ _).mp (Classical.not_not.mp c_14); have li1 : Int32.toInt 1 = 1 := (by decide); unfold sp_terms sp_get; (repeat' split) <;> first | rfl | omega | (refine Int32.toInt_inj.mp ?_; omega)), by rw [ht]; exact hP9, va_K.moved hW.alike hK9, hD9⟩, hS.F ht⟩) hS.2.2 dX12_terms_53
  by_cases h_21 : wa = 2
  · subst h_21
    refine lv_aload_n hx hb dX12_terms_0 rfl (lv_at hl 0 rfl) ?_
    refine lv_iconst (v := 0) hx hb dX12_terms_1 (by decide) ?_
    refine va_put (D := (dC, dI)) (ci := 12) (v := .int 0) (ty := .int) (C := RX12) (T := TX12) (N := 27) hx hb hts (fun _ h0_ => List.mem_cons_of_mem _ (List.mem_append_right _ (List.mem_append_left _ h0_))) tyX12 tyX12_ok nmX12 hown hK hP hD hS 0 rfl rfl 0 (by decide) (hts (.fieldLink RX12 67 "DeadlineShareModel" "thrown" "I") (List.mem_cons_of_mem _ (List.mem_append_left _ (List.mem_of_getElem? (i := 0) rfl)))) (fun _ h9 => h9) rfl (by decide +kernel) rfl rfl (Nat.le_of_ble_eq_true rfl) dX12_terms_2 (fun H locs hP hD hS => ?_)
    have hP : va_P (dC, dI) vwCl [(h0, .inr (12, [.int 0, .int 0, .ref mr, .ref mt, .ref mw, .ref mu, .ref mp, .ref mi, .ref mk, .ref ms, .int 0, .ref mv, .int 0, .int 0, .int 0, .int 0, .long 0, .int (-1), .int 0, .ref m1w, .ref m2w, .ref m3w, .ref m4w, .int 0, .long 0, .long 0, .long 0])), (mr, .inl (cm1, 7, .inl (fun _ => 0))), (mt, .inl (cm2, 3, .inl ft))] H := hP
    have hD : va_D A [(h0, .inr (12, [.int 0, .int 0, .ref mr, .ref mt, .ref mw, .ref mu, .ref mp, .ref mi, .ref mk, .ref ms, .int 0, .ref mv, .int 0, .int 0, .int 0, .int 0, .long 0, .int (-1), .int 0, .ref m1w, .ref m2w, .ref m3w, .ref m4w, .int 0, .long 0, .long 0, .long 0])), (mr, .inl (cm1, 7, .inl (fun _ => 0))), (mt, .inl (cm2, 3, .inl ft))] := hD
    refine lv_iload_n hx hb dX12_terms_5 rfl (lv_at hl 1 rfl) ?_
    refine lv_i2l (v := 2) hx hb dX12_terms_6 (by decide) ?_
    refine lv_lconst (v := 0) hx hb dX12_terms_7 (by decide) ?_
    refine lv_ldc2 hx hb hown (hts (.constantLong RX12 122 (2)) (List.mem_cons_of_mem _ (List.mem_append_left _ (List.mem_of_getElem? (i := 1) rfl)))) dX12_terms_8 ?_
    have hPc := hP.sub (ws' := []) [] rfl
    have hDc := hD.sub (ws' := []) [] (by decide) rfl
    have hKc := hK.sub (tys' := []) [] rfl
    have hFc := va_free (wc := []) hD hS hA [] rfl
    refine va_calli (va_runS (As := [.long 2, .long 0, .long 2]) (rest := []) ⟨hx, hb, hml, hown, hts⟩ (c_X12_in l dC dI 2 0 2 H.size) (va_cwS 3 hts (gi_S (fun w_ h0_ => ⟨List.mem_cons_of_mem _ (List.mem_append_right _ (List.mem_append_right _ (List.mem_append_left _ h0_))), (tb_c_X12_in w_ h0_).2⟩) (List.mem_cons_of_mem _ (List.mem_append_left _ (List.mem_of_getElem? (i := 2) rfl))) (List.mem_cons_of_mem _ (List.mem_append_left _ (List.mem_of_getElem? (i := 3) rfl))) (List.mem_cons_of_mem _ (List.mem_append_left _ (List.mem_of_getElem? (i := 4) rfl)))) rfl rfl rfl (by decide +kernel) ⟨Nat.le_of_ble_eq_true rfl, Nat.le_of_ble_eq_true rfl⟩) ⟨fun a U g mk q => by obtain ⟨q0, q1, qP, qK, qD⟩ := q; exact ⟨q0, q1, qP, va_K.moved (u := U) (U := U.calling g mk a) (Vm.Alike.refl U.vm) qK, qD⟩, fun U hU hW => ⟨rfl, by rw [hU], by rw [hU]; exact hPc, va_K.moved hW.alike hKc, hDc.weaken (fun _ _ _ _ => trivial)⟩⟩ rfl rfl hl.1 rfl (lv_room (Nat.le_of_ble_eq_true rfl)) dX12_terms_11 ⟨Nat.le_of_ble_eq_true rfl, Nat.le_of_ble_eq_true rfl⟩) hS (fun q _ h => hFc q h) hFc (fun r_22 u t H1 locs ht hvm hw hB hz1 hk1 hS => ?_)
    obtain ⟨hP1, hK1, hD1⟩ := hB
    rw [ht] at hP1
    have hK1 := va_K.moved hvm.symm hK1
    obtain ⟨hP, hD⟩ := va_join (wr := [(h0, .inr (12, [.int 0, .int 0, .ref mr, .ref mt, .ref mw, .ref mu, .ref mp, .ref mi, .ref mk, .ref ms, .int 0, .ref mv, .int 0, .int 0, .int 0, .int 0, .long 0, .int (-1), .int 0, .ref m1w, .ref m2w, .ref m3w, .ref m4w, .int 0, .long 0, .long 0, .long 0])), (mr, .inl (cm1, 7, .inl (fun _ => 0))), (mt, .inl (cm2, 3, .inl ft))]) (w1 := []) hP hD [] [0, 1, 2] rfl rfl (by decide) (by decide) hk1 hFc hP1 hD1
    generalize H1 = H at hP hS ⊢
    have hP : va_P (dC, dI) vwCl [(h0, .inr (12, [.int 0, .int 0, .ref mr, .ref mt, .ref mw, .ref mu, .ref mp, .ref mi, .ref mk, .ref ms, .int 0, .ref mv, .int 0, .int 0, .int 0, .int 0, .long 0, .int (-1), .int 0, .ref m1w, .ref m2w, .ref m3w, .ref m4w, .int 0, .long 0, .long 0, .long 0])), (mr, .inl (cm1, 7, .inl (fun _ => 0))), (mt, .inl (cm2, 3, .inl ft))] H := hP
    have hD : va_D A [(h0, .inr (12, [.int 0, .int 0, .ref mr, .ref mt, .ref mw, .ref mu, .ref mp, .ref mi, .ref mk, .ref ms, .int 0, .ref mv, .int 0, .int 0, .int 0, .int 0, .long 0, .int (-1), .int 0, .ref m1w, .ref m2w, .ref m3w, .ref m4w, .int 0, .long 0, .long 0, .long 0])), (mr, .inl (cm1, 7, .inl (fun _ => 0))), (mt, .inl (cm2, 3, .inl ft))] := hD
    refine W.widen (k := 0) (n := 0) (Nat.le_of_ble_eq_true rfl) (Nat.le_of_ble_eq_true rfl) ?_
    have hw : r_22 = sp_in 2 0 2 := hw
    subst hw
    refine k_topi (y := 1) (by decide) ?_
    refine lv_if_eq (tgt := 48) hx hb dX12_terms_14 (by decide) (fun c => absurd c (by decide)) (fun _ => ?_)
    refine lv_iload_n hx hb dX12_terms_17 rfl (lv_at hl 2 rfl) ?_
    refine lv_i2l (v := va.toInt64) hx hb dX12_terms_18 rfl ?_
    refine lv_lconst (v := 0) hx hb dX12_terms_19 (by decide) ?_
    refine lv_iload_n hx hb dX12_terms_20 rfl (lv_at hl 1 rfl) ?_
    refine lv_if_ne (tgt := 28) hx hb dX12_terms_21 (by decide) (fun _ => ?_) (fun c => absurd c (by decide))
    refine lv_iload_n hx hb dX12_terms_28 rfl (lv_at hl 1 rfl) ?_
    refine lv_iconst (v := 1) hx hb dX12_terms_29 (by decide) ?_
    refine lv_icmp_ne (tgt := 39) hx hb dX12_terms_30 (by decide) (fun _ => ?_) (fun c => absurd c (by decide))
    refine lv_ldc2 hx hb hown (hts (.constantLong RX12 126 (1000000)) (List.mem_cons_of_mem _ (List.mem_append_left _ (List.mem_of_getElem? (i := 13) rfl)))) dX12_terms_39 ?_
    have hPc := hP.sub (ws' := []) [] rfl
    have hDc := hD.sub (ws' := []) [] (by decide) rfl
    have hKc := hK.sub (tys' := []) [] rfl
    have hFc := va_free (wc := []) hD hS hA [] rfl
    refine va_calli (va_runS (As := [.long va.toInt64, .long 0, .long 1000000]) (rest := []) ⟨hx, hb, hml, hown, hts⟩ (c_X12_in l dC dI va.toInt64 0 1000000 H.size) (va_cwS 3 hts (gi_S (fun w_ h0_ => ⟨List.mem_cons_of_mem _ (List.mem_append_right _ (List.mem_append_right _ (List.mem_append_left _ h0_))), (tb_c_X12_in w_ h0_).2⟩) (List.mem_cons_of_mem _ (List.mem_append_left _ (List.mem_of_getElem? (i := 2) rfl))) (List.mem_cons_of_mem _ (List.mem_append_left _ (List.mem_of_getElem? (i := 3) rfl))) (List.mem_cons_of_mem _ (List.mem_append_left _ (List.mem_of_getElem? (i := 4) rfl)))) rfl rfl rfl (by decide +kernel) ⟨Nat.le_of_ble_eq_true rfl, Nat.le_of_ble_eq_true rfl⟩) ⟨fun a U g mk q => by obtain ⟨q0, q1, qP, qK, qD⟩ := q; exact ⟨q0, q1, qP, va_K.moved (u := U) (U := U.calling g mk a) (Vm.Alike.refl U.vm) qK, qD⟩, fun U hU hW => ⟨rfl, by rw [hU], by rw [hU]; exact hPc, va_K.moved hW.alike hKc, hDc.weaken (fun _ _ _ _ => trivial)⟩⟩ rfl rfl hl.1 rfl (lv_room (Nat.le_of_ble_eq_true rfl)) dX12_terms_42 ⟨Nat.le_of_ble_eq_true rfl, Nat.le_of_ble_eq_true rfl⟩) hS (fun q _ h => hFc q h) hFc (fun r_23 u t H1 locs ht hvm hw hB hz1 hk1 hS => ?_)
    obtain ⟨hP1, hK1, hD1⟩ := hB
    rw [ht] at hP1
    have hK1 := va_K.moved hvm.symm hK1
    obtain ⟨hP, hD⟩ := va_join (wr := [(h0, .inr (12, [.int 0, .int 0, .ref mr, .ref mt, .ref mw, .ref mu, .ref mp, .ref mi, .ref mk, .ref ms, .int 0, .ref mv, .int 0, .int 0, .int 0, .int 0, .long 0, .int (-1), .int 0, .ref m1w, .ref m2w, .ref m3w, .ref m4w, .int 0, .long 0, .long 0, .long 0])), (mr, .inl (cm1, 7, .inl (fun _ => 0))), (mt, .inl (cm2, 3, .inl ft))]) (w1 := []) hP hD [] [0, 1, 2] rfl rfl (by decide) (by decide) hk1 hFc hP1 hD1
    generalize H1 = H at hP hS ⊢
    have hP : va_P (dC, dI) vwCl [(h0, .inr (12, [.int 0, .int 0, .ref mr, .ref mt, .ref mw, .ref mu, .ref mp, .ref mi, .ref mk, .ref ms, .int 0, .ref mv, .int 0, .int 0, .int 0, .int 0, .long 0, .int (-1), .int 0, .ref m1w, .ref m2w, .ref m3w, .ref m4w, .int 0, .long 0, .long 0, .long 0])), (mr, .inl (cm1, 7, .inl (fun _ => 0))), (mt, .inl (cm2, 3, .inl ft))] H := hP
    have hD : va_D A [(h0, .inr (12, [.int 0, .int 0, .ref mr, .ref mt, .ref mw, .ref mu, .ref mp, .ref mi, .ref mk, .ref ms, .int 0, .ref mv, .int 0, .int 0, .int 0, .int 0, .long 0, .int (-1), .int 0, .ref m1w, .ref m2w, .ref m3w, .ref m4w, .int 0, .long 0, .long 0, .long 0])), (mr, .inl (cm1, 7, .inl (fun _ => 0))), (mt, .inl (cm2, 3, .inl ft))] := hD
    refine W.widen (k := 0) (n := 0) (Nat.le_of_ble_eq_true rfl) (Nat.le_of_ble_eq_true rfl) ?_
    have hw : r_23 = sp_in va.toInt64 0 1000000 := hw
    subst hw
    refine k_topi (y := sp_r va 0 1000000) (sp_in_r _ _ _ (by decide) (by decide)) ?_
    refine lv_if_ne (tgt := 54) hx hb dX12_terms_45 (by decide) (fun c_24 => ?_) (fun c_24 => ?_)
    · refine lv_aload_n hx hb dX12_terms_54 rfl (lv_at hl 0 rfl) ?_
      refine va_get (D := (dC, dI)) (ci := 12) (v := .ref mt) (C := RX12) (T := TX12) (N := 27) hx hb hts (fun _ h0_ => List.mem_cons_of_mem _ (List.mem_append_right _ (List.mem_append_left _ h0_))) hown hK hP 0 rfl rfl 3 (by decide) (hts (.fieldLink RX12 13 "DeadlineShareModel" "term" "[I") (List.mem_cons_of_mem _ (List.mem_append_left _ (List.mem_of_getElem? (i := 5) rfl)))) (fun _ h9 => h9) rfl dX12_terms_55 ?_
      refine lv_iload_n hx hb dX12_terms_58 rfl (lv_at hl 1 rfl) ?_
      refine va_iald hx hb hK hP 2 1 rfl rfl (by unfold vp_in; decide) dX12_terms_59 ?_
      refine k_topi (y := 1) ((congrArg ft (show Int32.toNatClampNeg 2 = 2 by decide)).trans ht2) ?_
      refine lv_istore_n (lv' := [(3, .int 1), (0, .ref h0), (1, .int 2), (2, .int va)]) hx hb dX12_terms_60 rfl hl (by decide) rfl (fun ls hl => ?_)
      refine lv_aload_n hx hb dX12_terms_61 rfl (lv_at hl 1 rfl) ?_
      refine va_get (D := (dC, dI)) (ci := 12) (v := .ref mt) (C := RX12) (T := TX12) (N := 27) hx hb hts (fun _ h0_ => List.mem_cons_of_mem _ (List.mem_append_right _ (List.mem_append_left _ h0_))) hown hK hP 0 rfl rfl 3 (by decide) (hts (.fieldLink RX12 13 "DeadlineShareModel" "term" "[I") (List.mem_cons_of_mem _ (List.mem_append_left _ (List.mem_of_getElem? (i := 5) rfl)))) (fun _ h9 => h9) rfl dX12_terms_62 ?_
      refine lv_iload_n hx hb dX12_terms_65 rfl (lv_at hl 2 rfl) ?_
      refine lv_iload_n hx hb dX12_terms_66 rfl (lv_at hl 3 rfl) ?_
      refine va_iast hx hb hK hP hD hS 2 1 rfl rfl (by unfold vp_in; decide) dX12_terms_67 (fun H locs hP hD hS => ?_)
      have hP : va_P (dC, dI) vwCl [(h0, .inr (12, [.int 0, .int 0, .ref mr, .ref mt, .ref mw, .ref mu, .ref mp, .ref mi, .ref mk, .ref ms, .int 0, .ref mv, .int 0, .int 0, .int 0, .int 0, .long 0, .int (-1), .int 0, .ref m1w, .ref m2w, .ref m3w, .ref m4w, .int 0, .long 0, .long 0, .long 0])), (mr, .inl (cm1, 7, .inl (fun _ => 0))), (mt, .inl (cm2, 3, .inl (upd ft (Int32.toNatClampNeg 2) va)))] H := hP
      have hD : va_D A [(h0, .inr (12, [.int 0, .int 0, .ref mr, .ref mt, .ref mw, .ref mu, .ref mp, .ref mi, .ref mk, .ref ms, .int 0, .ref mv, .int 0, .int 0, .int 0, .int 0, .long 0, .int (-1), .int 0, .ref m1w, .ref m2w, .ref m3w, .ref m4w, .int 0, .long 0, .long 0, .long 0])), (mr, .inl (cm1, 7, .inl (fun _ => 0))), (mt, .inl (cm2, 3, .inl (upd ft (Int32.toNatClampNeg 2) va)))] := hD
      generalize ef_25 : upd ft (Int32.toNatClampNeg 2) va = f_25 at hP hD
      have k_26 : f_25 2 = va := by rw [← ef_25]; exact k_upI_eq (by decide)
      have k_27 : f_25 0 = 0 := by rw [← ef_25]; exact (k_upI_ne (by decide)).trans ht0
      have k_28 : f_25 1 = 1 := by rw [← ef_25]; exact (k_upI_ne (by decide)).trans ht1
      refine lv_aload_n hx hb dX12_terms_68 rfl (lv_at hl 1 rfl) ?_
      refine lv_iload_n hx hb dX12_terms_69 rfl (lv_at hl 0 rfl) ?_
      have hPc := hP.sub (ws' := [(h0, .inr (12, [.int 0, .int 0, .ref mr, .ref mt, .ref mw, .ref mu, .ref mp, .ref mi, .ref mk, .ref ms, .int 0, .ref mv, .int 0, .int 0, .int 0, .int 0, .long 0, .int (-1), .int 0, .ref m1w, .ref m2w, .ref m3w, .ref m4w, .int 0, .long 0, .long 0, .long 0]))]) [0] rfl
      have hDc := hD.sub (ws' := [(h0, .inr (12, [.int 0, .int 0, .ref mr, .ref mt, .ref mw, .ref mu, .ref mp, .ref mi, .ref mk, .ref ms, .int 0, .ref mv, .int 0, .int 0, .int 0, .int 0, .long 0, .int (-1), .int 0, .ref m1w, .ref m2w, .ref m3w, .ref m4w, .int 0, .long 0, .long 0, .long 0]))]) [0] (by decide) rfl
      have hKc := hK.sub (tys' := []) [] rfl
      have hFc := va_free (wc := [(h0, .inr (12, [.int 0, .int 0, .ref mr, .ref mt, .ref mw, .ref mu, .ref mp, .ref mi, .ref mk, .ref ms, .int 0, .ref mv, .int 0, .int 0, .int 0, .int 0, .long 0, .int (-1), .int 0, .ref m1w, .ref m2w, .ref m3w, .ref m4w, .int 0, .long 0, .long 0, .long 0]))]) hD hS hA [0] rfl
      refine va_calli (va_runV (As := [.int 1]) (rest := []) ⟨hx, hb, hml, hown, hts⟩ (c_X12_tell l dC dI h0 1 0 0 mr mt mw mu mp mi mk ms 0 mv 0 0 0 0 0 (-1) 0 m1w m2w m3w m4w 0 0 0 0 H.size) (cwV 1 hts (gi_V (fun w_ h0_ => ⟨List.mem_cons_of_mem _ (List.mem_append_right _ (List.mem_append_right _ (List.mem_append_right _ (List.mem_append_left _ h0_)))), (tb_c_X12_tell w_ h0_).2⟩) (List.mem_cons_of_mem _ (List.mem_append_left _ (List.mem_of_getElem? (i := 6) rfl))) (List.mem_cons_of_mem _ (List.mem_append_left _ (List.mem_of_getElem? (i := 7) rfl))) (List.mem_cons_of_mem _ (List.mem_append_left _ (List.mem_of_getElem? (i := 8) rfl))) (List.mem_cons_of_mem _ (List.mem_append_left _ (List.mem_of_getElem? (i := 4) rfl)))) rfl rfl rfl (by decide +kernel) ⟨Nat.le_of_ble_eq_true rfl, Nat.le_of_ble_eq_true rfl⟩) ⟨fun a U g mk q => by obtain ⟨q0, q1, qP, qK, qD⟩ := q; exact ⟨q0, q1, qP, va_K.moved (u := U) (U := U.calling g mk a) (Vm.Alike.refl U.vm) qK, qD⟩, va_recv hKc hPc (ci := 12) (q0 := 0) rfl rfl, fun U hU hW => ⟨rfl, by rw [hU], by rw [hU]; exact hPc, va_K.moved hW.alike hKc, hDc.weaken (fun _ _ _ _ => trivial)⟩⟩ rfl rfl hl.1 rfl (lv_room (Nat.le_of_ble_eq_true rfl)) dX12_terms_70 ⟨Nat.le_of_ble_eq_true rfl, Nat.le_of_ble_eq_true rfl⟩) hS (fun q _ h => hFc q h) hFc (fun r_29 u t H1 locs ht hvm hw hB hz1 hk1 hS => ?_)
      obtain ⟨hP1, hK1, hD1⟩ := hB
      rw [ht] at hP1
      have hK1 := va_K.moved hvm.symm hK1
      obtain ⟨hP, hD⟩ := va_join (wr := [(mr, .inl (cm1, 7, .inl (fun _ => 0))), (mt, .inl (cm2, 3, .inl f_25))]) (w1 := []) hP hD [0] [1, 2] rfl rfl (by decide) (by decide) hk1 hFc hP1 hD1
      generalize H1 = H at hP hS ⊢
      have hP : va_P (dC, dI) vwCl [(mr, .inl (cm1, 7, .inl (fun _ => 0))), (mt, .inl (cm2, 3, .inl f_25))] H := hP
      have hD : va_D A [(mr, .inl (cm1, 7, .inl (fun _ => 0))), (mt, .inl (cm2, 3, .inl f_25))] := hD
      refine W.widen (k := 0) (n := 0) (Nat.le_of_ble_eq_true rfl) (Nat.le_of_ble_eq_true rfl) ?_
      have hw : r_29 = 1 := hw
      subst hw
      have hP9 := hP.sub (ws' := []) [] rfl
      have hD9 := hD.sub (ws' := []) [] (by decide) rfl
      have hK9 := hK.sub (tys' := []) [] rfl
      refine W.widen (k := 0) (n := 0) (Nat.le_of_ble_eq_true rfl) (Nat.le_of_ble_eq_true rfl) ?_
      exact W.iret (v := 1) hx hb hr (fun t ht hW => ⟨⟨1, (), rfl, (by have z0 := (sp_r1 _ _ _).mp c_24; have li2 : Int32.toInt 2 = 2 := (by decide); unfold sp_terms sp_get; (repeat' split) <;> first | rfl | omega | (refine Int32.toInt_inj.mp ?_; omega)), by rw [ht]; exact hP9, va_K.moved hW.alike hK9, hD9⟩, hS.F ht⟩) hS.2.2 dX12_terms_73
    · have c_24 := not_not_intro c_24
      refine lv_aload_n hx hb dX12_terms_48 rfl (lv_at hl 0 rfl) ?_
      refine lv_iconst (v := (-1)) hx hb dX12_terms_49 (by decide) ?_
      have hPc := hP.sub (ws' := [(h0, .inr (12, [.int 0, .int 0, .ref mr, .ref mt, .ref mw, .ref mu, .ref mp, .ref mi, .ref mk, .ref ms, .int 0, .ref mv, .int 0, .int 0, .int 0, .int 0, .long 0, .int (-1), .int 0, .ref m1w, .ref m2w, .ref m3w, .ref m4w, .int 0, .long 0, .long 0, .long 0])), (mr, .inl (cm1, 7, .inl (fun _ => 0)))]) [0, 1] rfl
      have hDc := hD.sub (ws' := [(h0, .inr (12, [.int 0, .int 0, .ref mr, .ref mt, .ref mw, .ref mu, .ref mp, .ref mi, .ref mk, .ref ms, .int 0, .ref mv, .int 0, .int 0, .int 0, .int 0, .long 0, .int (-1), .int 0, .ref m1w, .ref m2w, .ref m3w, .ref m4w, .int 0, .long 0, .long 0, .long 0])), (mr, .inl (cm1, 7, .inl (fun _ => 0)))]) [0, 1] (by decide) rfl
      have hKc := hK.sub (tys' := [(cm1, .int)]) [0] rfl
      have hFc := va_free (wc := [(h0, .inr (12, [.int 0, .int 0, .ref mr, .ref mt, .ref mw, .ref mu, .ref mp, .ref mi, .ref mk, .ref ms, .int 0, .ref mv, .int 0, .int 0, .int 0, .int 0, .long 0, .int (-1), .int 0, .ref m1w, .ref m2w, .ref m3w, .ref m4w, .int 0, .long 0, .long 0, .long 0])), (mr, .inl (cm1, 7, .inl (fun _ => 0)))]) hD hS hA [0, 1] rfl
      refine va_calli (va_runV (As := [.int (-1)]) (rest := []) ⟨hx, hb, hml, hown, hts⟩ (c_X12_refuse_1 l dC dI h0 mr mt mw mu mp mi mk ms mv m1w m2w m3w m4w cm1 H.size) (cwV 1 hts (gi_V (fun w_ h0_ => ⟨List.mem_cons_of_mem _ (List.mem_append_right _ (List.mem_append_right _ (List.mem_append_right _ (List.mem_append_right _ (List.mem_append_left _ h0_))))), (tb_c_X12_refuse_1 w_ h0_).2⟩) (List.mem_cons_of_mem _ (List.mem_append_left _ (List.mem_of_getElem? (i := 9) rfl))) (List.mem_cons_of_mem _ (List.mem_append_left _ (List.mem_of_getElem? (i := 10) rfl))) (List.mem_cons_of_mem _ (List.mem_append_left _ (List.mem_of_getElem? (i := 11) rfl))) (List.mem_cons_of_mem _ (List.mem_append_left _ (List.mem_of_getElem? (i := 4) rfl)))) rfl rfl rfl (by decide +kernel) ⟨Nat.le_of_ble_eq_true rfl, Nat.le_of_ble_eq_true rfl⟩) ⟨fun a U g mk q => by obtain ⟨q0, q1, qP, qK, qD⟩ := q; exact ⟨q0, q1, qP, va_K.moved (u := U) (U := U.calling g mk a) (Vm.Alike.refl U.vm) qK, qD⟩, va_recv hKc hPc (ci := 12) (q0 := 0) rfl rfl, fun U hU hW => ⟨rfl, by rw [hU], by rw [hU]; exact hPc, va_K.moved hW.alike hKc, hDc.weaken (fun _ _ _ _ => trivial)⟩⟩ rfl rfl hl.1 rfl (lv_room (Nat.le_of_ble_eq_true rfl)) dX12_terms_50 ⟨Nat.le_of_ble_eq_true rfl, Nat.le_of_ble_eq_true rfl⟩) hS (fun q _ h => hFc q h) hFc (fun r_30 u t H1 locs ht hvm hw hB hz1 hk1 hS => ?_)
      obtain ⟨hP1, hK1, hD1⟩ := hB
      rw [ht] at hP1
      have hK1 := va_K.moved hvm.symm hK1
      obtain ⟨hP, hD⟩ := va_join (wr := [(mt, .inl (cm2, 3, .inl ft))]) (w1 := []) hP hD [0, 1] [2] rfl rfl (by decide) (by decide) hk1 hFc hP1 hD1
      generalize H1 = H at hP hS ⊢
      have hP : va_P (dC, dI) vwCl [(mt, .inl (cm2, 3, .inl ft))] H := hP
      have hD : va_D A [(mt, .inl (cm2, 3, .inl ft))] := hD
      refine W.widen (k := 0) (n := 0) (Nat.le_of_ble_eq_true rfl) (Nat.le_of_ble_eq_true rfl) ?_
      have hw : r_30 = (-1) := hw
      subst hw
      have hP9 := hP.sub (ws' := []) [] rfl
      have hD9 := hD.sub (ws' := []) [] (by decide) rfl
      have hK9 := hK.sub (tys' := []) [] rfl
      refine W.widen (k := 0) (n := 0) (Nat.le_of_ble_eq_true rfl) (Nat.le_of_ble_eq_true rfl) ?_
      exact W.iret (v := (-1)) hx hb hr (fun t ht hW => ⟨⟨(-1), (), rfl, (by have z0 := (sp_r0 _ _ _).mp (Classical.not_not.mp c_24); have li2 : Int32.toInt 2 = 2 := (by decide); unfold sp_terms sp_get; (repeat' split) <;> first | rfl | omega | (refine Int32.toInt_inj.mp ?_; omega)), by rw [ht]; exact hP9, va_K.moved hW.alike hK9, hD9⟩, hS.F ht⟩) hS.2.2 dX12_terms_53
  refine lv_aload_n hx hb dX12_terms_0 rfl (lv_at hl 0 rfl) ?_
  refine lv_iconst (v := 0) hx hb dX12_terms_1 (by decide) ?_
  refine va_put (D := (dC, dI)) (ci := 12) (v := .int 0) (ty := .int) (C := RX12) (T := TX12) (N := 27) hx hb hts (fun _ h0_ => List.mem_cons_of_mem _ (List.mem_append_right _ (List.mem_append_left _ h0_))) tyX12 tyX12_ok nmX12 hown hK hP hD hS 0 rfl rfl 0 (by decide) (hts (.fieldLink RX12 67 "DeadlineShareModel" "thrown" "I") (List.mem_cons_of_mem _ (List.mem_append_left _ (List.mem_of_getElem? (i := 0) rfl)))) (fun _ h9 => h9) rfl (by decide +kernel) rfl rfl (Nat.le_of_ble_eq_true rfl) dX12_terms_2 (fun H locs hP hD hS => ?_)
  have hP : va_P (dC, dI) vwCl [(h0, .inr (12, [.int 0, .int 0, .ref mr, .ref mt, .ref mw, .ref mu, .ref mp, .ref mi, .ref mk, .ref ms, .int 0, .ref mv, .int 0, .int 0, .int 0, .int 0, .long 0, .int (-1), .int 0, .ref m1w, .ref m2w, .ref m3w, .ref m4w, .int 0, .long 0, .long 0, .long 0])), (mr, .inl (cm1, 7, .inl (fun _ => 0))), (mt, .inl (cm2, 3, .inl ft))] H := hP
  have hD : va_D A [(h0, .inr (12, [.int 0, .int 0, .ref mr, .ref mt, .ref mw, .ref mu, .ref mp, .ref mi, .ref mk, .ref ms, .int 0, .ref mv, .int 0, .int 0, .int 0, .int 0, .long 0, .int (-1), .int 0, .ref m1w, .ref m2w, .ref m3w, .ref m4w, .int 0, .long 0, .long 0, .long 0])), (mr, .inl (cm1, 7, .inl (fun _ => 0))), (mt, .inl (cm2, 3, .inl ft))] := hD
  refine lv_iload_n hx hb dX12_terms_5 rfl (lv_at hl 1 rfl) ?_
  refine lv_i2l (v := wa.toInt64) hx hb dX12_terms_6 rfl ?_
  refine lv_lconst (v := 0) hx hb dX12_terms_7 (by decide) ?_
  refine lv_ldc2 hx hb hown (hts (.constantLong RX12 122 (2)) (List.mem_cons_of_mem _ (List.mem_append_left _ (List.mem_of_getElem? (i := 1) rfl)))) dX12_terms_8 ?_
  have hPc := hP.sub (ws' := []) [] rfl
  have hDc := hD.sub (ws' := []) [] (by decide) rfl
  have hKc := hK.sub (tys' := []) [] rfl
  have hFc := va_free (wc := []) hD hS hA [] rfl
  refine va_calli (va_runS (As := [.long wa.toInt64, .long 0, .long 2]) (rest := []) ⟨hx, hb, hml, hown, hts⟩ (c_X12_in l dC dI wa.toInt64 0 2 H.size) (va_cwS 3 hts (gi_S (fun w_ h0_ => ⟨List.mem_cons_of_mem _ (List.mem_append_right _ (List.mem_append_right _ (List.mem_append_left _ h0_))), (tb_c_X12_in w_ h0_).2⟩) (List.mem_cons_of_mem _ (List.mem_append_left _ (List.mem_of_getElem? (i := 2) rfl))) (List.mem_cons_of_mem _ (List.mem_append_left _ (List.mem_of_getElem? (i := 3) rfl))) (List.mem_cons_of_mem _ (List.mem_append_left _ (List.mem_of_getElem? (i := 4) rfl)))) rfl rfl rfl (by decide +kernel) ⟨Nat.le_of_ble_eq_true rfl, Nat.le_of_ble_eq_true rfl⟩) ⟨fun a U g mk q => by obtain ⟨q0, q1, qP, qK, qD⟩ := q; exact ⟨q0, q1, qP, va_K.moved (u := U) (U := U.calling g mk a) (Vm.Alike.refl U.vm) qK, qD⟩, fun U hU hW => ⟨rfl, by rw [hU], by rw [hU]; exact hPc, va_K.moved hW.alike hKc, hDc.weaken (fun _ _ _ _ => trivial)⟩⟩ rfl rfl hl.1 rfl (lv_room (Nat.le_of_ble_eq_true rfl)) dX12_terms_11 ⟨Nat.le_of_ble_eq_true rfl, Nat.le_of_ble_eq_true rfl⟩) hS (fun q _ h => hFc q h) hFc (fun r_31 u t H1 locs ht hvm hw hB hz1 hk1 hS => ?_)
  obtain ⟨hP1, hK1, hD1⟩ := hB
  rw [ht] at hP1
  have hK1 := va_K.moved hvm.symm hK1
  obtain ⟨hP, hD⟩ := va_join (wr := [(h0, .inr (12, [.int 0, .int 0, .ref mr, .ref mt, .ref mw, .ref mu, .ref mp, .ref mi, .ref mk, .ref ms, .int 0, .ref mv, .int 0, .int 0, .int 0, .int 0, .long 0, .int (-1), .int 0, .ref m1w, .ref m2w, .ref m3w, .ref m4w, .int 0, .long 0, .long 0, .long 0])), (mr, .inl (cm1, 7, .inl (fun _ => 0))), (mt, .inl (cm2, 3, .inl ft))]) (w1 := []) hP hD [] [0, 1, 2] rfl rfl (by decide) (by decide) hk1 hFc hP1 hD1
  generalize H1 = H at hP hS ⊢
  have hP : va_P (dC, dI) vwCl [(h0, .inr (12, [.int 0, .int 0, .ref mr, .ref mt, .ref mw, .ref mu, .ref mp, .ref mi, .ref mk, .ref ms, .int 0, .ref mv, .int 0, .int 0, .int 0, .int 0, .long 0, .int (-1), .int 0, .ref m1w, .ref m2w, .ref m3w, .ref m4w, .int 0, .long 0, .long 0, .long 0])), (mr, .inl (cm1, 7, .inl (fun _ => 0))), (mt, .inl (cm2, 3, .inl ft))] H := hP
  have hD : va_D A [(h0, .inr (12, [.int 0, .int 0, .ref mr, .ref mt, .ref mw, .ref mu, .ref mp, .ref mi, .ref mk, .ref ms, .int 0, .ref mv, .int 0, .int 0, .int 0, .int 0, .long 0, .int (-1), .int 0, .ref m1w, .ref m2w, .ref m3w, .ref m4w, .int 0, .long 0, .long 0, .long 0])), (mr, .inl (cm1, 7, .inl (fun _ => 0))), (mt, .inl (cm2, 3, .inl ft))] := hD
  refine W.widen (k := 0) (n := 0) (Nat.le_of_ble_eq_true rfl) (Nat.le_of_ble_eq_true rfl) ?_
  have hw : r_31 = sp_in wa.toInt64 0 2 := hw
  subst hw
  refine k_topi (y := sp_r wa 0 2) (sp_in_r _ _ _ (by decide) (by decide)) ?_
  refine lv_if_eq (tgt := 48) hx hb dX12_terms_14 (by decide) (fun _ => ?_) (fun c => absurd ((sp_r0 _ _ _).mpr (by have nh_1 := lv_neT (a := 0) h_1 (by decide); have nh_11 := lv_neT (a := 1) h_11 (by decide); have nh_21 := lv_neT (a := 2) h_21 (by decide); skip; omega)) c)
  refine lv_aload_n hx hb dX12_terms_48 rfl (lv_at hl 0 rfl) ?_
  refine lv_iconst (v := (-1)) hx hb dX12_terms_49 (by decide) ?_
  have hPc := hP.sub (ws' := [(h0, .inr (12, [.int 0, .int 0, .ref mr, .ref mt, .ref mw, .ref mu, .ref mp, .ref mi, .ref mk, .ref ms, .int 0, .ref mv, .int 0, .int 0, .int 0, .int 0, .long 0, .int (-1), .int 0, .ref m1w, .ref m2w, .ref m3w, .ref m4w, .int 0, .long 0, .long 0, .long 0])), (mr, .inl (cm1, 7, .inl (fun _ => 0)))]) [0, 1] rfl
  have hDc := hD.sub (ws' := [(h0, .inr (12, [.int 0, .int 0, .ref mr, .ref mt, .ref mw, .ref mu, .ref mp, .ref mi, .ref mk, .ref ms, .int 0, .ref mv, .int 0, .int 0, .int 0, .int 0, .long 0, .int (-1), .int 0, .ref m1w, .ref m2w, .ref m3w, .ref m4w, .int 0, .long 0, .long 0, .long 0])), (mr, .inl (cm1, 7, .inl (fun _ => 0)))]) [0, 1] (by decide) rfl
  have hKc := hK.sub (tys' := [(cm1, .int)]) [0] rfl
  have hFc := va_free (wc := [(h0, .inr (12, [.int 0, .int 0, .ref mr, .ref mt, .ref mw, .ref mu, .ref mp, .ref mi, .ref mk, .ref ms, .int 0, .ref mv, .int 0, .int 0, .int 0, .int 0, .long 0, .int (-1), .int 0, .ref m1w, .ref m2w, .ref m3w, .ref m4w, .int 0, .long 0, .long 0, .long 0])), (mr, .inl (cm1, 7, .inl (fun _ => 0)))]) hD hS hA [0, 1] rfl
  refine va_calli (va_runV (As := [.int (-1)]) (rest := []) ⟨hx, hb, hml, hown, hts⟩ (c_X12_refuse_1 l dC dI h0 mr mt mw mu mp mi mk ms mv m1w m2w m3w m4w cm1 H.size) (cwV 1 hts (gi_V (fun w_ h0_ => ⟨List.mem_cons_of_mem _ (List.mem_append_right _ (List.mem_append_right _ (List.mem_append_right _ (List.mem_append_right _ (List.mem_append_left _ h0_))))), (tb_c_X12_refuse_1 w_ h0_).2⟩) (List.mem_cons_of_mem _ (List.mem_append_left _ (List.mem_of_getElem? (i := 9) rfl))) (List.mem_cons_of_mem _ (List.mem_append_left _ (List.mem_of_getElem? (i := 10) rfl))) (List.mem_cons_of_mem _ (List.mem_append_left _ (List.mem_of_getElem? (i := 11) rfl))) (List.mem_cons_of_mem _ (List.mem_append_left _ (List.mem_of_getElem? (i := 4) rfl)))) rfl rfl rfl (by decide +kernel) ⟨Nat.le_of_ble_eq_true rfl, Nat.le_of_ble_eq_true rfl⟩) ⟨fun a U g mk q => by obtain ⟨q0, q1, qP, qK, qD⟩ := q; exact ⟨q0, q1, qP, va_K.moved (u := U) (U := U.calling g mk a) (Vm.Alike.refl U.vm) qK, qD⟩, va_recv hKc hPc (ci := 12) (q0 := 0) rfl rfl, fun U hU hW => ⟨rfl, by rw [hU], by rw [hU]; exact hPc, va_K.moved hW.alike hKc, hDc.weaken (fun _ _ _ _ => trivial)⟩⟩ rfl rfl hl.1 rfl (lv_room (Nat.le_of_ble_eq_true rfl)) dX12_terms_50 ⟨Nat.le_of_ble_eq_true rfl, Nat.le_of_ble_eq_true rfl⟩) hS (fun q _ h => hFc q h) hFc (fun r_32 u t H1 locs ht hvm hw hB hz1 hk1 hS => ?_)
  obtain ⟨hP1, hK1, hD1⟩ := hB
  rw [ht] at hP1
  have hK1 := va_K.moved hvm.symm hK1
  obtain ⟨hP, hD⟩ := va_join (wr := [(mt, .inl (cm2, 3, .inl ft))]) (w1 := []) hP hD [0, 1] [2] rfl rfl (by decide) (by decide) hk1 hFc hP1 hD1
  generalize H1 = H at hP hS ⊢
  have hP : va_P (dC, dI) vwCl [(mt, .inl (cm2, 3, .inl ft))] H := hP
  have hD : va_D A [(mt, .inl (cm2, 3, .inl ft))] := hD
  refine W.widen (k := 0) (n := 0) (Nat.le_of_ble_eq_true rfl) (Nat.le_of_ble_eq_true rfl) ?_
  have hw : r_32 = (-1) := hw
  subst hw
  have hP9 := hP.sub (ws' := []) [] rfl
  have hD9 := hD.sub (ws' := []) [] (by decide) rfl
  have hK9 := hK.sub (tys' := []) [] rfl
  refine W.widen (k := 0) (n := 0) (Nat.le_of_ble_eq_true rfl) (Nat.le_of_ble_eq_true rfl) ?_
  exact W.iret (v := (-1)) hx hb hr (fun t ht hW => ⟨⟨(-1), (), rfl, (by have nh_1 := lv_neT (a := 0) h_1 (by decide); have nh_11 := lv_neT (a := 1) h_11 (by decide); have nh_21 := lv_neT (a := 2) h_21 (by decide); unfold sp_terms sp_get; (repeat' split) <;> first | rfl | omega | (refine Int32.toInt_inj.mp ?_; omega)), by rw [ht]; exact hP9, va_K.moved hW.alike hK9, hD9⟩, hS.F ht⟩) hS.2.2 dX12_terms_53
def ow_c_X12_feed : List Cond := [.fieldLink RX12 67 "DeadlineShareModel" "thrown" "I", .fieldLink RX12 128 "DeadlineShareModel" "taped" "I", .methodLink RX12 131 yX12_four, .instanceMethod yX12_four, .selects RX12 yX12_four yX12_four, .initialized RX12]
def wq_c_X12_feed : List Cond := .code yX12_feed cX12_feed 6 (some .int) :: (ow_c_X12_feed ++ (u_ws RX12 TX12 27 ++ (wq_c_X12_four_0 ++ (wq_c_X12_four_4 ++ (wq_c_X12_four_8 ++ (wq_c_X12_four_12 ++ (wq_c_X12_four_16 ++ ([] : List Cond))))))))
theorem tb_c_X12_feed : ∀ w ∈ wq_c_X12_feed, q_g w := by
  unfold wq_c_X12_feed ow_c_X12_feed
  exact q_cons tw_493 (q_app (q_cons tw_488 (q_cons tw_444 (q_cons tw_492 (q_cons tw_491 (q_cons tw_490 (q_cons tw_435 q_nil)))))) (q_app tu_X12 (q_app tb_c_X12_four_0 (q_app tb_c_X12_four_4 (q_app tb_c_X12_four_8 (q_app tb_c_X12_four_12 (q_app tb_c_X12_four_16 q_nil)))))))
set_option maxHeartbeats 4000000 in
set_option maxRecDepth 100000 in
theorem c_X12_feed (l : Launch) (dC : Nat → ClassId) (dI : Nat → Nat → Nat) (h0 : Nat) (a1 : Int32) (a2 : Int32) (a3 : Int32) (a4 : Int32) (a5 : Int32) (mr : Nat) (mt : Nat) (mw : Nat) (mu : Nat) (mp : Nat) (mi : Nat) (mk : Nat) (ms : Nat) (mv : Nat) (m1w : Nat) (m2w : Nat) (m3w : Nat) (m4w : Nat) (cm9 : ClassId) (sz : Nat) : Met l yX12_feed wq_c_X12_feed ({ frames := 1, cells := 0, slots := 0, locals := 22 } : Room) (va_Pc [.ref h0, .int a1, .int a2, .int a3, .int a4, .int a5] (fun U => U.heap.size = sz ∧ va_P (dC, dI) vwCl [(h0, .inr (12, [.int 0, .int 0, .ref mr, .ref mt, .ref mw, .ref mu, .ref mp, .ref mi, .ref mk, .ref ms, .int 0, .ref mv, .int 0, .int 0, .int 0, .int 0, .long 0, .int (-1), .int 0, .ref m1w, .ref m2w, .ref m3w, .ref m4w, .int 0, .long 0, .long 0, .long 0])), (mv, .inl (cm9, 200, .inl (fun _ => 0)))] U.heap ∧ va_K (dC, dI) vwCl [(cm9, .int)] U ∧ va_D (fun _ => True) [(h0, .inr (12, [.int 0, .int 0, .ref mr, .ref mt, .ref mw, .ref mu, .ref mp, .ref mi, .ref mk, .ref ms, .int 0, .ref mv, .int 0, .int 0, .int 0, .int 0, .long 0, .int (-1), .int 0, .ref m1w, .ref m2w, .ref m3w, .ref m4w, .int 0, .long 0, .long 0, .long 0])), (mv, .inl (cm9, 200, .inl (fun _ => 0)))])) (va_Qi (fun (r : Int32) (_ : Unit) => r = 20) (fun (_ : Unit) t => va_P (dC, dI) vwCl [] t.heap ∧ va_K (dC, dI) vwCl [] t ∧ va_D (va_A [(h0, .inr (12, [.int 0, .int 0, .ref mr, .ref mt, .ref mw, .ref mu, .ref mp, .ref mi, .ref mk, .ref ms, .int 0, .ref mv, .int 0, .int 0, .int 0, .int 0, .long 0, .int (-1), .int 0, .ref m1w, .ref m2w, .ref m3w, .ref m4w, .int 0, .long 0, .long 0, .long 0])), (mv, .inl (cm9, 200, .inl (fun _ => 0)))] sz) []) (va_A [(h0, .inr (12, [.int 0, .int 0, .ref mr, .ref mt, .ref mw, .ref mu, .ref mp, .ref mi, .ref mk, .ref ms, .int 0, .ref mv, .int 0, .int 0, .int 0, .int 0, .long 0, .int (-1), .int 0, .ref m1w, .ref m2w, .ref m3w, .ref m4w, .int 0, .long 0, .long 0, .long 0])), (mv, .inl (cm9, 200, .inl (fun _ => 0)))] sz)) 0 0 (va_A [(h0, .inr (12, [.int 0, .int 0, .ref mr, .ref mt, .ref mw, .ref mu, .ref mp, .ref mi, .ref mk, .ref ms, .int 0, .ref mv, .int 0, .int 0, .int 0, .int 0, .long 0, .int (-1), .int 0, .ref m1w, .ref m2w, .ref m3w, .ref m4w, .int 0, .long 0, .long 0, .long 0])), (mv, .inl (cm9, 200, .inl (fun _ => 0)))] sz) := by
  refine Met.ofW (cc := cX12_feed) (maxL := 6) (ret := (some .int)) (by decide) rfl ?_
  intro p e s m args below meth c s₁ B hml hv
  obtain ⟨rfl, hsz, hP, hK, hD0⟩ := hv
  have hx := B.exec
  have hb := B.bytes
  have hr := B.returns
  have hts := atoms_spec (ws := wq_c_X12_feed) B.pre
  have hown : s.vm.findClass RX12 = some m.cls := findClass_of_methodNamed B.named
  have hlocks := B.notSynchronized
  subst hsz
  have hD := hD0.self (sz := s.heap.size)
  obtain ⟨A, hAe⟩ : ∃ A, A = va_A [(h0, .inr (12, [.int 0, .int 0, .ref mr, .ref mt, .ref mw, .ref mu, .ref mp, .ref mi, .ref mk, .ref ms, .int 0, .ref mv, .int 0, .int 0, .int 0, .int 0, .long 0, .int (-1), .int 0, .ref m1w, .ref m2w, .ref m3w, .ref m4w, .int 0, .long 0, .long 0, .long 0])), (mv, .inl (cm9, 200, .inl (fun _ => 0)))] s.heap.size := ⟨_, rfl⟩
  rw [← hAe] at hD ⊢
  have hA : ∀ q : Nat, s.heap.size ≤ q → A q := fun q h => by rw [hAe]; exact Or.inr h
  have hS : va_S A s.heap s.heap [] := va_S.rf
  have hP : va_P (dC, dI) vwCl [(h0, .inr (12, [.int 0, .int 0, .ref mr, .ref mt, .ref mw, .ref mu, .ref mp, .ref mi, .ref mk, .ref ms, .int 0, .ref mv, .int 0, .int 0, .int 0, .int 0, .long 0, .int (-1), .int 0, .ref m1w, .ref m2w, .ref m3w, .ref m4w, .int 0, .long 0, .long 0, .long 0])), (mv, .inl (cm9, 200, .inl (fun _ => 0)))] s.heap := hP
  have hl := lv_entry ([.ref h0, .int a1, .int a2, .int a3, .int a4, .int a5]) (n := 6) (Nat.le_of_ble_eq_true rfl)
  rw [lg_entry_eq]
  generalize (lg_sl ([.ref h0, .int a1, .int a2, .int a3, .int a4, .int a5]) ++ List.replicate (6 - (lg_sl ([.ref h0, .int a1, .int a2, .int a3, .int a4, .int a5])).length) Slot.unset).toArray = ls at hl ⊢
  have hl : lv_has ls 6 [(0, .ref h0), (1, .int a1), (2, .int a2), (3, .int a3), (4, .int a4), (5, .int a5)] := hl
  refine lv_aload_n hx hb dX12_feed_0 rfl (lv_at hl 0 rfl) ?_
  refine lv_iconst (v := 0) hx hb dX12_feed_1 (by decide) ?_
  refine va_put (D := (dC, dI)) (ci := 12) (v := .int 0) (ty := .int) (C := RX12) (T := TX12) (N := 27) hx hb hts (fun _ h0_ => List.mem_cons_of_mem _ (List.mem_append_right _ (List.mem_append_left _ h0_))) tyX12 tyX12_ok nmX12 hown hK hP hD hS 0 rfl rfl 0 (by decide) (hts (.fieldLink RX12 67 "DeadlineShareModel" "thrown" "I") (List.mem_cons_of_mem _ (List.mem_append_left _ (List.mem_of_getElem? (i := 0) rfl)))) (fun _ h9 => h9) rfl (by decide +kernel) rfl rfl (Nat.le_of_ble_eq_true rfl) dX12_feed_2 (fun H locs hP hD hS => ?_)
  have hP : va_P (dC, dI) vwCl [(h0, .inr (12, [.int 0, .int 0, .ref mr, .ref mt, .ref mw, .ref mu, .ref mp, .ref mi, .ref mk, .ref ms, .int 0, .ref mv, .int 0, .int 0, .int 0, .int 0, .long 0, .int (-1), .int 0, .ref m1w, .ref m2w, .ref m3w, .ref m4w, .int 0, .long 0, .long 0, .long 0])), (mv, .inl (cm9, 200, .inl (fun _ => 0)))] H := hP
  have hD : va_D A [(h0, .inr (12, [.int 0, .int 0, .ref mr, .ref mt, .ref mw, .ref mu, .ref mp, .ref mi, .ref mk, .ref ms, .int 0, .ref mv, .int 0, .int 0, .int 0, .int 0, .long 0, .int (-1), .int 0, .ref m1w, .ref m2w, .ref m3w, .ref m4w, .int 0, .long 0, .long 0, .long 0])), (mv, .inl (cm9, 200, .inl (fun _ => 0)))] := hD
  refine lv_aload_n hx hb dX12_feed_5 rfl (lv_at hl 0 rfl) ?_
  refine va_get (D := (dC, dI)) (ci := 12) (v := .int 0) (C := RX12) (T := TX12) (N := 27) hx hb hts (fun _ h0_ => List.mem_cons_of_mem _ (List.mem_append_right _ (List.mem_append_left _ h0_))) hown hK hP 0 rfl rfl 12 (by decide) (hts (.fieldLink RX12 128 "DeadlineShareModel" "taped" "I") (List.mem_cons_of_mem _ (List.mem_append_left _ (List.mem_of_getElem? (i := 1) rfl)))) (fun _ h9 => h9) rfl dX12_feed_6 ?_
  refine lv_bipush (v := 20) hx hb dX12_feed_9 (by decide) ?_
  refine lv_iadd hx hb dX12_feed_11 ?_
  refine k_topi (y := 20) (by decide) ?_
  refine lv_sipush (v := 200) hx hb dX12_feed_12 (by decide) ?_
  refine lv_icmp_le (tgt := 20) hx hb dX12_feed_15 (by decide) (fun _ => ?_) (fun c => absurd (by decide) c)
  refine lv_aload_n hx hb dX12_feed_20 rfl (lv_at hl 0 rfl) ?_
  refine lv_iload_n hx hb dX12_feed_21 rfl (lv_at hl 1 rfl) ?_
  have hPc := hP.sub (ws' := [(h0, .inr (12, [.int 0, .int 0, .ref mr, .ref mt, .ref mw, .ref mu, .ref mp, .ref mi, .ref mk, .ref ms, .int 0, .ref mv, .int 0, .int 0, .int 0, .int 0, .long 0, .int (-1), .int 0, .ref m1w, .ref m2w, .ref m3w, .ref m4w, .int 0, .long 0, .long 0, .long 0])), (mv, .inl (cm9, 200, .inl (fun _ => 0)))]) [0, 1] rfl
  have hDc := hD.sub (ws' := [(h0, .inr (12, [.int 0, .int 0, .ref mr, .ref mt, .ref mw, .ref mu, .ref mp, .ref mi, .ref mk, .ref ms, .int 0, .ref mv, .int 0, .int 0, .int 0, .int 0, .long 0, .int (-1), .int 0, .ref m1w, .ref m2w, .ref m3w, .ref m4w, .int 0, .long 0, .long 0, .long 0])), (mv, .inl (cm9, 200, .inl (fun _ => 0)))]) [0, 1] (by decide) rfl
  have hKc := hK.sub (tys' := [(cm9, .int)]) [0] rfl
  have hFc := va_free (wc := [(h0, .inr (12, [.int 0, .int 0, .ref mr, .ref mt, .ref mw, .ref mu, .ref mp, .ref mi, .ref mk, .ref ms, .int 0, .ref mv, .int 0, .int 0, .int 0, .int 0, .long 0, .int (-1), .int 0, .ref m1w, .ref m2w, .ref m3w, .ref m4w, .int 0, .long 0, .long 0, .long 0])), (mv, .inl (cm9, 200, .inl (fun _ => 0)))]) hD hS hA [0, 1] rfl
  refine va_callv (va_runV (As := [.int a1]) (rest := []) ⟨hx, hb, hml, hown, hts⟩ (c_X12_four_0 l dC dI h0 a1 mr mt mw mu mp mi mk ms mv m1w m2w m3w m4w cm9 (fun _ => 0) H.size) (cwV 1 hts (gi_V (fun w_ h0_ => ⟨List.mem_cons_of_mem _ (List.mem_append_right _ (List.mem_append_right _ (List.mem_append_left _ h0_))), (tb_c_X12_four_0 w_ h0_).2⟩) (List.mem_cons_of_mem _ (List.mem_append_left _ (List.mem_of_getElem? (i := 2) rfl))) (List.mem_cons_of_mem _ (List.mem_append_left _ (List.mem_of_getElem? (i := 3) rfl))) (List.mem_cons_of_mem _ (List.mem_append_left _ (List.mem_of_getElem? (i := 4) rfl))) (List.mem_cons_of_mem _ (List.mem_append_left _ (List.mem_of_getElem? (i := 5) rfl)))) rfl rfl rfl (by decide +kernel) ⟨Nat.le_of_ble_eq_true rfl, Nat.le_of_ble_eq_true rfl⟩) ⟨fun a U g mk q => by obtain ⟨q0, q1, qP, qK, qD⟩ := q; exact ⟨q0, q1, qP, va_K.moved (u := U) (U := U.calling g mk a) (Vm.Alike.refl U.vm) qK, qD⟩, va_recv hKc hPc (ci := 12) (q0 := 0) rfl rfl, fun U hU hW => ⟨rfl, by rw [hU], by rw [hU]; exact hPc, va_K.moved hW.alike hKc, hDc.weaken (fun _ _ _ _ => trivial)⟩⟩ rfl rfl hl.1 rfl (lv_room (Nat.le_of_ble_eq_true rfl)) dX12_feed_22 ⟨Nat.le_of_ble_eq_true rfl, Nat.le_of_ble_eq_true rfl⟩) hS (fun q _ h => hFc q h) hFc (fun u t H1 locs ht hvm hw hB hz1 hk1 hS => ?_)
  obtain ⟨f_1, hP1, hK1, hD1⟩ := hB
  rw [ht] at hP1
  have hK1 := va_K.moved hvm.symm hK1
  obtain ⟨hP, hD⟩ := va_join (wr := []) (w1 := [(h0, .inr (12, [.int 0, .int 0, .ref mr, .ref mt, .ref mw, .ref mu, .ref mp, .ref mi, .ref mk, .ref ms, .int 0, .ref mv, .int 4, .int 0, .int 0, .int 0, .long 0, .int (-1), .int 0, .ref m1w, .ref m2w, .ref m3w, .ref m4w, .int 0, .long 0, .long 0, .long 0])), (mv, .inl (cm9, 200, .inl f_1))]) hP hD [0, 1] [] rfl rfl (by decide) (by decide) hk1 hFc hP1 hD1
  generalize H1 = H at hP hS ⊢
  have hP : va_P (dC, dI) vwCl [(h0, .inr (12, [.int 0, .int 0, .ref mr, .ref mt, .ref mw, .ref mu, .ref mp, .ref mi, .ref mk, .ref ms, .int 0, .ref mv, .int 4, .int 0, .int 0, .int 0, .long 0, .int (-1), .int 0, .ref m1w, .ref m2w, .ref m3w, .ref m4w, .int 0, .long 0, .long 0, .long 0])), (mv, .inl (cm9, 200, .inl f_1))] H := hP
  have hD : va_D A [(h0, .inr (12, [.int 0, .int 0, .ref mr, .ref mt, .ref mw, .ref mu, .ref mp, .ref mi, .ref mk, .ref ms, .int 0, .ref mv, .int 4, .int 0, .int 0, .int 0, .long 0, .int (-1), .int 0, .ref m1w, .ref m2w, .ref m3w, .ref m4w, .int 0, .long 0, .long 0, .long 0])), (mv, .inl (cm9, 200, .inl f_1))] := hD
  refine W.widen (k := 0) (n := 0) (Nat.le_of_ble_eq_true rfl) (Nat.le_of_ble_eq_true rfl) ?_
  refine lv_aload_n hx hb dX12_feed_25 rfl (lv_at hl 0 rfl) ?_
  refine lv_iload_n hx hb dX12_feed_26 rfl (lv_at hl 2 rfl) ?_
  have hPc := hP.sub (ws' := [(h0, .inr (12, [.int 0, .int 0, .ref mr, .ref mt, .ref mw, .ref mu, .ref mp, .ref mi, .ref mk, .ref ms, .int 0, .ref mv, .int 4, .int 0, .int 0, .int 0, .long 0, .int (-1), .int 0, .ref m1w, .ref m2w, .ref m3w, .ref m4w, .int 0, .long 0, .long 0, .long 0])), (mv, .inl (cm9, 200, .inl f_1))]) [0, 1] rfl
  have hDc := hD.sub (ws' := [(h0, .inr (12, [.int 0, .int 0, .ref mr, .ref mt, .ref mw, .ref mu, .ref mp, .ref mi, .ref mk, .ref ms, .int 0, .ref mv, .int 4, .int 0, .int 0, .int 0, .long 0, .int (-1), .int 0, .ref m1w, .ref m2w, .ref m3w, .ref m4w, .int 0, .long 0, .long 0, .long 0])), (mv, .inl (cm9, 200, .inl f_1))]) [0, 1] (by decide) rfl
  have hKc := hK.sub (tys' := [(cm9, .int)]) [0] rfl
  have hFc := va_free (wc := [(h0, .inr (12, [.int 0, .int 0, .ref mr, .ref mt, .ref mw, .ref mu, .ref mp, .ref mi, .ref mk, .ref ms, .int 0, .ref mv, .int 4, .int 0, .int 0, .int 0, .long 0, .int (-1), .int 0, .ref m1w, .ref m2w, .ref m3w, .ref m4w, .int 0, .long 0, .long 0, .long 0])), (mv, .inl (cm9, 200, .inl f_1))]) hD hS hA [0, 1] rfl
  refine va_callv (va_runV (As := [.int a2]) (rest := []) ⟨hx, hb, hml, hown, hts⟩ (c_X12_four_4 l dC dI h0 a2 mr mt mw mu mp mi mk ms mv m1w m2w m3w m4w cm9 f_1 H.size) (cwV 1 hts (gi_V (fun w_ h0_ => ⟨List.mem_cons_of_mem _ (List.mem_append_right _ (List.mem_append_right _ (List.mem_append_right _ (List.mem_append_left _ h0_)))), (tb_c_X12_four_4 w_ h0_).2⟩) (List.mem_cons_of_mem _ (List.mem_append_left _ (List.mem_of_getElem? (i := 2) rfl))) (List.mem_cons_of_mem _ (List.mem_append_left _ (List.mem_of_getElem? (i := 3) rfl))) (List.mem_cons_of_mem _ (List.mem_append_left _ (List.mem_of_getElem? (i := 4) rfl))) (List.mem_cons_of_mem _ (List.mem_append_left _ (List.mem_of_getElem? (i := 5) rfl)))) rfl rfl rfl (by decide +kernel) ⟨Nat.le_of_ble_eq_true rfl, Nat.le_of_ble_eq_true rfl⟩) ⟨fun a U g mk q => by obtain ⟨q0, q1, qP, qK, qD⟩ := q; exact ⟨q0, q1, qP, va_K.moved (u := U) (U := U.calling g mk a) (Vm.Alike.refl U.vm) qK, qD⟩, va_recv hKc hPc (ci := 12) (q0 := 0) rfl rfl, fun U hU hW => ⟨rfl, by rw [hU], by rw [hU]; exact hPc, va_K.moved hW.alike hKc, hDc.weaken (fun _ _ _ _ => trivial)⟩⟩ rfl rfl hl.1 rfl (lv_room (Nat.le_of_ble_eq_true rfl)) dX12_feed_27 ⟨Nat.le_of_ble_eq_true rfl, Nat.le_of_ble_eq_true rfl⟩) hS (fun q _ h => hFc q h) hFc (fun u t H1 locs ht hvm hw hB hz1 hk1 hS => ?_)
  obtain ⟨f_2, hP1, hK1, hD1⟩ := hB
  rw [ht] at hP1
  have hK1 := va_K.moved hvm.symm hK1
  obtain ⟨hP, hD⟩ := va_join (wr := []) (w1 := [(h0, .inr (12, [.int 0, .int 0, .ref mr, .ref mt, .ref mw, .ref mu, .ref mp, .ref mi, .ref mk, .ref ms, .int 0, .ref mv, .int 8, .int 0, .int 0, .int 0, .long 0, .int (-1), .int 0, .ref m1w, .ref m2w, .ref m3w, .ref m4w, .int 0, .long 0, .long 0, .long 0])), (mv, .inl (cm9, 200, .inl f_2))]) hP hD [0, 1] [] rfl rfl (by decide) (by decide) hk1 hFc hP1 hD1
  generalize H1 = H at hP hS ⊢
  have hP : va_P (dC, dI) vwCl [(h0, .inr (12, [.int 0, .int 0, .ref mr, .ref mt, .ref mw, .ref mu, .ref mp, .ref mi, .ref mk, .ref ms, .int 0, .ref mv, .int 8, .int 0, .int 0, .int 0, .long 0, .int (-1), .int 0, .ref m1w, .ref m2w, .ref m3w, .ref m4w, .int 0, .long 0, .long 0, .long 0])), (mv, .inl (cm9, 200, .inl f_2))] H := hP
  have hD : va_D A [(h0, .inr (12, [.int 0, .int 0, .ref mr, .ref mt, .ref mw, .ref mu, .ref mp, .ref mi, .ref mk, .ref ms, .int 0, .ref mv, .int 8, .int 0, .int 0, .int 0, .long 0, .int (-1), .int 0, .ref m1w, .ref m2w, .ref m3w, .ref m4w, .int 0, .long 0, .long 0, .long 0])), (mv, .inl (cm9, 200, .inl f_2))] := hD
  refine W.widen (k := 0) (n := 0) (Nat.le_of_ble_eq_true rfl) (Nat.le_of_ble_eq_true rfl) ?_
  refine lv_aload_n hx hb dX12_feed_30 rfl (lv_at hl 0 rfl) ?_
  refine lv_iload_n hx hb dX12_feed_31 rfl (lv_at hl 3 rfl) ?_
  have hPc := hP.sub (ws' := [(h0, .inr (12, [.int 0, .int 0, .ref mr, .ref mt, .ref mw, .ref mu, .ref mp, .ref mi, .ref mk, .ref ms, .int 0, .ref mv, .int 8, .int 0, .int 0, .int 0, .long 0, .int (-1), .int 0, .ref m1w, .ref m2w, .ref m3w, .ref m4w, .int 0, .long 0, .long 0, .long 0])), (mv, .inl (cm9, 200, .inl f_2))]) [0, 1] rfl
  have hDc := hD.sub (ws' := [(h0, .inr (12, [.int 0, .int 0, .ref mr, .ref mt, .ref mw, .ref mu, .ref mp, .ref mi, .ref mk, .ref ms, .int 0, .ref mv, .int 8, .int 0, .int 0, .int 0, .long 0, .int (-1), .int 0, .ref m1w, .ref m2w, .ref m3w, .ref m4w, .int 0, .long 0, .long 0, .long 0])), (mv, .inl (cm9, 200, .inl f_2))]) [0, 1] (by decide) rfl
  have hKc := hK.sub (tys' := [(cm9, .int)]) [0] rfl
  have hFc := va_free (wc := [(h0, .inr (12, [.int 0, .int 0, .ref mr, .ref mt, .ref mw, .ref mu, .ref mp, .ref mi, .ref mk, .ref ms, .int 0, .ref mv, .int 8, .int 0, .int 0, .int 0, .long 0, .int (-1), .int 0, .ref m1w, .ref m2w, .ref m3w, .ref m4w, .int 0, .long 0, .long 0, .long 0])), (mv, .inl (cm9, 200, .inl f_2))]) hD hS hA [0, 1] rfl
  refine va_callv (va_runV (As := [.int a3]) (rest := []) ⟨hx, hb, hml, hown, hts⟩ (c_X12_four_8 l dC dI h0 a3 mr mt mw mu mp mi mk ms mv m1w m2w m3w m4w cm9 f_2 H.size) (cwV 1 hts (gi_V (fun w_ h0_ => ⟨List.mem_cons_of_mem _ (List.mem_append_right _ (List.mem_append_right _ (List.mem_append_right _ (List.mem_append_right _ (List.mem_append_left _ h0_))))), (tb_c_X12_four_8 w_ h0_).2⟩) (List.mem_cons_of_mem _ (List.mem_append_left _ (List.mem_of_getElem? (i := 2) rfl))) (List.mem_cons_of_mem _ (List.mem_append_left _ (List.mem_of_getElem? (i := 3) rfl))) (List.mem_cons_of_mem _ (List.mem_append_left _ (List.mem_of_getElem? (i := 4) rfl))) (List.mem_cons_of_mem _ (List.mem_append_left _ (List.mem_of_getElem? (i := 5) rfl)))) rfl rfl rfl (by decide +kernel) ⟨Nat.le_of_ble_eq_true rfl, Nat.le_of_ble_eq_true rfl⟩) ⟨fun a U g mk q => by obtain ⟨q0, q1, qP, qK, qD⟩ := q; exact ⟨q0, q1, qP, va_K.moved (u := U) (U := U.calling g mk a) (Vm.Alike.refl U.vm) qK, qD⟩, va_recv hKc hPc (ci := 12) (q0 := 0) rfl rfl, fun U hU hW => ⟨rfl, by rw [hU], by rw [hU]; exact hPc, va_K.moved hW.alike hKc, hDc.weaken (fun _ _ _ _ => trivial)⟩⟩ rfl rfl hl.1 rfl (lv_room (Nat.le_of_ble_eq_true rfl)) dX12_feed_32 ⟨Nat.le_of_ble_eq_true rfl, Nat.le_of_ble_eq_true rfl⟩) hS (fun q _ h => hFc q h) hFc (fun u t H1 locs ht hvm hw hB hz1 hk1 hS => ?_)
  obtain ⟨f_3, hP1, hK1, hD1⟩ := hB
  rw [ht] at hP1
  have hK1 := va_K.moved hvm.symm hK1
  obtain ⟨hP, hD⟩ := va_join (wr := []) (w1 := [(h0, .inr (12, [.int 0, .int 0, .ref mr, .ref mt, .ref mw, .ref mu, .ref mp, .ref mi, .ref mk, .ref ms, .int 0, .ref mv, .int 12, .int 0, .int 0, .int 0, .long 0, .int (-1), .int 0, .ref m1w, .ref m2w, .ref m3w, .ref m4w, .int 0, .long 0, .long 0, .long 0])), (mv, .inl (cm9, 200, .inl f_3))]) hP hD [0, 1] [] rfl rfl (by decide) (by decide) hk1 hFc hP1 hD1
  generalize H1 = H at hP hS ⊢
  have hP : va_P (dC, dI) vwCl [(h0, .inr (12, [.int 0, .int 0, .ref mr, .ref mt, .ref mw, .ref mu, .ref mp, .ref mi, .ref mk, .ref ms, .int 0, .ref mv, .int 12, .int 0, .int 0, .int 0, .long 0, .int (-1), .int 0, .ref m1w, .ref m2w, .ref m3w, .ref m4w, .int 0, .long 0, .long 0, .long 0])), (mv, .inl (cm9, 200, .inl f_3))] H := hP
  have hD : va_D A [(h0, .inr (12, [.int 0, .int 0, .ref mr, .ref mt, .ref mw, .ref mu, .ref mp, .ref mi, .ref mk, .ref ms, .int 0, .ref mv, .int 12, .int 0, .int 0, .int 0, .long 0, .int (-1), .int 0, .ref m1w, .ref m2w, .ref m3w, .ref m4w, .int 0, .long 0, .long 0, .long 0])), (mv, .inl (cm9, 200, .inl f_3))] := hD
  refine W.widen (k := 0) (n := 0) (Nat.le_of_ble_eq_true rfl) (Nat.le_of_ble_eq_true rfl) ?_
  refine lv_aload_n hx hb dX12_feed_35 rfl (lv_at hl 0 rfl) ?_
  refine lv_iload hx hb dX12_feed_36 (lv_at hl 4 rfl) ?_
  have hPc := hP.sub (ws' := [(h0, .inr (12, [.int 0, .int 0, .ref mr, .ref mt, .ref mw, .ref mu, .ref mp, .ref mi, .ref mk, .ref ms, .int 0, .ref mv, .int 12, .int 0, .int 0, .int 0, .long 0, .int (-1), .int 0, .ref m1w, .ref m2w, .ref m3w, .ref m4w, .int 0, .long 0, .long 0, .long 0])), (mv, .inl (cm9, 200, .inl f_3))]) [0, 1] rfl
  have hDc := hD.sub (ws' := [(h0, .inr (12, [.int 0, .int 0, .ref mr, .ref mt, .ref mw, .ref mu, .ref mp, .ref mi, .ref mk, .ref ms, .int 0, .ref mv, .int 12, .int 0, .int 0, .int 0, .long 0, .int (-1), .int 0, .ref m1w, .ref m2w, .ref m3w, .ref m4w, .int 0, .long 0, .long 0, .long 0])), (mv, .inl (cm9, 200, .inl f_3))]) [0, 1] (by decide) rfl
  have hKc := hK.sub (tys' := [(cm9, .int)]) [0] rfl
  have hFc := va_free (wc := [(h0, .inr (12, [.int 0, .int 0, .ref mr, .ref mt, .ref mw, .ref mu, .ref mp, .ref mi, .ref mk, .ref ms, .int 0, .ref mv, .int 12, .int 0, .int 0, .int 0, .long 0, .int (-1), .int 0, .ref m1w, .ref m2w, .ref m3w, .ref m4w, .int 0, .long 0, .long 0, .long 0])), (mv, .inl (cm9, 200, .inl f_3))]) hD hS hA [0, 1] rfl
  refine va_callv (va_runV (As := [.int a4]) (rest := []) ⟨hx, hb, hml, hown, hts⟩ (c_X12_four_12 l dC dI h0 a4 mr mt mw mu mp mi mk ms mv m1w m2w m3w m4w cm9 f_3 H.size) (cwV 1 hts (gi_V (fun w_ h0_ => ⟨List.mem_cons_of_mem _ (List.mem_append_right _ (List.mem_append_right _ (List.mem_append_right _ (List.mem_append_right _ (List.mem_append_right _ (List.mem_append_left _ h0_)))))), (tb_c_X12_four_12 w_ h0_).2⟩) (List.mem_cons_of_mem _ (List.mem_append_left _ (List.mem_of_getElem? (i := 2) rfl))) (List.mem_cons_of_mem _ (List.mem_append_left _ (List.mem_of_getElem? (i := 3) rfl))) (List.mem_cons_of_mem _ (List.mem_append_left _ (List.mem_of_getElem? (i := 4) rfl))) (List.mem_cons_of_mem _ (List.mem_append_left _ (List.mem_of_getElem? (i := 5) rfl)))) rfl rfl rfl (by decide +kernel) ⟨Nat.le_of_ble_eq_true rfl, Nat.le_of_ble_eq_true rfl⟩) ⟨fun a U g mk q => by obtain ⟨q0, q1, qP, qK, qD⟩ := q; exact ⟨q0, q1, qP, va_K.moved (u := U) (U := U.calling g mk a) (Vm.Alike.refl U.vm) qK, qD⟩, va_recv hKc hPc (ci := 12) (q0 := 0) rfl rfl, fun U hU hW => ⟨rfl, by rw [hU], by rw [hU]; exact hPc, va_K.moved hW.alike hKc, hDc.weaken (fun _ _ _ _ => trivial)⟩⟩ rfl rfl hl.1 rfl (lv_room (Nat.le_of_ble_eq_true rfl)) dX12_feed_38 ⟨Nat.le_of_ble_eq_true rfl, Nat.le_of_ble_eq_true rfl⟩) hS (fun q _ h => hFc q h) hFc (fun u t H1 locs ht hvm hw hB hz1 hk1 hS => ?_)
  obtain ⟨f_4, hP1, hK1, hD1⟩ := hB
  rw [ht] at hP1
  have hK1 := va_K.moved hvm.symm hK1
  obtain ⟨hP, hD⟩ := va_join (wr := []) (w1 := [(h0, .inr (12, [.int 0, .int 0, .ref mr, .ref mt, .ref mw, .ref mu, .ref mp, .ref mi, .ref mk, .ref ms, .int 0, .ref mv, .int 16, .int 0, .int 0, .int 0, .long 0, .int (-1), .int 0, .ref m1w, .ref m2w, .ref m3w, .ref m4w, .int 0, .long 0, .long 0, .long 0])), (mv, .inl (cm9, 200, .inl f_4))]) hP hD [0, 1] [] rfl rfl (by decide) (by decide) hk1 hFc hP1 hD1
  generalize H1 = H at hP hS ⊢
  have hP : va_P (dC, dI) vwCl [(h0, .inr (12, [.int 0, .int 0, .ref mr, .ref mt, .ref mw, .ref mu, .ref mp, .ref mi, .ref mk, .ref ms, .int 0, .ref mv, .int 16, .int 0, .int 0, .int 0, .long 0, .int (-1), .int 0, .ref m1w, .ref m2w, .ref m3w, .ref m4w, .int 0, .long 0, .long 0, .long 0])), (mv, .inl (cm9, 200, .inl f_4))] H := hP
  have hD : va_D A [(h0, .inr (12, [.int 0, .int 0, .ref mr, .ref mt, .ref mw, .ref mu, .ref mp, .ref mi, .ref mk, .ref ms, .int 0, .ref mv, .int 16, .int 0, .int 0, .int 0, .long 0, .int (-1), .int 0, .ref m1w, .ref m2w, .ref m3w, .ref m4w, .int 0, .long 0, .long 0, .long 0])), (mv, .inl (cm9, 200, .inl f_4))] := hD
  refine W.widen (k := 0) (n := 0) (Nat.le_of_ble_eq_true rfl) (Nat.le_of_ble_eq_true rfl) ?_
  refine lv_aload_n hx hb dX12_feed_41 rfl (lv_at hl 0 rfl) ?_
  refine lv_iload hx hb dX12_feed_42 (lv_at hl 5 rfl) ?_
  have hPc := hP.sub (ws' := [(h0, .inr (12, [.int 0, .int 0, .ref mr, .ref mt, .ref mw, .ref mu, .ref mp, .ref mi, .ref mk, .ref ms, .int 0, .ref mv, .int 16, .int 0, .int 0, .int 0, .long 0, .int (-1), .int 0, .ref m1w, .ref m2w, .ref m3w, .ref m4w, .int 0, .long 0, .long 0, .long 0])), (mv, .inl (cm9, 200, .inl f_4))]) [0, 1] rfl
  have hDc := hD.sub (ws' := [(h0, .inr (12, [.int 0, .int 0, .ref mr, .ref mt, .ref mw, .ref mu, .ref mp, .ref mi, .ref mk, .ref ms, .int 0, .ref mv, .int 16, .int 0, .int 0, .int 0, .long 0, .int (-1), .int 0, .ref m1w, .ref m2w, .ref m3w, .ref m4w, .int 0, .long 0, .long 0, .long 0])), (mv, .inl (cm9, 200, .inl f_4))]) [0, 1] (by decide) rfl
  have hKc := hK.sub (tys' := [(cm9, .int)]) [0] rfl
  have hFc := va_free (wc := [(h0, .inr (12, [.int 0, .int 0, .ref mr, .ref mt, .ref mw, .ref mu, .ref mp, .ref mi, .ref mk, .ref ms, .int 0, .ref mv, .int 16, .int 0, .int 0, .int 0, .long 0, .int (-1), .int 0, .ref m1w, .ref m2w, .ref m3w, .ref m4w, .int 0, .long 0, .long 0, .long 0])), (mv, .inl (cm9, 200, .inl f_4))]) hD hS hA [0, 1] rfl
  refine va_callv (va_runV (As := [.int a5]) (rest := []) ⟨hx, hb, hml, hown, hts⟩ (c_X12_four_16 l dC dI h0 a5 mr mt mw mu mp mi mk ms mv m1w m2w m3w m4w cm9 f_4 H.size) (cwV 1 hts (gi_V (fun w_ h0_ => ⟨List.mem_cons_of_mem _ (List.mem_append_right _ (List.mem_append_right _ (List.mem_append_right _ (List.mem_append_right _ (List.mem_append_right _ (List.mem_append_right _ (List.mem_append_left _ h0_))))))), (tb_c_X12_four_16 w_ h0_).2⟩) (List.mem_cons_of_mem _ (List.mem_append_left _ (List.mem_of_getElem? (i := 2) rfl))) (List.mem_cons_of_mem _ (List.mem_append_left _ (List.mem_of_getElem? (i := 3) rfl))) (List.mem_cons_of_mem _ (List.mem_append_left _ (List.mem_of_getElem? (i := 4) rfl))) (List.mem_cons_of_mem _ (List.mem_append_left _ (List.mem_of_getElem? (i := 5) rfl)))) rfl rfl rfl (by decide +kernel) ⟨Nat.le_of_ble_eq_true rfl, Nat.le_of_ble_eq_true rfl⟩) ⟨fun a U g mk q => by obtain ⟨q0, q1, qP, qK, qD⟩ := q; exact ⟨q0, q1, qP, va_K.moved (u := U) (U := U.calling g mk a) (Vm.Alike.refl U.vm) qK, qD⟩, va_recv hKc hPc (ci := 12) (q0 := 0) rfl rfl, fun U hU hW => ⟨rfl, by rw [hU], by rw [hU]; exact hPc, va_K.moved hW.alike hKc, hDc.weaken (fun _ _ _ _ => trivial)⟩⟩ rfl rfl hl.1 rfl (lv_room (Nat.le_of_ble_eq_true rfl)) dX12_feed_44 ⟨Nat.le_of_ble_eq_true rfl, Nat.le_of_ble_eq_true rfl⟩) hS (fun q _ h => hFc q h) hFc (fun u t H1 locs ht hvm hw hB hz1 hk1 hS => ?_)
  obtain ⟨f_5, hP1, hK1, hD1⟩ := hB
  rw [ht] at hP1
  have hK1 := va_K.moved hvm.symm hK1
  obtain ⟨hP, hD⟩ := va_join (wr := []) (w1 := [(h0, .inr (12, [.int 0, .int 0, .ref mr, .ref mt, .ref mw, .ref mu, .ref mp, .ref mi, .ref mk, .ref ms, .int 0, .ref mv, .int 20, .int 0, .int 0, .int 0, .long 0, .int (-1), .int 0, .ref m1w, .ref m2w, .ref m3w, .ref m4w, .int 0, .long 0, .long 0, .long 0])), (mv, .inl (cm9, 200, .inl f_5))]) hP hD [0, 1] [] rfl rfl (by decide) (by decide) hk1 hFc hP1 hD1
  generalize H1 = H at hP hS ⊢
  have hP : va_P (dC, dI) vwCl [(h0, .inr (12, [.int 0, .int 0, .ref mr, .ref mt, .ref mw, .ref mu, .ref mp, .ref mi, .ref mk, .ref ms, .int 0, .ref mv, .int 20, .int 0, .int 0, .int 0, .long 0, .int (-1), .int 0, .ref m1w, .ref m2w, .ref m3w, .ref m4w, .int 0, .long 0, .long 0, .long 0])), (mv, .inl (cm9, 200, .inl f_5))] H := hP
  have hD : va_D A [(h0, .inr (12, [.int 0, .int 0, .ref mr, .ref mt, .ref mw, .ref mu, .ref mp, .ref mi, .ref mk, .ref ms, .int 0, .ref mv, .int 20, .int 0, .int 0, .int 0, .long 0, .int (-1), .int 0, .ref m1w, .ref m2w, .ref m3w, .ref m4w, .int 0, .long 0, .long 0, .long 0])), (mv, .inl (cm9, 200, .inl f_5))] := hD
  refine W.widen (k := 0) (n := 0) (Nat.le_of_ble_eq_true rfl) (Nat.le_of_ble_eq_true rfl) ?_
  refine lv_aload_n hx hb dX12_feed_47 rfl (lv_at hl 0 rfl) ?_
  refine va_get (D := (dC, dI)) (ci := 12) (v := .int 20) (C := RX12) (T := TX12) (N := 27) hx hb hts (fun _ h0_ => List.mem_cons_of_mem _ (List.mem_append_right _ (List.mem_append_left _ h0_))) hown hK hP 0 rfl rfl 12 (by decide) (hts (.fieldLink RX12 128 "DeadlineShareModel" "taped" "I") (List.mem_cons_of_mem _ (List.mem_append_left _ (List.mem_of_getElem? (i := 1) rfl)))) (fun _ h9 => h9) rfl dX12_feed_48 ?_
  have hP9 := hP.sub (ws' := []) [] rfl
  have hD9 := hD.sub (ws' := []) [] (by decide) rfl
  have hK9 := hK.sub (tys' := []) [] rfl
  refine W.widen (k := 0) (n := 0) (Nat.le_of_ble_eq_true rfl) (Nat.le_of_ble_eq_true rfl) ?_
  exact W.iret (v := 20) hx hb hr (fun t ht hW => ⟨⟨20, (), rfl, rfl, by rw [ht]; exact hP9, va_K.moved hW.alike hK9, hD9⟩, hS.F ht⟩) hS.2.2 dX12_feed_51
def ow_c_X12_end : List Cond := [.fieldLink RX12 67 "DeadlineShareModel" "thrown" "I", .fieldLink RX12 128 "DeadlineShareModel" "taped" "I"]
def wq_c_X12_end : List Cond := .code yX12_end cX12_end 2 (some .int) :: (ow_c_X12_end ++ (u_ws RX12 TX12 27 ++ ([] : List Cond)))
theorem tb_c_X12_end : ∀ w ∈ wq_c_X12_end, q_g w := by
  unfold wq_c_X12_end ow_c_X12_end
  exact q_cons tw_494 (q_app (q_cons tw_488 (q_cons tw_444 q_nil)) (q_app tu_X12 q_nil))
set_option maxHeartbeats 4000000 in
set_option maxRecDepth 100000 in
theorem c_X12_end (l : Launch) (dC : Nat → ClassId) (dI : Nat → Nat → Nat) (h0 : Nat) (nn_ : Int32) (mr : Nat) (mt : Nat) (mw : Nat) (mu : Nat) (mp : Nat) (mi : Nat) (mk : Nat) (ms : Nat) (mv : Nat) (m1w : Nat) (m2w : Nat) (m3w : Nat) (m4w : Nat) (sz : Nat) : Met l yX12_end wq_c_X12_end ({ frames := 0, cells := 0, slots := 0, locals := 0 } : Room) (va_Pc [.ref h0, .int nn_] (fun U => U.heap.size = sz ∧ va_P (dC, dI) vwCl [(h0, .inr (12, [.int 0, .int 0, .ref mr, .ref mt, .ref mw, .ref mu, .ref mp, .ref mi, .ref mk, .ref ms, .int 0, .ref mv, .int 0, .int 0, .int 0, .int 0, .long 0, .int (-1), .int 0, .ref m1w, .ref m2w, .ref m3w, .ref m4w, .int 0, .long 0, .long 0, .long 0]))] U.heap ∧ va_K (dC, dI) vwCl [] U ∧ va_D (fun _ => True) [(h0, .inr (12, [.int 0, .int 0, .ref mr, .ref mt, .ref mw, .ref mu, .ref mp, .ref mi, .ref mk, .ref ms, .int 0, .ref mv, .int 0, .int 0, .int 0, .int 0, .long 0, .int (-1), .int 0, .ref m1w, .ref m2w, .ref m3w, .ref m4w, .int 0, .long 0, .long 0, .long 0]))])) (va_Qi (fun (r : Int32) (_ : Unit) => r = sp_end nn_) (fun (_ : Unit) t => va_P (dC, dI) vwCl [] t.heap ∧ va_K (dC, dI) vwCl [] t ∧ va_D (va_A [(h0, .inr (12, [.int 0, .int 0, .ref mr, .ref mt, .ref mw, .ref mu, .ref mp, .ref mi, .ref mk, .ref ms, .int 0, .ref mv, .int 0, .int 0, .int 0, .int 0, .long 0, .int (-1), .int 0, .ref m1w, .ref m2w, .ref m3w, .ref m4w, .int 0, .long 0, .long 0, .long 0]))] sz) []) (va_A [(h0, .inr (12, [.int 0, .int 0, .ref mr, .ref mt, .ref mw, .ref mu, .ref mp, .ref mi, .ref mk, .ref ms, .int 0, .ref mv, .int 0, .int 0, .int 0, .int 0, .long 0, .int (-1), .int 0, .ref m1w, .ref m2w, .ref m3w, .ref m4w, .int 0, .long 0, .long 0, .long 0]))] sz)) 0 0 (va_A [(h0, .inr (12, [.int 0, .int 0, .ref mr, .ref mt, .ref mw, .ref mu, .ref mp, .ref mi, .ref mk, .ref ms, .int 0, .ref mv, .int 0, .int 0, .int 0, .int 0, .long 0, .int (-1), .int 0, .ref m1w, .ref m2w, .ref m3w, .ref m4w, .int 0, .long 0, .long 0, .long 0]))] sz) := by
  refine Met.ofW (cc := cX12_end) (maxL := 2) (ret := (some .int)) (by decide) rfl ?_
  intro p e s m args below meth c s₁ B hml hv
  obtain ⟨rfl, hsz, hP, hK, hD0⟩ := hv
  have hx := B.exec
  have hb := B.bytes
  have hr := B.returns
  have hts := atoms_spec (ws := wq_c_X12_end) B.pre
  have hown : s.vm.findClass RX12 = some m.cls := findClass_of_methodNamed B.named
  have hlocks := B.notSynchronized
  subst hsz
  have hD := hD0.self (sz := s.heap.size)
  obtain ⟨A, hAe⟩ : ∃ A, A = va_A [(h0, .inr (12, [.int 0, .int 0, .ref mr, .ref mt, .ref mw, .ref mu, .ref mp, .ref mi, .ref mk, .ref ms, .int 0, .ref mv, .int 0, .int 0, .int 0, .int 0, .long 0, .int (-1), .int 0, .ref m1w, .ref m2w, .ref m3w, .ref m4w, .int 0, .long 0, .long 0, .long 0]))] s.heap.size := ⟨_, rfl⟩
  rw [← hAe] at hD ⊢
  have hA : ∀ q : Nat, s.heap.size ≤ q → A q := fun q h => by rw [hAe]; exact Or.inr h
  have hS : va_S A s.heap s.heap [] := va_S.rf
  have hP : va_P (dC, dI) vwCl [(h0, .inr (12, [.int 0, .int 0, .ref mr, .ref mt, .ref mw, .ref mu, .ref mp, .ref mi, .ref mk, .ref ms, .int 0, .ref mv, .int 0, .int 0, .int 0, .int 0, .long 0, .int (-1), .int 0, .ref m1w, .ref m2w, .ref m3w, .ref m4w, .int 0, .long 0, .long 0, .long 0]))] s.heap := hP
  have hl := lv_entry ([.ref h0, .int nn_]) (n := 2) (Nat.le_of_ble_eq_true rfl)
  rw [lg_entry_eq]
  generalize (lg_sl ([.ref h0, .int nn_]) ++ List.replicate (2 - (lg_sl ([.ref h0, .int nn_])).length) Slot.unset).toArray = ls at hl ⊢
  have hl : lv_has ls 2 [(0, .ref h0), (1, .int nn_)] := hl
  refine lv_aload_n hx hb dX12_end_0 rfl (lv_at hl 0 rfl) ?_
  refine lv_iconst (v := 0) hx hb dX12_end_1 (by decide) ?_
  refine va_put (D := (dC, dI)) (ci := 12) (v := .int 0) (ty := .int) (C := RX12) (T := TX12) (N := 27) hx hb hts (fun _ h0_ => List.mem_cons_of_mem _ (List.mem_append_right _ (List.mem_append_left _ h0_))) tyX12 tyX12_ok nmX12 hown hK hP hD hS 0 rfl rfl 0 (by decide) (hts (.fieldLink RX12 67 "DeadlineShareModel" "thrown" "I") (List.mem_cons_of_mem _ (List.mem_append_left _ (List.mem_of_getElem? (i := 0) rfl)))) (fun _ h9 => h9) rfl (by decide +kernel) rfl rfl (Nat.le_of_ble_eq_true rfl) dX12_end_2 (fun H locs hP hD hS => ?_)
  have hP : va_P (dC, dI) vwCl [(h0, .inr (12, [.int 0, .int 0, .ref mr, .ref mt, .ref mw, .ref mu, .ref mp, .ref mi, .ref mk, .ref ms, .int 0, .ref mv, .int 0, .int 0, .int 0, .int 0, .long 0, .int (-1), .int 0, .ref m1w, .ref m2w, .ref m3w, .ref m4w, .int 0, .long 0, .long 0, .long 0]))] H := hP
  have hD : va_D A [(h0, .inr (12, [.int 0, .int 0, .ref mr, .ref mt, .ref mw, .ref mu, .ref mp, .ref mi, .ref mk, .ref ms, .int 0, .ref mv, .int 0, .int 0, .int 0, .int 0, .long 0, .int (-1), .int 0, .ref m1w, .ref m2w, .ref m3w, .ref m4w, .int 0, .long 0, .long 0, .long 0]))] := hD
  refine lv_iload_n hx hb dX12_end_5 rfl (lv_at hl 1 rfl) ?_
  refine lv_if_lt (tgt := 17) hx hb dX12_end_6 (by decide) (fun c_1 => ?_) (fun c_1 => ?_)
  · refine lv_iconst (v := (-1)) hx hb dX12_end_17 (by decide) ?_
    have hP9 := hP.sub (ws' := []) [] rfl
    have hD9 := hD.sub (ws' := []) [] (by decide) rfl
    have hK9 := hK.sub (tys' := []) [] rfl
    refine W.widen (k := 0) (n := 0) (Nat.le_of_ble_eq_true rfl) (Nat.le_of_ble_eq_true rfl) ?_
    exact W.iret (v := (-1)) hx hb hr (fun t ht hW => ⟨⟨(-1), (), rfl, (by have z0 := (fa_lt _ _).mp c_1; have li0 : Int32.toInt 0 = 0 := (by decide); unfold sp_end; (repeat' split) <;> first | rfl | omega | (refine Int32.toInt_inj.mp ?_; omega)), by rw [ht]; exact hP9, va_K.moved hW.alike hK9, hD9⟩, hS.F ht⟩) hS.2.2 dX12_end_18
  · refine lv_iload_n hx hb dX12_end_9 rfl (lv_at hl 1 rfl) ?_
    refine lv_aload_n hx hb dX12_end_10 rfl (lv_at hl 0 rfl) ?_
    refine va_get (D := (dC, dI)) (ci := 12) (v := .int 0) (C := RX12) (T := TX12) (N := 27) hx hb hts (fun _ h0_ => List.mem_cons_of_mem _ (List.mem_append_right _ (List.mem_append_left _ h0_))) hown hK hP 0 rfl rfl 12 (by decide) (hts (.fieldLink RX12 128 "DeadlineShareModel" "taped" "I") (List.mem_cons_of_mem _ (List.mem_append_left _ (List.mem_of_getElem? (i := 1) rfl)))) (fun _ h9 => h9) rfl dX12_end_11 ?_
    refine lv_icmp_le (tgt := 19) hx hb dX12_end_14 (by decide) (fun c_2 => ?_) (fun c_2 => ?_)
    · refine lv_aload_n hx hb dX12_end_19 rfl (lv_at hl 0 rfl) ?_
      refine lv_iload_n hx hb dX12_end_20 rfl (lv_at hl 1 rfl) ?_
      refine va_put (D := (dC, dI)) (ci := 12) (v := .int nn_) (ty := .int) (C := RX12) (T := TX12) (N := 27) hx hb hts (fun _ h0_ => List.mem_cons_of_mem _ (List.mem_append_right _ (List.mem_append_left _ h0_))) tyX12 tyX12_ok nmX12 hown hK hP hD hS 0 rfl rfl 12 (by decide) (hts (.fieldLink RX12 128 "DeadlineShareModel" "taped" "I") (List.mem_cons_of_mem _ (List.mem_append_left _ (List.mem_of_getElem? (i := 1) rfl)))) (fun _ h9 => h9) rfl (by decide +kernel) rfl rfl (Nat.le_of_ble_eq_true rfl) dX12_end_21 (fun H locs hP hD hS => ?_)
      have hP : va_P (dC, dI) vwCl [(h0, .inr (12, [.int 0, .int 0, .ref mr, .ref mt, .ref mw, .ref mu, .ref mp, .ref mi, .ref mk, .ref ms, .int 0, .ref mv, .int nn_, .int 0, .int 0, .int 0, .long 0, .int (-1), .int 0, .ref m1w, .ref m2w, .ref m3w, .ref m4w, .int 0, .long 0, .long 0, .long 0]))] H := hP
      have hD : va_D A [(h0, .inr (12, [.int 0, .int 0, .ref mr, .ref mt, .ref mw, .ref mu, .ref mp, .ref mi, .ref mk, .ref ms, .int 0, .ref mv, .int nn_, .int 0, .int 0, .int 0, .long 0, .int (-1), .int 0, .ref m1w, .ref m2w, .ref m3w, .ref m4w, .int 0, .long 0, .long 0, .long 0]))] := hD
      refine lv_iload_n hx hb dX12_end_24 rfl (lv_at hl 1 rfl) ?_
      have hP9 := hP.sub (ws' := []) [] rfl
      have hD9 := hD.sub (ws' := []) [] (by decide) rfl
      have hK9 := hK.sub (tys' := []) [] rfl
      refine W.widen (k := 0) (n := 0) (Nat.le_of_ble_eq_true rfl) (Nat.le_of_ble_eq_true rfl) ?_
      exact W.iret (v := nn_) hx hb hr (fun t ht hW => ⟨⟨nn_, (), rfl, (by have z0 : ¬ _ := fun h9 => c_1 ((fa_lt _ _).mpr h9); have z1 := (fa_le _ _).mp c_2; have li0 : Int32.toInt 0 = 0 := (by decide); unfold sp_end; (repeat' split) <;> first | rfl | omega | (refine Int32.toInt_inj.mp ?_; omega)), by rw [ht]; exact hP9, va_K.moved hW.alike hK9, hD9⟩, hS.F ht⟩) hS.2.2 dX12_end_25
    · refine lv_iconst (v := (-1)) hx hb dX12_end_17 (by decide) ?_
      have hP9 := hP.sub (ws' := []) [] rfl
      have hD9 := hD.sub (ws' := []) [] (by decide) rfl
      have hK9 := hK.sub (tys' := []) [] rfl
      refine W.widen (k := 0) (n := 0) (Nat.le_of_ble_eq_true rfl) (Nat.le_of_ble_eq_true rfl) ?_
      exact W.iret (v := (-1)) hx hb hr (fun t ht hW => ⟨⟨(-1), (), rfl, (by have z0 : ¬ _ := fun h9 => c_1 ((fa_lt _ _).mpr h9); have z1 : ¬ _ := fun h9 => c_2 ((fa_le _ _).mpr h9); have li0 : Int32.toInt 0 = 0 := (by decide); unfold sp_end; (repeat' split) <;> first | rfl | omega | (refine Int32.toInt_inj.mp ?_; omega)), by rw [ht]; exact hP9, va_K.moved hW.alike hK9, hD9⟩, hS.F ht⟩) hS.2.2 dX12_end_18
def ow_c_X12_tape : List Cond := [.fieldLink RX12 67 "DeadlineShareModel" "thrown" "I", .fieldLink RX12 128 "DeadlineShareModel" "taped" "I", .methodLink RX12 83 yX12_in, .static yX12_in, .initialized RX12]
def wq_c_X12_tape : List Cond := .code yX12_tape cX12_tape 2 (some .int) :: (ow_c_X12_tape ++ (u_ws RX12 TX12 27 ++ (wq_c_X12_in ++ ([] : List Cond))))
theorem tb_c_X12_tape : ∀ w ∈ wq_c_X12_tape, q_g w := by
  unfold wq_c_X12_tape ow_c_X12_tape
  exact q_cons tw_495 (q_app (q_cons tw_488 (q_cons tw_444 (q_cons tw_437 (q_cons tw_436 (q_cons tw_435 q_nil))))) (q_app tu_X12 (q_app tb_c_X12_in q_nil)))
set_option maxHeartbeats 4000000 in
set_option maxRecDepth 100000 in
theorem c_X12_tape (l : Launch) (dC : Nat → ClassId) (dI : Nat → Nat → Nat) (h0 : Nat) (ix : Int32) (mr : Nat) (mt : Nat) (mw : Nat) (mu : Nat) (mp : Nat) (mi : Nat) (mk : Nat) (ms : Nat) (mv : Nat) (m1w : Nat) (m2w : Nat) (m3w : Nat) (m4w : Nat) (sz : Nat) : Met l yX12_tape wq_c_X12_tape ({ frames := 1, cells := 0, slots := 0, locals := 25 } : Room) (va_Pc [.ref h0, .int ix] (fun U => U.heap.size = sz ∧ va_P (dC, dI) vwCl [(h0, .inr (12, [.int 0, .int 0, .ref mr, .ref mt, .ref mw, .ref mu, .ref mp, .ref mi, .ref mk, .ref ms, .int 0, .ref mv, .int 0, .int 0, .int 0, .int 0, .long 0, .int (-1), .int 0, .ref m1w, .ref m2w, .ref m3w, .ref m4w, .int 0, .long 0, .long 0, .long 0]))] U.heap ∧ va_K (dC, dI) vwCl [] U ∧ va_D (fun _ => True) [(h0, .inr (12, [.int 0, .int 0, .ref mr, .ref mt, .ref mw, .ref mu, .ref mp, .ref mi, .ref mk, .ref ms, .int 0, .ref mv, .int 0, .int 0, .int 0, .int 0, .long 0, .int (-1), .int 0, .ref m1w, .ref m2w, .ref m3w, .ref m4w, .int 0, .long 0, .long 0, .long 0]))])) (va_Qi (fun (r : Int32) (_ : Unit) => r = (-1)) (fun (_ : Unit) t => va_P (dC, dI) vwCl [] t.heap ∧ va_K (dC, dI) vwCl [] t ∧ va_D (va_A [(h0, .inr (12, [.int 0, .int 0, .ref mr, .ref mt, .ref mw, .ref mu, .ref mp, .ref mi, .ref mk, .ref ms, .int 0, .ref mv, .int 0, .int 0, .int 0, .int 0, .long 0, .int (-1), .int 0, .ref m1w, .ref m2w, .ref m3w, .ref m4w, .int 0, .long 0, .long 0, .long 0]))] sz) []) (va_A [(h0, .inr (12, [.int 0, .int 0, .ref mr, .ref mt, .ref mw, .ref mu, .ref mp, .ref mi, .ref mk, .ref ms, .int 0, .ref mv, .int 0, .int 0, .int 0, .int 0, .long 0, .int (-1), .int 0, .ref m1w, .ref m2w, .ref m3w, .ref m4w, .int 0, .long 0, .long 0, .long 0]))] sz)) 0 0 (va_A [(h0, .inr (12, [.int 0, .int 0, .ref mr, .ref mt, .ref mw, .ref mu, .ref mp, .ref mi, .ref mk, .ref ms, .int 0, .ref mv, .int 0, .int 0, .int 0, .int 0, .long 0, .int (-1), .int 0, .ref m1w, .ref m2w, .ref m3w, .ref m4w, .int 0, .long 0, .long 0, .long 0]))] sz) := by
  refine Met.ofW (cc := cX12_tape) (maxL := 2) (ret := (some .int)) (by decide) rfl ?_
  intro p e s m args below meth c s₁ B hml hv
  obtain ⟨rfl, hsz, hP, hK, hD0⟩ := hv
  have hx := B.exec
  have hb := B.bytes
  have hr := B.returns
  have hts := atoms_spec (ws := wq_c_X12_tape) B.pre
  have hown : s.vm.findClass RX12 = some m.cls := findClass_of_methodNamed B.named
  have hlocks := B.notSynchronized
  subst hsz
  have hD := hD0.self (sz := s.heap.size)
  obtain ⟨A, hAe⟩ : ∃ A, A = va_A [(h0, .inr (12, [.int 0, .int 0, .ref mr, .ref mt, .ref mw, .ref mu, .ref mp, .ref mi, .ref mk, .ref ms, .int 0, .ref mv, .int 0, .int 0, .int 0, .int 0, .long 0, .int (-1), .int 0, .ref m1w, .ref m2w, .ref m3w, .ref m4w, .int 0, .long 0, .long 0, .long 0]))] s.heap.size := ⟨_, rfl⟩
  rw [← hAe] at hD ⊢
  have hA : ∀ q : Nat, s.heap.size ≤ q → A q := fun q h => by rw [hAe]; exact Or.inr h
  have hS : va_S A s.heap s.heap [] := va_S.rf
  have hP : va_P (dC, dI) vwCl [(h0, .inr (12, [.int 0, .int 0, .ref mr, .ref mt, .ref mw, .ref mu, .ref mp, .ref mi, .ref mk, .ref ms, .int 0, .ref mv, .int 0, .int 0, .int 0, .int 0, .long 0, .int (-1), .int 0, .ref m1w, .ref m2w, .ref m3w, .ref m4w, .int 0, .long 0, .long 0, .long 0]))] s.heap := hP
  have hl := lv_entry ([.ref h0, .int ix]) (n := 2) (Nat.le_of_ble_eq_true rfl)
  rw [lg_entry_eq]
  generalize (lg_sl ([.ref h0, .int ix]) ++ List.replicate (2 - (lg_sl ([.ref h0, .int ix])).length) Slot.unset).toArray = ls at hl ⊢
  have hl : lv_has ls 2 [(0, .ref h0), (1, .int ix)] := hl
  refine lv_aload_n hx hb dX12_tape_0 rfl (lv_at hl 0 rfl) ?_
  refine lv_iconst (v := 0) hx hb dX12_tape_1 (by decide) ?_
  refine va_put (D := (dC, dI)) (ci := 12) (v := .int 0) (ty := .int) (C := RX12) (T := TX12) (N := 27) hx hb hts (fun _ h0_ => List.mem_cons_of_mem _ (List.mem_append_right _ (List.mem_append_left _ h0_))) tyX12 tyX12_ok nmX12 hown hK hP hD hS 0 rfl rfl 0 (by decide) (hts (.fieldLink RX12 67 "DeadlineShareModel" "thrown" "I") (List.mem_cons_of_mem _ (List.mem_append_left _ (List.mem_of_getElem? (i := 0) rfl)))) (fun _ h9 => h9) rfl (by decide +kernel) rfl rfl (Nat.le_of_ble_eq_true rfl) dX12_tape_2 (fun H locs hP hD hS => ?_)
  have hP : va_P (dC, dI) vwCl [(h0, .inr (12, [.int 0, .int 0, .ref mr, .ref mt, .ref mw, .ref mu, .ref mp, .ref mi, .ref mk, .ref ms, .int 0, .ref mv, .int 0, .int 0, .int 0, .int 0, .long 0, .int (-1), .int 0, .ref m1w, .ref m2w, .ref m3w, .ref m4w, .int 0, .long 0, .long 0, .long 0]))] H := hP
  have hD : va_D A [(h0, .inr (12, [.int 0, .int 0, .ref mr, .ref mt, .ref mw, .ref mu, .ref mp, .ref mi, .ref mk, .ref ms, .int 0, .ref mv, .int 0, .int 0, .int 0, .int 0, .long 0, .int (-1), .int 0, .ref m1w, .ref m2w, .ref m3w, .ref m4w, .int 0, .long 0, .long 0, .long 0]))] := hD
  refine lv_iload_n hx hb dX12_tape_5 rfl (lv_at hl 1 rfl) ?_
  refine lv_i2l (v := ix.toInt64) hx hb dX12_tape_6 rfl ?_
  refine lv_lconst (v := 0) hx hb dX12_tape_7 (by decide) ?_
  refine lv_aload_n hx hb dX12_tape_8 rfl (lv_at hl 0 rfl) ?_
  refine va_get (D := (dC, dI)) (ci := 12) (v := .int 0) (C := RX12) (T := TX12) (N := 27) hx hb hts (fun _ h0_ => List.mem_cons_of_mem _ (List.mem_append_right _ (List.mem_append_left _ h0_))) hown hK hP 0 rfl rfl 12 (by decide) (hts (.fieldLink RX12 128 "DeadlineShareModel" "taped" "I") (List.mem_cons_of_mem _ (List.mem_append_left _ (List.mem_of_getElem? (i := 1) rfl)))) (fun _ h9 => h9) rfl dX12_tape_9 ?_
  refine lv_i2l (v := 0) hx hb dX12_tape_12 (by decide) ?_
  refine lv_lconst (v := 1) hx hb dX12_tape_13 (by decide) ?_
  refine lv_lsub hx hb dX12_tape_14 ?_
  refine k_topl (y := (-1)) (by decide) ?_
  have hPc := hP.sub (ws' := []) [] rfl
  have hDc := hD.sub (ws' := []) [] (by decide) rfl
  have hKc := hK.sub (tys' := []) [] rfl
  have hFc := va_free (wc := []) hD hS hA [] rfl
  refine va_calli (va_runS (As := [.long ix.toInt64, .long 0, .long (-1)]) (rest := []) ⟨hx, hb, hml, hown, hts⟩ (c_X12_in l dC dI ix.toInt64 0 (-1) H.size) (va_cwS 3 hts (gi_S (fun w_ h0_ => ⟨List.mem_cons_of_mem _ (List.mem_append_right _ (List.mem_append_right _ (List.mem_append_left _ h0_))), (tb_c_X12_in w_ h0_).2⟩) (List.mem_cons_of_mem _ (List.mem_append_left _ (List.mem_of_getElem? (i := 2) rfl))) (List.mem_cons_of_mem _ (List.mem_append_left _ (List.mem_of_getElem? (i := 3) rfl))) (List.mem_cons_of_mem _ (List.mem_append_left _ (List.mem_of_getElem? (i := 4) rfl)))) rfl rfl rfl (by decide +kernel) ⟨Nat.le_of_ble_eq_true rfl, Nat.le_of_ble_eq_true rfl⟩) ⟨fun a U g mk q => by obtain ⟨q0, q1, qP, qK, qD⟩ := q; exact ⟨q0, q1, qP, va_K.moved (u := U) (U := U.calling g mk a) (Vm.Alike.refl U.vm) qK, qD⟩, fun U hU hW => ⟨rfl, by rw [hU], by rw [hU]; exact hPc, va_K.moved hW.alike hKc, hDc.weaken (fun _ _ _ _ => trivial)⟩⟩ rfl rfl hl.1 rfl (lv_room (Nat.le_of_ble_eq_true rfl)) dX12_tape_15 ⟨Nat.le_of_ble_eq_true rfl, Nat.le_of_ble_eq_true rfl⟩) hS (fun q _ h => hFc q h) hFc (fun r_1 u t H1 locs ht hvm hw hB hz1 hk1 hS => ?_)
  obtain ⟨hP1, hK1, hD1⟩ := hB
  rw [ht] at hP1
  have hK1 := va_K.moved hvm.symm hK1
  obtain ⟨hP, hD⟩ := va_join (wr := [(h0, .inr (12, [.int 0, .int 0, .ref mr, .ref mt, .ref mw, .ref mu, .ref mp, .ref mi, .ref mk, .ref ms, .int 0, .ref mv, .int 0, .int 0, .int 0, .int 0, .long 0, .int (-1), .int 0, .ref m1w, .ref m2w, .ref m3w, .ref m4w, .int 0, .long 0, .long 0, .long 0]))]) (w1 := []) hP hD [] [0] rfl rfl (by decide) (by decide) hk1 hFc hP1 hD1
  generalize H1 = H at hP hS ⊢
  have hP : va_P (dC, dI) vwCl [(h0, .inr (12, [.int 0, .int 0, .ref mr, .ref mt, .ref mw, .ref mu, .ref mp, .ref mi, .ref mk, .ref ms, .int 0, .ref mv, .int 0, .int 0, .int 0, .int 0, .long 0, .int (-1), .int 0, .ref m1w, .ref m2w, .ref m3w, .ref m4w, .int 0, .long 0, .long 0, .long 0]))] H := hP
  have hD : va_D A [(h0, .inr (12, [.int 0, .int 0, .ref mr, .ref mt, .ref mw, .ref mu, .ref mp, .ref mi, .ref mk, .ref ms, .int 0, .ref mv, .int 0, .int 0, .int 0, .int 0, .long 0, .int (-1), .int 0, .ref m1w, .ref m2w, .ref m3w, .ref m4w, .int 0, .long 0, .long 0, .long 0]))] := hD
  refine W.widen (k := 0) (n := 0) (Nat.le_of_ble_eq_true rfl) (Nat.le_of_ble_eq_true rfl) ?_
  have hw : r_1 = sp_in ix.toInt64 0 (-1) := hw
  subst hw
  refine k_topi (y := sp_r ix 0 (-1)) (sp_in_r _ _ _ (by decide) (by decide)) ?_
  refine lv_if_eq (tgt := 30) hx hb dX12_tape_18 (by decide) (fun _ => ?_) (fun c => absurd ((sp_r0 _ _ _).mpr (by skip; omega)) c)
  refine lv_iconst (v := (-1)) hx hb dX12_tape_30 (by decide) ?_
  have hP9 := hP.sub (ws' := []) [] rfl
  have hD9 := hD.sub (ws' := []) [] (by decide) rfl
  have hK9 := hK.sub (tys' := []) [] rfl
  refine W.widen (k := 0) (n := 0) (Nat.le_of_ble_eq_true rfl) (Nat.le_of_ble_eq_true rfl) ?_
  exact W.iret (v := (-1)) hx hb hr (fun t ht hW => ⟨⟨(-1), (), rfl, rfl, by rw [ht]; exact hP9, va_K.moved hW.alike hK9, hD9⟩, hS.F ht⟩) hS.2.2 dX12_tape_31
def ow_c_X12_task : List Cond := [.fieldLink RX12 67 "DeadlineShareModel" "thrown" "I", .constantLong RX12 135 (8), .methodLink RX12 83 yX12_in, .static yX12_in, .initialized RX12, .methodLink RX12 76 yX12_refuse, .instanceMethod yX12_refuse, .selects RX12 yX12_refuse yX12_refuse, .constantLong RX12 137 (20), .fieldLink RX12 16 "DeadlineShareModel" "row" "[J", .methodLink RX12 139 yX12_remember, .instanceMethod yX12_remember, .selects RX12 yX12_remember yX12_remember, .methodLink RX12 87 yX12_at, .static yX12_at, .methodLink RX12 80 yX12_tell, .instanceMethod yX12_tell, .selects RX12 yX12_tell yX12_tell]
def wq_c_X12_task : List Cond := .code yX12_task cX12_task 5 (some .int) :: (ow_c_X12_task ++ (u_ws RX12 TX12 27 ++ (wq_c_X12_in ++ (wq_c_X12_refuse_1 ++ (wq_c_X12_remember ++ (wq_c_X12_at ++ (wq_c_X12_tell ++ ([] : List Cond))))))))
theorem tb_c_X12_task : ∀ w ∈ wq_c_X12_task, q_g w := by
  unfold wq_c_X12_task ow_c_X12_task
  exact q_cons tw_503 (q_app (q_cons tw_488 (q_cons tw_502 (q_cons tw_437 (q_cons tw_436 (q_cons tw_435 (q_cons tw_483 (q_cons tw_482 (q_cons tw_481 (q_cons tw_501 (q_cons tw_425 (q_cons tw_500 (q_cons tw_499 (q_cons tw_498 (q_cons tw_497 (q_cons tw_496 (q_cons tw_486 (q_cons tw_485 (q_cons tw_484 q_nil)))))))))))))))))) (q_app tu_X12 (q_app tb_c_X12_in (q_app tb_c_X12_refuse_1 (q_app tb_c_X12_remember (q_app tb_c_X12_at (q_app tb_c_X12_tell q_nil)))))))
set_option maxHeartbeats 4000000 in
set_option maxRecDepth 100000 in
theorem c_X12_task (l : Launch) (dC : Nat → ClassId) (dI : Nat → Nat → Nat) (h0 : Nat) (wt : Int32) (sl : Int32) (mr : Nat) (mt : Nat) (mw : Nat) (mu : Nat) (mp : Nat) (mi : Nat) (mk : Nat) (ms : Nat) (mv : Nat) (m1w : Nat) (m2w : Nat) (m3w : Nat) (m4w : Nat) (cm1 : ClassId) (cm3 : ClassId) (fw : Nat → Int64) (cm4 : ClassId) (cm8 : ClassId) (sz : Nat) (hw0 : fw 0 = 0) (hw1 : fw 1 = 0) (hw2 : fw 2 = 0) (hw3 : fw 3 = (-1)) (hw4 : fw 4 = (-1)) (hw5 : fw 5 = 0) : Met l yX12_task wq_c_X12_task ({ frames := 1, cells := 0, slots := 0, locals := 25 } : Room) (va_Pc [.ref h0, .int wt, .int sl] (fun U => U.heap.size = sz ∧ va_P (dC, dI) vwCl [(h0, .inr (12, [.int 0, .int 0, .ref mr, .ref mt, .ref mw, .ref mu, .ref mp, .ref mi, .ref mk, .ref ms, .int 0, .ref mv, .int 0, .int 0, .int 0, .int 0, .long 0, .int (-1), .int 0, .ref m1w, .ref m2w, .ref m3w, .ref m4w, .int 0, .long 0, .long 0, .long 0])), (mr, .inl (cm1, 7, .inl (fun _ => 0))), (mw, .inl (cm3, 906, .inr (.inl fw))), (mu, .inl (cm4, 9060, .inr (.inl (fun _ => 0)))), (ms, .inl (cm8, 10, .inl (fun _ => 0)))] U.heap ∧ va_K (dC, dI) vwCl [(cm1, .int), (cm3, .long), (cm4, .long), (cm8, .int)] U ∧ va_D (fun _ => True) [(h0, .inr (12, [.int 0, .int 0, .ref mr, .ref mt, .ref mw, .ref mu, .ref mp, .ref mi, .ref mk, .ref ms, .int 0, .ref mv, .int 0, .int 0, .int 0, .int 0, .long 0, .int (-1), .int 0, .ref m1w, .ref m2w, .ref m3w, .ref m4w, .int 0, .long 0, .long 0, .long 0])), (mr, .inl (cm1, 7, .inl (fun _ => 0))), (mw, .inl (cm3, 906, .inr (.inl fw))), (mu, .inl (cm4, 9060, .inr (.inl (fun _ => 0)))), (ms, .inl (cm8, 10, .inl (fun _ => 0)))])) (va_Qi (fun (r : Int32) (_ : Unit) => r = sp_two wt sl 1 8 1 20 0) (fun (_ : Unit) t => va_P (dC, dI) vwCl [] t.heap ∧ va_K (dC, dI) vwCl [] t ∧ va_D (va_A [(h0, .inr (12, [.int 0, .int 0, .ref mr, .ref mt, .ref mw, .ref mu, .ref mp, .ref mi, .ref mk, .ref ms, .int 0, .ref mv, .int 0, .int 0, .int 0, .int 0, .long 0, .int (-1), .int 0, .ref m1w, .ref m2w, .ref m3w, .ref m4w, .int 0, .long 0, .long 0, .long 0])), (mr, .inl (cm1, 7, .inl (fun _ => 0))), (mw, .inl (cm3, 906, .inr (.inl fw))), (mu, .inl (cm4, 9060, .inr (.inl (fun _ => 0)))), (ms, .inl (cm8, 10, .inl (fun _ => 0)))] sz) []) (va_A [(h0, .inr (12, [.int 0, .int 0, .ref mr, .ref mt, .ref mw, .ref mu, .ref mp, .ref mi, .ref mk, .ref ms, .int 0, .ref mv, .int 0, .int 0, .int 0, .int 0, .long 0, .int (-1), .int 0, .ref m1w, .ref m2w, .ref m3w, .ref m4w, .int 0, .long 0, .long 0, .long 0])), (mr, .inl (cm1, 7, .inl (fun _ => 0))), (mw, .inl (cm3, 906, .inr (.inl fw))), (mu, .inl (cm4, 9060, .inr (.inl (fun _ => 0)))), (ms, .inl (cm8, 10, .inl (fun _ => 0)))] sz)) 0 0 (va_A [(h0, .inr (12, [.int 0, .int 0, .ref mr, .ref mt, .ref mw, .ref mu, .ref mp, .ref mi, .ref mk, .ref ms, .int 0, .ref mv, .int 0, .int 0, .int 0, .int 0, .long 0, .int (-1), .int 0, .ref m1w, .ref m2w, .ref m3w, .ref m4w, .int 0, .long 0, .long 0, .long 0])), (mr, .inl (cm1, 7, .inl (fun _ => 0))), (mw, .inl (cm3, 906, .inr (.inl fw))), (mu, .inl (cm4, 9060, .inr (.inl (fun _ => 0)))), (ms, .inl (cm8, 10, .inl (fun _ => 0)))] sz) := by
  refine Met.ofW (cc := cX12_task) (maxL := 5) (ret := (some .int)) (by decide) rfl ?_
  intro p e s m args below meth c s₁ B hml hv
  obtain ⟨rfl, hsz, hP, hK, hD0⟩ := hv
  have hx := B.exec
  have hb := B.bytes
  have hr := B.returns
  have hts := atoms_spec (ws := wq_c_X12_task) B.pre
  have hown : s.vm.findClass RX12 = some m.cls := findClass_of_methodNamed B.named
  have hlocks := B.notSynchronized
  subst hsz
  have hD := hD0.self (sz := s.heap.size)
  obtain ⟨A, hAe⟩ : ∃ A, A = va_A [(h0, .inr (12, [.int 0, .int 0, .ref mr, .ref mt, .ref mw, .ref mu, .ref mp, .ref mi, .ref mk, .ref ms, .int 0, .ref mv, .int 0, .int 0, .int 0, .int 0, .long 0, .int (-1), .int 0, .ref m1w, .ref m2w, .ref m3w, .ref m4w, .int 0, .long 0, .long 0, .long 0])), (mr, .inl (cm1, 7, .inl (fun _ => 0))), (mw, .inl (cm3, 906, .inr (.inl fw))), (mu, .inl (cm4, 9060, .inr (.inl (fun _ => 0)))), (ms, .inl (cm8, 10, .inl (fun _ => 0)))] s.heap.size := ⟨_, rfl⟩
  rw [← hAe] at hD ⊢
  have hA : ∀ q : Nat, s.heap.size ≤ q → A q := fun q h => by rw [hAe]; exact Or.inr h
  have hS : va_S A s.heap s.heap [] := va_S.rf
  have hP : va_P (dC, dI) vwCl [(h0, .inr (12, [.int 0, .int 0, .ref mr, .ref mt, .ref mw, .ref mu, .ref mp, .ref mi, .ref mk, .ref ms, .int 0, .ref mv, .int 0, .int 0, .int 0, .int 0, .long 0, .int (-1), .int 0, .ref m1w, .ref m2w, .ref m3w, .ref m4w, .int 0, .long 0, .long 0, .long 0])), (mr, .inl (cm1, 7, .inl (fun _ => 0))), (mw, .inl (cm3, 906, .inr (.inl fw))), (mu, .inl (cm4, 9060, .inr (.inl (fun _ => 0)))), (ms, .inl (cm8, 10, .inl (fun _ => 0)))] s.heap := hP
  have hl := lv_entry ([.ref h0, .int wt, .int sl]) (n := 5) (Nat.le_of_ble_eq_true rfl)
  rw [lg_entry_eq]
  generalize (lg_sl ([.ref h0, .int wt, .int sl]) ++ List.replicate (5 - (lg_sl ([.ref h0, .int wt, .int sl])).length) Slot.unset).toArray = ls at hl ⊢
  have hl : lv_has ls 5 [(0, .ref h0), (1, .int wt), (2, .int sl)] := hl
  refine lv_aload_n hx hb dX12_task_0 rfl (lv_at hl 0 rfl) ?_
  refine lv_iconst (v := 0) hx hb dX12_task_1 (by decide) ?_
  refine va_put (D := (dC, dI)) (ci := 12) (v := .int 0) (ty := .int) (C := RX12) (T := TX12) (N := 27) hx hb hts (fun _ h0_ => List.mem_cons_of_mem _ (List.mem_append_right _ (List.mem_append_left _ h0_))) tyX12 tyX12_ok nmX12 hown hK hP hD hS 0 rfl rfl 0 (by decide) (hts (.fieldLink RX12 67 "DeadlineShareModel" "thrown" "I") (List.mem_cons_of_mem _ (List.mem_append_left _ (List.mem_of_getElem? (i := 0) rfl)))) (fun _ h9 => h9) rfl (by decide +kernel) rfl rfl (Nat.le_of_ble_eq_true rfl) dX12_task_2 (fun H locs hP hD hS => ?_)
  have hP : va_P (dC, dI) vwCl [(h0, .inr (12, [.int 0, .int 0, .ref mr, .ref mt, .ref mw, .ref mu, .ref mp, .ref mi, .ref mk, .ref ms, .int 0, .ref mv, .int 0, .int 0, .int 0, .int 0, .long 0, .int (-1), .int 0, .ref m1w, .ref m2w, .ref m3w, .ref m4w, .int 0, .long 0, .long 0, .long 0])), (mr, .inl (cm1, 7, .inl (fun _ => 0))), (mw, .inl (cm3, 906, .inr (.inl fw))), (mu, .inl (cm4, 9060, .inr (.inl (fun _ => 0)))), (ms, .inl (cm8, 10, .inl (fun _ => 0)))] H := hP
  have hD : va_D A [(h0, .inr (12, [.int 0, .int 0, .ref mr, .ref mt, .ref mw, .ref mu, .ref mp, .ref mi, .ref mk, .ref ms, .int 0, .ref mv, .int 0, .int 0, .int 0, .int 0, .long 0, .int (-1), .int 0, .ref m1w, .ref m2w, .ref m3w, .ref m4w, .int 0, .long 0, .long 0, .long 0])), (mr, .inl (cm1, 7, .inl (fun _ => 0))), (mw, .inl (cm3, 906, .inr (.inl fw))), (mu, .inl (cm4, 9060, .inr (.inl (fun _ => 0)))), (ms, .inl (cm8, 10, .inl (fun _ => 0)))] := hD
  refine lv_iload_n hx hb dX12_task_5 rfl (lv_at hl 1 rfl) ?_
  refine lv_i2l (v := wt.toInt64) hx hb dX12_task_6 rfl ?_
  refine lv_lconst (v := 1) hx hb dX12_task_7 (by decide) ?_
  refine lv_ldc2 hx hb hown (hts (.constantLong RX12 135 (8)) (List.mem_cons_of_mem _ (List.mem_append_left _ (List.mem_of_getElem? (i := 1) rfl)))) dX12_task_8 ?_
  have hPc := hP.sub (ws' := []) [] rfl
  have hDc := hD.sub (ws' := []) [] (by decide) rfl
  have hKc := hK.sub (tys' := []) [] rfl
  have hFc := va_free (wc := []) hD hS hA [] rfl
  refine va_calli (va_runS (As := [.long wt.toInt64, .long 1, .long 8]) (rest := []) ⟨hx, hb, hml, hown, hts⟩ (c_X12_in l dC dI wt.toInt64 1 8 H.size) (va_cwS 3 hts (gi_S (fun w_ h0_ => ⟨List.mem_cons_of_mem _ (List.mem_append_right _ (List.mem_append_right _ (List.mem_append_left _ h0_))), (tb_c_X12_in w_ h0_).2⟩) (List.mem_cons_of_mem _ (List.mem_append_left _ (List.mem_of_getElem? (i := 2) rfl))) (List.mem_cons_of_mem _ (List.mem_append_left _ (List.mem_of_getElem? (i := 3) rfl))) (List.mem_cons_of_mem _ (List.mem_append_left _ (List.mem_of_getElem? (i := 4) rfl)))) rfl rfl rfl (by decide +kernel) ⟨Nat.le_of_ble_eq_true rfl, Nat.le_of_ble_eq_true rfl⟩) ⟨fun a U g mk q => by obtain ⟨q0, q1, qP, qK, qD⟩ := q; exact ⟨q0, q1, qP, va_K.moved (u := U) (U := U.calling g mk a) (Vm.Alike.refl U.vm) qK, qD⟩, fun U hU hW => ⟨rfl, by rw [hU], by rw [hU]; exact hPc, va_K.moved hW.alike hKc, hDc.weaken (fun _ _ _ _ => trivial)⟩⟩ rfl rfl hl.1 rfl (lv_room (Nat.le_of_ble_eq_true rfl)) dX12_task_11 ⟨Nat.le_of_ble_eq_true rfl, Nat.le_of_ble_eq_true rfl⟩) hS (fun q _ h => hFc q h) hFc (fun r_1 u t H1 locs ht hvm hw hB hz1 hk1 hS => ?_)
  obtain ⟨hP1, hK1, hD1⟩ := hB
  rw [ht] at hP1
  have hK1 := va_K.moved hvm.symm hK1
  obtain ⟨hP, hD⟩ := va_join (wr := [(h0, .inr (12, [.int 0, .int 0, .ref mr, .ref mt, .ref mw, .ref mu, .ref mp, .ref mi, .ref mk, .ref ms, .int 0, .ref mv, .int 0, .int 0, .int 0, .int 0, .long 0, .int (-1), .int 0, .ref m1w, .ref m2w, .ref m3w, .ref m4w, .int 0, .long 0, .long 0, .long 0])), (mr, .inl (cm1, 7, .inl (fun _ => 0))), (mw, .inl (cm3, 906, .inr (.inl fw))), (mu, .inl (cm4, 9060, .inr (.inl (fun _ => 0)))), (ms, .inl (cm8, 10, .inl (fun _ => 0)))]) (w1 := []) hP hD [] [0, 1, 2, 3, 4] rfl rfl (by decide) (by decide) hk1 hFc hP1 hD1
  generalize H1 = H at hP hS ⊢
  have hP : va_P (dC, dI) vwCl [(h0, .inr (12, [.int 0, .int 0, .ref mr, .ref mt, .ref mw, .ref mu, .ref mp, .ref mi, .ref mk, .ref ms, .int 0, .ref mv, .int 0, .int 0, .int 0, .int 0, .long 0, .int (-1), .int 0, .ref m1w, .ref m2w, .ref m3w, .ref m4w, .int 0, .long 0, .long 0, .long 0])), (mr, .inl (cm1, 7, .inl (fun _ => 0))), (mw, .inl (cm3, 906, .inr (.inl fw))), (mu, .inl (cm4, 9060, .inr (.inl (fun _ => 0)))), (ms, .inl (cm8, 10, .inl (fun _ => 0)))] H := hP
  have hD : va_D A [(h0, .inr (12, [.int 0, .int 0, .ref mr, .ref mt, .ref mw, .ref mu, .ref mp, .ref mi, .ref mk, .ref ms, .int 0, .ref mv, .int 0, .int 0, .int 0, .int 0, .long 0, .int (-1), .int 0, .ref m1w, .ref m2w, .ref m3w, .ref m4w, .int 0, .long 0, .long 0, .long 0])), (mr, .inl (cm1, 7, .inl (fun _ => 0))), (mw, .inl (cm3, 906, .inr (.inl fw))), (mu, .inl (cm4, 9060, .inr (.inl (fun _ => 0)))), (ms, .inl (cm8, 10, .inl (fun _ => 0)))] := hD
  refine W.widen (k := 0) (n := 0) (Nat.le_of_ble_eq_true rfl) (Nat.le_of_ble_eq_true rfl) ?_
  have hw : r_1 = sp_in wt.toInt64 1 8 := hw
  subst hw
  refine k_topi (y := sp_r wt 1 8) (sp_in_r _ _ _ (by decide) (by decide)) ?_
  refine lv_if_eq (tgt := 29) hx hb dX12_task_14 (by decide) (fun c_2 => ?_) (fun c_2 => ?_)
  · refine lv_aload_n hx hb dX12_task_29 rfl (lv_at hl 0 rfl) ?_
    refine lv_iconst (v := (-1)) hx hb dX12_task_30 (by decide) ?_
    have hPc := hP.sub (ws' := [(h0, .inr (12, [.int 0, .int 0, .ref mr, .ref mt, .ref mw, .ref mu, .ref mp, .ref mi, .ref mk, .ref ms, .int 0, .ref mv, .int 0, .int 0, .int 0, .int 0, .long 0, .int (-1), .int 0, .ref m1w, .ref m2w, .ref m3w, .ref m4w, .int 0, .long 0, .long 0, .long 0])), (mr, .inl (cm1, 7, .inl (fun _ => 0)))]) [0, 1] rfl
    have hDc := hD.sub (ws' := [(h0, .inr (12, [.int 0, .int 0, .ref mr, .ref mt, .ref mw, .ref mu, .ref mp, .ref mi, .ref mk, .ref ms, .int 0, .ref mv, .int 0, .int 0, .int 0, .int 0, .long 0, .int (-1), .int 0, .ref m1w, .ref m2w, .ref m3w, .ref m4w, .int 0, .long 0, .long 0, .long 0])), (mr, .inl (cm1, 7, .inl (fun _ => 0)))]) [0, 1] (by decide) rfl
    have hKc := hK.sub (tys' := [(cm1, .int)]) [0] rfl
    have hFc := va_free (wc := [(h0, .inr (12, [.int 0, .int 0, .ref mr, .ref mt, .ref mw, .ref mu, .ref mp, .ref mi, .ref mk, .ref ms, .int 0, .ref mv, .int 0, .int 0, .int 0, .int 0, .long 0, .int (-1), .int 0, .ref m1w, .ref m2w, .ref m3w, .ref m4w, .int 0, .long 0, .long 0, .long 0])), (mr, .inl (cm1, 7, .inl (fun _ => 0)))]) hD hS hA [0, 1] rfl
    refine va_calli (va_runV (As := [.int (-1)]) (rest := []) ⟨hx, hb, hml, hown, hts⟩ (c_X12_refuse_1 l dC dI h0 mr mt mw mu mp mi mk ms mv m1w m2w m3w m4w cm1 H.size) (cwV 1 hts (gi_V (fun w_ h0_ => ⟨List.mem_cons_of_mem _ (List.mem_append_right _ (List.mem_append_right _ (List.mem_append_right _ (List.mem_append_left _ h0_)))), (tb_c_X12_refuse_1 w_ h0_).2⟩) (List.mem_cons_of_mem _ (List.mem_append_left _ (List.mem_of_getElem? (i := 5) rfl))) (List.mem_cons_of_mem _ (List.mem_append_left _ (List.mem_of_getElem? (i := 6) rfl))) (List.mem_cons_of_mem _ (List.mem_append_left _ (List.mem_of_getElem? (i := 7) rfl))) (List.mem_cons_of_mem _ (List.mem_append_left _ (List.mem_of_getElem? (i := 4) rfl)))) rfl rfl rfl (by decide +kernel) ⟨Nat.le_of_ble_eq_true rfl, Nat.le_of_ble_eq_true rfl⟩) ⟨fun a U g mk q => by obtain ⟨q0, q1, qP, qK, qD⟩ := q; exact ⟨q0, q1, qP, va_K.moved (u := U) (U := U.calling g mk a) (Vm.Alike.refl U.vm) qK, qD⟩, va_recv hKc hPc (ci := 12) (q0 := 0) rfl rfl, fun U hU hW => ⟨rfl, by rw [hU], by rw [hU]; exact hPc, va_K.moved hW.alike hKc, hDc.weaken (fun _ _ _ _ => trivial)⟩⟩ rfl rfl hl.1 rfl (lv_room (Nat.le_of_ble_eq_true rfl)) dX12_task_31 ⟨Nat.le_of_ble_eq_true rfl, Nat.le_of_ble_eq_true rfl⟩) hS (fun q _ h => hFc q h) hFc (fun r_3 u t H1 locs ht hvm hw hB hz1 hk1 hS => ?_)
    obtain ⟨hP1, hK1, hD1⟩ := hB
    rw [ht] at hP1
    have hK1 := va_K.moved hvm.symm hK1
    obtain ⟨hP, hD⟩ := va_join (wr := [(mw, .inl (cm3, 906, .inr (.inl fw))), (mu, .inl (cm4, 9060, .inr (.inl (fun _ => 0)))), (ms, .inl (cm8, 10, .inl (fun _ => 0)))]) (w1 := []) hP hD [0, 1] [2, 3, 4] rfl rfl (by decide) (by decide) hk1 hFc hP1 hD1
    generalize H1 = H at hP hS ⊢
    have hP : va_P (dC, dI) vwCl [(mw, .inl (cm3, 906, .inr (.inl fw))), (mu, .inl (cm4, 9060, .inr (.inl (fun _ => 0)))), (ms, .inl (cm8, 10, .inl (fun _ => 0)))] H := hP
    have hD : va_D A [(mw, .inl (cm3, 906, .inr (.inl fw))), (mu, .inl (cm4, 9060, .inr (.inl (fun _ => 0)))), (ms, .inl (cm8, 10, .inl (fun _ => 0)))] := hD
    refine W.widen (k := 0) (n := 0) (Nat.le_of_ble_eq_true rfl) (Nat.le_of_ble_eq_true rfl) ?_
    have hw : r_3 = (-1) := hw
    subst hw
    have hP9 := hP.sub (ws' := []) [] rfl
    have hD9 := hD.sub (ws' := []) [] (by decide) rfl
    have hK9 := hK.sub (tys' := []) [] rfl
    refine W.widen (k := 0) (n := 0) (Nat.le_of_ble_eq_true rfl) (Nat.le_of_ble_eq_true rfl) ?_
    exact W.iret (v := (-1)) hx hb hr (fun t ht hW => ⟨⟨(-1), (), rfl, (by have z0 := (sp_r0 _ _ _).mp c_2; unfold sp_two; (repeat' split) <;> first | rfl | omega | (refine Int32.toInt_inj.mp ?_; omega)), by rw [ht]; exact hP9, va_K.moved hW.alike hK9, hD9⟩, hS.F ht⟩) hS.2.2 dX12_task_34
  · refine lv_iload_n hx hb dX12_task_17 rfl (lv_at hl 2 rfl) ?_
    refine lv_i2l (v := sl.toInt64) hx hb dX12_task_18 rfl ?_
    refine lv_lconst (v := 1) hx hb dX12_task_19 (by decide) ?_
    refine lv_ldc2 hx hb hown (hts (.constantLong RX12 137 (20)) (List.mem_cons_of_mem _ (List.mem_append_left _ (List.mem_of_getElem? (i := 8) rfl)))) dX12_task_20 ?_
    have hPc := hP.sub (ws' := []) [] rfl
    have hDc := hD.sub (ws' := []) [] (by decide) rfl
    have hKc := hK.sub (tys' := []) [] rfl
    have hFc := va_free (wc := []) hD hS hA [] rfl
    refine va_calli (va_runS (As := [.long sl.toInt64, .long 1, .long 20]) (rest := []) ⟨hx, hb, hml, hown, hts⟩ (c_X12_in l dC dI sl.toInt64 1 20 H.size) (va_cwS 3 hts (gi_S (fun w_ h0_ => ⟨List.mem_cons_of_mem _ (List.mem_append_right _ (List.mem_append_right _ (List.mem_append_left _ h0_))), (tb_c_X12_in w_ h0_).2⟩) (List.mem_cons_of_mem _ (List.mem_append_left _ (List.mem_of_getElem? (i := 2) rfl))) (List.mem_cons_of_mem _ (List.mem_append_left _ (List.mem_of_getElem? (i := 3) rfl))) (List.mem_cons_of_mem _ (List.mem_append_left _ (List.mem_of_getElem? (i := 4) rfl)))) rfl rfl rfl (by decide +kernel) ⟨Nat.le_of_ble_eq_true rfl, Nat.le_of_ble_eq_true rfl⟩) ⟨fun a U g mk q => by obtain ⟨q0, q1, qP, qK, qD⟩ := q; exact ⟨q0, q1, qP, va_K.moved (u := U) (U := U.calling g mk a) (Vm.Alike.refl U.vm) qK, qD⟩, fun U hU hW => ⟨rfl, by rw [hU], by rw [hU]; exact hPc, va_K.moved hW.alike hKc, hDc.weaken (fun _ _ _ _ => trivial)⟩⟩ rfl rfl hl.1 rfl (lv_room (Nat.le_of_ble_eq_true rfl)) dX12_task_23 ⟨Nat.le_of_ble_eq_true rfl, Nat.le_of_ble_eq_true rfl⟩) hS (fun q _ h => hFc q h) hFc (fun r_4 u t H1 locs ht hvm hw hB hz1 hk1 hS => ?_)
    obtain ⟨hP1, hK1, hD1⟩ := hB
    rw [ht] at hP1
    have hK1 := va_K.moved hvm.symm hK1
    obtain ⟨hP, hD⟩ := va_join (wr := [(h0, .inr (12, [.int 0, .int 0, .ref mr, .ref mt, .ref mw, .ref mu, .ref mp, .ref mi, .ref mk, .ref ms, .int 0, .ref mv, .int 0, .int 0, .int 0, .int 0, .long 0, .int (-1), .int 0, .ref m1w, .ref m2w, .ref m3w, .ref m4w, .int 0, .long 0, .long 0, .long 0])), (mr, .inl (cm1, 7, .inl (fun _ => 0))), (mw, .inl (cm3, 906, .inr (.inl fw))), (mu, .inl (cm4, 9060, .inr (.inl (fun _ => 0)))), (ms, .inl (cm8, 10, .inl (fun _ => 0)))]) (w1 := []) hP hD [] [0, 1, 2, 3, 4] rfl rfl (by decide) (by decide) hk1 hFc hP1 hD1
    generalize H1 = H at hP hS ⊢
    have hP : va_P (dC, dI) vwCl [(h0, .inr (12, [.int 0, .int 0, .ref mr, .ref mt, .ref mw, .ref mu, .ref mp, .ref mi, .ref mk, .ref ms, .int 0, .ref mv, .int 0, .int 0, .int 0, .int 0, .long 0, .int (-1), .int 0, .ref m1w, .ref m2w, .ref m3w, .ref m4w, .int 0, .long 0, .long 0, .long 0])), (mr, .inl (cm1, 7, .inl (fun _ => 0))), (mw, .inl (cm3, 906, .inr (.inl fw))), (mu, .inl (cm4, 9060, .inr (.inl (fun _ => 0)))), (ms, .inl (cm8, 10, .inl (fun _ => 0)))] H := hP
    have hD : va_D A [(h0, .inr (12, [.int 0, .int 0, .ref mr, .ref mt, .ref mw, .ref mu, .ref mp, .ref mi, .ref mk, .ref ms, .int 0, .ref mv, .int 0, .int 0, .int 0, .int 0, .long 0, .int (-1), .int 0, .ref m1w, .ref m2w, .ref m3w, .ref m4w, .int 0, .long 0, .long 0, .long 0])), (mr, .inl (cm1, 7, .inl (fun _ => 0))), (mw, .inl (cm3, 906, .inr (.inl fw))), (mu, .inl (cm4, 9060, .inr (.inl (fun _ => 0)))), (ms, .inl (cm8, 10, .inl (fun _ => 0)))] := hD
    refine W.widen (k := 0) (n := 0) (Nat.le_of_ble_eq_true rfl) (Nat.le_of_ble_eq_true rfl) ?_
    have hw : r_4 = sp_in sl.toInt64 1 20 := hw
    subst hw
    refine k_topi (y := sp_r sl 1 20) (sp_in_r _ _ _ (by decide) (by decide)) ?_
    refine lv_if_ne (tgt := 35) hx hb dX12_task_26 (by decide) (fun c_5 => ?_) (fun c_5 => ?_)
    · refine lv_aload_n hx hb dX12_task_35 rfl (lv_at hl 0 rfl) ?_
      refine va_get (D := (dC, dI)) (ci := 12) (v := .ref mw) (C := RX12) (T := TX12) (N := 27) hx hb hts (fun _ h0_ => List.mem_cons_of_mem _ (List.mem_append_right _ (List.mem_append_left _ h0_))) hown hK hP 0 rfl rfl 4 (by decide) (hts (.fieldLink RX12 16 "DeadlineShareModel" "row" "[J") (List.mem_cons_of_mem _ (List.mem_append_left _ (List.mem_of_getElem? (i := 9) rfl)))) (fun _ h9 => h9) rfl dX12_task_36 ?_
      refine lv_iconst (v := 0) hx hb dX12_task_39 (by decide) ?_
      refine va_lald hx hb hK hP 2 1 rfl rfl (by unfold vp_in; decide) dX12_task_40 ?_
      refine k_topl (y := 0) ((congrArg fw (show Int32.toNatClampNeg 0 = 0 by decide)).trans hw0) ?_
      refine lv_l2i (v := 0) hx hb dX12_task_41 (by decide) ?_
      refine lv_istore_n (lv' := [(3, .int 0), (0, .ref h0), (1, .int wt), (2, .int sl)]) hx hb dX12_task_42 rfl hl (by decide) rfl (fun ls hl => ?_)
      refine lv_iload_n hx hb dX12_task_43 rfl (lv_at hl 0 rfl) ?_
      refine lv_bipush (v := 12) hx hb dX12_task_44 (by decide) ?_
      refine lv_icmp_ne (tgt := 56) hx hb dX12_task_46 (by decide) (fun _ => ?_) (fun c => absurd c (by decide))
      refine lv_aload_n hx hb dX12_task_56 rfl (lv_at hl 1 rfl) ?_
      refine lv_iconst (v := 0) hx hb dX12_task_57 (by decide) ?_
      have hPc := hP.sub (ws' := [(h0, .inr (12, [.int 0, .int 0, .ref mr, .ref mt, .ref mw, .ref mu, .ref mp, .ref mi, .ref mk, .ref ms, .int 0, .ref mv, .int 0, .int 0, .int 0, .int 0, .long 0, .int (-1), .int 0, .ref m1w, .ref m2w, .ref m3w, .ref m4w, .int 0, .long 0, .long 0, .long 0])), (mw, .inl (cm3, 906, .inr (.inl fw))), (mu, .inl (cm4, 9060, .inr (.inl (fun _ => 0)))), (ms, .inl (cm8, 10, .inl (fun _ => 0)))]) [0, 2, 3, 4] rfl
      have hDc := hD.sub (ws' := [(h0, .inr (12, [.int 0, .int 0, .ref mr, .ref mt, .ref mw, .ref mu, .ref mp, .ref mi, .ref mk, .ref ms, .int 0, .ref mv, .int 0, .int 0, .int 0, .int 0, .long 0, .int (-1), .int 0, .ref m1w, .ref m2w, .ref m3w, .ref m4w, .int 0, .long 0, .long 0, .long 0])), (mw, .inl (cm3, 906, .inr (.inl fw))), (mu, .inl (cm4, 9060, .inr (.inl (fun _ => 0)))), (ms, .inl (cm8, 10, .inl (fun _ => 0)))]) [0, 2, 3, 4] (by decide) rfl
      have hKc := hK.sub (tys' := [(cm3, .long), (cm4, .long), (cm8, .int)]) [1, 2, 3] rfl
      have hFc := va_free (wc := [(h0, .inr (12, [.int 0, .int 0, .ref mr, .ref mt, .ref mw, .ref mu, .ref mp, .ref mi, .ref mk, .ref ms, .int 0, .ref mv, .int 0, .int 0, .int 0, .int 0, .long 0, .int (-1), .int 0, .ref m1w, .ref m2w, .ref m3w, .ref m4w, .int 0, .long 0, .long 0, .long 0])), (mw, .inl (cm3, 906, .inr (.inl fw))), (mu, .inl (cm4, 9060, .inr (.inl (fun _ => 0)))), (ms, .inl (cm8, 10, .inl (fun _ => 0)))]) hD hS hA [0, 2, 3, 4] rfl
      refine va_callv (va_runV (As := [.int 0]) (rest := []) ⟨hx, hb, hml, hown, hts⟩ (c_X12_remember l dC dI h0 0 mr mt mw mu mp mi mk ms mv m1w m2w m3w m4w cm3 fw cm4 cm8 H.size) (cwV 1 hts (gi_V (fun w_ h0_ => ⟨List.mem_cons_of_mem _ (List.mem_append_right _ (List.mem_append_right _ (List.mem_append_right _ (List.mem_append_right _ (List.mem_append_left _ h0_))))), (tb_c_X12_remember w_ h0_).2⟩) (List.mem_cons_of_mem _ (List.mem_append_left _ (List.mem_of_getElem? (i := 10) rfl))) (List.mem_cons_of_mem _ (List.mem_append_left _ (List.mem_of_getElem? (i := 11) rfl))) (List.mem_cons_of_mem _ (List.mem_append_left _ (List.mem_of_getElem? (i := 12) rfl))) (List.mem_cons_of_mem _ (List.mem_append_left _ (List.mem_of_getElem? (i := 4) rfl)))) rfl rfl rfl (by decide +kernel) ⟨Nat.le_of_ble_eq_true rfl, Nat.le_of_ble_eq_true rfl⟩) ⟨fun a U g mk q => by obtain ⟨q0, q1, qP, qK, qD⟩ := q; exact ⟨q0, q1, qP, va_K.moved (u := U) (U := U.calling g mk a) (Vm.Alike.refl U.vm) qK, qD⟩, va_recv hKc hPc (ci := 12) (q0 := 0) rfl rfl, fun U hU hW => ⟨rfl, by rw [hU], by rw [hU]; exact hPc, va_K.moved hW.alike hKc, hDc.weaken (fun _ _ _ _ => trivial)⟩⟩ rfl rfl hl.1 rfl (lv_room (Nat.le_of_ble_eq_true rfl)) dX12_task_58 ⟨Nat.le_of_ble_eq_true rfl, Nat.le_of_ble_eq_true rfl⟩) hS (fun q _ h => hFc q h) hFc (fun u t H1 locs ht hvm hw hB hz1 hk1 hS => ?_)
      obtain ⟨hP1, hK1, hD1⟩ := hB
      rw [ht] at hP1
      have hK1 := va_K.moved hvm.symm hK1
      obtain ⟨hP, hD⟩ := va_join (wr := [(mr, .inl (cm1, 7, .inl (fun _ => 0)))]) (w1 := [(h0, .inr (12, [.int 0, .int 0, .ref mr, .ref mt, .ref mw, .ref mu, .ref mp, .ref mi, .ref mk, .ref ms, .int 1, .ref mv, .int 0, .int 0, .int 0, .int 0, .long 0, .int (-1), .int 0, .ref m1w, .ref m2w, .ref m3w, .ref m4w, .int 0, .long 0, .long 0, .long 0])), (mw, .inl (cm3, 906, .inr (.inl fw)))]) hP hD [0, 2, 3, 4] [1] rfl rfl (by decide) (by decide) hk1 hFc hP1 hD1
      generalize H1 = H at hP hS ⊢
      have hP : va_P (dC, dI) vwCl [(mr, .inl (cm1, 7, .inl (fun _ => 0))), (h0, .inr (12, [.int 0, .int 0, .ref mr, .ref mt, .ref mw, .ref mu, .ref mp, .ref mi, .ref mk, .ref ms, .int 1, .ref mv, .int 0, .int 0, .int 0, .int 0, .long 0, .int (-1), .int 0, .ref m1w, .ref m2w, .ref m3w, .ref m4w, .int 0, .long 0, .long 0, .long 0])), (mw, .inl (cm3, 906, .inr (.inl fw)))] H := hP
      have hD : va_D A [(mr, .inl (cm1, 7, .inl (fun _ => 0))), (h0, .inr (12, [.int 0, .int 0, .ref mr, .ref mt, .ref mw, .ref mu, .ref mp, .ref mi, .ref mk, .ref ms, .int 1, .ref mv, .int 0, .int 0, .int 0, .int 0, .long 0, .int (-1), .int 0, .ref m1w, .ref m2w, .ref m3w, .ref m4w, .int 0, .long 0, .long 0, .long 0])), (mw, .inl (cm3, 906, .inr (.inl fw)))] := hD
      refine W.widen (k := 0) (n := 0) (Nat.le_of_ble_eq_true rfl) (Nat.le_of_ble_eq_true rfl) ?_
      refine lv_iconst (v := 0) hx hb dX12_task_61 (by decide) ?_
      refine lv_istore (lv' := [(4, .int 0), (3, .int 0), (0, .ref h0), (1, .int wt), (2, .int sl)]) hx hb dX12_task_62 hl (by decide) rfl (fun ls hl => ?_)
      have key : ∀ (nn ii : Nat) (fq : Nat → Int64) (H : Heap) (locs : List Loc) (ls : Array Slot), ii + nn = 43 → fq 0 = 0 → va_P (dC, dI) vwCl [(mr, .inl (cm1, 7, .inl (fun _ => 0))), (h0, .inr (12, [.int 0, .int 0, .ref mr, .ref mt, .ref mw, .ref mu, .ref mp, .ref mi, .ref mk, .ref ms, .int 1, .ref mv, .int 0, .int 0, .int 0, .int 0, .long 0, .int (-1), .int 0, .ref m1w, .ref m2w, .ref m3w, .ref m4w, .int 0, .long 0, .long 0, .long 0])), (mw, .inl (cm3, 906, .inr (.inl fq)))] H → va_D A [(mr, .inl (cm1, 7, .inl (fun _ => 0))), (h0, .inr (12, [.int 0, .int 0, .ref mr, .ref mt, .ref mw, .ref mu, .ref mp, .ref mi, .ref mk, .ref ms, .int 1, .ref mv, .int 0, .int 0, .int 0, .int 0, .long 0, .int (-1), .int 0, .ref m1w, .ref m2w, .ref m3w, .ref m4w, .int 0, .long 0, .long 0, .long 0])), (mw, .inl (cm3, 906, .inr (.inl fq)))] → va_S A s.heap H locs → lv_has ls 5 [(4, .int (nI ii)), (3, .int 0), (0, .ref h0), (1, .int wt), (2, .int sl)] → W p l e (headSpec wq_c_X12_task ({ frames := 1, cells := 0, slots := 0, locals := 25 } : Room)).room s m ([.ref h0, .int wt, .int sl].toArray) below meth c H locs 0 0 (MQ below (va_Qi (fun (r : Int32) (_ : Unit) => r = sp_two wt sl 1 8 1 20 0) (fun (_ : Unit) t => va_P (dC, dI) vwCl [] t.heap ∧ va_K (dC, dI) vwCl [] t ∧ va_D A []) A) ([.ref h0, .int wt, .int sl].toArray) s 0 0 A) (F0 m 64 ls []) := by
        intro nn
        induction nn with
        | zero =>
          intro ii fq H locs ls hin hf64_0 hP hD hS hl
          have hiB : ii = 43 := by omega
          refine lv_iload hx hb dX12_task_64 (lv_at hl 0 rfl) ?_
          refine lv_bipush (v := 43) hx hb dX12_task_66 (by decide) ?_
          refine lv_icmp_ge (tgt := 90) hx hb dX12_task_68 (by decide) (fun _ => ?_) (fun c => absurd (nI_le (a := 43) (b := ii) (by omega) (by omega)) c)
          refine lv_aload_n hx hb dX12_task_90 rfl (lv_at hl 2 rfl) ?_
          refine va_get (D := (dC, dI)) (ci := 12) (v := .ref mw) (C := RX12) (T := TX12) (N := 27) hx hb hts (fun _ h0_ => List.mem_cons_of_mem _ (List.mem_append_right _ (List.mem_append_left _ h0_))) hown hK hP 1 rfl rfl 4 (by decide) (hts (.fieldLink RX12 16 "DeadlineShareModel" "row" "[J") (List.mem_cons_of_mem _ (List.mem_append_left _ (List.mem_of_getElem? (i := 9) rfl)))) (fun _ h9 => h9) rfl dX12_task_91 ?_
          refine lv_iload_n hx hb dX12_task_94 rfl (lv_at hl 1 rfl) ?_
          have hPc := hP.sub (ws' := []) [] rfl
          have hDc := hD.sub (ws' := []) [] (by decide) rfl
          have hKc := hK.sub (tys' := []) [] rfl
          have hFc := va_free (wc := []) hD hS hA [] rfl
          refine va_calli (va_runS (As := [.int 0]) (rest := [.ref mw]) ⟨hx, hb, hml, hown, hts⟩ (c_X12_at l dC dI H.size) (va_cwS 1 hts (gi_S (fun w_ h0_ => ⟨List.mem_cons_of_mem _ (List.mem_append_right _ (List.mem_append_right _ (List.mem_append_right _ (List.mem_append_right _ (List.mem_append_right _ (List.mem_append_left _ h0_)))))), (tb_c_X12_at w_ h0_).2⟩) (List.mem_cons_of_mem _ (List.mem_append_left _ (List.mem_of_getElem? (i := 13) rfl))) (List.mem_cons_of_mem _ (List.mem_append_left _ (List.mem_of_getElem? (i := 14) rfl))) (List.mem_cons_of_mem _ (List.mem_append_left _ (List.mem_of_getElem? (i := 4) rfl)))) rfl rfl rfl (by decide +kernel) ⟨Nat.le_of_ble_eq_true rfl, Nat.le_of_ble_eq_true rfl⟩) ⟨fun a U g mk q => by obtain ⟨q0, q1, qP, qK, qD⟩ := q; exact ⟨q0, q1, qP, va_K.moved (u := U) (U := U.calling g mk a) (Vm.Alike.refl U.vm) qK, qD⟩, fun U hU hW => ⟨rfl, by rw [hU], by rw [hU]; exact hPc, va_K.moved hW.alike hKc, hDc.weaken (fun _ _ _ _ => trivial)⟩⟩ rfl rfl hl.1 rfl (lv_room (Nat.le_of_ble_eq_true rfl)) dX12_task_95 ⟨Nat.le_of_ble_eq_true rfl, Nat.le_of_ble_eq_true rfl⟩) hS (fun q _ h => hFc q h) hFc (fun r_6 u t H1 locs ht hvm hw hB hz1 hk1 hS => ?_)
          obtain ⟨hP1, hK1, hD1⟩ := hB
          rw [ht] at hP1
          have hK1 := va_K.moved hvm.symm hK1
          obtain ⟨hP, hD⟩ := va_join (wr := [(mr, .inl (cm1, 7, .inl (fun _ => 0))), (h0, .inr (12, [.int 0, .int 0, .ref mr, .ref mt, .ref mw, .ref mu, .ref mp, .ref mi, .ref mk, .ref ms, .int 1, .ref mv, .int 0, .int 0, .int 0, .int 0, .long 0, .int (-1), .int 0, .ref m1w, .ref m2w, .ref m3w, .ref m4w, .int 0, .long 0, .long 0, .long 0])), (mw, .inl (cm3, 906, .inr (.inl fq)))]) (w1 := []) hP hD [] [0, 1, 2] rfl rfl (by decide) (by decide) hk1 hFc hP1 hD1
          generalize H1 = H at hP hS ⊢
          have hP : va_P (dC, dI) vwCl [(mr, .inl (cm1, 7, .inl (fun _ => 0))), (h0, .inr (12, [.int 0, .int 0, .ref mr, .ref mt, .ref mw, .ref mu, .ref mp, .ref mi, .ref mk, .ref ms, .int 1, .ref mv, .int 0, .int 0, .int 0, .int 0, .long 0, .int (-1), .int 0, .ref m1w, .ref m2w, .ref m3w, .ref m4w, .int 0, .long 0, .long 0, .long 0])), (mw, .inl (cm3, 906, .inr (.inl fq)))] H := hP
          have hD : va_D A [(mr, .inl (cm1, 7, .inl (fun _ => 0))), (h0, .inr (12, [.int 0, .int 0, .ref mr, .ref mt, .ref mw, .ref mu, .ref mp, .ref mi, .ref mk, .ref ms, .int 1, .ref mv, .int 0, .int 0, .int 0, .int 0, .long 0, .int (-1), .int 0, .ref m1w, .ref m2w, .ref m3w, .ref m4w, .int 0, .long 0, .long 0, .long 0])), (mw, .inl (cm3, 906, .inr (.inl fq)))] := hD
          refine W.widen (k := 0) (n := 0) (Nat.le_of_ble_eq_true rfl) (Nat.le_of_ble_eq_true rfl) ?_
          have hw : r_6 = 6 := hw
          subst hw
          refine lv_iconst (v := 0) hx hb dX12_task_98 (by decide) ?_
          refine lv_iadd hx hb dX12_task_99 ?_
          refine k_topi (y := 6) (by decide) ?_
          refine lv_iload_n hx hb dX12_task_100 rfl (lv_at hl 3 rfl) ?_
          refine lv_i2l (v := wt.toInt64) hx hb dX12_task_101 rfl ?_
          refine va_last hx hb hK hP hD hS 2 1 rfl rfl (by unfold vp_in; decide) dX12_task_102 (fun H locs hP hD hS => ?_)
          have hP : va_P (dC, dI) vwCl [(mr, .inl (cm1, 7, .inl (fun _ => 0))), (h0, .inr (12, [.int 0, .int 0, .ref mr, .ref mt, .ref mw, .ref mu, .ref mp, .ref mi, .ref mk, .ref ms, .int 1, .ref mv, .int 0, .int 0, .int 0, .int 0, .long 0, .int (-1), .int 0, .ref m1w, .ref m2w, .ref m3w, .ref m4w, .int 0, .long 0, .long 0, .long 0])), (mw, .inl (cm3, 906, .inr (.inl (vp_updL fq (Int32.toNatClampNeg 6) wt.toInt64))))] H := hP
          have hD : va_D A [(mr, .inl (cm1, 7, .inl (fun _ => 0))), (h0, .inr (12, [.int 0, .int 0, .ref mr, .ref mt, .ref mw, .ref mu, .ref mp, .ref mi, .ref mk, .ref ms, .int 1, .ref mv, .int 0, .int 0, .int 0, .int 0, .long 0, .int (-1), .int 0, .ref m1w, .ref m2w, .ref m3w, .ref m4w, .int 0, .long 0, .long 0, .long 0])), (mw, .inl (cm3, 906, .inr (.inl (vp_updL fq (Int32.toNatClampNeg 6) wt.toInt64))))] := hD
          generalize ef_7 : vp_updL fq (Int32.toNatClampNeg 6) wt.toInt64 = f_7 at hP hD
          have k_8 : f_7 6 = wt.toInt64 := by rw [← ef_7]; exact k_upL_eq (by decide)
          have k_9 : f_7 0 = 0 := by rw [← ef_7]; exact (k_upL_ne (by decide)).trans hf64_0
          refine lv_aload_n hx hb dX12_task_103 rfl (lv_at hl 2 rfl) ?_
          refine va_get (D := (dC, dI)) (ci := 12) (v := .ref mw) (C := RX12) (T := TX12) (N := 27) hx hb hts (fun _ h0_ => List.mem_cons_of_mem _ (List.mem_append_right _ (List.mem_append_left _ h0_))) hown hK hP 1 rfl rfl 4 (by decide) (hts (.fieldLink RX12 16 "DeadlineShareModel" "row" "[J") (List.mem_cons_of_mem _ (List.mem_append_left _ (List.mem_of_getElem? (i := 9) rfl)))) (fun _ h9 => h9) rfl dX12_task_104 ?_
          refine lv_iload_n hx hb dX12_task_107 rfl (lv_at hl 1 rfl) ?_
          have hPc := hP.sub (ws' := []) [] rfl
          have hDc := hD.sub (ws' := []) [] (by decide) rfl
          have hKc := hK.sub (tys' := []) [] rfl
          have hFc := va_free (wc := []) hD hS hA [] rfl
          refine va_calli (va_runS (As := [.int 0]) (rest := [.ref mw]) ⟨hx, hb, hml, hown, hts⟩ (c_X12_at l dC dI H.size) (va_cwS 1 hts (gi_S (fun w_ h0_ => ⟨List.mem_cons_of_mem _ (List.mem_append_right _ (List.mem_append_right _ (List.mem_append_right _ (List.mem_append_right _ (List.mem_append_right _ (List.mem_append_left _ h0_)))))), (tb_c_X12_at w_ h0_).2⟩) (List.mem_cons_of_mem _ (List.mem_append_left _ (List.mem_of_getElem? (i := 13) rfl))) (List.mem_cons_of_mem _ (List.mem_append_left _ (List.mem_of_getElem? (i := 14) rfl))) (List.mem_cons_of_mem _ (List.mem_append_left _ (List.mem_of_getElem? (i := 4) rfl)))) rfl rfl rfl (by decide +kernel) ⟨Nat.le_of_ble_eq_true rfl, Nat.le_of_ble_eq_true rfl⟩) ⟨fun a U g mk q => by obtain ⟨q0, q1, qP, qK, qD⟩ := q; exact ⟨q0, q1, qP, va_K.moved (u := U) (U := U.calling g mk a) (Vm.Alike.refl U.vm) qK, qD⟩, fun U hU hW => ⟨rfl, by rw [hU], by rw [hU]; exact hPc, va_K.moved hW.alike hKc, hDc.weaken (fun _ _ _ _ => trivial)⟩⟩ rfl rfl hl.1 rfl (lv_room (Nat.le_of_ble_eq_true rfl)) dX12_task_108 ⟨Nat.le_of_ble_eq_true rfl, Nat.le_of_ble_eq_true rfl⟩) hS (fun q _ h => hFc q h) hFc (fun r_10 u t H1 locs ht hvm hw hB hz1 hk1 hS => ?_)
          obtain ⟨hP1, hK1, hD1⟩ := hB
          rw [ht] at hP1
          have hK1 := va_K.moved hvm.symm hK1
          obtain ⟨hP, hD⟩ := va_join (wr := [(mr, .inl (cm1, 7, .inl (fun _ => 0))), (h0, .inr (12, [.int 0, .int 0, .ref mr, .ref mt, .ref mw, .ref mu, .ref mp, .ref mi, .ref mk, .ref ms, .int 1, .ref mv, .int 0, .int 0, .int 0, .int 0, .long 0, .int (-1), .int 0, .ref m1w, .ref m2w, .ref m3w, .ref m4w, .int 0, .long 0, .long 0, .long 0])), (mw, .inl (cm3, 906, .inr (.inl f_7)))]) (w1 := []) hP hD [] [0, 1, 2] rfl rfl (by decide) (by decide) hk1 hFc hP1 hD1
          generalize H1 = H at hP hS ⊢
          have hP : va_P (dC, dI) vwCl [(mr, .inl (cm1, 7, .inl (fun _ => 0))), (h0, .inr (12, [.int 0, .int 0, .ref mr, .ref mt, .ref mw, .ref mu, .ref mp, .ref mi, .ref mk, .ref ms, .int 1, .ref mv, .int 0, .int 0, .int 0, .int 0, .long 0, .int (-1), .int 0, .ref m1w, .ref m2w, .ref m3w, .ref m4w, .int 0, .long 0, .long 0, .long 0])), (mw, .inl (cm3, 906, .inr (.inl f_7)))] H := hP
          have hD : va_D A [(mr, .inl (cm1, 7, .inl (fun _ => 0))), (h0, .inr (12, [.int 0, .int 0, .ref mr, .ref mt, .ref mw, .ref mu, .ref mp, .ref mi, .ref mk, .ref ms, .int 1, .ref mv, .int 0, .int 0, .int 0, .int 0, .long 0, .int (-1), .int 0, .ref m1w, .ref m2w, .ref m3w, .ref m4w, .int 0, .long 0, .long 0, .long 0])), (mw, .inl (cm3, 906, .inr (.inl f_7)))] := hD
          refine W.widen (k := 0) (n := 0) (Nat.le_of_ble_eq_true rfl) (Nat.le_of_ble_eq_true rfl) ?_
          have hw : r_10 = 6 := hw
          subst hw
          refine lv_iconst (v := 1) hx hb dX12_task_111 (by decide) ?_
          refine lv_iadd hx hb dX12_task_112 ?_
          refine k_topi (y := 7) (by decide) ?_
          refine lv_iload_n hx hb dX12_task_113 rfl (lv_at hl 4 rfl) ?_
          refine lv_i2l (v := sl.toInt64) hx hb dX12_task_114 rfl ?_
          refine va_last hx hb hK hP hD hS 2 1 rfl rfl (by unfold vp_in; decide) dX12_task_115 (fun H locs hP hD hS => ?_)
          have hP : va_P (dC, dI) vwCl [(mr, .inl (cm1, 7, .inl (fun _ => 0))), (h0, .inr (12, [.int 0, .int 0, .ref mr, .ref mt, .ref mw, .ref mu, .ref mp, .ref mi, .ref mk, .ref ms, .int 1, .ref mv, .int 0, .int 0, .int 0, .int 0, .long 0, .int (-1), .int 0, .ref m1w, .ref m2w, .ref m3w, .ref m4w, .int 0, .long 0, .long 0, .long 0])), (mw, .inl (cm3, 906, .inr (.inl (vp_updL f_7 (Int32.toNatClampNeg 7) sl.toInt64))))] H := hP
          have hD : va_D A [(mr, .inl (cm1, 7, .inl (fun _ => 0))), (h0, .inr (12, [.int 0, .int 0, .ref mr, .ref mt, .ref mw, .ref mu, .ref mp, .ref mi, .ref mk, .ref ms, .int 1, .ref mv, .int 0, .int 0, .int 0, .int 0, .long 0, .int (-1), .int 0, .ref m1w, .ref m2w, .ref m3w, .ref m4w, .int 0, .long 0, .long 0, .long 0])), (mw, .inl (cm3, 906, .inr (.inl (vp_updL f_7 (Int32.toNatClampNeg 7) sl.toInt64))))] := hD
          generalize ef_11 : vp_updL f_7 (Int32.toNatClampNeg 7) sl.toInt64 = f_11 at hP hD
          have k_12 : f_11 7 = sl.toInt64 := by rw [← ef_11]; exact k_upL_eq (by decide)
          have k_13 : f_11 6 = wt.toInt64 := by rw [← ef_11]; exact (k_upL_ne (by decide)).trans k_8
          have k_14 : f_11 0 = 0 := by rw [← ef_11]; exact (k_upL_ne (by decide)).trans k_9
          refine lv_aload_n hx hb dX12_task_116 rfl (lv_at hl 2 rfl) ?_
          refine va_get (D := (dC, dI)) (ci := 12) (v := .ref mw) (C := RX12) (T := TX12) (N := 27) hx hb hts (fun _ h0_ => List.mem_cons_of_mem _ (List.mem_append_right _ (List.mem_append_left _ h0_))) hown hK hP 1 rfl rfl 4 (by decide) (hts (.fieldLink RX12 16 "DeadlineShareModel" "row" "[J") (List.mem_cons_of_mem _ (List.mem_append_left _ (List.mem_of_getElem? (i := 9) rfl)))) (fun _ h9 => h9) rfl dX12_task_117 ?_
          refine lv_iconst (v := 0) hx hb dX12_task_120 (by decide) ?_
          refine lv_dup2_11 hx hb dX12_task_121 rfl rfl ?_
          refine va_lald hx hb hK hP 2 1 rfl rfl (by unfold vp_in; decide) dX12_task_122 ?_
          refine k_topl (y := 0) ((congrArg f_11 (show Int32.toNatClampNeg 0 = 0 by decide)).trans k_14) ?_
          refine lv_lconst (v := 1) hx hb dX12_task_123 (by decide) ?_
          refine lv_ladd hx hb dX12_task_124 ?_
          refine k_topl (y := 1) (by decide) ?_
          refine va_last hx hb hK hP hD hS 2 1 rfl rfl (by unfold vp_in; decide) dX12_task_125 (fun H locs hP hD hS => ?_)
          have hP : va_P (dC, dI) vwCl [(mr, .inl (cm1, 7, .inl (fun _ => 0))), (h0, .inr (12, [.int 0, .int 0, .ref mr, .ref mt, .ref mw, .ref mu, .ref mp, .ref mi, .ref mk, .ref ms, .int 1, .ref mv, .int 0, .int 0, .int 0, .int 0, .long 0, .int (-1), .int 0, .ref m1w, .ref m2w, .ref m3w, .ref m4w, .int 0, .long 0, .long 0, .long 0])), (mw, .inl (cm3, 906, .inr (.inl (vp_updL f_11 (Int32.toNatClampNeg 0) 1))))] H := hP
          have hD : va_D A [(mr, .inl (cm1, 7, .inl (fun _ => 0))), (h0, .inr (12, [.int 0, .int 0, .ref mr, .ref mt, .ref mw, .ref mu, .ref mp, .ref mi, .ref mk, .ref ms, .int 1, .ref mv, .int 0, .int 0, .int 0, .int 0, .long 0, .int (-1), .int 0, .ref m1w, .ref m2w, .ref m3w, .ref m4w, .int 0, .long 0, .long 0, .long 0])), (mw, .inl (cm3, 906, .inr (.inl (vp_updL f_11 (Int32.toNatClampNeg 0) 1))))] := hD
          generalize ef_15 : vp_updL f_11 (Int32.toNatClampNeg 0) 1 = f_15 at hP hD
          have k_16 : f_15 0 = 1 := by rw [← ef_15]; exact k_upL_eq (by decide)
          have k_17 : f_15 7 = sl.toInt64 := by rw [← ef_15]; exact (k_upL_ne (by decide)).trans k_12
          have k_18 : f_15 6 = wt.toInt64 := by rw [← ef_15]; exact (k_upL_ne (by decide)).trans k_13
          refine lv_aload_n hx hb dX12_task_126 rfl (lv_at hl 2 rfl) ?_
          refine lv_iload_n hx hb dX12_task_127 rfl (lv_at hl 1 rfl) ?_
          have hPc := hP.sub (ws' := [(h0, .inr (12, [.int 0, .int 0, .ref mr, .ref mt, .ref mw, .ref mu, .ref mp, .ref mi, .ref mk, .ref ms, .int 1, .ref mv, .int 0, .int 0, .int 0, .int 0, .long 0, .int (-1), .int 0, .ref m1w, .ref m2w, .ref m3w, .ref m4w, .int 0, .long 0, .long 0, .long 0]))]) [1] rfl
          have hDc := hD.sub (ws' := [(h0, .inr (12, [.int 0, .int 0, .ref mr, .ref mt, .ref mw, .ref mu, .ref mp, .ref mi, .ref mk, .ref ms, .int 1, .ref mv, .int 0, .int 0, .int 0, .int 0, .long 0, .int (-1), .int 0, .ref m1w, .ref m2w, .ref m3w, .ref m4w, .int 0, .long 0, .long 0, .long 0]))]) [1] (by decide) rfl
          have hKc := hK.sub (tys' := []) [] rfl
          have hFc := va_free (wc := [(h0, .inr (12, [.int 0, .int 0, .ref mr, .ref mt, .ref mw, .ref mu, .ref mp, .ref mi, .ref mk, .ref ms, .int 1, .ref mv, .int 0, .int 0, .int 0, .int 0, .long 0, .int (-1), .int 0, .ref m1w, .ref m2w, .ref m3w, .ref m4w, .int 0, .long 0, .long 0, .long 0]))]) hD hS hA [1] rfl
          refine va_calli (va_runV (As := [.int 0]) (rest := []) ⟨hx, hb, hml, hown, hts⟩ (c_X12_tell l dC dI h0 0 0 0 mr mt mw mu mp mi mk ms 1 mv 0 0 0 0 0 (-1) 0 m1w m2w m3w m4w 0 0 0 0 H.size) (cwV 1 hts (gi_V (fun w_ h0_ => ⟨List.mem_cons_of_mem _ (List.mem_append_right _ (List.mem_append_right _ (List.mem_append_right _ (List.mem_append_right _ (List.mem_append_right _ (List.mem_append_right _ (List.mem_append_left _ h0_))))))), (tb_c_X12_tell w_ h0_).2⟩) (List.mem_cons_of_mem _ (List.mem_append_left _ (List.mem_of_getElem? (i := 15) rfl))) (List.mem_cons_of_mem _ (List.mem_append_left _ (List.mem_of_getElem? (i := 16) rfl))) (List.mem_cons_of_mem _ (List.mem_append_left _ (List.mem_of_getElem? (i := 17) rfl))) (List.mem_cons_of_mem _ (List.mem_append_left _ (List.mem_of_getElem? (i := 4) rfl)))) rfl rfl rfl (by decide +kernel) ⟨Nat.le_of_ble_eq_true rfl, Nat.le_of_ble_eq_true rfl⟩) ⟨fun a U g mk q => by obtain ⟨q0, q1, qP, qK, qD⟩ := q; exact ⟨q0, q1, qP, va_K.moved (u := U) (U := U.calling g mk a) (Vm.Alike.refl U.vm) qK, qD⟩, va_recv hKc hPc (ci := 12) (q0 := 0) rfl rfl, fun U hU hW => ⟨rfl, by rw [hU], by rw [hU]; exact hPc, va_K.moved hW.alike hKc, hDc.weaken (fun _ _ _ _ => trivial)⟩⟩ rfl rfl hl.1 rfl (lv_room (Nat.le_of_ble_eq_true rfl)) dX12_task_128 ⟨Nat.le_of_ble_eq_true rfl, Nat.le_of_ble_eq_true rfl⟩) hS (fun q _ h => hFc q h) hFc (fun r_19 u t H1 locs ht hvm hw hB hz1 hk1 hS => ?_)
          obtain ⟨hP1, hK1, hD1⟩ := hB
          rw [ht] at hP1
          have hK1 := va_K.moved hvm.symm hK1
          obtain ⟨hP, hD⟩ := va_join (wr := [(mr, .inl (cm1, 7, .inl (fun _ => 0))), (mw, .inl (cm3, 906, .inr (.inl f_15)))]) (w1 := []) hP hD [1] [0, 2] rfl rfl (by decide) (by decide) hk1 hFc hP1 hD1
          generalize H1 = H at hP hS ⊢
          have hP : va_P (dC, dI) vwCl [(mr, .inl (cm1, 7, .inl (fun _ => 0))), (mw, .inl (cm3, 906, .inr (.inl f_15)))] H := hP
          have hD : va_D A [(mr, .inl (cm1, 7, .inl (fun _ => 0))), (mw, .inl (cm3, 906, .inr (.inl f_15)))] := hD
          refine W.widen (k := 0) (n := 0) (Nat.le_of_ble_eq_true rfl) (Nat.le_of_ble_eq_true rfl) ?_
          have hw : r_19 = 0 := hw
          subst hw
          have hP9 := hP.sub (ws' := []) [] rfl
          have hD9 := hD.sub (ws' := []) [] (by decide) rfl
          have hK9 := hK.sub (tys' := []) [] rfl
          refine W.widen (k := 0) (n := 0) (Nat.le_of_ble_eq_true rfl) (Nat.le_of_ble_eq_true rfl) ?_
          exact W.iret (v := 0) hx hb hr (fun t ht hW => ⟨⟨0, (), rfl, (by have z0 := (sp_r1 _ _ _).mp c_2; have z1 := (sp_r1 _ _ _).mp c_5; unfold sp_two; (repeat' split) <;> first | rfl | omega | (refine Int32.toInt_inj.mp ?_; omega)), by rw [ht]; exact hP9, va_K.moved hW.alike hK9, hD9⟩, hS.F ht⟩) hS.2.2 dX12_task_131
        | succ nn ih =>
          intro ii fq H locs ls hin hf64_0 hP hD hS hl
          refine lv_iload hx hb dX12_task_64 (lv_at hl 0 rfl) ?_
          refine lv_bipush (v := 43) hx hb dX12_task_66 (by decide) ?_
          refine lv_icmp_ge (tgt := 90) hx hb dX12_task_68 (by decide) (fun c => absurd c (nI_ge (a := ii) (b := 43) (by omega) (by omega))) (fun _ => ?_)
          refine lv_aload_n hx hb dX12_task_71 rfl (lv_at hl 2 rfl) ?_
          refine va_get (D := (dC, dI)) (ci := 12) (v := .ref mw) (C := RX12) (T := TX12) (N := 27) hx hb hts (fun _ h0_ => List.mem_cons_of_mem _ (List.mem_append_right _ (List.mem_append_left _ h0_))) hown hK hP 1 rfl rfl 4 (by decide) (hts (.fieldLink RX12 16 "DeadlineShareModel" "row" "[J") (List.mem_cons_of_mem _ (List.mem_append_left _ (List.mem_of_getElem? (i := 9) rfl)))) (fun _ h9 => h9) rfl dX12_task_72 ?_
          refine lv_iload_n hx hb dX12_task_75 rfl (lv_at hl 1 rfl) ?_
          have hPc := hP.sub (ws' := []) [] rfl
          have hDc := hD.sub (ws' := []) [] (by decide) rfl
          have hKc := hK.sub (tys' := []) [] rfl
          have hFc := va_free (wc := []) hD hS hA [] rfl
          refine va_calli (va_runS (As := [.int 0]) (rest := [.ref mw]) ⟨hx, hb, hml, hown, hts⟩ (c_X12_at l dC dI H.size) (va_cwS 1 hts (gi_S (fun w_ h0_ => ⟨List.mem_cons_of_mem _ (List.mem_append_right _ (List.mem_append_right _ (List.mem_append_right _ (List.mem_append_right _ (List.mem_append_right _ (List.mem_append_left _ h0_)))))), (tb_c_X12_at w_ h0_).2⟩) (List.mem_cons_of_mem _ (List.mem_append_left _ (List.mem_of_getElem? (i := 13) rfl))) (List.mem_cons_of_mem _ (List.mem_append_left _ (List.mem_of_getElem? (i := 14) rfl))) (List.mem_cons_of_mem _ (List.mem_append_left _ (List.mem_of_getElem? (i := 4) rfl)))) rfl rfl rfl (by decide +kernel) ⟨Nat.le_of_ble_eq_true rfl, Nat.le_of_ble_eq_true rfl⟩) ⟨fun a U g mk q => by obtain ⟨q0, q1, qP, qK, qD⟩ := q; exact ⟨q0, q1, qP, va_K.moved (u := U) (U := U.calling g mk a) (Vm.Alike.refl U.vm) qK, qD⟩, fun U hU hW => ⟨rfl, by rw [hU], by rw [hU]; exact hPc, va_K.moved hW.alike hKc, hDc.weaken (fun _ _ _ _ => trivial)⟩⟩ rfl rfl hl.1 rfl (lv_room (Nat.le_of_ble_eq_true rfl)) dX12_task_76 ⟨Nat.le_of_ble_eq_true rfl, Nat.le_of_ble_eq_true rfl⟩) hS (fun q _ h => hFc q h) hFc (fun r_20 u t H1 locs ht hvm hw hB hz1 hk1 hS => ?_)
          obtain ⟨hP1, hK1, hD1⟩ := hB
          rw [ht] at hP1
          have hK1 := va_K.moved hvm.symm hK1
          obtain ⟨hP, hD⟩ := va_join (wr := [(mr, .inl (cm1, 7, .inl (fun _ => 0))), (h0, .inr (12, [.int 0, .int 0, .ref mr, .ref mt, .ref mw, .ref mu, .ref mp, .ref mi, .ref mk, .ref ms, .int 1, .ref mv, .int 0, .int 0, .int 0, .int 0, .long 0, .int (-1), .int 0, .ref m1w, .ref m2w, .ref m3w, .ref m4w, .int 0, .long 0, .long 0, .long 0])), (mw, .inl (cm3, 906, .inr (.inl fq)))]) (w1 := []) hP hD [] [0, 1, 2] rfl rfl (by decide) (by decide) hk1 hFc hP1 hD1
          generalize H1 = H at hP hS ⊢
          have hP : va_P (dC, dI) vwCl [(mr, .inl (cm1, 7, .inl (fun _ => 0))), (h0, .inr (12, [.int 0, .int 0, .ref mr, .ref mt, .ref mw, .ref mu, .ref mp, .ref mi, .ref mk, .ref ms, .int 1, .ref mv, .int 0, .int 0, .int 0, .int 0, .long 0, .int (-1), .int 0, .ref m1w, .ref m2w, .ref m3w, .ref m4w, .int 0, .long 0, .long 0, .long 0])), (mw, .inl (cm3, 906, .inr (.inl fq)))] H := hP
          have hD : va_D A [(mr, .inl (cm1, 7, .inl (fun _ => 0))), (h0, .inr (12, [.int 0, .int 0, .ref mr, .ref mt, .ref mw, .ref mu, .ref mp, .ref mi, .ref mk, .ref ms, .int 1, .ref mv, .int 0, .int 0, .int 0, .int 0, .long 0, .int (-1), .int 0, .ref m1w, .ref m2w, .ref m3w, .ref m4w, .int 0, .long 0, .long 0, .long 0])), (mw, .inl (cm3, 906, .inr (.inl fq)))] := hD
          refine W.widen (k := 0) (n := 0) (Nat.le_of_ble_eq_true rfl) (Nat.le_of_ble_eq_true rfl) ?_
          have hw : r_20 = 6 := hw
          subst hw
          refine lv_iload hx hb dX12_task_79 (lv_at hl 0 rfl) ?_
          refine lv_iadd hx hb dX12_task_81 ?_
          refine k_topi (y := nI (6 + ii)) ((nI_add 6 ii).trans (congrArg nI (by omega))) ?_
          refine lv_lconst (v := 0) hx hb dX12_task_82 (by decide) ?_
          refine va_last hx hb hK hP hD hS 2 1 rfl rfl (vp_in_nI (by omega) (by omega)) dX12_task_83 (fun H locs hP hD hS => ?_)
          have hP : va_P (dC, dI) vwCl [(mr, .inl (cm1, 7, .inl (fun _ => 0))), (h0, .inr (12, [.int 0, .int 0, .ref mr, .ref mt, .ref mw, .ref mu, .ref mp, .ref mi, .ref mk, .ref ms, .int 1, .ref mv, .int 0, .int 0, .int 0, .int 0, .long 0, .int (-1), .int 0, .ref m1w, .ref m2w, .ref m3w, .ref m4w, .int 0, .long 0, .long 0, .long 0])), (mw, .inl (cm3, 906, .inr (.inl (vp_updL fq (Int32.toNatClampNeg (nI (6 + ii))) 0))))] H := hP
          have hD : va_D A [(mr, .inl (cm1, 7, .inl (fun _ => 0))), (h0, .inr (12, [.int 0, .int 0, .ref mr, .ref mt, .ref mw, .ref mu, .ref mp, .ref mi, .ref mk, .ref ms, .int 1, .ref mv, .int 0, .int 0, .int 0, .int 0, .long 0, .int (-1), .int 0, .ref m1w, .ref m2w, .ref m3w, .ref m4w, .int 0, .long 0, .long 0, .long 0])), (mw, .inl (cm3, 906, .inr (.inl (vp_updL fq (Int32.toNatClampNeg (nI (6 + ii))) 0))))] := hD
          generalize ef_21 : vp_updL fq (Int32.toNatClampNeg (nI (6 + ii))) 0 = f_21 at hP hD
          have k_22 : f_21 0 = 0 := by rw [← ef_21]; exact (k_upL_ne (by rw [nI_clamp (by omega)]; omega)).trans hf64_0
          refine lv_iinc (v := nI (ii + 1)) (lv' := [(4, .int (nI (ii + 1))), (3, .int 0), (0, .ref h0), (1, .int wt), (2, .int sl)]) hx hb dX12_task_84 hl (k := 0) rfl (nI_1 _) (by decide) rfl (fun ls hl => ?_)
          refine lv_goto (tgt := 64) hx hb dX12_task_87 (by decide) ?_
          exact ih (ii + 1) f_21 _ _ _ (by omega) k_22 (hP.sub [0, 1, 2] rfl) (hD.sub [0, 1, 2] (by decide) rfl) hS (lv_sub hl [0, 1, 2, 3, 4] rfl)
      exact key 43 0 fw _ _ _ (by omega) hw0 hP hD hS (lv_sub hl [0, 1, 2, 3, 4] rfl)
    · have c_5 := not_not_intro c_5
      refine lv_aload_n hx hb dX12_task_29 rfl (lv_at hl 0 rfl) ?_
      refine lv_iconst (v := (-1)) hx hb dX12_task_30 (by decide) ?_
      have hPc := hP.sub (ws' := [(h0, .inr (12, [.int 0, .int 0, .ref mr, .ref mt, .ref mw, .ref mu, .ref mp, .ref mi, .ref mk, .ref ms, .int 0, .ref mv, .int 0, .int 0, .int 0, .int 0, .long 0, .int (-1), .int 0, .ref m1w, .ref m2w, .ref m3w, .ref m4w, .int 0, .long 0, .long 0, .long 0])), (mr, .inl (cm1, 7, .inl (fun _ => 0)))]) [0, 1] rfl
      have hDc := hD.sub (ws' := [(h0, .inr (12, [.int 0, .int 0, .ref mr, .ref mt, .ref mw, .ref mu, .ref mp, .ref mi, .ref mk, .ref ms, .int 0, .ref mv, .int 0, .int 0, .int 0, .int 0, .long 0, .int (-1), .int 0, .ref m1w, .ref m2w, .ref m3w, .ref m4w, .int 0, .long 0, .long 0, .long 0])), (mr, .inl (cm1, 7, .inl (fun _ => 0)))]) [0, 1] (by decide) rfl
      have hKc := hK.sub (tys' := [(cm1, .int)]) [0] rfl
      have hFc := va_free (wc := [(h0, .inr (12, [.int 0, .int 0, .ref mr, .ref mt, .ref mw, .ref mu, .ref mp, .ref mi, .ref mk, .ref ms, .int 0, .ref mv, .int 0, .int 0, .int 0, .int 0, .long 0, .int (-1), .int 0, .ref m1w, .ref m2w, .ref m3w, .ref m4w, .int 0, .long 0, .long 0, .long 0])), (mr, .inl (cm1, 7, .inl (fun _ => 0)))]) hD hS hA [0, 1] rfl
      refine va_calli (va_runV (As := [.int (-1)]) (rest := []) ⟨hx, hb, hml, hown, hts⟩ (c_X12_refuse_1 l dC dI h0 mr mt mw mu mp mi mk ms mv m1w m2w m3w m4w cm1 H.size) (cwV 1 hts (gi_V (fun w_ h0_ => ⟨List.mem_cons_of_mem _ (List.mem_append_right _ (List.mem_append_right _ (List.mem_append_right _ (List.mem_append_left _ h0_)))), (tb_c_X12_refuse_1 w_ h0_).2⟩) (List.mem_cons_of_mem _ (List.mem_append_left _ (List.mem_of_getElem? (i := 5) rfl))) (List.mem_cons_of_mem _ (List.mem_append_left _ (List.mem_of_getElem? (i := 6) rfl))) (List.mem_cons_of_mem _ (List.mem_append_left _ (List.mem_of_getElem? (i := 7) rfl))) (List.mem_cons_of_mem _ (List.mem_append_left _ (List.mem_of_getElem? (i := 4) rfl)))) rfl rfl rfl (by decide +kernel) ⟨Nat.le_of_ble_eq_true rfl, Nat.le_of_ble_eq_true rfl⟩) ⟨fun a U g mk q => by obtain ⟨q0, q1, qP, qK, qD⟩ := q; exact ⟨q0, q1, qP, va_K.moved (u := U) (U := U.calling g mk a) (Vm.Alike.refl U.vm) qK, qD⟩, va_recv hKc hPc (ci := 12) (q0 := 0) rfl rfl, fun U hU hW => ⟨rfl, by rw [hU], by rw [hU]; exact hPc, va_K.moved hW.alike hKc, hDc.weaken (fun _ _ _ _ => trivial)⟩⟩ rfl rfl hl.1 rfl (lv_room (Nat.le_of_ble_eq_true rfl)) dX12_task_31 ⟨Nat.le_of_ble_eq_true rfl, Nat.le_of_ble_eq_true rfl⟩) hS (fun q _ h => hFc q h) hFc (fun r_23 u t H1 locs ht hvm hw hB hz1 hk1 hS => ?_)
      obtain ⟨hP1, hK1, hD1⟩ := hB
      rw [ht] at hP1
      have hK1 := va_K.moved hvm.symm hK1
      obtain ⟨hP, hD⟩ := va_join (wr := [(mw, .inl (cm3, 906, .inr (.inl fw))), (mu, .inl (cm4, 9060, .inr (.inl (fun _ => 0)))), (ms, .inl (cm8, 10, .inl (fun _ => 0)))]) (w1 := []) hP hD [0, 1] [2, 3, 4] rfl rfl (by decide) (by decide) hk1 hFc hP1 hD1
      generalize H1 = H at hP hS ⊢
      have hP : va_P (dC, dI) vwCl [(mw, .inl (cm3, 906, .inr (.inl fw))), (mu, .inl (cm4, 9060, .inr (.inl (fun _ => 0)))), (ms, .inl (cm8, 10, .inl (fun _ => 0)))] H := hP
      have hD : va_D A [(mw, .inl (cm3, 906, .inr (.inl fw))), (mu, .inl (cm4, 9060, .inr (.inl (fun _ => 0)))), (ms, .inl (cm8, 10, .inl (fun _ => 0)))] := hD
      refine W.widen (k := 0) (n := 0) (Nat.le_of_ble_eq_true rfl) (Nat.le_of_ble_eq_true rfl) ?_
      have hw : r_23 = (-1) := hw
      subst hw
      have hP9 := hP.sub (ws' := []) [] rfl
      have hD9 := hD.sub (ws' := []) [] (by decide) rfl
      have hK9 := hK.sub (tys' := []) [] rfl
      refine W.widen (k := 0) (n := 0) (Nat.le_of_ble_eq_true rfl) (Nat.le_of_ble_eq_true rfl) ?_
      exact W.iret (v := (-1)) hx hb hr (fun t ht hW => ⟨⟨(-1), (), rfl, (by have z0 := (sp_r1 _ _ _).mp c_2; have z1 := (sp_r0 _ _ _).mp (Classical.not_not.mp c_5); unfold sp_two; (repeat' split) <;> first | rfl | omega | (refine Int32.toInt_inj.mp ?_; omega)), by rw [ht]; exact hP9, va_K.moved hW.alike hK9, hD9⟩, hS.F ht⟩) hS.2.2 dX12_task_34
def ow_c_X12_join : List Cond := [.fieldLink RX12 67 "DeadlineShareModel" "thrown" "I", .methodLink RX12 142 yX12_isTask, .instanceMethod yX12_isTask, .selects RX12 yX12_isTask yX12_isTask, .initialized RX12, .methodLink RX12 76 yX12_refuse, .instanceMethod yX12_refuse, .selects RX12 yX12_refuse yX12_refuse]
def wq_c_X12_join : List Cond := .code yX12_join cX12_join 2 (some .int) :: (ow_c_X12_join ++ (u_ws RX12 TX12 27 ++ (wq_c_X12_isTask ++ (wq_c_X12_refuse_2 ++ ([] : List Cond)))))
theorem tb_c_X12_join : ∀ w ∈ wq_c_X12_join, q_g w := by
  unfold wq_c_X12_join ow_c_X12_join
  exact q_cons tw_507 (q_app (q_cons tw_488 (q_cons tw_506 (q_cons tw_505 (q_cons tw_504 (q_cons tw_435 (q_cons tw_483 (q_cons tw_482 (q_cons tw_481 q_nil)))))))) (q_app tu_X12 (q_app tb_c_X12_isTask (q_app tb_c_X12_refuse_2 q_nil))))
set_option maxHeartbeats 4000000 in
set_option maxRecDepth 100000 in
theorem c_X12_join (l : Launch) (dC : Nat → ClassId) (dI : Nat → Nat → Nat) (h0 : Nat) (tk : Int32) (mr : Nat) (mt : Nat) (mw : Nat) (mu : Nat) (mp : Nat) (mi : Nat) (mk : Nat) (ms : Nat) (mv : Nat) (m1w : Nat) (m2w : Nat) (m3w : Nat) (m4w : Nat) (cm1 : ClassId) (cm3 : ClassId) (fw : Nat → Int64) (sz : Nat) (hw0 : fw 0 = 0) (hw1 : fw 1 = 0) (hw2 : fw 2 = 0) (hw3 : fw 3 = (-1)) (hw4 : fw 4 = (-1)) (hw5 : fw 5 = 0) : Met l yX12_join wq_c_X12_join ({ frames := 2, cells := 0, slots := 0, locals := 46 } : Room) (va_Pc [.ref h0, .int tk] (fun U => U.heap.size = sz ∧ va_P (dC, dI) vwCl [(h0, .inr (12, [.int 0, .int 0, .ref mr, .ref mt, .ref mw, .ref mu, .ref mp, .ref mi, .ref mk, .ref ms, .int 0, .ref mv, .int 0, .int 0, .int 0, .int 0, .long 0, .int (-1), .int 0, .ref m1w, .ref m2w, .ref m3w, .ref m4w, .int 0, .long 0, .long 0, .long 0])), (mr, .inl (cm1, 7, .inl (fun _ => 0))), (mw, .inl (cm3, 906, .inr (.inl fw)))] U.heap ∧ va_K (dC, dI) vwCl [(cm1, .int), (cm3, .long)] U ∧ va_D (fun _ => True) [(h0, .inr (12, [.int 0, .int 0, .ref mr, .ref mt, .ref mw, .ref mu, .ref mp, .ref mi, .ref mk, .ref ms, .int 0, .ref mv, .int 0, .int 0, .int 0, .int 0, .long 0, .int (-1), .int 0, .ref m1w, .ref m2w, .ref m3w, .ref m4w, .int 0, .long 0, .long 0, .long 0])), (mr, .inl (cm1, 7, .inl (fun _ => 0))), (mw, .inl (cm3, 906, .inr (.inl fw)))])) (va_Qi (fun (r : Int32) (_ : Unit) => r = (-2)) (fun (_ : Unit) t => va_P (dC, dI) vwCl [] t.heap ∧ va_K (dC, dI) vwCl [] t ∧ va_D (va_A [(h0, .inr (12, [.int 0, .int 0, .ref mr, .ref mt, .ref mw, .ref mu, .ref mp, .ref mi, .ref mk, .ref ms, .int 0, .ref mv, .int 0, .int 0, .int 0, .int 0, .long 0, .int (-1), .int 0, .ref m1w, .ref m2w, .ref m3w, .ref m4w, .int 0, .long 0, .long 0, .long 0])), (mr, .inl (cm1, 7, .inl (fun _ => 0))), (mw, .inl (cm3, 906, .inr (.inl fw)))] sz) []) (va_A [(h0, .inr (12, [.int 0, .int 0, .ref mr, .ref mt, .ref mw, .ref mu, .ref mp, .ref mi, .ref mk, .ref ms, .int 0, .ref mv, .int 0, .int 0, .int 0, .int 0, .long 0, .int (-1), .int 0, .ref m1w, .ref m2w, .ref m3w, .ref m4w, .int 0, .long 0, .long 0, .long 0])), (mr, .inl (cm1, 7, .inl (fun _ => 0))), (mw, .inl (cm3, 906, .inr (.inl fw)))] sz)) 0 0 (va_A [(h0, .inr (12, [.int 0, .int 0, .ref mr, .ref mt, .ref mw, .ref mu, .ref mp, .ref mi, .ref mk, .ref ms, .int 0, .ref mv, .int 0, .int 0, .int 0, .int 0, .long 0, .int (-1), .int 0, .ref m1w, .ref m2w, .ref m3w, .ref m4w, .int 0, .long 0, .long 0, .long 0])), (mr, .inl (cm1, 7, .inl (fun _ => 0))), (mw, .inl (cm3, 906, .inr (.inl fw)))] sz) := by
  refine Met.ofW (cc := cX12_join) (maxL := 2) (ret := (some .int)) (by decide) rfl ?_
  intro p e s m args below meth c s₁ B hml hv
  obtain ⟨rfl, hsz, hP, hK, hD0⟩ := hv
  have hx := B.exec
  have hb := B.bytes
  have hr := B.returns
  have hts := atoms_spec (ws := wq_c_X12_join) B.pre
  have hown : s.vm.findClass RX12 = some m.cls := findClass_of_methodNamed B.named
  have hlocks := B.notSynchronized
  subst hsz
  have hD := hD0.self (sz := s.heap.size)
  obtain ⟨A, hAe⟩ : ∃ A, A = va_A [(h0, .inr (12, [.int 0, .int 0, .ref mr, .ref mt, .ref mw, .ref mu, .ref mp, .ref mi, .ref mk, .ref ms, .int 0, .ref mv, .int 0, .int 0, .int 0, .int 0, .long 0, .int (-1), .int 0, .ref m1w, .ref m2w, .ref m3w, .ref m4w, .int 0, .long 0, .long 0, .long 0])), (mr, .inl (cm1, 7, .inl (fun _ => 0))), (mw, .inl (cm3, 906, .inr (.inl fw)))] s.heap.size := ⟨_, rfl⟩
  rw [← hAe] at hD ⊢
  have hA : ∀ q : Nat, s.heap.size ≤ q → A q := fun q h => by rw [hAe]; exact Or.inr h
  have hS : va_S A s.heap s.heap [] := va_S.rf
  have hP : va_P (dC, dI) vwCl [(h0, .inr (12, [.int 0, .int 0, .ref mr, .ref mt, .ref mw, .ref mu, .ref mp, .ref mi, .ref mk, .ref ms, .int 0, .ref mv, .int 0, .int 0, .int 0, .int 0, .long 0, .int (-1), .int 0, .ref m1w, .ref m2w, .ref m3w, .ref m4w, .int 0, .long 0, .long 0, .long 0])), (mr, .inl (cm1, 7, .inl (fun _ => 0))), (mw, .inl (cm3, 906, .inr (.inl fw)))] s.heap := hP
  have hl := lv_entry ([.ref h0, .int tk]) (n := 2) (Nat.le_of_ble_eq_true rfl)
  rw [lg_entry_eq]
  generalize (lg_sl ([.ref h0, .int tk]) ++ List.replicate (2 - (lg_sl ([.ref h0, .int tk])).length) Slot.unset).toArray = ls at hl ⊢
  have hl : lv_has ls 2 [(0, .ref h0), (1, .int tk)] := hl
  refine lv_aload_n hx hb dX12_join_0 rfl (lv_at hl 0 rfl) ?_
  refine lv_iconst (v := 0) hx hb dX12_join_1 (by decide) ?_
  refine va_put (D := (dC, dI)) (ci := 12) (v := .int 0) (ty := .int) (C := RX12) (T := TX12) (N := 27) hx hb hts (fun _ h0_ => List.mem_cons_of_mem _ (List.mem_append_right _ (List.mem_append_left _ h0_))) tyX12 tyX12_ok nmX12 hown hK hP hD hS 0 rfl rfl 0 (by decide) (hts (.fieldLink RX12 67 "DeadlineShareModel" "thrown" "I") (List.mem_cons_of_mem _ (List.mem_append_left _ (List.mem_of_getElem? (i := 0) rfl)))) (fun _ h9 => h9) rfl (by decide +kernel) rfl rfl (Nat.le_of_ble_eq_true rfl) dX12_join_2 (fun H locs hP hD hS => ?_)
  have hP : va_P (dC, dI) vwCl [(h0, .inr (12, [.int 0, .int 0, .ref mr, .ref mt, .ref mw, .ref mu, .ref mp, .ref mi, .ref mk, .ref ms, .int 0, .ref mv, .int 0, .int 0, .int 0, .int 0, .long 0, .int (-1), .int 0, .ref m1w, .ref m2w, .ref m3w, .ref m4w, .int 0, .long 0, .long 0, .long 0])), (mr, .inl (cm1, 7, .inl (fun _ => 0))), (mw, .inl (cm3, 906, .inr (.inl fw)))] H := hP
  have hD : va_D A [(h0, .inr (12, [.int 0, .int 0, .ref mr, .ref mt, .ref mw, .ref mu, .ref mp, .ref mi, .ref mk, .ref ms, .int 0, .ref mv, .int 0, .int 0, .int 0, .int 0, .long 0, .int (-1), .int 0, .ref m1w, .ref m2w, .ref m3w, .ref m4w, .int 0, .long 0, .long 0, .long 0])), (mr, .inl (cm1, 7, .inl (fun _ => 0))), (mw, .inl (cm3, 906, .inr (.inl fw)))] := hD
  refine lv_aload_n hx hb dX12_join_5 rfl (lv_at hl 0 rfl) ?_
  refine lv_iload_n hx hb dX12_join_6 rfl (lv_at hl 1 rfl) ?_
  have hPc := hP.sub (ws' := [(h0, .inr (12, [.int 0, .int 0, .ref mr, .ref mt, .ref mw, .ref mu, .ref mp, .ref mi, .ref mk, .ref ms, .int 0, .ref mv, .int 0, .int 0, .int 0, .int 0, .long 0, .int (-1), .int 0, .ref m1w, .ref m2w, .ref m3w, .ref m4w, .int 0, .long 0, .long 0, .long 0])), (mw, .inl (cm3, 906, .inr (.inl fw)))]) [0, 2] rfl
  have hDc := hD.sub (ws' := [(h0, .inr (12, [.int 0, .int 0, .ref mr, .ref mt, .ref mw, .ref mu, .ref mp, .ref mi, .ref mk, .ref ms, .int 0, .ref mv, .int 0, .int 0, .int 0, .int 0, .long 0, .int (-1), .int 0, .ref m1w, .ref m2w, .ref m3w, .ref m4w, .int 0, .long 0, .long 0, .long 0])), (mw, .inl (cm3, 906, .inr (.inl fw)))]) [0, 2] (by decide) rfl
  have hKc := hK.sub (tys' := [(cm3, .long)]) [1] rfl
  have hFc := va_free (wc := [(h0, .inr (12, [.int 0, .int 0, .ref mr, .ref mt, .ref mw, .ref mu, .ref mp, .ref mi, .ref mk, .ref ms, .int 0, .ref mv, .int 0, .int 0, .int 0, .int 0, .long 0, .int (-1), .int 0, .ref m1w, .ref m2w, .ref m3w, .ref m4w, .int 0, .long 0, .long 0, .long 0])), (mw, .inl (cm3, 906, .inr (.inl fw)))]) hD hS hA [0, 2] rfl
  refine va_calli (va_runV (As := [.int tk]) (rest := []) ⟨hx, hb, hml, hown, hts⟩ (c_X12_isTask l dC dI h0 tk mr mt mw mu mp mi mk ms mv m1w m2w m3w m4w cm3 fw H.size hw0) (cwV 1 hts (gi_V (fun w_ h0_ => ⟨List.mem_cons_of_mem _ (List.mem_append_right _ (List.mem_append_right _ (List.mem_append_left _ h0_))), (tb_c_X12_isTask w_ h0_).2⟩) (List.mem_cons_of_mem _ (List.mem_append_left _ (List.mem_of_getElem? (i := 1) rfl))) (List.mem_cons_of_mem _ (List.mem_append_left _ (List.mem_of_getElem? (i := 2) rfl))) (List.mem_cons_of_mem _ (List.mem_append_left _ (List.mem_of_getElem? (i := 3) rfl))) (List.mem_cons_of_mem _ (List.mem_append_left _ (List.mem_of_getElem? (i := 4) rfl)))) rfl rfl rfl (by decide +kernel) ⟨Nat.le_of_ble_eq_true rfl, Nat.le_of_ble_eq_true rfl⟩) ⟨fun a U g mk q => by obtain ⟨q0, q1, qP, qK, qD⟩ := q; exact ⟨q0, q1, qP, va_K.moved (u := U) (U := U.calling g mk a) (Vm.Alike.refl U.vm) qK, qD⟩, va_recv hKc hPc (ci := 12) (q0 := 0) rfl rfl, fun U hU hW => ⟨rfl, by rw [hU], by rw [hU]; exact hPc, va_K.moved hW.alike hKc, hDc.weaken (fun _ _ _ _ => trivial)⟩⟩ rfl rfl hl.1 rfl (lv_room (Nat.le_of_ble_eq_true rfl)) dX12_join_7 ⟨Nat.le_of_ble_eq_true rfl, Nat.le_of_ble_eq_true rfl⟩) hS (fun q _ h => hFc q h) hFc (fun r_1 u t H1 locs ht hvm hw hB hz1 hk1 hS => ?_)
  obtain ⟨hP1, hK1, hD1⟩ := hB
  rw [ht] at hP1
  have hK1 := va_K.moved hvm.symm hK1
  obtain ⟨hP, hD⟩ := va_join (wr := [(mr, .inl (cm1, 7, .inl (fun _ => 0)))]) (w1 := [(h0, .inr (12, [.int 0, .int 0, .ref mr, .ref mt, .ref mw, .ref mu, .ref mp, .ref mi, .ref mk, .ref ms, .int 0, .ref mv, .int 0, .int 0, .int 0, .int 0, .long 0, .int (-1), .int 0, .ref m1w, .ref m2w, .ref m3w, .ref m4w, .int 0, .long 0, .long 0, .long 0])), (mw, .inl (cm3, 906, .inr (.inl fw)))]) hP hD [0, 2] [1] rfl rfl (by decide) (by decide) hk1 hFc hP1 hD1
  generalize H1 = H at hP hS ⊢
  have hP : va_P (dC, dI) vwCl [(mr, .inl (cm1, 7, .inl (fun _ => 0))), (h0, .inr (12, [.int 0, .int 0, .ref mr, .ref mt, .ref mw, .ref mu, .ref mp, .ref mi, .ref mk, .ref ms, .int 0, .ref mv, .int 0, .int 0, .int 0, .int 0, .long 0, .int (-1), .int 0, .ref m1w, .ref m2w, .ref m3w, .ref m4w, .int 0, .long 0, .long 0, .long 0])), (mw, .inl (cm3, 906, .inr (.inl fw)))] H := hP
  have hD : va_D A [(mr, .inl (cm1, 7, .inl (fun _ => 0))), (h0, .inr (12, [.int 0, .int 0, .ref mr, .ref mt, .ref mw, .ref mu, .ref mp, .ref mi, .ref mk, .ref ms, .int 0, .ref mv, .int 0, .int 0, .int 0, .int 0, .long 0, .int (-1), .int 0, .ref m1w, .ref m2w, .ref m3w, .ref m4w, .int 0, .long 0, .long 0, .long 0])), (mw, .inl (cm3, 906, .inr (.inl fw)))] := hD
  refine W.widen (k := 0) (n := 0) (Nat.le_of_ble_eq_true rfl) (Nat.le_of_ble_eq_true rfl) ?_
  have hw : r_1 = 0 := hw
  subst hw
  refine lv_if_ne (tgt := 20) hx hb dX12_join_10 (by decide) (fun c => absurd c (by decide)) (fun _ => ?_)
  refine lv_aload_n hx hb dX12_join_13 rfl (lv_at hl 0 rfl) ?_
  refine lv_bipush (v := (-2)) hx hb dX12_join_14 (by decide) ?_
  have hPc := hP.sub (ws' := [(h0, .inr (12, [.int 0, .int 0, .ref mr, .ref mt, .ref mw, .ref mu, .ref mp, .ref mi, .ref mk, .ref ms, .int 0, .ref mv, .int 0, .int 0, .int 0, .int 0, .long 0, .int (-1), .int 0, .ref m1w, .ref m2w, .ref m3w, .ref m4w, .int 0, .long 0, .long 0, .long 0])), (mr, .inl (cm1, 7, .inl (fun _ => 0)))]) [1, 0] rfl
  have hDc := hD.sub (ws' := [(h0, .inr (12, [.int 0, .int 0, .ref mr, .ref mt, .ref mw, .ref mu, .ref mp, .ref mi, .ref mk, .ref ms, .int 0, .ref mv, .int 0, .int 0, .int 0, .int 0, .long 0, .int (-1), .int 0, .ref m1w, .ref m2w, .ref m3w, .ref m4w, .int 0, .long 0, .long 0, .long 0])), (mr, .inl (cm1, 7, .inl (fun _ => 0)))]) [1, 0] (by decide) rfl
  have hKc := hK.sub (tys' := [(cm1, .int)]) [0] rfl
  have hFc := va_free (wc := [(h0, .inr (12, [.int 0, .int 0, .ref mr, .ref mt, .ref mw, .ref mu, .ref mp, .ref mi, .ref mk, .ref ms, .int 0, .ref mv, .int 0, .int 0, .int 0, .int 0, .long 0, .int (-1), .int 0, .ref m1w, .ref m2w, .ref m3w, .ref m4w, .int 0, .long 0, .long 0, .long 0])), (mr, .inl (cm1, 7, .inl (fun _ => 0)))]) hD hS hA [1, 0] rfl
  refine va_calli (va_runV (As := [.int (-2)]) (rest := []) ⟨hx, hb, hml, hown, hts⟩ (c_X12_refuse_2 l dC dI h0 mr mt mw mu mp mi mk ms mv m1w m2w m3w m4w cm1 H.size) (cwV 1 hts (gi_V (fun w_ h0_ => ⟨List.mem_cons_of_mem _ (List.mem_append_right _ (List.mem_append_right _ (List.mem_append_right _ (List.mem_append_left _ h0_)))), (tb_c_X12_refuse_2 w_ h0_).2⟩) (List.mem_cons_of_mem _ (List.mem_append_left _ (List.mem_of_getElem? (i := 5) rfl))) (List.mem_cons_of_mem _ (List.mem_append_left _ (List.mem_of_getElem? (i := 6) rfl))) (List.mem_cons_of_mem _ (List.mem_append_left _ (List.mem_of_getElem? (i := 7) rfl))) (List.mem_cons_of_mem _ (List.mem_append_left _ (List.mem_of_getElem? (i := 4) rfl)))) rfl rfl rfl (by decide +kernel) ⟨Nat.le_of_ble_eq_true rfl, Nat.le_of_ble_eq_true rfl⟩) ⟨fun a U g mk q => by obtain ⟨q0, q1, qP, qK, qD⟩ := q; exact ⟨q0, q1, qP, va_K.moved (u := U) (U := U.calling g mk a) (Vm.Alike.refl U.vm) qK, qD⟩, va_recv hKc hPc (ci := 12) (q0 := 0) rfl rfl, fun U hU hW => ⟨rfl, by rw [hU], by rw [hU]; exact hPc, va_K.moved hW.alike hKc, hDc.weaken (fun _ _ _ _ => trivial)⟩⟩ rfl rfl hl.1 rfl (lv_room (Nat.le_of_ble_eq_true rfl)) dX12_join_16 ⟨Nat.le_of_ble_eq_true rfl, Nat.le_of_ble_eq_true rfl⟩) hS (fun q _ h => hFc q h) hFc (fun r_2 u t H1 locs ht hvm hw hB hz1 hk1 hS => ?_)
  obtain ⟨hP1, hK1, hD1⟩ := hB
  rw [ht] at hP1
  have hK1 := va_K.moved hvm.symm hK1
  obtain ⟨hP, hD⟩ := va_join (wr := [(mw, .inl (cm3, 906, .inr (.inl fw)))]) (w1 := []) hP hD [1, 0] [2] rfl rfl (by decide) (by decide) hk1 hFc hP1 hD1
  generalize H1 = H at hP hS ⊢
  have hP : va_P (dC, dI) vwCl [(mw, .inl (cm3, 906, .inr (.inl fw)))] H := hP
  have hD : va_D A [(mw, .inl (cm3, 906, .inr (.inl fw)))] := hD
  refine W.widen (k := 0) (n := 0) (Nat.le_of_ble_eq_true rfl) (Nat.le_of_ble_eq_true rfl) ?_
  have hw : r_2 = (-2) := hw
  subst hw
  have hP9 := hP.sub (ws' := []) [] rfl
  have hD9 := hD.sub (ws' := []) [] (by decide) rfl
  have hK9 := hK.sub (tys' := []) [] rfl
  refine W.widen (k := 0) (n := 0) (Nat.le_of_ble_eq_true rfl) (Nat.le_of_ble_eq_true rfl) ?_
  exact W.iret (v := (-2)) hx hb hr (fun t ht hW => ⟨⟨(-2), (), rfl, rfl, by rw [ht]; exact hP9, va_K.moved hW.alike hK9, hD9⟩, hS.F ht⟩) hS.2.2 dX12_join_19
def ow_c_X12_leave : List Cond := [.fieldLink RX12 67 "DeadlineShareModel" "thrown" "I", .methodLink RX12 142 yX12_isTask, .instanceMethod yX12_isTask, .selects RX12 yX12_isTask yX12_isTask, .initialized RX12, .methodLink RX12 76 yX12_refuse, .instanceMethod yX12_refuse, .selects RX12 yX12_refuse yX12_refuse]
def wq_c_X12_leave : List Cond := .code yX12_leave cX12_leave 2 (some .int) :: (ow_c_X12_leave ++ (u_ws RX12 TX12 27 ++ (wq_c_X12_isTask ++ (wq_c_X12_refuse_2 ++ ([] : List Cond)))))
theorem tb_c_X12_leave : ∀ w ∈ wq_c_X12_leave, q_g w := by
  unfold wq_c_X12_leave ow_c_X12_leave
  exact q_cons tw_508 (q_app (q_cons tw_488 (q_cons tw_506 (q_cons tw_505 (q_cons tw_504 (q_cons tw_435 (q_cons tw_483 (q_cons tw_482 (q_cons tw_481 q_nil)))))))) (q_app tu_X12 (q_app tb_c_X12_isTask (q_app tb_c_X12_refuse_2 q_nil))))
set_option maxHeartbeats 4000000 in
set_option maxRecDepth 100000 in
theorem c_X12_leave (l : Launch) (dC : Nat → ClassId) (dI : Nat → Nat → Nat) (h0 : Nat) (tk : Int32) (mr : Nat) (mt : Nat) (mw : Nat) (mu : Nat) (mp : Nat) (mi : Nat) (mk : Nat) (ms : Nat) (mv : Nat) (m1w : Nat) (m2w : Nat) (m3w : Nat) (m4w : Nat) (cm1 : ClassId) (cm3 : ClassId) (fw : Nat → Int64) (sz : Nat) (hw0 : fw 0 = 0) (hw1 : fw 1 = 0) (hw2 : fw 2 = 0) (hw3 : fw 3 = (-1)) (hw4 : fw 4 = (-1)) (hw5 : fw 5 = 0) : Met l yX12_leave wq_c_X12_leave ({ frames := 2, cells := 0, slots := 0, locals := 46 } : Room) (va_Pc [.ref h0, .int tk] (fun U => U.heap.size = sz ∧ va_P (dC, dI) vwCl [(h0, .inr (12, [.int 0, .int 0, .ref mr, .ref mt, .ref mw, .ref mu, .ref mp, .ref mi, .ref mk, .ref ms, .int 0, .ref mv, .int 0, .int 0, .int 0, .int 0, .long 0, .int (-1), .int 0, .ref m1w, .ref m2w, .ref m3w, .ref m4w, .int 0, .long 0, .long 0, .long 0])), (mr, .inl (cm1, 7, .inl (fun _ => 0))), (mw, .inl (cm3, 906, .inr (.inl fw)))] U.heap ∧ va_K (dC, dI) vwCl [(cm1, .int), (cm3, .long)] U ∧ va_D (fun _ => True) [(h0, .inr (12, [.int 0, .int 0, .ref mr, .ref mt, .ref mw, .ref mu, .ref mp, .ref mi, .ref mk, .ref ms, .int 0, .ref mv, .int 0, .int 0, .int 0, .int 0, .long 0, .int (-1), .int 0, .ref m1w, .ref m2w, .ref m3w, .ref m4w, .int 0, .long 0, .long 0, .long 0])), (mr, .inl (cm1, 7, .inl (fun _ => 0))), (mw, .inl (cm3, 906, .inr (.inl fw)))])) (va_Qi (fun (r : Int32) (_ : Unit) => r = (-2)) (fun (_ : Unit) t => va_P (dC, dI) vwCl [] t.heap ∧ va_K (dC, dI) vwCl [] t ∧ va_D (va_A [(h0, .inr (12, [.int 0, .int 0, .ref mr, .ref mt, .ref mw, .ref mu, .ref mp, .ref mi, .ref mk, .ref ms, .int 0, .ref mv, .int 0, .int 0, .int 0, .int 0, .long 0, .int (-1), .int 0, .ref m1w, .ref m2w, .ref m3w, .ref m4w, .int 0, .long 0, .long 0, .long 0])), (mr, .inl (cm1, 7, .inl (fun _ => 0))), (mw, .inl (cm3, 906, .inr (.inl fw)))] sz) []) (va_A [(h0, .inr (12, [.int 0, .int 0, .ref mr, .ref mt, .ref mw, .ref mu, .ref mp, .ref mi, .ref mk, .ref ms, .int 0, .ref mv, .int 0, .int 0, .int 0, .int 0, .long 0, .int (-1), .int 0, .ref m1w, .ref m2w, .ref m3w, .ref m4w, .int 0, .long 0, .long 0, .long 0])), (mr, .inl (cm1, 7, .inl (fun _ => 0))), (mw, .inl (cm3, 906, .inr (.inl fw)))] sz)) 0 0 (va_A [(h0, .inr (12, [.int 0, .int 0, .ref mr, .ref mt, .ref mw, .ref mu, .ref mp, .ref mi, .ref mk, .ref ms, .int 0, .ref mv, .int 0, .int 0, .int 0, .int 0, .long 0, .int (-1), .int 0, .ref m1w, .ref m2w, .ref m3w, .ref m4w, .int 0, .long 0, .long 0, .long 0])), (mr, .inl (cm1, 7, .inl (fun _ => 0))), (mw, .inl (cm3, 906, .inr (.inl fw)))] sz) := by
  refine Met.ofW (cc := cX12_leave) (maxL := 2) (ret := (some .int)) (by decide) rfl ?_
  intro p e s m args below meth c s₁ B hml hv
  obtain ⟨rfl, hsz, hP, hK, hD0⟩ := hv
  have hx := B.exec
  have hb := B.bytes
  have hr := B.returns
  have hts := atoms_spec (ws := wq_c_X12_leave) B.pre
  have hown : s.vm.findClass RX12 = some m.cls := findClass_of_methodNamed B.named
  have hlocks := B.notSynchronized
  subst hsz
  have hD := hD0.self (sz := s.heap.size)
  obtain ⟨A, hAe⟩ : ∃ A, A = va_A [(h0, .inr (12, [.int 0, .int 0, .ref mr, .ref mt, .ref mw, .ref mu, .ref mp, .ref mi, .ref mk, .ref ms, .int 0, .ref mv, .int 0, .int 0, .int 0, .int 0, .long 0, .int (-1), .int 0, .ref m1w, .ref m2w, .ref m3w, .ref m4w, .int 0, .long 0, .long 0, .long 0])), (mr, .inl (cm1, 7, .inl (fun _ => 0))), (mw, .inl (cm3, 906, .inr (.inl fw)))] s.heap.size := ⟨_, rfl⟩
  rw [← hAe] at hD ⊢
  have hA : ∀ q : Nat, s.heap.size ≤ q → A q := fun q h => by rw [hAe]; exact Or.inr h
  have hS : va_S A s.heap s.heap [] := va_S.rf
  have hP : va_P (dC, dI) vwCl [(h0, .inr (12, [.int 0, .int 0, .ref mr, .ref mt, .ref mw, .ref mu, .ref mp, .ref mi, .ref mk, .ref ms, .int 0, .ref mv, .int 0, .int 0, .int 0, .int 0, .long 0, .int (-1), .int 0, .ref m1w, .ref m2w, .ref m3w, .ref m4w, .int 0, .long 0, .long 0, .long 0])), (mr, .inl (cm1, 7, .inl (fun _ => 0))), (mw, .inl (cm3, 906, .inr (.inl fw)))] s.heap := hP
  have hl := lv_entry ([.ref h0, .int tk]) (n := 2) (Nat.le_of_ble_eq_true rfl)
  rw [lg_entry_eq]
  generalize (lg_sl ([.ref h0, .int tk]) ++ List.replicate (2 - (lg_sl ([.ref h0, .int tk])).length) Slot.unset).toArray = ls at hl ⊢
  have hl : lv_has ls 2 [(0, .ref h0), (1, .int tk)] := hl
  refine lv_aload_n hx hb dX12_leave_0 rfl (lv_at hl 0 rfl) ?_
  refine lv_iconst (v := 0) hx hb dX12_leave_1 (by decide) ?_
  refine va_put (D := (dC, dI)) (ci := 12) (v := .int 0) (ty := .int) (C := RX12) (T := TX12) (N := 27) hx hb hts (fun _ h0_ => List.mem_cons_of_mem _ (List.mem_append_right _ (List.mem_append_left _ h0_))) tyX12 tyX12_ok nmX12 hown hK hP hD hS 0 rfl rfl 0 (by decide) (hts (.fieldLink RX12 67 "DeadlineShareModel" "thrown" "I") (List.mem_cons_of_mem _ (List.mem_append_left _ (List.mem_of_getElem? (i := 0) rfl)))) (fun _ h9 => h9) rfl (by decide +kernel) rfl rfl (Nat.le_of_ble_eq_true rfl) dX12_leave_2 (fun H locs hP hD hS => ?_)
  have hP : va_P (dC, dI) vwCl [(h0, .inr (12, [.int 0, .int 0, .ref mr, .ref mt, .ref mw, .ref mu, .ref mp, .ref mi, .ref mk, .ref ms, .int 0, .ref mv, .int 0, .int 0, .int 0, .int 0, .long 0, .int (-1), .int 0, .ref m1w, .ref m2w, .ref m3w, .ref m4w, .int 0, .long 0, .long 0, .long 0])), (mr, .inl (cm1, 7, .inl (fun _ => 0))), (mw, .inl (cm3, 906, .inr (.inl fw)))] H := hP
  have hD : va_D A [(h0, .inr (12, [.int 0, .int 0, .ref mr, .ref mt, .ref mw, .ref mu, .ref mp, .ref mi, .ref mk, .ref ms, .int 0, .ref mv, .int 0, .int 0, .int 0, .int 0, .long 0, .int (-1), .int 0, .ref m1w, .ref m2w, .ref m3w, .ref m4w, .int 0, .long 0, .long 0, .long 0])), (mr, .inl (cm1, 7, .inl (fun _ => 0))), (mw, .inl (cm3, 906, .inr (.inl fw)))] := hD
  refine lv_aload_n hx hb dX12_leave_5 rfl (lv_at hl 0 rfl) ?_
  refine lv_iload_n hx hb dX12_leave_6 rfl (lv_at hl 1 rfl) ?_
  have hPc := hP.sub (ws' := [(h0, .inr (12, [.int 0, .int 0, .ref mr, .ref mt, .ref mw, .ref mu, .ref mp, .ref mi, .ref mk, .ref ms, .int 0, .ref mv, .int 0, .int 0, .int 0, .int 0, .long 0, .int (-1), .int 0, .ref m1w, .ref m2w, .ref m3w, .ref m4w, .int 0, .long 0, .long 0, .long 0])), (mw, .inl (cm3, 906, .inr (.inl fw)))]) [0, 2] rfl
  have hDc := hD.sub (ws' := [(h0, .inr (12, [.int 0, .int 0, .ref mr, .ref mt, .ref mw, .ref mu, .ref mp, .ref mi, .ref mk, .ref ms, .int 0, .ref mv, .int 0, .int 0, .int 0, .int 0, .long 0, .int (-1), .int 0, .ref m1w, .ref m2w, .ref m3w, .ref m4w, .int 0, .long 0, .long 0, .long 0])), (mw, .inl (cm3, 906, .inr (.inl fw)))]) [0, 2] (by decide) rfl
  have hKc := hK.sub (tys' := [(cm3, .long)]) [1] rfl
  have hFc := va_free (wc := [(h0, .inr (12, [.int 0, .int 0, .ref mr, .ref mt, .ref mw, .ref mu, .ref mp, .ref mi, .ref mk, .ref ms, .int 0, .ref mv, .int 0, .int 0, .int 0, .int 0, .long 0, .int (-1), .int 0, .ref m1w, .ref m2w, .ref m3w, .ref m4w, .int 0, .long 0, .long 0, .long 0])), (mw, .inl (cm3, 906, .inr (.inl fw)))]) hD hS hA [0, 2] rfl
  refine va_calli (va_runV (As := [.int tk]) (rest := []) ⟨hx, hb, hml, hown, hts⟩ (c_X12_isTask l dC dI h0 tk mr mt mw mu mp mi mk ms mv m1w m2w m3w m4w cm3 fw H.size hw0) (cwV 1 hts (gi_V (fun w_ h0_ => ⟨List.mem_cons_of_mem _ (List.mem_append_right _ (List.mem_append_right _ (List.mem_append_left _ h0_))), (tb_c_X12_isTask w_ h0_).2⟩) (List.mem_cons_of_mem _ (List.mem_append_left _ (List.mem_of_getElem? (i := 1) rfl))) (List.mem_cons_of_mem _ (List.mem_append_left _ (List.mem_of_getElem? (i := 2) rfl))) (List.mem_cons_of_mem _ (List.mem_append_left _ (List.mem_of_getElem? (i := 3) rfl))) (List.mem_cons_of_mem _ (List.mem_append_left _ (List.mem_of_getElem? (i := 4) rfl)))) rfl rfl rfl (by decide +kernel) ⟨Nat.le_of_ble_eq_true rfl, Nat.le_of_ble_eq_true rfl⟩) ⟨fun a U g mk q => by obtain ⟨q0, q1, qP, qK, qD⟩ := q; exact ⟨q0, q1, qP, va_K.moved (u := U) (U := U.calling g mk a) (Vm.Alike.refl U.vm) qK, qD⟩, va_recv hKc hPc (ci := 12) (q0 := 0) rfl rfl, fun U hU hW => ⟨rfl, by rw [hU], by rw [hU]; exact hPc, va_K.moved hW.alike hKc, hDc.weaken (fun _ _ _ _ => trivial)⟩⟩ rfl rfl hl.1 rfl (lv_room (Nat.le_of_ble_eq_true rfl)) dX12_leave_7 ⟨Nat.le_of_ble_eq_true rfl, Nat.le_of_ble_eq_true rfl⟩) hS (fun q _ h => hFc q h) hFc (fun r_1 u t H1 locs ht hvm hw hB hz1 hk1 hS => ?_)
  obtain ⟨hP1, hK1, hD1⟩ := hB
  rw [ht] at hP1
  have hK1 := va_K.moved hvm.symm hK1
  obtain ⟨hP, hD⟩ := va_join (wr := [(mr, .inl (cm1, 7, .inl (fun _ => 0)))]) (w1 := [(h0, .inr (12, [.int 0, .int 0, .ref mr, .ref mt, .ref mw, .ref mu, .ref mp, .ref mi, .ref mk, .ref ms, .int 0, .ref mv, .int 0, .int 0, .int 0, .int 0, .long 0, .int (-1), .int 0, .ref m1w, .ref m2w, .ref m3w, .ref m4w, .int 0, .long 0, .long 0, .long 0])), (mw, .inl (cm3, 906, .inr (.inl fw)))]) hP hD [0, 2] [1] rfl rfl (by decide) (by decide) hk1 hFc hP1 hD1
  generalize H1 = H at hP hS ⊢
  have hP : va_P (dC, dI) vwCl [(mr, .inl (cm1, 7, .inl (fun _ => 0))), (h0, .inr (12, [.int 0, .int 0, .ref mr, .ref mt, .ref mw, .ref mu, .ref mp, .ref mi, .ref mk, .ref ms, .int 0, .ref mv, .int 0, .int 0, .int 0, .int 0, .long 0, .int (-1), .int 0, .ref m1w, .ref m2w, .ref m3w, .ref m4w, .int 0, .long 0, .long 0, .long 0])), (mw, .inl (cm3, 906, .inr (.inl fw)))] H := hP
  have hD : va_D A [(mr, .inl (cm1, 7, .inl (fun _ => 0))), (h0, .inr (12, [.int 0, .int 0, .ref mr, .ref mt, .ref mw, .ref mu, .ref mp, .ref mi, .ref mk, .ref ms, .int 0, .ref mv, .int 0, .int 0, .int 0, .int 0, .long 0, .int (-1), .int 0, .ref m1w, .ref m2w, .ref m3w, .ref m4w, .int 0, .long 0, .long 0, .long 0])), (mw, .inl (cm3, 906, .inr (.inl fw)))] := hD
  refine W.widen (k := 0) (n := 0) (Nat.le_of_ble_eq_true rfl) (Nat.le_of_ble_eq_true rfl) ?_
  have hw : r_1 = 0 := hw
  subst hw
  refine lv_if_ne (tgt := 20) hx hb dX12_leave_10 (by decide) (fun c => absurd c (by decide)) (fun _ => ?_)
  refine lv_aload_n hx hb dX12_leave_13 rfl (lv_at hl 0 rfl) ?_
  refine lv_bipush (v := (-2)) hx hb dX12_leave_14 (by decide) ?_
  have hPc := hP.sub (ws' := [(h0, .inr (12, [.int 0, .int 0, .ref mr, .ref mt, .ref mw, .ref mu, .ref mp, .ref mi, .ref mk, .ref ms, .int 0, .ref mv, .int 0, .int 0, .int 0, .int 0, .long 0, .int (-1), .int 0, .ref m1w, .ref m2w, .ref m3w, .ref m4w, .int 0, .long 0, .long 0, .long 0])), (mr, .inl (cm1, 7, .inl (fun _ => 0)))]) [1, 0] rfl
  have hDc := hD.sub (ws' := [(h0, .inr (12, [.int 0, .int 0, .ref mr, .ref mt, .ref mw, .ref mu, .ref mp, .ref mi, .ref mk, .ref ms, .int 0, .ref mv, .int 0, .int 0, .int 0, .int 0, .long 0, .int (-1), .int 0, .ref m1w, .ref m2w, .ref m3w, .ref m4w, .int 0, .long 0, .long 0, .long 0])), (mr, .inl (cm1, 7, .inl (fun _ => 0)))]) [1, 0] (by decide) rfl
  have hKc := hK.sub (tys' := [(cm1, .int)]) [0] rfl
  have hFc := va_free (wc := [(h0, .inr (12, [.int 0, .int 0, .ref mr, .ref mt, .ref mw, .ref mu, .ref mp, .ref mi, .ref mk, .ref ms, .int 0, .ref mv, .int 0, .int 0, .int 0, .int 0, .long 0, .int (-1), .int 0, .ref m1w, .ref m2w, .ref m3w, .ref m4w, .int 0, .long 0, .long 0, .long 0])), (mr, .inl (cm1, 7, .inl (fun _ => 0)))]) hD hS hA [1, 0] rfl
  refine va_calli (va_runV (As := [.int (-2)]) (rest := []) ⟨hx, hb, hml, hown, hts⟩ (c_X12_refuse_2 l dC dI h0 mr mt mw mu mp mi mk ms mv m1w m2w m3w m4w cm1 H.size) (cwV 1 hts (gi_V (fun w_ h0_ => ⟨List.mem_cons_of_mem _ (List.mem_append_right _ (List.mem_append_right _ (List.mem_append_right _ (List.mem_append_left _ h0_)))), (tb_c_X12_refuse_2 w_ h0_).2⟩) (List.mem_cons_of_mem _ (List.mem_append_left _ (List.mem_of_getElem? (i := 5) rfl))) (List.mem_cons_of_mem _ (List.mem_append_left _ (List.mem_of_getElem? (i := 6) rfl))) (List.mem_cons_of_mem _ (List.mem_append_left _ (List.mem_of_getElem? (i := 7) rfl))) (List.mem_cons_of_mem _ (List.mem_append_left _ (List.mem_of_getElem? (i := 4) rfl)))) rfl rfl rfl (by decide +kernel) ⟨Nat.le_of_ble_eq_true rfl, Nat.le_of_ble_eq_true rfl⟩) ⟨fun a U g mk q => by obtain ⟨q0, q1, qP, qK, qD⟩ := q; exact ⟨q0, q1, qP, va_K.moved (u := U) (U := U.calling g mk a) (Vm.Alike.refl U.vm) qK, qD⟩, va_recv hKc hPc (ci := 12) (q0 := 0) rfl rfl, fun U hU hW => ⟨rfl, by rw [hU], by rw [hU]; exact hPc, va_K.moved hW.alike hKc, hDc.weaken (fun _ _ _ _ => trivial)⟩⟩ rfl rfl hl.1 rfl (lv_room (Nat.le_of_ble_eq_true rfl)) dX12_leave_16 ⟨Nat.le_of_ble_eq_true rfl, Nat.le_of_ble_eq_true rfl⟩) hS (fun q _ h => hFc q h) hFc (fun r_2 u t H1 locs ht hvm hw hB hz1 hk1 hS => ?_)
  obtain ⟨hP1, hK1, hD1⟩ := hB
  rw [ht] at hP1
  have hK1 := va_K.moved hvm.symm hK1
  obtain ⟨hP, hD⟩ := va_join (wr := [(mw, .inl (cm3, 906, .inr (.inl fw)))]) (w1 := []) hP hD [1, 0] [2] rfl rfl (by decide) (by decide) hk1 hFc hP1 hD1
  generalize H1 = H at hP hS ⊢
  have hP : va_P (dC, dI) vwCl [(mw, .inl (cm3, 906, .inr (.inl fw)))] H := hP
  have hD : va_D A [(mw, .inl (cm3, 906, .inr (.inl fw)))] := hD
  refine W.widen (k := 0) (n := 0) (Nat.le_of_ble_eq_true rfl) (Nat.le_of_ble_eq_true rfl) ?_
  have hw : r_2 = (-2) := hw
  subst hw
  have hP9 := hP.sub (ws' := []) [] rfl
  have hD9 := hD.sub (ws' := []) [] (by decide) rfl
  have hK9 := hK.sub (tys' := []) [] rfl
  refine W.widen (k := 0) (n := 0) (Nat.le_of_ble_eq_true rfl) (Nat.le_of_ble_eq_true rfl) ?_
  exact W.iret (v := (-2)) hx hb hr (fun t ht hW => ⟨⟨(-2), (), rfl, rfl, by rw [ht]; exact hP9, va_K.moved hW.alike hK9, hD9⟩, hS.F ht⟩) hS.2.2 dX12_leave_19
def ow_c_X12_yields : List Cond := [.fieldLink RX12 67 "DeadlineShareModel" "thrown" "I", .methodLink RX12 142 yX12_isTask, .instanceMethod yX12_isTask, .selects RX12 yX12_isTask yX12_isTask, .initialized RX12, .methodLink RX12 76 yX12_refuse, .instanceMethod yX12_refuse, .selects RX12 yX12_refuse yX12_refuse]
def wq_c_X12_yields : List Cond := .code yX12_yields cX12_yields 4 (some .int) :: (ow_c_X12_yields ++ (u_ws RX12 TX12 27 ++ (wq_c_X12_isTask ++ (wq_c_X12_refuse_2 ++ ([] : List Cond)))))
theorem tb_c_X12_yields : ∀ w ∈ wq_c_X12_yields, q_g w := by
  unfold wq_c_X12_yields ow_c_X12_yields
  exact q_cons tw_509 (q_app (q_cons tw_488 (q_cons tw_506 (q_cons tw_505 (q_cons tw_504 (q_cons tw_435 (q_cons tw_483 (q_cons tw_482 (q_cons tw_481 q_nil)))))))) (q_app tu_X12 (q_app tb_c_X12_isTask (q_app tb_c_X12_refuse_2 q_nil))))
set_option maxHeartbeats 4000000 in
set_option maxRecDepth 100000 in
theorem c_X12_yields (l : Launch) (dC : Nat → ClassId) (dI : Nat → Nat → Nat) (h0 : Nat) (tk : Int32) (mr : Nat) (mt : Nat) (mw : Nat) (mu : Nat) (mp : Nat) (mi : Nat) (mk : Nat) (ms : Nat) (mv : Nat) (m1w : Nat) (m2w : Nat) (m3w : Nat) (m4w : Nat) (cm1 : ClassId) (cm3 : ClassId) (fw : Nat → Int64) (sz : Nat) (hw0 : fw 0 = 0) (hw1 : fw 1 = 0) (hw2 : fw 2 = 0) (hw3 : fw 3 = (-1)) (hw4 : fw 4 = (-1)) (hw5 : fw 5 = 0) : Met l yX12_yields wq_c_X12_yields ({ frames := 2, cells := 0, slots := 0, locals := 46 } : Room) (va_Pc [.ref h0, .int tk] (fun U => U.heap.size = sz ∧ va_P (dC, dI) vwCl [(h0, .inr (12, [.int 0, .int 0, .ref mr, .ref mt, .ref mw, .ref mu, .ref mp, .ref mi, .ref mk, .ref ms, .int 0, .ref mv, .int 0, .int 0, .int 0, .int 0, .long 0, .int (-1), .int 0, .ref m1w, .ref m2w, .ref m3w, .ref m4w, .int 0, .long 0, .long 0, .long 0])), (mr, .inl (cm1, 7, .inl (fun _ => 0))), (mw, .inl (cm3, 906, .inr (.inl fw)))] U.heap ∧ va_K (dC, dI) vwCl [(cm1, .int), (cm3, .long)] U ∧ va_D (fun _ => True) [(h0, .inr (12, [.int 0, .int 0, .ref mr, .ref mt, .ref mw, .ref mu, .ref mp, .ref mi, .ref mk, .ref ms, .int 0, .ref mv, .int 0, .int 0, .int 0, .int 0, .long 0, .int (-1), .int 0, .ref m1w, .ref m2w, .ref m3w, .ref m4w, .int 0, .long 0, .long 0, .long 0])), (mr, .inl (cm1, 7, .inl (fun _ => 0))), (mw, .inl (cm3, 906, .inr (.inl fw)))])) (va_Qi (fun (r : Int32) (_ : Unit) => r = (-2)) (fun (_ : Unit) t => va_P (dC, dI) vwCl [] t.heap ∧ va_K (dC, dI) vwCl [] t ∧ va_D (va_A [(h0, .inr (12, [.int 0, .int 0, .ref mr, .ref mt, .ref mw, .ref mu, .ref mp, .ref mi, .ref mk, .ref ms, .int 0, .ref mv, .int 0, .int 0, .int 0, .int 0, .long 0, .int (-1), .int 0, .ref m1w, .ref m2w, .ref m3w, .ref m4w, .int 0, .long 0, .long 0, .long 0])), (mr, .inl (cm1, 7, .inl (fun _ => 0))), (mw, .inl (cm3, 906, .inr (.inl fw)))] sz) []) (va_A [(h0, .inr (12, [.int 0, .int 0, .ref mr, .ref mt, .ref mw, .ref mu, .ref mp, .ref mi, .ref mk, .ref ms, .int 0, .ref mv, .int 0, .int 0, .int 0, .int 0, .long 0, .int (-1), .int 0, .ref m1w, .ref m2w, .ref m3w, .ref m4w, .int 0, .long 0, .long 0, .long 0])), (mr, .inl (cm1, 7, .inl (fun _ => 0))), (mw, .inl (cm3, 906, .inr (.inl fw)))] sz)) 0 0 (va_A [(h0, .inr (12, [.int 0, .int 0, .ref mr, .ref mt, .ref mw, .ref mu, .ref mp, .ref mi, .ref mk, .ref ms, .int 0, .ref mv, .int 0, .int 0, .int 0, .int 0, .long 0, .int (-1), .int 0, .ref m1w, .ref m2w, .ref m3w, .ref m4w, .int 0, .long 0, .long 0, .long 0])), (mr, .inl (cm1, 7, .inl (fun _ => 0))), (mw, .inl (cm3, 906, .inr (.inl fw)))] sz) := by
  refine Met.ofW (cc := cX12_yields) (maxL := 4) (ret := (some .int)) (by decide) rfl ?_
  intro p e s m args below meth c s₁ B hml hv
  obtain ⟨rfl, hsz, hP, hK, hD0⟩ := hv
  have hx := B.exec
  have hb := B.bytes
  have hr := B.returns
  have hts := atoms_spec (ws := wq_c_X12_yields) B.pre
  have hown : s.vm.findClass RX12 = some m.cls := findClass_of_methodNamed B.named
  have hlocks := B.notSynchronized
  subst hsz
  have hD := hD0.self (sz := s.heap.size)
  obtain ⟨A, hAe⟩ : ∃ A, A = va_A [(h0, .inr (12, [.int 0, .int 0, .ref mr, .ref mt, .ref mw, .ref mu, .ref mp, .ref mi, .ref mk, .ref ms, .int 0, .ref mv, .int 0, .int 0, .int 0, .int 0, .long 0, .int (-1), .int 0, .ref m1w, .ref m2w, .ref m3w, .ref m4w, .int 0, .long 0, .long 0, .long 0])), (mr, .inl (cm1, 7, .inl (fun _ => 0))), (mw, .inl (cm3, 906, .inr (.inl fw)))] s.heap.size := ⟨_, rfl⟩
  rw [← hAe] at hD ⊢
  have hA : ∀ q : Nat, s.heap.size ≤ q → A q := fun q h => by rw [hAe]; exact Or.inr h
  have hS : va_S A s.heap s.heap [] := va_S.rf
  have hP : va_P (dC, dI) vwCl [(h0, .inr (12, [.int 0, .int 0, .ref mr, .ref mt, .ref mw, .ref mu, .ref mp, .ref mi, .ref mk, .ref ms, .int 0, .ref mv, .int 0, .int 0, .int 0, .int 0, .long 0, .int (-1), .int 0, .ref m1w, .ref m2w, .ref m3w, .ref m4w, .int 0, .long 0, .long 0, .long 0])), (mr, .inl (cm1, 7, .inl (fun _ => 0))), (mw, .inl (cm3, 906, .inr (.inl fw)))] s.heap := hP
  have hl := lv_entry ([.ref h0, .int tk]) (n := 4) (Nat.le_of_ble_eq_true rfl)
  rw [lg_entry_eq]
  generalize (lg_sl ([.ref h0, .int tk]) ++ List.replicate (4 - (lg_sl ([.ref h0, .int tk])).length) Slot.unset).toArray = ls at hl ⊢
  have hl : lv_has ls 4 [(0, .ref h0), (1, .int tk)] := hl
  refine lv_aload_n hx hb dX12_yields_0 rfl (lv_at hl 0 rfl) ?_
  refine lv_iconst (v := 0) hx hb dX12_yields_1 (by decide) ?_
  refine va_put (D := (dC, dI)) (ci := 12) (v := .int 0) (ty := .int) (C := RX12) (T := TX12) (N := 27) hx hb hts (fun _ h0_ => List.mem_cons_of_mem _ (List.mem_append_right _ (List.mem_append_left _ h0_))) tyX12 tyX12_ok nmX12 hown hK hP hD hS 0 rfl rfl 0 (by decide) (hts (.fieldLink RX12 67 "DeadlineShareModel" "thrown" "I") (List.mem_cons_of_mem _ (List.mem_append_left _ (List.mem_of_getElem? (i := 0) rfl)))) (fun _ h9 => h9) rfl (by decide +kernel) rfl rfl (Nat.le_of_ble_eq_true rfl) dX12_yields_2 (fun H locs hP hD hS => ?_)
  have hP : va_P (dC, dI) vwCl [(h0, .inr (12, [.int 0, .int 0, .ref mr, .ref mt, .ref mw, .ref mu, .ref mp, .ref mi, .ref mk, .ref ms, .int 0, .ref mv, .int 0, .int 0, .int 0, .int 0, .long 0, .int (-1), .int 0, .ref m1w, .ref m2w, .ref m3w, .ref m4w, .int 0, .long 0, .long 0, .long 0])), (mr, .inl (cm1, 7, .inl (fun _ => 0))), (mw, .inl (cm3, 906, .inr (.inl fw)))] H := hP
  have hD : va_D A [(h0, .inr (12, [.int 0, .int 0, .ref mr, .ref mt, .ref mw, .ref mu, .ref mp, .ref mi, .ref mk, .ref ms, .int 0, .ref mv, .int 0, .int 0, .int 0, .int 0, .long 0, .int (-1), .int 0, .ref m1w, .ref m2w, .ref m3w, .ref m4w, .int 0, .long 0, .long 0, .long 0])), (mr, .inl (cm1, 7, .inl (fun _ => 0))), (mw, .inl (cm3, 906, .inr (.inl fw)))] := hD
  refine lv_aload_n hx hb dX12_yields_5 rfl (lv_at hl 0 rfl) ?_
  refine lv_iload_n hx hb dX12_yields_6 rfl (lv_at hl 1 rfl) ?_
  have hPc := hP.sub (ws' := [(h0, .inr (12, [.int 0, .int 0, .ref mr, .ref mt, .ref mw, .ref mu, .ref mp, .ref mi, .ref mk, .ref ms, .int 0, .ref mv, .int 0, .int 0, .int 0, .int 0, .long 0, .int (-1), .int 0, .ref m1w, .ref m2w, .ref m3w, .ref m4w, .int 0, .long 0, .long 0, .long 0])), (mw, .inl (cm3, 906, .inr (.inl fw)))]) [0, 2] rfl
  have hDc := hD.sub (ws' := [(h0, .inr (12, [.int 0, .int 0, .ref mr, .ref mt, .ref mw, .ref mu, .ref mp, .ref mi, .ref mk, .ref ms, .int 0, .ref mv, .int 0, .int 0, .int 0, .int 0, .long 0, .int (-1), .int 0, .ref m1w, .ref m2w, .ref m3w, .ref m4w, .int 0, .long 0, .long 0, .long 0])), (mw, .inl (cm3, 906, .inr (.inl fw)))]) [0, 2] (by decide) rfl
  have hKc := hK.sub (tys' := [(cm3, .long)]) [1] rfl
  have hFc := va_free (wc := [(h0, .inr (12, [.int 0, .int 0, .ref mr, .ref mt, .ref mw, .ref mu, .ref mp, .ref mi, .ref mk, .ref ms, .int 0, .ref mv, .int 0, .int 0, .int 0, .int 0, .long 0, .int (-1), .int 0, .ref m1w, .ref m2w, .ref m3w, .ref m4w, .int 0, .long 0, .long 0, .long 0])), (mw, .inl (cm3, 906, .inr (.inl fw)))]) hD hS hA [0, 2] rfl
  refine va_calli (va_runV (As := [.int tk]) (rest := []) ⟨hx, hb, hml, hown, hts⟩ (c_X12_isTask l dC dI h0 tk mr mt mw mu mp mi mk ms mv m1w m2w m3w m4w cm3 fw H.size hw0) (cwV 1 hts (gi_V (fun w_ h0_ => ⟨List.mem_cons_of_mem _ (List.mem_append_right _ (List.mem_append_right _ (List.mem_append_left _ h0_))), (tb_c_X12_isTask w_ h0_).2⟩) (List.mem_cons_of_mem _ (List.mem_append_left _ (List.mem_of_getElem? (i := 1) rfl))) (List.mem_cons_of_mem _ (List.mem_append_left _ (List.mem_of_getElem? (i := 2) rfl))) (List.mem_cons_of_mem _ (List.mem_append_left _ (List.mem_of_getElem? (i := 3) rfl))) (List.mem_cons_of_mem _ (List.mem_append_left _ (List.mem_of_getElem? (i := 4) rfl)))) rfl rfl rfl (by decide +kernel) ⟨Nat.le_of_ble_eq_true rfl, Nat.le_of_ble_eq_true rfl⟩) ⟨fun a U g mk q => by obtain ⟨q0, q1, qP, qK, qD⟩ := q; exact ⟨q0, q1, qP, va_K.moved (u := U) (U := U.calling g mk a) (Vm.Alike.refl U.vm) qK, qD⟩, va_recv hKc hPc (ci := 12) (q0 := 0) rfl rfl, fun U hU hW => ⟨rfl, by rw [hU], by rw [hU]; exact hPc, va_K.moved hW.alike hKc, hDc.weaken (fun _ _ _ _ => trivial)⟩⟩ rfl rfl hl.1 rfl (lv_room (Nat.le_of_ble_eq_true rfl)) dX12_yields_7 ⟨Nat.le_of_ble_eq_true rfl, Nat.le_of_ble_eq_true rfl⟩) hS (fun q _ h => hFc q h) hFc (fun r_1 u t H1 locs ht hvm hw hB hz1 hk1 hS => ?_)
  obtain ⟨hP1, hK1, hD1⟩ := hB
  rw [ht] at hP1
  have hK1 := va_K.moved hvm.symm hK1
  obtain ⟨hP, hD⟩ := va_join (wr := [(mr, .inl (cm1, 7, .inl (fun _ => 0)))]) (w1 := [(h0, .inr (12, [.int 0, .int 0, .ref mr, .ref mt, .ref mw, .ref mu, .ref mp, .ref mi, .ref mk, .ref ms, .int 0, .ref mv, .int 0, .int 0, .int 0, .int 0, .long 0, .int (-1), .int 0, .ref m1w, .ref m2w, .ref m3w, .ref m4w, .int 0, .long 0, .long 0, .long 0])), (mw, .inl (cm3, 906, .inr (.inl fw)))]) hP hD [0, 2] [1] rfl rfl (by decide) (by decide) hk1 hFc hP1 hD1
  generalize H1 = H at hP hS ⊢
  have hP : va_P (dC, dI) vwCl [(mr, .inl (cm1, 7, .inl (fun _ => 0))), (h0, .inr (12, [.int 0, .int 0, .ref mr, .ref mt, .ref mw, .ref mu, .ref mp, .ref mi, .ref mk, .ref ms, .int 0, .ref mv, .int 0, .int 0, .int 0, .int 0, .long 0, .int (-1), .int 0, .ref m1w, .ref m2w, .ref m3w, .ref m4w, .int 0, .long 0, .long 0, .long 0])), (mw, .inl (cm3, 906, .inr (.inl fw)))] H := hP
  have hD : va_D A [(mr, .inl (cm1, 7, .inl (fun _ => 0))), (h0, .inr (12, [.int 0, .int 0, .ref mr, .ref mt, .ref mw, .ref mu, .ref mp, .ref mi, .ref mk, .ref ms, .int 0, .ref mv, .int 0, .int 0, .int 0, .int 0, .long 0, .int (-1), .int 0, .ref m1w, .ref m2w, .ref m3w, .ref m4w, .int 0, .long 0, .long 0, .long 0])), (mw, .inl (cm3, 906, .inr (.inl fw)))] := hD
  refine W.widen (k := 0) (n := 0) (Nat.le_of_ble_eq_true rfl) (Nat.le_of_ble_eq_true rfl) ?_
  have hw : r_1 = 0 := hw
  subst hw
  refine lv_if_ne (tgt := 20) hx hb dX12_yields_10 (by decide) (fun c => absurd c (by decide)) (fun _ => ?_)
  refine lv_aload_n hx hb dX12_yields_13 rfl (lv_at hl 0 rfl) ?_
  refine lv_bipush (v := (-2)) hx hb dX12_yields_14 (by decide) ?_
  have hPc := hP.sub (ws' := [(h0, .inr (12, [.int 0, .int 0, .ref mr, .ref mt, .ref mw, .ref mu, .ref mp, .ref mi, .ref mk, .ref ms, .int 0, .ref mv, .int 0, .int 0, .int 0, .int 0, .long 0, .int (-1), .int 0, .ref m1w, .ref m2w, .ref m3w, .ref m4w, .int 0, .long 0, .long 0, .long 0])), (mr, .inl (cm1, 7, .inl (fun _ => 0)))]) [1, 0] rfl
  have hDc := hD.sub (ws' := [(h0, .inr (12, [.int 0, .int 0, .ref mr, .ref mt, .ref mw, .ref mu, .ref mp, .ref mi, .ref mk, .ref ms, .int 0, .ref mv, .int 0, .int 0, .int 0, .int 0, .long 0, .int (-1), .int 0, .ref m1w, .ref m2w, .ref m3w, .ref m4w, .int 0, .long 0, .long 0, .long 0])), (mr, .inl (cm1, 7, .inl (fun _ => 0)))]) [1, 0] (by decide) rfl
  have hKc := hK.sub (tys' := [(cm1, .int)]) [0] rfl
  have hFc := va_free (wc := [(h0, .inr (12, [.int 0, .int 0, .ref mr, .ref mt, .ref mw, .ref mu, .ref mp, .ref mi, .ref mk, .ref ms, .int 0, .ref mv, .int 0, .int 0, .int 0, .int 0, .long 0, .int (-1), .int 0, .ref m1w, .ref m2w, .ref m3w, .ref m4w, .int 0, .long 0, .long 0, .long 0])), (mr, .inl (cm1, 7, .inl (fun _ => 0)))]) hD hS hA [1, 0] rfl
  refine va_calli (va_runV (As := [.int (-2)]) (rest := []) ⟨hx, hb, hml, hown, hts⟩ (c_X12_refuse_2 l dC dI h0 mr mt mw mu mp mi mk ms mv m1w m2w m3w m4w cm1 H.size) (cwV 1 hts (gi_V (fun w_ h0_ => ⟨List.mem_cons_of_mem _ (List.mem_append_right _ (List.mem_append_right _ (List.mem_append_right _ (List.mem_append_left _ h0_)))), (tb_c_X12_refuse_2 w_ h0_).2⟩) (List.mem_cons_of_mem _ (List.mem_append_left _ (List.mem_of_getElem? (i := 5) rfl))) (List.mem_cons_of_mem _ (List.mem_append_left _ (List.mem_of_getElem? (i := 6) rfl))) (List.mem_cons_of_mem _ (List.mem_append_left _ (List.mem_of_getElem? (i := 7) rfl))) (List.mem_cons_of_mem _ (List.mem_append_left _ (List.mem_of_getElem? (i := 4) rfl)))) rfl rfl rfl (by decide +kernel) ⟨Nat.le_of_ble_eq_true rfl, Nat.le_of_ble_eq_true rfl⟩) ⟨fun a U g mk q => by obtain ⟨q0, q1, qP, qK, qD⟩ := q; exact ⟨q0, q1, qP, va_K.moved (u := U) (U := U.calling g mk a) (Vm.Alike.refl U.vm) qK, qD⟩, va_recv hKc hPc (ci := 12) (q0 := 0) rfl rfl, fun U hU hW => ⟨rfl, by rw [hU], by rw [hU]; exact hPc, va_K.moved hW.alike hKc, hDc.weaken (fun _ _ _ _ => trivial)⟩⟩ rfl rfl hl.1 rfl (lv_room (Nat.le_of_ble_eq_true rfl)) dX12_yields_16 ⟨Nat.le_of_ble_eq_true rfl, Nat.le_of_ble_eq_true rfl⟩) hS (fun q _ h => hFc q h) hFc (fun r_2 u t H1 locs ht hvm hw hB hz1 hk1 hS => ?_)
  obtain ⟨hP1, hK1, hD1⟩ := hB
  rw [ht] at hP1
  have hK1 := va_K.moved hvm.symm hK1
  obtain ⟨hP, hD⟩ := va_join (wr := [(mw, .inl (cm3, 906, .inr (.inl fw)))]) (w1 := []) hP hD [1, 0] [2] rfl rfl (by decide) (by decide) hk1 hFc hP1 hD1
  generalize H1 = H at hP hS ⊢
  have hP : va_P (dC, dI) vwCl [(mw, .inl (cm3, 906, .inr (.inl fw)))] H := hP
  have hD : va_D A [(mw, .inl (cm3, 906, .inr (.inl fw)))] := hD
  refine W.widen (k := 0) (n := 0) (Nat.le_of_ble_eq_true rfl) (Nat.le_of_ble_eq_true rfl) ?_
  have hw : r_2 = (-2) := hw
  subst hw
  have hP9 := hP.sub (ws' := []) [] rfl
  have hD9 := hD.sub (ws' := []) [] (by decide) rfl
  have hK9 := hK.sub (tys' := []) [] rfl
  refine W.widen (k := 0) (n := 0) (Nat.le_of_ble_eq_true rfl) (Nat.le_of_ble_eq_true rfl) ?_
  exact W.iret (v := (-2)) hx hb hr (fun t ht hW => ⟨⟨(-2), (), rfl, rfl, by rw [ht]; exact hP9, va_K.moved hW.alike hK9, hD9⟩, hS.F ht⟩) hS.2.2 dX12_yields_19
def ow_c_X12_script : List Cond := [.fieldLink RX12 67 "DeadlineShareModel" "thrown" "I", .methodLink RX12 142 yX12_isTask, .instanceMethod yX12_isTask, .selects RX12 yX12_isTask yX12_isTask, .initialized RX12, .methodLink RX12 76 yX12_refuse, .instanceMethod yX12_refuse, .selects RX12 yX12_refuse yX12_refuse]
def wq_c_X12_script : List Cond := .code yX12_script cX12_script 5 (some .int) :: (ow_c_X12_script ++ (u_ws RX12 TX12 27 ++ (wq_c_X12_isTask ++ (wq_c_X12_refuse_2 ++ ([] : List Cond)))))
theorem tb_c_X12_script : ∀ w ∈ wq_c_X12_script, q_g w := by
  unfold wq_c_X12_script ow_c_X12_script
  exact q_cons tw_510 (q_app (q_cons tw_488 (q_cons tw_506 (q_cons tw_505 (q_cons tw_504 (q_cons tw_435 (q_cons tw_483 (q_cons tw_482 (q_cons tw_481 q_nil)))))))) (q_app tu_X12 (q_app tb_c_X12_isTask (q_app tb_c_X12_refuse_2 q_nil))))
set_option maxHeartbeats 4000000 in
set_option maxRecDepth 100000 in
theorem c_X12_script (l : Launch) (dC : Nat → ClassId) (dI : Nat → Nat → Nat) (h0 : Nat) (tk : Int32) (mr : Nat) (mt : Nat) (mw : Nat) (mu : Nat) (mp : Nat) (mi : Nat) (mk : Nat) (ms : Nat) (mv : Nat) (m1w : Nat) (m2w : Nat) (m3w : Nat) (m4w : Nat) (cm1 : ClassId) (cm3 : ClassId) (fw : Nat → Int64) (sz : Nat) (hw0 : fw 0 = 0) (hw1 : fw 1 = 0) (hw2 : fw 2 = 0) (hw3 : fw 3 = (-1)) (hw4 : fw 4 = (-1)) (hw5 : fw 5 = 0) : Met l yX12_script wq_c_X12_script ({ frames := 2, cells := 0, slots := 0, locals := 46 } : Room) (va_Pc [.ref h0, .int tk] (fun U => U.heap.size = sz ∧ va_P (dC, dI) vwCl [(h0, .inr (12, [.int 0, .int 0, .ref mr, .ref mt, .ref mw, .ref mu, .ref mp, .ref mi, .ref mk, .ref ms, .int 0, .ref mv, .int 0, .int 0, .int 0, .int 0, .long 0, .int (-1), .int 0, .ref m1w, .ref m2w, .ref m3w, .ref m4w, .int 0, .long 0, .long 0, .long 0])), (mr, .inl (cm1, 7, .inl (fun _ => 0))), (mw, .inl (cm3, 906, .inr (.inl fw)))] U.heap ∧ va_K (dC, dI) vwCl [(cm1, .int), (cm3, .long)] U ∧ va_D (fun _ => True) [(h0, .inr (12, [.int 0, .int 0, .ref mr, .ref mt, .ref mw, .ref mu, .ref mp, .ref mi, .ref mk, .ref ms, .int 0, .ref mv, .int 0, .int 0, .int 0, .int 0, .long 0, .int (-1), .int 0, .ref m1w, .ref m2w, .ref m3w, .ref m4w, .int 0, .long 0, .long 0, .long 0])), (mr, .inl (cm1, 7, .inl (fun _ => 0))), (mw, .inl (cm3, 906, .inr (.inl fw)))])) (va_Qi (fun (r : Int32) (_ : Unit) => r = (-2)) (fun (_ : Unit) t => va_P (dC, dI) vwCl [] t.heap ∧ va_K (dC, dI) vwCl [] t ∧ va_D (va_A [(h0, .inr (12, [.int 0, .int 0, .ref mr, .ref mt, .ref mw, .ref mu, .ref mp, .ref mi, .ref mk, .ref ms, .int 0, .ref mv, .int 0, .int 0, .int 0, .int 0, .long 0, .int (-1), .int 0, .ref m1w, .ref m2w, .ref m3w, .ref m4w, .int 0, .long 0, .long 0, .long 0])), (mr, .inl (cm1, 7, .inl (fun _ => 0))), (mw, .inl (cm3, 906, .inr (.inl fw)))] sz) []) (va_A [(h0, .inr (12, [.int 0, .int 0, .ref mr, .ref mt, .ref mw, .ref mu, .ref mp, .ref mi, .ref mk, .ref ms, .int 0, .ref mv, .int 0, .int 0, .int 0, .int 0, .long 0, .int (-1), .int 0, .ref m1w, .ref m2w, .ref m3w, .ref m4w, .int 0, .long 0, .long 0, .long 0])), (mr, .inl (cm1, 7, .inl (fun _ => 0))), (mw, .inl (cm3, 906, .inr (.inl fw)))] sz)) 0 0 (va_A [(h0, .inr (12, [.int 0, .int 0, .ref mr, .ref mt, .ref mw, .ref mu, .ref mp, .ref mi, .ref mk, .ref ms, .int 0, .ref mv, .int 0, .int 0, .int 0, .int 0, .long 0, .int (-1), .int 0, .ref m1w, .ref m2w, .ref m3w, .ref m4w, .int 0, .long 0, .long 0, .long 0])), (mr, .inl (cm1, 7, .inl (fun _ => 0))), (mw, .inl (cm3, 906, .inr (.inl fw)))] sz) := by
  refine Met.ofW (cc := cX12_script) (maxL := 5) (ret := (some .int)) (by decide) rfl ?_
  intro p e s m args below meth c s₁ B hml hv
  obtain ⟨rfl, hsz, hP, hK, hD0⟩ := hv
  have hx := B.exec
  have hb := B.bytes
  have hr := B.returns
  have hts := atoms_spec (ws := wq_c_X12_script) B.pre
  have hown : s.vm.findClass RX12 = some m.cls := findClass_of_methodNamed B.named
  have hlocks := B.notSynchronized
  subst hsz
  have hD := hD0.self (sz := s.heap.size)
  obtain ⟨A, hAe⟩ : ∃ A, A = va_A [(h0, .inr (12, [.int 0, .int 0, .ref mr, .ref mt, .ref mw, .ref mu, .ref mp, .ref mi, .ref mk, .ref ms, .int 0, .ref mv, .int 0, .int 0, .int 0, .int 0, .long 0, .int (-1), .int 0, .ref m1w, .ref m2w, .ref m3w, .ref m4w, .int 0, .long 0, .long 0, .long 0])), (mr, .inl (cm1, 7, .inl (fun _ => 0))), (mw, .inl (cm3, 906, .inr (.inl fw)))] s.heap.size := ⟨_, rfl⟩
  rw [← hAe] at hD ⊢
  have hA : ∀ q : Nat, s.heap.size ≤ q → A q := fun q h => by rw [hAe]; exact Or.inr h
  have hS : va_S A s.heap s.heap [] := va_S.rf
  have hP : va_P (dC, dI) vwCl [(h0, .inr (12, [.int 0, .int 0, .ref mr, .ref mt, .ref mw, .ref mu, .ref mp, .ref mi, .ref mk, .ref ms, .int 0, .ref mv, .int 0, .int 0, .int 0, .int 0, .long 0, .int (-1), .int 0, .ref m1w, .ref m2w, .ref m3w, .ref m4w, .int 0, .long 0, .long 0, .long 0])), (mr, .inl (cm1, 7, .inl (fun _ => 0))), (mw, .inl (cm3, 906, .inr (.inl fw)))] s.heap := hP
  have hl := lv_entry ([.ref h0, .int tk]) (n := 5) (Nat.le_of_ble_eq_true rfl)
  rw [lg_entry_eq]
  generalize (lg_sl ([.ref h0, .int tk]) ++ List.replicate (5 - (lg_sl ([.ref h0, .int tk])).length) Slot.unset).toArray = ls at hl ⊢
  have hl : lv_has ls 5 [(0, .ref h0), (1, .int tk)] := hl
  refine lv_aload_n hx hb dX12_script_0 rfl (lv_at hl 0 rfl) ?_
  refine lv_iconst (v := 0) hx hb dX12_script_1 (by decide) ?_
  refine va_put (D := (dC, dI)) (ci := 12) (v := .int 0) (ty := .int) (C := RX12) (T := TX12) (N := 27) hx hb hts (fun _ h0_ => List.mem_cons_of_mem _ (List.mem_append_right _ (List.mem_append_left _ h0_))) tyX12 tyX12_ok nmX12 hown hK hP hD hS 0 rfl rfl 0 (by decide) (hts (.fieldLink RX12 67 "DeadlineShareModel" "thrown" "I") (List.mem_cons_of_mem _ (List.mem_append_left _ (List.mem_of_getElem? (i := 0) rfl)))) (fun _ h9 => h9) rfl (by decide +kernel) rfl rfl (Nat.le_of_ble_eq_true rfl) dX12_script_2 (fun H locs hP hD hS => ?_)
  have hP : va_P (dC, dI) vwCl [(h0, .inr (12, [.int 0, .int 0, .ref mr, .ref mt, .ref mw, .ref mu, .ref mp, .ref mi, .ref mk, .ref ms, .int 0, .ref mv, .int 0, .int 0, .int 0, .int 0, .long 0, .int (-1), .int 0, .ref m1w, .ref m2w, .ref m3w, .ref m4w, .int 0, .long 0, .long 0, .long 0])), (mr, .inl (cm1, 7, .inl (fun _ => 0))), (mw, .inl (cm3, 906, .inr (.inl fw)))] H := hP
  have hD : va_D A [(h0, .inr (12, [.int 0, .int 0, .ref mr, .ref mt, .ref mw, .ref mu, .ref mp, .ref mi, .ref mk, .ref ms, .int 0, .ref mv, .int 0, .int 0, .int 0, .int 0, .long 0, .int (-1), .int 0, .ref m1w, .ref m2w, .ref m3w, .ref m4w, .int 0, .long 0, .long 0, .long 0])), (mr, .inl (cm1, 7, .inl (fun _ => 0))), (mw, .inl (cm3, 906, .inr (.inl fw)))] := hD
  refine lv_aload_n hx hb dX12_script_5 rfl (lv_at hl 0 rfl) ?_
  refine lv_iload_n hx hb dX12_script_6 rfl (lv_at hl 1 rfl) ?_
  have hPc := hP.sub (ws' := [(h0, .inr (12, [.int 0, .int 0, .ref mr, .ref mt, .ref mw, .ref mu, .ref mp, .ref mi, .ref mk, .ref ms, .int 0, .ref mv, .int 0, .int 0, .int 0, .int 0, .long 0, .int (-1), .int 0, .ref m1w, .ref m2w, .ref m3w, .ref m4w, .int 0, .long 0, .long 0, .long 0])), (mw, .inl (cm3, 906, .inr (.inl fw)))]) [0, 2] rfl
  have hDc := hD.sub (ws' := [(h0, .inr (12, [.int 0, .int 0, .ref mr, .ref mt, .ref mw, .ref mu, .ref mp, .ref mi, .ref mk, .ref ms, .int 0, .ref mv, .int 0, .int 0, .int 0, .int 0, .long 0, .int (-1), .int 0, .ref m1w, .ref m2w, .ref m3w, .ref m4w, .int 0, .long 0, .long 0, .long 0])), (mw, .inl (cm3, 906, .inr (.inl fw)))]) [0, 2] (by decide) rfl
  have hKc := hK.sub (tys' := [(cm3, .long)]) [1] rfl
  have hFc := va_free (wc := [(h0, .inr (12, [.int 0, .int 0, .ref mr, .ref mt, .ref mw, .ref mu, .ref mp, .ref mi, .ref mk, .ref ms, .int 0, .ref mv, .int 0, .int 0, .int 0, .int 0, .long 0, .int (-1), .int 0, .ref m1w, .ref m2w, .ref m3w, .ref m4w, .int 0, .long 0, .long 0, .long 0])), (mw, .inl (cm3, 906, .inr (.inl fw)))]) hD hS hA [0, 2] rfl
  refine va_calli (va_runV (As := [.int tk]) (rest := []) ⟨hx, hb, hml, hown, hts⟩ (c_X12_isTask l dC dI h0 tk mr mt mw mu mp mi mk ms mv m1w m2w m3w m4w cm3 fw H.size hw0) (cwV 1 hts (gi_V (fun w_ h0_ => ⟨List.mem_cons_of_mem _ (List.mem_append_right _ (List.mem_append_right _ (List.mem_append_left _ h0_))), (tb_c_X12_isTask w_ h0_).2⟩) (List.mem_cons_of_mem _ (List.mem_append_left _ (List.mem_of_getElem? (i := 1) rfl))) (List.mem_cons_of_mem _ (List.mem_append_left _ (List.mem_of_getElem? (i := 2) rfl))) (List.mem_cons_of_mem _ (List.mem_append_left _ (List.mem_of_getElem? (i := 3) rfl))) (List.mem_cons_of_mem _ (List.mem_append_left _ (List.mem_of_getElem? (i := 4) rfl)))) rfl rfl rfl (by decide +kernel) ⟨Nat.le_of_ble_eq_true rfl, Nat.le_of_ble_eq_true rfl⟩) ⟨fun a U g mk q => by obtain ⟨q0, q1, qP, qK, qD⟩ := q; exact ⟨q0, q1, qP, va_K.moved (u := U) (U := U.calling g mk a) (Vm.Alike.refl U.vm) qK, qD⟩, va_recv hKc hPc (ci := 12) (q0 := 0) rfl rfl, fun U hU hW => ⟨rfl, by rw [hU], by rw [hU]; exact hPc, va_K.moved hW.alike hKc, hDc.weaken (fun _ _ _ _ => trivial)⟩⟩ rfl rfl hl.1 rfl (lv_room (Nat.le_of_ble_eq_true rfl)) dX12_script_7 ⟨Nat.le_of_ble_eq_true rfl, Nat.le_of_ble_eq_true rfl⟩) hS (fun q _ h => hFc q h) hFc (fun r_1 u t H1 locs ht hvm hw hB hz1 hk1 hS => ?_)
  obtain ⟨hP1, hK1, hD1⟩ := hB
  rw [ht] at hP1
  have hK1 := va_K.moved hvm.symm hK1
  obtain ⟨hP, hD⟩ := va_join (wr := [(mr, .inl (cm1, 7, .inl (fun _ => 0)))]) (w1 := [(h0, .inr (12, [.int 0, .int 0, .ref mr, .ref mt, .ref mw, .ref mu, .ref mp, .ref mi, .ref mk, .ref ms, .int 0, .ref mv, .int 0, .int 0, .int 0, .int 0, .long 0, .int (-1), .int 0, .ref m1w, .ref m2w, .ref m3w, .ref m4w, .int 0, .long 0, .long 0, .long 0])), (mw, .inl (cm3, 906, .inr (.inl fw)))]) hP hD [0, 2] [1] rfl rfl (by decide) (by decide) hk1 hFc hP1 hD1
  generalize H1 = H at hP hS ⊢
  have hP : va_P (dC, dI) vwCl [(mr, .inl (cm1, 7, .inl (fun _ => 0))), (h0, .inr (12, [.int 0, .int 0, .ref mr, .ref mt, .ref mw, .ref mu, .ref mp, .ref mi, .ref mk, .ref ms, .int 0, .ref mv, .int 0, .int 0, .int 0, .int 0, .long 0, .int (-1), .int 0, .ref m1w, .ref m2w, .ref m3w, .ref m4w, .int 0, .long 0, .long 0, .long 0])), (mw, .inl (cm3, 906, .inr (.inl fw)))] H := hP
  have hD : va_D A [(mr, .inl (cm1, 7, .inl (fun _ => 0))), (h0, .inr (12, [.int 0, .int 0, .ref mr, .ref mt, .ref mw, .ref mu, .ref mp, .ref mi, .ref mk, .ref ms, .int 0, .ref mv, .int 0, .int 0, .int 0, .int 0, .long 0, .int (-1), .int 0, .ref m1w, .ref m2w, .ref m3w, .ref m4w, .int 0, .long 0, .long 0, .long 0])), (mw, .inl (cm3, 906, .inr (.inl fw)))] := hD
  refine W.widen (k := 0) (n := 0) (Nat.le_of_ble_eq_true rfl) (Nat.le_of_ble_eq_true rfl) ?_
  have hw : r_1 = 0 := hw
  subst hw
  refine lv_if_ne (tgt := 20) hx hb dX12_script_10 (by decide) (fun c => absurd c (by decide)) (fun _ => ?_)
  refine lv_aload_n hx hb dX12_script_13 rfl (lv_at hl 0 rfl) ?_
  refine lv_bipush (v := (-2)) hx hb dX12_script_14 (by decide) ?_
  have hPc := hP.sub (ws' := [(h0, .inr (12, [.int 0, .int 0, .ref mr, .ref mt, .ref mw, .ref mu, .ref mp, .ref mi, .ref mk, .ref ms, .int 0, .ref mv, .int 0, .int 0, .int 0, .int 0, .long 0, .int (-1), .int 0, .ref m1w, .ref m2w, .ref m3w, .ref m4w, .int 0, .long 0, .long 0, .long 0])), (mr, .inl (cm1, 7, .inl (fun _ => 0)))]) [1, 0] rfl
  have hDc := hD.sub (ws' := [(h0, .inr (12, [.int 0, .int 0, .ref mr, .ref mt, .ref mw, .ref mu, .ref mp, .ref mi, .ref mk, .ref ms, .int 0, .ref mv, .int 0, .int 0, .int 0, .int 0, .long 0, .int (-1), .int 0, .ref m1w, .ref m2w, .ref m3w, .ref m4w, .int 0, .long 0, .long 0, .long 0])), (mr, .inl (cm1, 7, .inl (fun _ => 0)))]) [1, 0] (by decide) rfl
  have hKc := hK.sub (tys' := [(cm1, .int)]) [0] rfl
  have hFc := va_free (wc := [(h0, .inr (12, [.int 0, .int 0, .ref mr, .ref mt, .ref mw, .ref mu, .ref mp, .ref mi, .ref mk, .ref ms, .int 0, .ref mv, .int 0, .int 0, .int 0, .int 0, .long 0, .int (-1), .int 0, .ref m1w, .ref m2w, .ref m3w, .ref m4w, .int 0, .long 0, .long 0, .long 0])), (mr, .inl (cm1, 7, .inl (fun _ => 0)))]) hD hS hA [1, 0] rfl
  refine va_calli (va_runV (As := [.int (-2)]) (rest := []) ⟨hx, hb, hml, hown, hts⟩ (c_X12_refuse_2 l dC dI h0 mr mt mw mu mp mi mk ms mv m1w m2w m3w m4w cm1 H.size) (cwV 1 hts (gi_V (fun w_ h0_ => ⟨List.mem_cons_of_mem _ (List.mem_append_right _ (List.mem_append_right _ (List.mem_append_right _ (List.mem_append_left _ h0_)))), (tb_c_X12_refuse_2 w_ h0_).2⟩) (List.mem_cons_of_mem _ (List.mem_append_left _ (List.mem_of_getElem? (i := 5) rfl))) (List.mem_cons_of_mem _ (List.mem_append_left _ (List.mem_of_getElem? (i := 6) rfl))) (List.mem_cons_of_mem _ (List.mem_append_left _ (List.mem_of_getElem? (i := 7) rfl))) (List.mem_cons_of_mem _ (List.mem_append_left _ (List.mem_of_getElem? (i := 4) rfl)))) rfl rfl rfl (by decide +kernel) ⟨Nat.le_of_ble_eq_true rfl, Nat.le_of_ble_eq_true rfl⟩) ⟨fun a U g mk q => by obtain ⟨q0, q1, qP, qK, qD⟩ := q; exact ⟨q0, q1, qP, va_K.moved (u := U) (U := U.calling g mk a) (Vm.Alike.refl U.vm) qK, qD⟩, va_recv hKc hPc (ci := 12) (q0 := 0) rfl rfl, fun U hU hW => ⟨rfl, by rw [hU], by rw [hU]; exact hPc, va_K.moved hW.alike hKc, hDc.weaken (fun _ _ _ _ => trivial)⟩⟩ rfl rfl hl.1 rfl (lv_room (Nat.le_of_ble_eq_true rfl)) dX12_script_16 ⟨Nat.le_of_ble_eq_true rfl, Nat.le_of_ble_eq_true rfl⟩) hS (fun q _ h => hFc q h) hFc (fun r_2 u t H1 locs ht hvm hw hB hz1 hk1 hS => ?_)
  obtain ⟨hP1, hK1, hD1⟩ := hB
  rw [ht] at hP1
  have hK1 := va_K.moved hvm.symm hK1
  obtain ⟨hP, hD⟩ := va_join (wr := [(mw, .inl (cm3, 906, .inr (.inl fw)))]) (w1 := []) hP hD [1, 0] [2] rfl rfl (by decide) (by decide) hk1 hFc hP1 hD1
  generalize H1 = H at hP hS ⊢
  have hP : va_P (dC, dI) vwCl [(mw, .inl (cm3, 906, .inr (.inl fw)))] H := hP
  have hD : va_D A [(mw, .inl (cm3, 906, .inr (.inl fw)))] := hD
  refine W.widen (k := 0) (n := 0) (Nat.le_of_ble_eq_true rfl) (Nat.le_of_ble_eq_true rfl) ?_
  have hw : r_2 = (-2) := hw
  subst hw
  have hP9 := hP.sub (ws' := []) [] rfl
  have hD9 := hD.sub (ws' := []) [] (by decide) rfl
  have hK9 := hK.sub (tys' := []) [] rfl
  refine W.widen (k := 0) (n := 0) (Nat.le_of_ble_eq_true rfl) (Nat.le_of_ble_eq_true rfl) ?_
  exact W.iret (v := (-2)) hx hb hr (fun t ht hW => ⟨⟨(-2), (), rfl, rfl, by rw [ht]; exact hP9, va_K.moved hW.alike hK9, hD9⟩, hS.F ht⟩) hS.2.2 dX12_script_19
def ow_c_X12_listing : List Cond := [.fieldLink RX12 67 "DeadlineShareModel" "thrown" "I", .methodLink RX12 142 yX12_isTask, .instanceMethod yX12_isTask, .selects RX12 yX12_isTask yX12_isTask, .initialized RX12, .methodLink RX12 76 yX12_refuse, .instanceMethod yX12_refuse, .selects RX12 yX12_refuse yX12_refuse]
def wq_c_X12_listing : List Cond := .code yX12_listing cX12_listing 6 (some .int) :: (ow_c_X12_listing ++ (u_ws RX12 TX12 27 ++ (wq_c_X12_isTask ++ (wq_c_X12_refuse_2 ++ ([] : List Cond)))))
theorem tb_c_X12_listing : ∀ w ∈ wq_c_X12_listing, q_g w := by
  unfold wq_c_X12_listing ow_c_X12_listing
  exact q_cons tw_511 (q_app (q_cons tw_488 (q_cons tw_506 (q_cons tw_505 (q_cons tw_504 (q_cons tw_435 (q_cons tw_483 (q_cons tw_482 (q_cons tw_481 q_nil)))))))) (q_app tu_X12 (q_app tb_c_X12_isTask (q_app tb_c_X12_refuse_2 q_nil))))
set_option maxHeartbeats 4000000 in
set_option maxRecDepth 100000 in
theorem c_X12_listing (l : Launch) (dC : Nat → ClassId) (dI : Nat → Nat → Nat) (h0 : Nat) (tk : Int32) (mr : Nat) (mt : Nat) (mw : Nat) (mu : Nat) (mp : Nat) (mi : Nat) (mk : Nat) (ms : Nat) (mv : Nat) (m1w : Nat) (m2w : Nat) (m3w : Nat) (m4w : Nat) (cm1 : ClassId) (cm3 : ClassId) (fw : Nat → Int64) (sz : Nat) (hw0 : fw 0 = 0) (hw1 : fw 1 = 0) (hw2 : fw 2 = 0) (hw3 : fw 3 = (-1)) (hw4 : fw 4 = (-1)) (hw5 : fw 5 = 0) : Met l yX12_listing wq_c_X12_listing ({ frames := 2, cells := 0, slots := 0, locals := 46 } : Room) (va_Pc [.ref h0, .int tk] (fun U => U.heap.size = sz ∧ va_P (dC, dI) vwCl [(h0, .inr (12, [.int 0, .int 0, .ref mr, .ref mt, .ref mw, .ref mu, .ref mp, .ref mi, .ref mk, .ref ms, .int 0, .ref mv, .int 0, .int 0, .int 0, .int 0, .long 0, .int (-1), .int 0, .ref m1w, .ref m2w, .ref m3w, .ref m4w, .int 0, .long 0, .long 0, .long 0])), (mr, .inl (cm1, 7, .inl (fun _ => 0))), (mw, .inl (cm3, 906, .inr (.inl fw)))] U.heap ∧ va_K (dC, dI) vwCl [(cm1, .int), (cm3, .long)] U ∧ va_D (fun _ => True) [(h0, .inr (12, [.int 0, .int 0, .ref mr, .ref mt, .ref mw, .ref mu, .ref mp, .ref mi, .ref mk, .ref ms, .int 0, .ref mv, .int 0, .int 0, .int 0, .int 0, .long 0, .int (-1), .int 0, .ref m1w, .ref m2w, .ref m3w, .ref m4w, .int 0, .long 0, .long 0, .long 0])), (mr, .inl (cm1, 7, .inl (fun _ => 0))), (mw, .inl (cm3, 906, .inr (.inl fw)))])) (va_Qi (fun (r : Int32) (_ : Unit) => r = (-2)) (fun (_ : Unit) t => va_P (dC, dI) vwCl [] t.heap ∧ va_K (dC, dI) vwCl [] t ∧ va_D (va_A [(h0, .inr (12, [.int 0, .int 0, .ref mr, .ref mt, .ref mw, .ref mu, .ref mp, .ref mi, .ref mk, .ref ms, .int 0, .ref mv, .int 0, .int 0, .int 0, .int 0, .long 0, .int (-1), .int 0, .ref m1w, .ref m2w, .ref m3w, .ref m4w, .int 0, .long 0, .long 0, .long 0])), (mr, .inl (cm1, 7, .inl (fun _ => 0))), (mw, .inl (cm3, 906, .inr (.inl fw)))] sz) []) (va_A [(h0, .inr (12, [.int 0, .int 0, .ref mr, .ref mt, .ref mw, .ref mu, .ref mp, .ref mi, .ref mk, .ref ms, .int 0, .ref mv, .int 0, .int 0, .int 0, .int 0, .long 0, .int (-1), .int 0, .ref m1w, .ref m2w, .ref m3w, .ref m4w, .int 0, .long 0, .long 0, .long 0])), (mr, .inl (cm1, 7, .inl (fun _ => 0))), (mw, .inl (cm3, 906, .inr (.inl fw)))] sz)) 0 0 (va_A [(h0, .inr (12, [.int 0, .int 0, .ref mr, .ref mt, .ref mw, .ref mu, .ref mp, .ref mi, .ref mk, .ref ms, .int 0, .ref mv, .int 0, .int 0, .int 0, .int 0, .long 0, .int (-1), .int 0, .ref m1w, .ref m2w, .ref m3w, .ref m4w, .int 0, .long 0, .long 0, .long 0])), (mr, .inl (cm1, 7, .inl (fun _ => 0))), (mw, .inl (cm3, 906, .inr (.inl fw)))] sz) := by
  refine Met.ofW (cc := cX12_listing) (maxL := 6) (ret := (some .int)) (by decide) rfl ?_
  intro p e s m args below meth c s₁ B hml hv
  obtain ⟨rfl, hsz, hP, hK, hD0⟩ := hv
  have hx := B.exec
  have hb := B.bytes
  have hr := B.returns
  have hts := atoms_spec (ws := wq_c_X12_listing) B.pre
  have hown : s.vm.findClass RX12 = some m.cls := findClass_of_methodNamed B.named
  have hlocks := B.notSynchronized
  subst hsz
  have hD := hD0.self (sz := s.heap.size)
  obtain ⟨A, hAe⟩ : ∃ A, A = va_A [(h0, .inr (12, [.int 0, .int 0, .ref mr, .ref mt, .ref mw, .ref mu, .ref mp, .ref mi, .ref mk, .ref ms, .int 0, .ref mv, .int 0, .int 0, .int 0, .int 0, .long 0, .int (-1), .int 0, .ref m1w, .ref m2w, .ref m3w, .ref m4w, .int 0, .long 0, .long 0, .long 0])), (mr, .inl (cm1, 7, .inl (fun _ => 0))), (mw, .inl (cm3, 906, .inr (.inl fw)))] s.heap.size := ⟨_, rfl⟩
  rw [← hAe] at hD ⊢
  have hA : ∀ q : Nat, s.heap.size ≤ q → A q := fun q h => by rw [hAe]; exact Or.inr h
  have hS : va_S A s.heap s.heap [] := va_S.rf
  have hP : va_P (dC, dI) vwCl [(h0, .inr (12, [.int 0, .int 0, .ref mr, .ref mt, .ref mw, .ref mu, .ref mp, .ref mi, .ref mk, .ref ms, .int 0, .ref mv, .int 0, .int 0, .int 0, .int 0, .long 0, .int (-1), .int 0, .ref m1w, .ref m2w, .ref m3w, .ref m4w, .int 0, .long 0, .long 0, .long 0])), (mr, .inl (cm1, 7, .inl (fun _ => 0))), (mw, .inl (cm3, 906, .inr (.inl fw)))] s.heap := hP
  have hl := lv_entry ([.ref h0, .int tk]) (n := 6) (Nat.le_of_ble_eq_true rfl)
  rw [lg_entry_eq]
  generalize (lg_sl ([.ref h0, .int tk]) ++ List.replicate (6 - (lg_sl ([.ref h0, .int tk])).length) Slot.unset).toArray = ls at hl ⊢
  have hl : lv_has ls 6 [(0, .ref h0), (1, .int tk)] := hl
  refine lv_aload_n hx hb dX12_listing_0 rfl (lv_at hl 0 rfl) ?_
  refine lv_iconst (v := 0) hx hb dX12_listing_1 (by decide) ?_
  refine va_put (D := (dC, dI)) (ci := 12) (v := .int 0) (ty := .int) (C := RX12) (T := TX12) (N := 27) hx hb hts (fun _ h0_ => List.mem_cons_of_mem _ (List.mem_append_right _ (List.mem_append_left _ h0_))) tyX12 tyX12_ok nmX12 hown hK hP hD hS 0 rfl rfl 0 (by decide) (hts (.fieldLink RX12 67 "DeadlineShareModel" "thrown" "I") (List.mem_cons_of_mem _ (List.mem_append_left _ (List.mem_of_getElem? (i := 0) rfl)))) (fun _ h9 => h9) rfl (by decide +kernel) rfl rfl (Nat.le_of_ble_eq_true rfl) dX12_listing_2 (fun H locs hP hD hS => ?_)
  have hP : va_P (dC, dI) vwCl [(h0, .inr (12, [.int 0, .int 0, .ref mr, .ref mt, .ref mw, .ref mu, .ref mp, .ref mi, .ref mk, .ref ms, .int 0, .ref mv, .int 0, .int 0, .int 0, .int 0, .long 0, .int (-1), .int 0, .ref m1w, .ref m2w, .ref m3w, .ref m4w, .int 0, .long 0, .long 0, .long 0])), (mr, .inl (cm1, 7, .inl (fun _ => 0))), (mw, .inl (cm3, 906, .inr (.inl fw)))] H := hP
  have hD : va_D A [(h0, .inr (12, [.int 0, .int 0, .ref mr, .ref mt, .ref mw, .ref mu, .ref mp, .ref mi, .ref mk, .ref ms, .int 0, .ref mv, .int 0, .int 0, .int 0, .int 0, .long 0, .int (-1), .int 0, .ref m1w, .ref m2w, .ref m3w, .ref m4w, .int 0, .long 0, .long 0, .long 0])), (mr, .inl (cm1, 7, .inl (fun _ => 0))), (mw, .inl (cm3, 906, .inr (.inl fw)))] := hD
  refine lv_aload_n hx hb dX12_listing_5 rfl (lv_at hl 0 rfl) ?_
  refine lv_iload_n hx hb dX12_listing_6 rfl (lv_at hl 1 rfl) ?_
  have hPc := hP.sub (ws' := [(h0, .inr (12, [.int 0, .int 0, .ref mr, .ref mt, .ref mw, .ref mu, .ref mp, .ref mi, .ref mk, .ref ms, .int 0, .ref mv, .int 0, .int 0, .int 0, .int 0, .long 0, .int (-1), .int 0, .ref m1w, .ref m2w, .ref m3w, .ref m4w, .int 0, .long 0, .long 0, .long 0])), (mw, .inl (cm3, 906, .inr (.inl fw)))]) [0, 2] rfl
  have hDc := hD.sub (ws' := [(h0, .inr (12, [.int 0, .int 0, .ref mr, .ref mt, .ref mw, .ref mu, .ref mp, .ref mi, .ref mk, .ref ms, .int 0, .ref mv, .int 0, .int 0, .int 0, .int 0, .long 0, .int (-1), .int 0, .ref m1w, .ref m2w, .ref m3w, .ref m4w, .int 0, .long 0, .long 0, .long 0])), (mw, .inl (cm3, 906, .inr (.inl fw)))]) [0, 2] (by decide) rfl
  have hKc := hK.sub (tys' := [(cm3, .long)]) [1] rfl
  have hFc := va_free (wc := [(h0, .inr (12, [.int 0, .int 0, .ref mr, .ref mt, .ref mw, .ref mu, .ref mp, .ref mi, .ref mk, .ref ms, .int 0, .ref mv, .int 0, .int 0, .int 0, .int 0, .long 0, .int (-1), .int 0, .ref m1w, .ref m2w, .ref m3w, .ref m4w, .int 0, .long 0, .long 0, .long 0])), (mw, .inl (cm3, 906, .inr (.inl fw)))]) hD hS hA [0, 2] rfl
  refine va_calli (va_runV (As := [.int tk]) (rest := []) ⟨hx, hb, hml, hown, hts⟩ (c_X12_isTask l dC dI h0 tk mr mt mw mu mp mi mk ms mv m1w m2w m3w m4w cm3 fw H.size hw0) (cwV 1 hts (gi_V (fun w_ h0_ => ⟨List.mem_cons_of_mem _ (List.mem_append_right _ (List.mem_append_right _ (List.mem_append_left _ h0_))), (tb_c_X12_isTask w_ h0_).2⟩) (List.mem_cons_of_mem _ (List.mem_append_left _ (List.mem_of_getElem? (i := 1) rfl))) (List.mem_cons_of_mem _ (List.mem_append_left _ (List.mem_of_getElem? (i := 2) rfl))) (List.mem_cons_of_mem _ (List.mem_append_left _ (List.mem_of_getElem? (i := 3) rfl))) (List.mem_cons_of_mem _ (List.mem_append_left _ (List.mem_of_getElem? (i := 4) rfl)))) rfl rfl rfl (by decide +kernel) ⟨Nat.le_of_ble_eq_true rfl, Nat.le_of_ble_eq_true rfl⟩) ⟨fun a U g mk q => by obtain ⟨q0, q1, qP, qK, qD⟩ := q; exact ⟨q0, q1, qP, va_K.moved (u := U) (U := U.calling g mk a) (Vm.Alike.refl U.vm) qK, qD⟩, va_recv hKc hPc (ci := 12) (q0 := 0) rfl rfl, fun U hU hW => ⟨rfl, by rw [hU], by rw [hU]; exact hPc, va_K.moved hW.alike hKc, hDc.weaken (fun _ _ _ _ => trivial)⟩⟩ rfl rfl hl.1 rfl (lv_room (Nat.le_of_ble_eq_true rfl)) dX12_listing_7 ⟨Nat.le_of_ble_eq_true rfl, Nat.le_of_ble_eq_true rfl⟩) hS (fun q _ h => hFc q h) hFc (fun r_1 u t H1 locs ht hvm hw hB hz1 hk1 hS => ?_)
  obtain ⟨hP1, hK1, hD1⟩ := hB
  rw [ht] at hP1
  have hK1 := va_K.moved hvm.symm hK1
  obtain ⟨hP, hD⟩ := va_join (wr := [(mr, .inl (cm1, 7, .inl (fun _ => 0)))]) (w1 := [(h0, .inr (12, [.int 0, .int 0, .ref mr, .ref mt, .ref mw, .ref mu, .ref mp, .ref mi, .ref mk, .ref ms, .int 0, .ref mv, .int 0, .int 0, .int 0, .int 0, .long 0, .int (-1), .int 0, .ref m1w, .ref m2w, .ref m3w, .ref m4w, .int 0, .long 0, .long 0, .long 0])), (mw, .inl (cm3, 906, .inr (.inl fw)))]) hP hD [0, 2] [1] rfl rfl (by decide) (by decide) hk1 hFc hP1 hD1
  generalize H1 = H at hP hS ⊢
  have hP : va_P (dC, dI) vwCl [(mr, .inl (cm1, 7, .inl (fun _ => 0))), (h0, .inr (12, [.int 0, .int 0, .ref mr, .ref mt, .ref mw, .ref mu, .ref mp, .ref mi, .ref mk, .ref ms, .int 0, .ref mv, .int 0, .int 0, .int 0, .int 0, .long 0, .int (-1), .int 0, .ref m1w, .ref m2w, .ref m3w, .ref m4w, .int 0, .long 0, .long 0, .long 0])), (mw, .inl (cm3, 906, .inr (.inl fw)))] H := hP
  have hD : va_D A [(mr, .inl (cm1, 7, .inl (fun _ => 0))), (h0, .inr (12, [.int 0, .int 0, .ref mr, .ref mt, .ref mw, .ref mu, .ref mp, .ref mi, .ref mk, .ref ms, .int 0, .ref mv, .int 0, .int 0, .int 0, .int 0, .long 0, .int (-1), .int 0, .ref m1w, .ref m2w, .ref m3w, .ref m4w, .int 0, .long 0, .long 0, .long 0])), (mw, .inl (cm3, 906, .inr (.inl fw)))] := hD
  refine W.widen (k := 0) (n := 0) (Nat.le_of_ble_eq_true rfl) (Nat.le_of_ble_eq_true rfl) ?_
  have hw : r_1 = 0 := hw
  subst hw
  refine lv_if_ne (tgt := 20) hx hb dX12_listing_10 (by decide) (fun c => absurd c (by decide)) (fun _ => ?_)
  refine lv_aload_n hx hb dX12_listing_13 rfl (lv_at hl 0 rfl) ?_
  refine lv_bipush (v := (-2)) hx hb dX12_listing_14 (by decide) ?_
  have hPc := hP.sub (ws' := [(h0, .inr (12, [.int 0, .int 0, .ref mr, .ref mt, .ref mw, .ref mu, .ref mp, .ref mi, .ref mk, .ref ms, .int 0, .ref mv, .int 0, .int 0, .int 0, .int 0, .long 0, .int (-1), .int 0, .ref m1w, .ref m2w, .ref m3w, .ref m4w, .int 0, .long 0, .long 0, .long 0])), (mr, .inl (cm1, 7, .inl (fun _ => 0)))]) [1, 0] rfl
  have hDc := hD.sub (ws' := [(h0, .inr (12, [.int 0, .int 0, .ref mr, .ref mt, .ref mw, .ref mu, .ref mp, .ref mi, .ref mk, .ref ms, .int 0, .ref mv, .int 0, .int 0, .int 0, .int 0, .long 0, .int (-1), .int 0, .ref m1w, .ref m2w, .ref m3w, .ref m4w, .int 0, .long 0, .long 0, .long 0])), (mr, .inl (cm1, 7, .inl (fun _ => 0)))]) [1, 0] (by decide) rfl
  have hKc := hK.sub (tys' := [(cm1, .int)]) [0] rfl
  have hFc := va_free (wc := [(h0, .inr (12, [.int 0, .int 0, .ref mr, .ref mt, .ref mw, .ref mu, .ref mp, .ref mi, .ref mk, .ref ms, .int 0, .ref mv, .int 0, .int 0, .int 0, .int 0, .long 0, .int (-1), .int 0, .ref m1w, .ref m2w, .ref m3w, .ref m4w, .int 0, .long 0, .long 0, .long 0])), (mr, .inl (cm1, 7, .inl (fun _ => 0)))]) hD hS hA [1, 0] rfl
  refine va_calli (va_runV (As := [.int (-2)]) (rest := []) ⟨hx, hb, hml, hown, hts⟩ (c_X12_refuse_2 l dC dI h0 mr mt mw mu mp mi mk ms mv m1w m2w m3w m4w cm1 H.size) (cwV 1 hts (gi_V (fun w_ h0_ => ⟨List.mem_cons_of_mem _ (List.mem_append_right _ (List.mem_append_right _ (List.mem_append_right _ (List.mem_append_left _ h0_)))), (tb_c_X12_refuse_2 w_ h0_).2⟩) (List.mem_cons_of_mem _ (List.mem_append_left _ (List.mem_of_getElem? (i := 5) rfl))) (List.mem_cons_of_mem _ (List.mem_append_left _ (List.mem_of_getElem? (i := 6) rfl))) (List.mem_cons_of_mem _ (List.mem_append_left _ (List.mem_of_getElem? (i := 7) rfl))) (List.mem_cons_of_mem _ (List.mem_append_left _ (List.mem_of_getElem? (i := 4) rfl)))) rfl rfl rfl (by decide +kernel) ⟨Nat.le_of_ble_eq_true rfl, Nat.le_of_ble_eq_true rfl⟩) ⟨fun a U g mk q => by obtain ⟨q0, q1, qP, qK, qD⟩ := q; exact ⟨q0, q1, qP, va_K.moved (u := U) (U := U.calling g mk a) (Vm.Alike.refl U.vm) qK, qD⟩, va_recv hKc hPc (ci := 12) (q0 := 0) rfl rfl, fun U hU hW => ⟨rfl, by rw [hU], by rw [hU]; exact hPc, va_K.moved hW.alike hKc, hDc.weaken (fun _ _ _ _ => trivial)⟩⟩ rfl rfl hl.1 rfl (lv_room (Nat.le_of_ble_eq_true rfl)) dX12_listing_16 ⟨Nat.le_of_ble_eq_true rfl, Nat.le_of_ble_eq_true rfl⟩) hS (fun q _ h => hFc q h) hFc (fun r_2 u t H1 locs ht hvm hw hB hz1 hk1 hS => ?_)
  obtain ⟨hP1, hK1, hD1⟩ := hB
  rw [ht] at hP1
  have hK1 := va_K.moved hvm.symm hK1
  obtain ⟨hP, hD⟩ := va_join (wr := [(mw, .inl (cm3, 906, .inr (.inl fw)))]) (w1 := []) hP hD [1, 0] [2] rfl rfl (by decide) (by decide) hk1 hFc hP1 hD1
  generalize H1 = H at hP hS ⊢
  have hP : va_P (dC, dI) vwCl [(mw, .inl (cm3, 906, .inr (.inl fw)))] H := hP
  have hD : va_D A [(mw, .inl (cm3, 906, .inr (.inl fw)))] := hD
  refine W.widen (k := 0) (n := 0) (Nat.le_of_ble_eq_true rfl) (Nat.le_of_ble_eq_true rfl) ?_
  have hw : r_2 = (-2) := hw
  subst hw
  have hP9 := hP.sub (ws' := []) [] rfl
  have hD9 := hD.sub (ws' := []) [] (by decide) rfl
  have hK9 := hK.sub (tys' := []) [] rfl
  refine W.widen (k := 0) (n := 0) (Nat.le_of_ble_eq_true rfl) (Nat.le_of_ble_eq_true rfl) ?_
  exact W.iret (v := (-2)) hx hb hr (fun t ht hW => ⟨⟨(-2), (), rfl, rfl, by rw [ht]; exact hP9, va_K.moved hW.alike hK9, hD9⟩, hS.F ht⟩) hS.2.2 dX12_listing_19
def ow_c_X12_weigh : List Cond := [.fieldLink RX12 67 "DeadlineShareModel" "thrown" "I", .constantLong RX12 135 (8), .methodLink RX12 83 yX12_in, .static yX12_in, .initialized RX12, .methodLink RX12 142 yX12_isTask, .instanceMethod yX12_isTask, .selects RX12 yX12_isTask yX12_isTask, .methodLink RX12 76 yX12_refuse, .instanceMethod yX12_refuse, .selects RX12 yX12_refuse yX12_refuse]
def wq_c_X12_weigh : List Cond := .code yX12_weigh cX12_weigh 4 (some .int) :: (ow_c_X12_weigh ++ (u_ws RX12 TX12 27 ++ (wq_c_X12_in ++ (wq_c_X12_isTask ++ (wq_c_X12_refuse_2 ++ (wq_c_X12_refuse_1 ++ ([] : List Cond)))))))
theorem tb_c_X12_weigh : ∀ w ∈ wq_c_X12_weigh, q_g w := by
  unfold wq_c_X12_weigh ow_c_X12_weigh
  exact q_cons tw_512 (q_app (q_cons tw_488 (q_cons tw_502 (q_cons tw_437 (q_cons tw_436 (q_cons tw_435 (q_cons tw_506 (q_cons tw_505 (q_cons tw_504 (q_cons tw_483 (q_cons tw_482 (q_cons tw_481 q_nil))))))))))) (q_app tu_X12 (q_app tb_c_X12_in (q_app tb_c_X12_isTask (q_app tb_c_X12_refuse_2 (q_app tb_c_X12_refuse_1 q_nil))))))
set_option maxHeartbeats 4000000 in
set_option maxRecDepth 100000 in
theorem c_X12_weigh (l : Launch) (dC : Nat → ClassId) (dI : Nat → Nat → Nat) (h0 : Nat) (tk : Int32) (wt : Int32) (mr : Nat) (mt : Nat) (mw : Nat) (mu : Nat) (mp : Nat) (mi : Nat) (mk : Nat) (ms : Nat) (mv : Nat) (m1w : Nat) (m2w : Nat) (m3w : Nat) (m4w : Nat) (cm1 : ClassId) (cm3 : ClassId) (fw : Nat → Int64) (sz : Nat) (hw0 : fw 0 = 0) (hw1 : fw 1 = 0) (hw2 : fw 2 = 0) (hw3 : fw 3 = (-1)) (hw4 : fw 4 = (-1)) (hw5 : fw 5 = 0) : Met l yX12_weigh wq_c_X12_weigh ({ frames := 2, cells := 0, slots := 0, locals := 46 } : Room) (va_Pc [.ref h0, .int tk, .int wt] (fun U => U.heap.size = sz ∧ va_P (dC, dI) vwCl [(h0, .inr (12, [.int 0, .int 0, .ref mr, .ref mt, .ref mw, .ref mu, .ref mp, .ref mi, .ref mk, .ref ms, .int 0, .ref mv, .int 0, .int 0, .int 0, .int 0, .long 0, .int (-1), .int 0, .ref m1w, .ref m2w, .ref m3w, .ref m4w, .int 0, .long 0, .long 0, .long 0])), (mr, .inl (cm1, 7, .inl (fun _ => 0))), (mw, .inl (cm3, 906, .inr (.inl fw)))] U.heap ∧ va_K (dC, dI) vwCl [(cm1, .int), (cm3, .long)] U ∧ va_D (fun _ => True) [(h0, .inr (12, [.int 0, .int 0, .ref mr, .ref mt, .ref mw, .ref mu, .ref mp, .ref mi, .ref mk, .ref ms, .int 0, .ref mv, .int 0, .int 0, .int 0, .int 0, .long 0, .int (-1), .int 0, .ref m1w, .ref m2w, .ref m3w, .ref m4w, .int 0, .long 0, .long 0, .long 0])), (mr, .inl (cm1, 7, .inl (fun _ => 0))), (mw, .inl (cm3, 906, .inr (.inl fw)))])) (va_Qi (fun (r : Int32) (_ : Unit) => r = sp_one wt 1 8 (-2)) (fun (_ : Unit) t => va_P (dC, dI) vwCl [] t.heap ∧ va_K (dC, dI) vwCl [] t ∧ va_D (va_A [(h0, .inr (12, [.int 0, .int 0, .ref mr, .ref mt, .ref mw, .ref mu, .ref mp, .ref mi, .ref mk, .ref ms, .int 0, .ref mv, .int 0, .int 0, .int 0, .int 0, .long 0, .int (-1), .int 0, .ref m1w, .ref m2w, .ref m3w, .ref m4w, .int 0, .long 0, .long 0, .long 0])), (mr, .inl (cm1, 7, .inl (fun _ => 0))), (mw, .inl (cm3, 906, .inr (.inl fw)))] sz) []) (va_A [(h0, .inr (12, [.int 0, .int 0, .ref mr, .ref mt, .ref mw, .ref mu, .ref mp, .ref mi, .ref mk, .ref ms, .int 0, .ref mv, .int 0, .int 0, .int 0, .int 0, .long 0, .int (-1), .int 0, .ref m1w, .ref m2w, .ref m3w, .ref m4w, .int 0, .long 0, .long 0, .long 0])), (mr, .inl (cm1, 7, .inl (fun _ => 0))), (mw, .inl (cm3, 906, .inr (.inl fw)))] sz)) 0 0 (va_A [(h0, .inr (12, [.int 0, .int 0, .ref mr, .ref mt, .ref mw, .ref mu, .ref mp, .ref mi, .ref mk, .ref ms, .int 0, .ref mv, .int 0, .int 0, .int 0, .int 0, .long 0, .int (-1), .int 0, .ref m1w, .ref m2w, .ref m3w, .ref m4w, .int 0, .long 0, .long 0, .long 0])), (mr, .inl (cm1, 7, .inl (fun _ => 0))), (mw, .inl (cm3, 906, .inr (.inl fw)))] sz) := by
  refine Met.ofW (cc := cX12_weigh) (maxL := 4) (ret := (some .int)) (by decide) rfl ?_
  intro p e s m args below meth c s₁ B hml hv
  obtain ⟨rfl, hsz, hP, hK, hD0⟩ := hv
  have hx := B.exec
  have hb := B.bytes
  have hr := B.returns
  have hts := atoms_spec (ws := wq_c_X12_weigh) B.pre
  have hown : s.vm.findClass RX12 = some m.cls := findClass_of_methodNamed B.named
  have hlocks := B.notSynchronized
  subst hsz
  have hD := hD0.self (sz := s.heap.size)
  obtain ⟨A, hAe⟩ : ∃ A, A = va_A [(h0, .inr (12, [.int 0, .int 0, .ref mr, .ref mt, .ref mw, .ref mu, .ref mp, .ref mi, .ref mk, .ref ms, .int 0, .ref mv, .int 0, .int 0, .int 0, .int 0, .long 0, .int (-1), .int 0, .ref m1w, .ref m2w, .ref m3w, .ref m4w, .int 0, .long 0, .long 0, .long 0])), (mr, .inl (cm1, 7, .inl (fun _ => 0))), (mw, .inl (cm3, 906, .inr (.inl fw)))] s.heap.size := ⟨_, rfl⟩
  rw [← hAe] at hD ⊢
  have hA : ∀ q : Nat, s.heap.size ≤ q → A q := fun q h => by rw [hAe]; exact Or.inr h
  have hS : va_S A s.heap s.heap [] := va_S.rf
  have hP : va_P (dC, dI) vwCl [(h0, .inr (12, [.int 0, .int 0, .ref mr, .ref mt, .ref mw, .ref mu, .ref mp, .ref mi, .ref mk, .ref ms, .int 0, .ref mv, .int 0, .int 0, .int 0, .int 0, .long 0, .int (-1), .int 0, .ref m1w, .ref m2w, .ref m3w, .ref m4w, .int 0, .long 0, .long 0, .long 0])), (mr, .inl (cm1, 7, .inl (fun _ => 0))), (mw, .inl (cm3, 906, .inr (.inl fw)))] s.heap := hP
  have hl := lv_entry ([.ref h0, .int tk, .int wt]) (n := 4) (Nat.le_of_ble_eq_true rfl)
  rw [lg_entry_eq]
  generalize (lg_sl ([.ref h0, .int tk, .int wt]) ++ List.replicate (4 - (lg_sl ([.ref h0, .int tk, .int wt])).length) Slot.unset).toArray = ls at hl ⊢
  have hl : lv_has ls 4 [(0, .ref h0), (1, .int tk), (2, .int wt)] := hl
  refine lv_aload_n hx hb dX12_weigh_0 rfl (lv_at hl 0 rfl) ?_
  refine lv_iconst (v := 0) hx hb dX12_weigh_1 (by decide) ?_
  refine va_put (D := (dC, dI)) (ci := 12) (v := .int 0) (ty := .int) (C := RX12) (T := TX12) (N := 27) hx hb hts (fun _ h0_ => List.mem_cons_of_mem _ (List.mem_append_right _ (List.mem_append_left _ h0_))) tyX12 tyX12_ok nmX12 hown hK hP hD hS 0 rfl rfl 0 (by decide) (hts (.fieldLink RX12 67 "DeadlineShareModel" "thrown" "I") (List.mem_cons_of_mem _ (List.mem_append_left _ (List.mem_of_getElem? (i := 0) rfl)))) (fun _ h9 => h9) rfl (by decide +kernel) rfl rfl (Nat.le_of_ble_eq_true rfl) dX12_weigh_2 (fun H locs hP hD hS => ?_)
  have hP : va_P (dC, dI) vwCl [(h0, .inr (12, [.int 0, .int 0, .ref mr, .ref mt, .ref mw, .ref mu, .ref mp, .ref mi, .ref mk, .ref ms, .int 0, .ref mv, .int 0, .int 0, .int 0, .int 0, .long 0, .int (-1), .int 0, .ref m1w, .ref m2w, .ref m3w, .ref m4w, .int 0, .long 0, .long 0, .long 0])), (mr, .inl (cm1, 7, .inl (fun _ => 0))), (mw, .inl (cm3, 906, .inr (.inl fw)))] H := hP
  have hD : va_D A [(h0, .inr (12, [.int 0, .int 0, .ref mr, .ref mt, .ref mw, .ref mu, .ref mp, .ref mi, .ref mk, .ref ms, .int 0, .ref mv, .int 0, .int 0, .int 0, .int 0, .long 0, .int (-1), .int 0, .ref m1w, .ref m2w, .ref m3w, .ref m4w, .int 0, .long 0, .long 0, .long 0])), (mr, .inl (cm1, 7, .inl (fun _ => 0))), (mw, .inl (cm3, 906, .inr (.inl fw)))] := hD
  refine lv_iload_n hx hb dX12_weigh_5 rfl (lv_at hl 2 rfl) ?_
  refine lv_i2l (v := wt.toInt64) hx hb dX12_weigh_6 rfl ?_
  refine lv_lconst (v := 1) hx hb dX12_weigh_7 (by decide) ?_
  refine lv_ldc2 hx hb hown (hts (.constantLong RX12 135 (8)) (List.mem_cons_of_mem _ (List.mem_append_left _ (List.mem_of_getElem? (i := 1) rfl)))) dX12_weigh_8 ?_
  have hPc := hP.sub (ws' := []) [] rfl
  have hDc := hD.sub (ws' := []) [] (by decide) rfl
  have hKc := hK.sub (tys' := []) [] rfl
  have hFc := va_free (wc := []) hD hS hA [] rfl
  refine va_calli (va_runS (As := [.long wt.toInt64, .long 1, .long 8]) (rest := []) ⟨hx, hb, hml, hown, hts⟩ (c_X12_in l dC dI wt.toInt64 1 8 H.size) (va_cwS 3 hts (gi_S (fun w_ h0_ => ⟨List.mem_cons_of_mem _ (List.mem_append_right _ (List.mem_append_right _ (List.mem_append_left _ h0_))), (tb_c_X12_in w_ h0_).2⟩) (List.mem_cons_of_mem _ (List.mem_append_left _ (List.mem_of_getElem? (i := 2) rfl))) (List.mem_cons_of_mem _ (List.mem_append_left _ (List.mem_of_getElem? (i := 3) rfl))) (List.mem_cons_of_mem _ (List.mem_append_left _ (List.mem_of_getElem? (i := 4) rfl)))) rfl rfl rfl (by decide +kernel) ⟨Nat.le_of_ble_eq_true rfl, Nat.le_of_ble_eq_true rfl⟩) ⟨fun a U g mk q => by obtain ⟨q0, q1, qP, qK, qD⟩ := q; exact ⟨q0, q1, qP, va_K.moved (u := U) (U := U.calling g mk a) (Vm.Alike.refl U.vm) qK, qD⟩, fun U hU hW => ⟨rfl, by rw [hU], by rw [hU]; exact hPc, va_K.moved hW.alike hKc, hDc.weaken (fun _ _ _ _ => trivial)⟩⟩ rfl rfl hl.1 rfl (lv_room (Nat.le_of_ble_eq_true rfl)) dX12_weigh_11 ⟨Nat.le_of_ble_eq_true rfl, Nat.le_of_ble_eq_true rfl⟩) hS (fun q _ h => hFc q h) hFc (fun r_1 u t H1 locs ht hvm hw hB hz1 hk1 hS => ?_)
  obtain ⟨hP1, hK1, hD1⟩ := hB
  rw [ht] at hP1
  have hK1 := va_K.moved hvm.symm hK1
  obtain ⟨hP, hD⟩ := va_join (wr := [(h0, .inr (12, [.int 0, .int 0, .ref mr, .ref mt, .ref mw, .ref mu, .ref mp, .ref mi, .ref mk, .ref ms, .int 0, .ref mv, .int 0, .int 0, .int 0, .int 0, .long 0, .int (-1), .int 0, .ref m1w, .ref m2w, .ref m3w, .ref m4w, .int 0, .long 0, .long 0, .long 0])), (mr, .inl (cm1, 7, .inl (fun _ => 0))), (mw, .inl (cm3, 906, .inr (.inl fw)))]) (w1 := []) hP hD [] [0, 1, 2] rfl rfl (by decide) (by decide) hk1 hFc hP1 hD1
  generalize H1 = H at hP hS ⊢
  have hP : va_P (dC, dI) vwCl [(h0, .inr (12, [.int 0, .int 0, .ref mr, .ref mt, .ref mw, .ref mu, .ref mp, .ref mi, .ref mk, .ref ms, .int 0, .ref mv, .int 0, .int 0, .int 0, .int 0, .long 0, .int (-1), .int 0, .ref m1w, .ref m2w, .ref m3w, .ref m4w, .int 0, .long 0, .long 0, .long 0])), (mr, .inl (cm1, 7, .inl (fun _ => 0))), (mw, .inl (cm3, 906, .inr (.inl fw)))] H := hP
  have hD : va_D A [(h0, .inr (12, [.int 0, .int 0, .ref mr, .ref mt, .ref mw, .ref mu, .ref mp, .ref mi, .ref mk, .ref ms, .int 0, .ref mv, .int 0, .int 0, .int 0, .int 0, .long 0, .int (-1), .int 0, .ref m1w, .ref m2w, .ref m3w, .ref m4w, .int 0, .long 0, .long 0, .long 0])), (mr, .inl (cm1, 7, .inl (fun _ => 0))), (mw, .inl (cm3, 906, .inr (.inl fw)))] := hD
  refine W.widen (k := 0) (n := 0) (Nat.le_of_ble_eq_true rfl) (Nat.le_of_ble_eq_true rfl) ?_
  have hw : r_1 = sp_in wt.toInt64 1 8 := hw
  subst hw
  refine k_topi (y := sp_r wt 1 8) (sp_in_r _ _ _ (by decide) (by decide)) ?_
  refine lv_if_ne (tgt := 23) hx hb dX12_weigh_14 (by decide) (fun c_2 => ?_) (fun c_2 => ?_)
  · refine lv_aload_n hx hb dX12_weigh_23 rfl (lv_at hl 0 rfl) ?_
    refine lv_iload_n hx hb dX12_weigh_24 rfl (lv_at hl 1 rfl) ?_
    have hPc := hP.sub (ws' := [(h0, .inr (12, [.int 0, .int 0, .ref mr, .ref mt, .ref mw, .ref mu, .ref mp, .ref mi, .ref mk, .ref ms, .int 0, .ref mv, .int 0, .int 0, .int 0, .int 0, .long 0, .int (-1), .int 0, .ref m1w, .ref m2w, .ref m3w, .ref m4w, .int 0, .long 0, .long 0, .long 0])), (mw, .inl (cm3, 906, .inr (.inl fw)))]) [0, 2] rfl
    have hDc := hD.sub (ws' := [(h0, .inr (12, [.int 0, .int 0, .ref mr, .ref mt, .ref mw, .ref mu, .ref mp, .ref mi, .ref mk, .ref ms, .int 0, .ref mv, .int 0, .int 0, .int 0, .int 0, .long 0, .int (-1), .int 0, .ref m1w, .ref m2w, .ref m3w, .ref m4w, .int 0, .long 0, .long 0, .long 0])), (mw, .inl (cm3, 906, .inr (.inl fw)))]) [0, 2] (by decide) rfl
    have hKc := hK.sub (tys' := [(cm3, .long)]) [1] rfl
    have hFc := va_free (wc := [(h0, .inr (12, [.int 0, .int 0, .ref mr, .ref mt, .ref mw, .ref mu, .ref mp, .ref mi, .ref mk, .ref ms, .int 0, .ref mv, .int 0, .int 0, .int 0, .int 0, .long 0, .int (-1), .int 0, .ref m1w, .ref m2w, .ref m3w, .ref m4w, .int 0, .long 0, .long 0, .long 0])), (mw, .inl (cm3, 906, .inr (.inl fw)))]) hD hS hA [0, 2] rfl
    refine va_calli (va_runV (As := [.int tk]) (rest := []) ⟨hx, hb, hml, hown, hts⟩ (c_X12_isTask l dC dI h0 tk mr mt mw mu mp mi mk ms mv m1w m2w m3w m4w cm3 fw H.size hw0) (cwV 1 hts (gi_V (fun w_ h0_ => ⟨List.mem_cons_of_mem _ (List.mem_append_right _ (List.mem_append_right _ (List.mem_append_right _ (List.mem_append_left _ h0_)))), (tb_c_X12_isTask w_ h0_).2⟩) (List.mem_cons_of_mem _ (List.mem_append_left _ (List.mem_of_getElem? (i := 5) rfl))) (List.mem_cons_of_mem _ (List.mem_append_left _ (List.mem_of_getElem? (i := 6) rfl))) (List.mem_cons_of_mem _ (List.mem_append_left _ (List.mem_of_getElem? (i := 7) rfl))) (List.mem_cons_of_mem _ (List.mem_append_left _ (List.mem_of_getElem? (i := 4) rfl)))) rfl rfl rfl (by decide +kernel) ⟨Nat.le_of_ble_eq_true rfl, Nat.le_of_ble_eq_true rfl⟩) ⟨fun a U g mk q => by obtain ⟨q0, q1, qP, qK, qD⟩ := q; exact ⟨q0, q1, qP, va_K.moved (u := U) (U := U.calling g mk a) (Vm.Alike.refl U.vm) qK, qD⟩, va_recv hKc hPc (ci := 12) (q0 := 0) rfl rfl, fun U hU hW => ⟨rfl, by rw [hU], by rw [hU]; exact hPc, va_K.moved hW.alike hKc, hDc.weaken (fun _ _ _ _ => trivial)⟩⟩ rfl rfl hl.1 rfl (lv_room (Nat.le_of_ble_eq_true rfl)) dX12_weigh_25 ⟨Nat.le_of_ble_eq_true rfl, Nat.le_of_ble_eq_true rfl⟩) hS (fun q _ h => hFc q h) hFc (fun r_3 u t H1 locs ht hvm hw hB hz1 hk1 hS => ?_)
    obtain ⟨hP1, hK1, hD1⟩ := hB
    rw [ht] at hP1
    have hK1 := va_K.moved hvm.symm hK1
    obtain ⟨hP, hD⟩ := va_join (wr := [(mr, .inl (cm1, 7, .inl (fun _ => 0)))]) (w1 := [(h0, .inr (12, [.int 0, .int 0, .ref mr, .ref mt, .ref mw, .ref mu, .ref mp, .ref mi, .ref mk, .ref ms, .int 0, .ref mv, .int 0, .int 0, .int 0, .int 0, .long 0, .int (-1), .int 0, .ref m1w, .ref m2w, .ref m3w, .ref m4w, .int 0, .long 0, .long 0, .long 0])), (mw, .inl (cm3, 906, .inr (.inl fw)))]) hP hD [0, 2] [1] rfl rfl (by decide) (by decide) hk1 hFc hP1 hD1
    generalize H1 = H at hP hS ⊢
    have hP : va_P (dC, dI) vwCl [(mr, .inl (cm1, 7, .inl (fun _ => 0))), (h0, .inr (12, [.int 0, .int 0, .ref mr, .ref mt, .ref mw, .ref mu, .ref mp, .ref mi, .ref mk, .ref ms, .int 0, .ref mv, .int 0, .int 0, .int 0, .int 0, .long 0, .int (-1), .int 0, .ref m1w, .ref m2w, .ref m3w, .ref m4w, .int 0, .long 0, .long 0, .long 0])), (mw, .inl (cm3, 906, .inr (.inl fw)))] H := hP
    have hD : va_D A [(mr, .inl (cm1, 7, .inl (fun _ => 0))), (h0, .inr (12, [.int 0, .int 0, .ref mr, .ref mt, .ref mw, .ref mu, .ref mp, .ref mi, .ref mk, .ref ms, .int 0, .ref mv, .int 0, .int 0, .int 0, .int 0, .long 0, .int (-1), .int 0, .ref m1w, .ref m2w, .ref m3w, .ref m4w, .int 0, .long 0, .long 0, .long 0])), (mw, .inl (cm3, 906, .inr (.inl fw)))] := hD
    refine W.widen (k := 0) (n := 0) (Nat.le_of_ble_eq_true rfl) (Nat.le_of_ble_eq_true rfl) ?_
    have hw : r_3 = 0 := hw
    subst hw
    refine lv_if_ne (tgt := 38) hx hb dX12_weigh_28 (by decide) (fun c => absurd c (by decide)) (fun _ => ?_)
    refine lv_aload_n hx hb dX12_weigh_31 rfl (lv_at hl 0 rfl) ?_
    refine lv_bipush (v := (-2)) hx hb dX12_weigh_32 (by decide) ?_
    have hPc := hP.sub (ws' := [(h0, .inr (12, [.int 0, .int 0, .ref mr, .ref mt, .ref mw, .ref mu, .ref mp, .ref mi, .ref mk, .ref ms, .int 0, .ref mv, .int 0, .int 0, .int 0, .int 0, .long 0, .int (-1), .int 0, .ref m1w, .ref m2w, .ref m3w, .ref m4w, .int 0, .long 0, .long 0, .long 0])), (mr, .inl (cm1, 7, .inl (fun _ => 0)))]) [1, 0] rfl
    have hDc := hD.sub (ws' := [(h0, .inr (12, [.int 0, .int 0, .ref mr, .ref mt, .ref mw, .ref mu, .ref mp, .ref mi, .ref mk, .ref ms, .int 0, .ref mv, .int 0, .int 0, .int 0, .int 0, .long 0, .int (-1), .int 0, .ref m1w, .ref m2w, .ref m3w, .ref m4w, .int 0, .long 0, .long 0, .long 0])), (mr, .inl (cm1, 7, .inl (fun _ => 0)))]) [1, 0] (by decide) rfl
    have hKc := hK.sub (tys' := [(cm1, .int)]) [0] rfl
    have hFc := va_free (wc := [(h0, .inr (12, [.int 0, .int 0, .ref mr, .ref mt, .ref mw, .ref mu, .ref mp, .ref mi, .ref mk, .ref ms, .int 0, .ref mv, .int 0, .int 0, .int 0, .int 0, .long 0, .int (-1), .int 0, .ref m1w, .ref m2w, .ref m3w, .ref m4w, .int 0, .long 0, .long 0, .long 0])), (mr, .inl (cm1, 7, .inl (fun _ => 0)))]) hD hS hA [1, 0] rfl
    refine va_calli (va_runV (As := [.int (-2)]) (rest := []) ⟨hx, hb, hml, hown, hts⟩ (c_X12_refuse_2 l dC dI h0 mr mt mw mu mp mi mk ms mv m1w m2w m3w m4w cm1 H.size) (cwV 1 hts (gi_V (fun w_ h0_ => ⟨List.mem_cons_of_mem _ (List.mem_append_right _ (List.mem_append_right _ (List.mem_append_right _ (List.mem_append_right _ (List.mem_append_left _ h0_))))), (tb_c_X12_refuse_2 w_ h0_).2⟩) (List.mem_cons_of_mem _ (List.mem_append_left _ (List.mem_of_getElem? (i := 8) rfl))) (List.mem_cons_of_mem _ (List.mem_append_left _ (List.mem_of_getElem? (i := 9) rfl))) (List.mem_cons_of_mem _ (List.mem_append_left _ (List.mem_of_getElem? (i := 10) rfl))) (List.mem_cons_of_mem _ (List.mem_append_left _ (List.mem_of_getElem? (i := 4) rfl)))) rfl rfl rfl (by decide +kernel) ⟨Nat.le_of_ble_eq_true rfl, Nat.le_of_ble_eq_true rfl⟩) ⟨fun a U g mk q => by obtain ⟨q0, q1, qP, qK, qD⟩ := q; exact ⟨q0, q1, qP, va_K.moved (u := U) (U := U.calling g mk a) (Vm.Alike.refl U.vm) qK, qD⟩, va_recv hKc hPc (ci := 12) (q0 := 0) rfl rfl, fun U hU hW => ⟨rfl, by rw [hU], by rw [hU]; exact hPc, va_K.moved hW.alike hKc, hDc.weaken (fun _ _ _ _ => trivial)⟩⟩ rfl rfl hl.1 rfl (lv_room (Nat.le_of_ble_eq_true rfl)) dX12_weigh_34 ⟨Nat.le_of_ble_eq_true rfl, Nat.le_of_ble_eq_true rfl⟩) hS (fun q _ h => hFc q h) hFc (fun r_4 u t H1 locs ht hvm hw hB hz1 hk1 hS => ?_)
    obtain ⟨hP1, hK1, hD1⟩ := hB
    rw [ht] at hP1
    have hK1 := va_K.moved hvm.symm hK1
    obtain ⟨hP, hD⟩ := va_join (wr := [(mw, .inl (cm3, 906, .inr (.inl fw)))]) (w1 := []) hP hD [1, 0] [2] rfl rfl (by decide) (by decide) hk1 hFc hP1 hD1
    generalize H1 = H at hP hS ⊢
    have hP : va_P (dC, dI) vwCl [(mw, .inl (cm3, 906, .inr (.inl fw)))] H := hP
    have hD : va_D A [(mw, .inl (cm3, 906, .inr (.inl fw)))] := hD
    refine W.widen (k := 0) (n := 0) (Nat.le_of_ble_eq_true rfl) (Nat.le_of_ble_eq_true rfl) ?_
    have hw : r_4 = (-2) := hw
    subst hw
    have hP9 := hP.sub (ws' := []) [] rfl
    have hD9 := hD.sub (ws' := []) [] (by decide) rfl
    have hK9 := hK.sub (tys' := []) [] rfl
    refine W.widen (k := 0) (n := 0) (Nat.le_of_ble_eq_true rfl) (Nat.le_of_ble_eq_true rfl) ?_
    exact W.iret (v := (-2)) hx hb hr (fun t ht hW => ⟨⟨(-2), (), rfl, (by have z0 := (sp_r1 _ _ _).mp c_2; unfold sp_one; (repeat' split) <;> first | rfl | omega | (refine Int32.toInt_inj.mp ?_; omega)), by rw [ht]; exact hP9, va_K.moved hW.alike hK9, hD9⟩, hS.F ht⟩) hS.2.2 dX12_weigh_37
  · have c_2 := not_not_intro c_2
    refine lv_aload_n hx hb dX12_weigh_17 rfl (lv_at hl 0 rfl) ?_
    refine lv_iconst (v := (-1)) hx hb dX12_weigh_18 (by decide) ?_
    have hPc := hP.sub (ws' := [(h0, .inr (12, [.int 0, .int 0, .ref mr, .ref mt, .ref mw, .ref mu, .ref mp, .ref mi, .ref mk, .ref ms, .int 0, .ref mv, .int 0, .int 0, .int 0, .int 0, .long 0, .int (-1), .int 0, .ref m1w, .ref m2w, .ref m3w, .ref m4w, .int 0, .long 0, .long 0, .long 0])), (mr, .inl (cm1, 7, .inl (fun _ => 0)))]) [0, 1] rfl
    have hDc := hD.sub (ws' := [(h0, .inr (12, [.int 0, .int 0, .ref mr, .ref mt, .ref mw, .ref mu, .ref mp, .ref mi, .ref mk, .ref ms, .int 0, .ref mv, .int 0, .int 0, .int 0, .int 0, .long 0, .int (-1), .int 0, .ref m1w, .ref m2w, .ref m3w, .ref m4w, .int 0, .long 0, .long 0, .long 0])), (mr, .inl (cm1, 7, .inl (fun _ => 0)))]) [0, 1] (by decide) rfl
    have hKc := hK.sub (tys' := [(cm1, .int)]) [0] rfl
    have hFc := va_free (wc := [(h0, .inr (12, [.int 0, .int 0, .ref mr, .ref mt, .ref mw, .ref mu, .ref mp, .ref mi, .ref mk, .ref ms, .int 0, .ref mv, .int 0, .int 0, .int 0, .int 0, .long 0, .int (-1), .int 0, .ref m1w, .ref m2w, .ref m3w, .ref m4w, .int 0, .long 0, .long 0, .long 0])), (mr, .inl (cm1, 7, .inl (fun _ => 0)))]) hD hS hA [0, 1] rfl
    refine va_calli (va_runV (As := [.int (-1)]) (rest := []) ⟨hx, hb, hml, hown, hts⟩ (c_X12_refuse_1 l dC dI h0 mr mt mw mu mp mi mk ms mv m1w m2w m3w m4w cm1 H.size) (cwV 1 hts (gi_V (fun w_ h0_ => ⟨List.mem_cons_of_mem _ (List.mem_append_right _ (List.mem_append_right _ (List.mem_append_right _ (List.mem_append_right _ (List.mem_append_right _ (List.mem_append_left _ h0_)))))), (tb_c_X12_refuse_1 w_ h0_).2⟩) (List.mem_cons_of_mem _ (List.mem_append_left _ (List.mem_of_getElem? (i := 8) rfl))) (List.mem_cons_of_mem _ (List.mem_append_left _ (List.mem_of_getElem? (i := 9) rfl))) (List.mem_cons_of_mem _ (List.mem_append_left _ (List.mem_of_getElem? (i := 10) rfl))) (List.mem_cons_of_mem _ (List.mem_append_left _ (List.mem_of_getElem? (i := 4) rfl)))) rfl rfl rfl (by decide +kernel) ⟨Nat.le_of_ble_eq_true rfl, Nat.le_of_ble_eq_true rfl⟩) ⟨fun a U g mk q => by obtain ⟨q0, q1, qP, qK, qD⟩ := q; exact ⟨q0, q1, qP, va_K.moved (u := U) (U := U.calling g mk a) (Vm.Alike.refl U.vm) qK, qD⟩, va_recv hKc hPc (ci := 12) (q0 := 0) rfl rfl, fun U hU hW => ⟨rfl, by rw [hU], by rw [hU]; exact hPc, va_K.moved hW.alike hKc, hDc.weaken (fun _ _ _ _ => trivial)⟩⟩ rfl rfl hl.1 rfl (lv_room (Nat.le_of_ble_eq_true rfl)) dX12_weigh_19 ⟨Nat.le_of_ble_eq_true rfl, Nat.le_of_ble_eq_true rfl⟩) hS (fun q _ h => hFc q h) hFc (fun r_5 u t H1 locs ht hvm hw hB hz1 hk1 hS => ?_)
    obtain ⟨hP1, hK1, hD1⟩ := hB
    rw [ht] at hP1
    have hK1 := va_K.moved hvm.symm hK1
    obtain ⟨hP, hD⟩ := va_join (wr := [(mw, .inl (cm3, 906, .inr (.inl fw)))]) (w1 := []) hP hD [0, 1] [2] rfl rfl (by decide) (by decide) hk1 hFc hP1 hD1
    generalize H1 = H at hP hS ⊢
    have hP : va_P (dC, dI) vwCl [(mw, .inl (cm3, 906, .inr (.inl fw)))] H := hP
    have hD : va_D A [(mw, .inl (cm3, 906, .inr (.inl fw)))] := hD
    refine W.widen (k := 0) (n := 0) (Nat.le_of_ble_eq_true rfl) (Nat.le_of_ble_eq_true rfl) ?_
    have hw : r_5 = (-1) := hw
    subst hw
    have hP9 := hP.sub (ws' := []) [] rfl
    have hD9 := hD.sub (ws' := []) [] (by decide) rfl
    have hK9 := hK.sub (tys' := []) [] rfl
    refine W.widen (k := 0) (n := 0) (Nat.le_of_ble_eq_true rfl) (Nat.le_of_ble_eq_true rfl) ?_
    exact W.iret (v := (-1)) hx hb hr (fun t ht hW => ⟨⟨(-1), (), rfl, (by have z0 := (sp_r0 _ _ _).mp (Classical.not_not.mp c_2); unfold sp_one; (repeat' split) <;> first | rfl | omega | (refine Int32.toInt_inj.mp ?_; omega)), by rw [ht]; exact hP9, va_K.moved hW.alike hK9, hD9⟩, hS.F ht⟩) hS.2.2 dX12_weigh_22
def ow_c_X12_slice : List Cond := [.fieldLink RX12 67 "DeadlineShareModel" "thrown" "I", .constantLong RX12 137 (20), .methodLink RX12 83 yX12_in, .static yX12_in, .initialized RX12, .methodLink RX12 142 yX12_isTask, .instanceMethod yX12_isTask, .selects RX12 yX12_isTask yX12_isTask, .methodLink RX12 76 yX12_refuse, .instanceMethod yX12_refuse, .selects RX12 yX12_refuse yX12_refuse]
def wq_c_X12_slice : List Cond := .code yX12_slice cX12_slice 4 (some .int) :: (ow_c_X12_slice ++ (u_ws RX12 TX12 27 ++ (wq_c_X12_in ++ (wq_c_X12_isTask ++ (wq_c_X12_refuse_2 ++ (wq_c_X12_refuse_1 ++ ([] : List Cond)))))))
theorem tb_c_X12_slice : ∀ w ∈ wq_c_X12_slice, q_g w := by
  unfold wq_c_X12_slice ow_c_X12_slice
  exact q_cons tw_513 (q_app (q_cons tw_488 (q_cons tw_501 (q_cons tw_437 (q_cons tw_436 (q_cons tw_435 (q_cons tw_506 (q_cons tw_505 (q_cons tw_504 (q_cons tw_483 (q_cons tw_482 (q_cons tw_481 q_nil))))))))))) (q_app tu_X12 (q_app tb_c_X12_in (q_app tb_c_X12_isTask (q_app tb_c_X12_refuse_2 (q_app tb_c_X12_refuse_1 q_nil))))))
set_option maxHeartbeats 4000000 in
set_option maxRecDepth 100000 in
theorem c_X12_slice (l : Launch) (dC : Nat → ClassId) (dI : Nat → Nat → Nat) (h0 : Nat) (tk : Int32) (sl : Int32) (mr : Nat) (mt : Nat) (mw : Nat) (mu : Nat) (mp : Nat) (mi : Nat) (mk : Nat) (ms : Nat) (mv : Nat) (m1w : Nat) (m2w : Nat) (m3w : Nat) (m4w : Nat) (cm1 : ClassId) (cm3 : ClassId) (fw : Nat → Int64) (sz : Nat) (hw0 : fw 0 = 0) (hw1 : fw 1 = 0) (hw2 : fw 2 = 0) (hw3 : fw 3 = (-1)) (hw4 : fw 4 = (-1)) (hw5 : fw 5 = 0) : Met l yX12_slice wq_c_X12_slice ({ frames := 2, cells := 0, slots := 0, locals := 46 } : Room) (va_Pc [.ref h0, .int tk, .int sl] (fun U => U.heap.size = sz ∧ va_P (dC, dI) vwCl [(h0, .inr (12, [.int 0, .int 0, .ref mr, .ref mt, .ref mw, .ref mu, .ref mp, .ref mi, .ref mk, .ref ms, .int 0, .ref mv, .int 0, .int 0, .int 0, .int 0, .long 0, .int (-1), .int 0, .ref m1w, .ref m2w, .ref m3w, .ref m4w, .int 0, .long 0, .long 0, .long 0])), (mr, .inl (cm1, 7, .inl (fun _ => 0))), (mw, .inl (cm3, 906, .inr (.inl fw)))] U.heap ∧ va_K (dC, dI) vwCl [(cm1, .int), (cm3, .long)] U ∧ va_D (fun _ => True) [(h0, .inr (12, [.int 0, .int 0, .ref mr, .ref mt, .ref mw, .ref mu, .ref mp, .ref mi, .ref mk, .ref ms, .int 0, .ref mv, .int 0, .int 0, .int 0, .int 0, .long 0, .int (-1), .int 0, .ref m1w, .ref m2w, .ref m3w, .ref m4w, .int 0, .long 0, .long 0, .long 0])), (mr, .inl (cm1, 7, .inl (fun _ => 0))), (mw, .inl (cm3, 906, .inr (.inl fw)))])) (va_Qi (fun (r : Int32) (_ : Unit) => r = sp_one sl 1 20 (-2)) (fun (_ : Unit) t => va_P (dC, dI) vwCl [] t.heap ∧ va_K (dC, dI) vwCl [] t ∧ va_D (va_A [(h0, .inr (12, [.int 0, .int 0, .ref mr, .ref mt, .ref mw, .ref mu, .ref mp, .ref mi, .ref mk, .ref ms, .int 0, .ref mv, .int 0, .int 0, .int 0, .int 0, .long 0, .int (-1), .int 0, .ref m1w, .ref m2w, .ref m3w, .ref m4w, .int 0, .long 0, .long 0, .long 0])), (mr, .inl (cm1, 7, .inl (fun _ => 0))), (mw, .inl (cm3, 906, .inr (.inl fw)))] sz) []) (va_A [(h0, .inr (12, [.int 0, .int 0, .ref mr, .ref mt, .ref mw, .ref mu, .ref mp, .ref mi, .ref mk, .ref ms, .int 0, .ref mv, .int 0, .int 0, .int 0, .int 0, .long 0, .int (-1), .int 0, .ref m1w, .ref m2w, .ref m3w, .ref m4w, .int 0, .long 0, .long 0, .long 0])), (mr, .inl (cm1, 7, .inl (fun _ => 0))), (mw, .inl (cm3, 906, .inr (.inl fw)))] sz)) 0 0 (va_A [(h0, .inr (12, [.int 0, .int 0, .ref mr, .ref mt, .ref mw, .ref mu, .ref mp, .ref mi, .ref mk, .ref ms, .int 0, .ref mv, .int 0, .int 0, .int 0, .int 0, .long 0, .int (-1), .int 0, .ref m1w, .ref m2w, .ref m3w, .ref m4w, .int 0, .long 0, .long 0, .long 0])), (mr, .inl (cm1, 7, .inl (fun _ => 0))), (mw, .inl (cm3, 906, .inr (.inl fw)))] sz) := by
  refine Met.ofW (cc := cX12_slice) (maxL := 4) (ret := (some .int)) (by decide) rfl ?_
  intro p e s m args below meth c s₁ B hml hv
  obtain ⟨rfl, hsz, hP, hK, hD0⟩ := hv
  have hx := B.exec
  have hb := B.bytes
  have hr := B.returns
  have hts := atoms_spec (ws := wq_c_X12_slice) B.pre
  have hown : s.vm.findClass RX12 = some m.cls := findClass_of_methodNamed B.named
  have hlocks := B.notSynchronized
  subst hsz
  have hD := hD0.self (sz := s.heap.size)
  obtain ⟨A, hAe⟩ : ∃ A, A = va_A [(h0, .inr (12, [.int 0, .int 0, .ref mr, .ref mt, .ref mw, .ref mu, .ref mp, .ref mi, .ref mk, .ref ms, .int 0, .ref mv, .int 0, .int 0, .int 0, .int 0, .long 0, .int (-1), .int 0, .ref m1w, .ref m2w, .ref m3w, .ref m4w, .int 0, .long 0, .long 0, .long 0])), (mr, .inl (cm1, 7, .inl (fun _ => 0))), (mw, .inl (cm3, 906, .inr (.inl fw)))] s.heap.size := ⟨_, rfl⟩
  rw [← hAe] at hD ⊢
  have hA : ∀ q : Nat, s.heap.size ≤ q → A q := fun q h => by rw [hAe]; exact Or.inr h
  have hS : va_S A s.heap s.heap [] := va_S.rf
  have hP : va_P (dC, dI) vwCl [(h0, .inr (12, [.int 0, .int 0, .ref mr, .ref mt, .ref mw, .ref mu, .ref mp, .ref mi, .ref mk, .ref ms, .int 0, .ref mv, .int 0, .int 0, .int 0, .int 0, .long 0, .int (-1), .int 0, .ref m1w, .ref m2w, .ref m3w, .ref m4w, .int 0, .long 0, .long 0, .long 0])), (mr, .inl (cm1, 7, .inl (fun _ => 0))), (mw, .inl (cm3, 906, .inr (.inl fw)))] s.heap := hP
  have hl := lv_entry ([.ref h0, .int tk, .int sl]) (n := 4) (Nat.le_of_ble_eq_true rfl)
  rw [lg_entry_eq]
  generalize (lg_sl ([.ref h0, .int tk, .int sl]) ++ List.replicate (4 - (lg_sl ([.ref h0, .int tk, .int sl])).length) Slot.unset).toArray = ls at hl ⊢
  have hl : lv_has ls 4 [(0, .ref h0), (1, .int tk), (2, .int sl)] := hl
  refine lv_aload_n hx hb dX12_slice_0 rfl (lv_at hl 0 rfl) ?_
  refine lv_iconst (v := 0) hx hb dX12_slice_1 (by decide) ?_
  refine va_put (D := (dC, dI)) (ci := 12) (v := .int 0) (ty := .int) (C := RX12) (T := TX12) (N := 27) hx hb hts (fun _ h0_ => List.mem_cons_of_mem _ (List.mem_append_right _ (List.mem_append_left _ h0_))) tyX12 tyX12_ok nmX12 hown hK hP hD hS 0 rfl rfl 0 (by decide) (hts (.fieldLink RX12 67 "DeadlineShareModel" "thrown" "I") (List.mem_cons_of_mem _ (List.mem_append_left _ (List.mem_of_getElem? (i := 0) rfl)))) (fun _ h9 => h9) rfl (by decide +kernel) rfl rfl (Nat.le_of_ble_eq_true rfl) dX12_slice_2 (fun H locs hP hD hS => ?_)
  have hP : va_P (dC, dI) vwCl [(h0, .inr (12, [.int 0, .int 0, .ref mr, .ref mt, .ref mw, .ref mu, .ref mp, .ref mi, .ref mk, .ref ms, .int 0, .ref mv, .int 0, .int 0, .int 0, .int 0, .long 0, .int (-1), .int 0, .ref m1w, .ref m2w, .ref m3w, .ref m4w, .int 0, .long 0, .long 0, .long 0])), (mr, .inl (cm1, 7, .inl (fun _ => 0))), (mw, .inl (cm3, 906, .inr (.inl fw)))] H := hP
  have hD : va_D A [(h0, .inr (12, [.int 0, .int 0, .ref mr, .ref mt, .ref mw, .ref mu, .ref mp, .ref mi, .ref mk, .ref ms, .int 0, .ref mv, .int 0, .int 0, .int 0, .int 0, .long 0, .int (-1), .int 0, .ref m1w, .ref m2w, .ref m3w, .ref m4w, .int 0, .long 0, .long 0, .long 0])), (mr, .inl (cm1, 7, .inl (fun _ => 0))), (mw, .inl (cm3, 906, .inr (.inl fw)))] := hD
  refine lv_iload_n hx hb dX12_slice_5 rfl (lv_at hl 2 rfl) ?_
  refine lv_i2l (v := sl.toInt64) hx hb dX12_slice_6 rfl ?_
  refine lv_lconst (v := 1) hx hb dX12_slice_7 (by decide) ?_
  refine lv_ldc2 hx hb hown (hts (.constantLong RX12 137 (20)) (List.mem_cons_of_mem _ (List.mem_append_left _ (List.mem_of_getElem? (i := 1) rfl)))) dX12_slice_8 ?_
  have hPc := hP.sub (ws' := []) [] rfl
  have hDc := hD.sub (ws' := []) [] (by decide) rfl
  have hKc := hK.sub (tys' := []) [] rfl
  have hFc := va_free (wc := []) hD hS hA [] rfl
  refine va_calli (va_runS (As := [.long sl.toInt64, .long 1, .long 20]) (rest := []) ⟨hx, hb, hml, hown, hts⟩ (c_X12_in l dC dI sl.toInt64 1 20 H.size) (va_cwS 3 hts (gi_S (fun w_ h0_ => ⟨List.mem_cons_of_mem _ (List.mem_append_right _ (List.mem_append_right _ (List.mem_append_left _ h0_))), (tb_c_X12_in w_ h0_).2⟩) (List.mem_cons_of_mem _ (List.mem_append_left _ (List.mem_of_getElem? (i := 2) rfl))) (List.mem_cons_of_mem _ (List.mem_append_left _ (List.mem_of_getElem? (i := 3) rfl))) (List.mem_cons_of_mem _ (List.mem_append_left _ (List.mem_of_getElem? (i := 4) rfl)))) rfl rfl rfl (by decide +kernel) ⟨Nat.le_of_ble_eq_true rfl, Nat.le_of_ble_eq_true rfl⟩) ⟨fun a U g mk q => by obtain ⟨q0, q1, qP, qK, qD⟩ := q; exact ⟨q0, q1, qP, va_K.moved (u := U) (U := U.calling g mk a) (Vm.Alike.refl U.vm) qK, qD⟩, fun U hU hW => ⟨rfl, by rw [hU], by rw [hU]; exact hPc, va_K.moved hW.alike hKc, hDc.weaken (fun _ _ _ _ => trivial)⟩⟩ rfl rfl hl.1 rfl (lv_room (Nat.le_of_ble_eq_true rfl)) dX12_slice_11 ⟨Nat.le_of_ble_eq_true rfl, Nat.le_of_ble_eq_true rfl⟩) hS (fun q _ h => hFc q h) hFc (fun r_1 u t H1 locs ht hvm hw hB hz1 hk1 hS => ?_)
  obtain ⟨hP1, hK1, hD1⟩ := hB
  rw [ht] at hP1
  have hK1 := va_K.moved hvm.symm hK1
  obtain ⟨hP, hD⟩ := va_join (wr := [(h0, .inr (12, [.int 0, .int 0, .ref mr, .ref mt, .ref mw, .ref mu, .ref mp, .ref mi, .ref mk, .ref ms, .int 0, .ref mv, .int 0, .int 0, .int 0, .int 0, .long 0, .int (-1), .int 0, .ref m1w, .ref m2w, .ref m3w, .ref m4w, .int 0, .long 0, .long 0, .long 0])), (mr, .inl (cm1, 7, .inl (fun _ => 0))), (mw, .inl (cm3, 906, .inr (.inl fw)))]) (w1 := []) hP hD [] [0, 1, 2] rfl rfl (by decide) (by decide) hk1 hFc hP1 hD1
  generalize H1 = H at hP hS ⊢
  have hP : va_P (dC, dI) vwCl [(h0, .inr (12, [.int 0, .int 0, .ref mr, .ref mt, .ref mw, .ref mu, .ref mp, .ref mi, .ref mk, .ref ms, .int 0, .ref mv, .int 0, .int 0, .int 0, .int 0, .long 0, .int (-1), .int 0, .ref m1w, .ref m2w, .ref m3w, .ref m4w, .int 0, .long 0, .long 0, .long 0])), (mr, .inl (cm1, 7, .inl (fun _ => 0))), (mw, .inl (cm3, 906, .inr (.inl fw)))] H := hP
  have hD : va_D A [(h0, .inr (12, [.int 0, .int 0, .ref mr, .ref mt, .ref mw, .ref mu, .ref mp, .ref mi, .ref mk, .ref ms, .int 0, .ref mv, .int 0, .int 0, .int 0, .int 0, .long 0, .int (-1), .int 0, .ref m1w, .ref m2w, .ref m3w, .ref m4w, .int 0, .long 0, .long 0, .long 0])), (mr, .inl (cm1, 7, .inl (fun _ => 0))), (mw, .inl (cm3, 906, .inr (.inl fw)))] := hD
  refine W.widen (k := 0) (n := 0) (Nat.le_of_ble_eq_true rfl) (Nat.le_of_ble_eq_true rfl) ?_
  have hw : r_1 = sp_in sl.toInt64 1 20 := hw
  subst hw
  refine k_topi (y := sp_r sl 1 20) (sp_in_r _ _ _ (by decide) (by decide)) ?_
  refine lv_if_ne (tgt := 23) hx hb dX12_slice_14 (by decide) (fun c_2 => ?_) (fun c_2 => ?_)
  · refine lv_aload_n hx hb dX12_slice_23 rfl (lv_at hl 0 rfl) ?_
    refine lv_iload_n hx hb dX12_slice_24 rfl (lv_at hl 1 rfl) ?_
    have hPc := hP.sub (ws' := [(h0, .inr (12, [.int 0, .int 0, .ref mr, .ref mt, .ref mw, .ref mu, .ref mp, .ref mi, .ref mk, .ref ms, .int 0, .ref mv, .int 0, .int 0, .int 0, .int 0, .long 0, .int (-1), .int 0, .ref m1w, .ref m2w, .ref m3w, .ref m4w, .int 0, .long 0, .long 0, .long 0])), (mw, .inl (cm3, 906, .inr (.inl fw)))]) [0, 2] rfl
    have hDc := hD.sub (ws' := [(h0, .inr (12, [.int 0, .int 0, .ref mr, .ref mt, .ref mw, .ref mu, .ref mp, .ref mi, .ref mk, .ref ms, .int 0, .ref mv, .int 0, .int 0, .int 0, .int 0, .long 0, .int (-1), .int 0, .ref m1w, .ref m2w, .ref m3w, .ref m4w, .int 0, .long 0, .long 0, .long 0])), (mw, .inl (cm3, 906, .inr (.inl fw)))]) [0, 2] (by decide) rfl
    have hKc := hK.sub (tys' := [(cm3, .long)]) [1] rfl
    have hFc := va_free (wc := [(h0, .inr (12, [.int 0, .int 0, .ref mr, .ref mt, .ref mw, .ref mu, .ref mp, .ref mi, .ref mk, .ref ms, .int 0, .ref mv, .int 0, .int 0, .int 0, .int 0, .long 0, .int (-1), .int 0, .ref m1w, .ref m2w, .ref m3w, .ref m4w, .int 0, .long 0, .long 0, .long 0])), (mw, .inl (cm3, 906, .inr (.inl fw)))]) hD hS hA [0, 2] rfl
    refine va_calli (va_runV (As := [.int tk]) (rest := []) ⟨hx, hb, hml, hown, hts⟩ (c_X12_isTask l dC dI h0 tk mr mt mw mu mp mi mk ms mv m1w m2w m3w m4w cm3 fw H.size hw0) (cwV 1 hts (gi_V (fun w_ h0_ => ⟨List.mem_cons_of_mem _ (List.mem_append_right _ (List.mem_append_right _ (List.mem_append_right _ (List.mem_append_left _ h0_)))), (tb_c_X12_isTask w_ h0_).2⟩) (List.mem_cons_of_mem _ (List.mem_append_left _ (List.mem_of_getElem? (i := 5) rfl))) (List.mem_cons_of_mem _ (List.mem_append_left _ (List.mem_of_getElem? (i := 6) rfl))) (List.mem_cons_of_mem _ (List.mem_append_left _ (List.mem_of_getElem? (i := 7) rfl))) (List.mem_cons_of_mem _ (List.mem_append_left _ (List.mem_of_getElem? (i := 4) rfl)))) rfl rfl rfl (by decide +kernel) ⟨Nat.le_of_ble_eq_true rfl, Nat.le_of_ble_eq_true rfl⟩) ⟨fun a U g mk q => by obtain ⟨q0, q1, qP, qK, qD⟩ := q; exact ⟨q0, q1, qP, va_K.moved (u := U) (U := U.calling g mk a) (Vm.Alike.refl U.vm) qK, qD⟩, va_recv hKc hPc (ci := 12) (q0 := 0) rfl rfl, fun U hU hW => ⟨rfl, by rw [hU], by rw [hU]; exact hPc, va_K.moved hW.alike hKc, hDc.weaken (fun _ _ _ _ => trivial)⟩⟩ rfl rfl hl.1 rfl (lv_room (Nat.le_of_ble_eq_true rfl)) dX12_slice_25 ⟨Nat.le_of_ble_eq_true rfl, Nat.le_of_ble_eq_true rfl⟩) hS (fun q _ h => hFc q h) hFc (fun r_3 u t H1 locs ht hvm hw hB hz1 hk1 hS => ?_)
    obtain ⟨hP1, hK1, hD1⟩ := hB
    rw [ht] at hP1
    have hK1 := va_K.moved hvm.symm hK1
    obtain ⟨hP, hD⟩ := va_join (wr := [(mr, .inl (cm1, 7, .inl (fun _ => 0)))]) (w1 := [(h0, .inr (12, [.int 0, .int 0, .ref mr, .ref mt, .ref mw, .ref mu, .ref mp, .ref mi, .ref mk, .ref ms, .int 0, .ref mv, .int 0, .int 0, .int 0, .int 0, .long 0, .int (-1), .int 0, .ref m1w, .ref m2w, .ref m3w, .ref m4w, .int 0, .long 0, .long 0, .long 0])), (mw, .inl (cm3, 906, .inr (.inl fw)))]) hP hD [0, 2] [1] rfl rfl (by decide) (by decide) hk1 hFc hP1 hD1
    generalize H1 = H at hP hS ⊢
    have hP : va_P (dC, dI) vwCl [(mr, .inl (cm1, 7, .inl (fun _ => 0))), (h0, .inr (12, [.int 0, .int 0, .ref mr, .ref mt, .ref mw, .ref mu, .ref mp, .ref mi, .ref mk, .ref ms, .int 0, .ref mv, .int 0, .int 0, .int 0, .int 0, .long 0, .int (-1), .int 0, .ref m1w, .ref m2w, .ref m3w, .ref m4w, .int 0, .long 0, .long 0, .long 0])), (mw, .inl (cm3, 906, .inr (.inl fw)))] H := hP
    have hD : va_D A [(mr, .inl (cm1, 7, .inl (fun _ => 0))), (h0, .inr (12, [.int 0, .int 0, .ref mr, .ref mt, .ref mw, .ref mu, .ref mp, .ref mi, .ref mk, .ref ms, .int 0, .ref mv, .int 0, .int 0, .int 0, .int 0, .long 0, .int (-1), .int 0, .ref m1w, .ref m2w, .ref m3w, .ref m4w, .int 0, .long 0, .long 0, .long 0])), (mw, .inl (cm3, 906, .inr (.inl fw)))] := hD
    refine W.widen (k := 0) (n := 0) (Nat.le_of_ble_eq_true rfl) (Nat.le_of_ble_eq_true rfl) ?_
    have hw : r_3 = 0 := hw
    subst hw
    refine lv_if_ne (tgt := 38) hx hb dX12_slice_28 (by decide) (fun c => absurd c (by decide)) (fun _ => ?_)
    refine lv_aload_n hx hb dX12_slice_31 rfl (lv_at hl 0 rfl) ?_
    refine lv_bipush (v := (-2)) hx hb dX12_slice_32 (by decide) ?_
    have hPc := hP.sub (ws' := [(h0, .inr (12, [.int 0, .int 0, .ref mr, .ref mt, .ref mw, .ref mu, .ref mp, .ref mi, .ref mk, .ref ms, .int 0, .ref mv, .int 0, .int 0, .int 0, .int 0, .long 0, .int (-1), .int 0, .ref m1w, .ref m2w, .ref m3w, .ref m4w, .int 0, .long 0, .long 0, .long 0])), (mr, .inl (cm1, 7, .inl (fun _ => 0)))]) [1, 0] rfl
    have hDc := hD.sub (ws' := [(h0, .inr (12, [.int 0, .int 0, .ref mr, .ref mt, .ref mw, .ref mu, .ref mp, .ref mi, .ref mk, .ref ms, .int 0, .ref mv, .int 0, .int 0, .int 0, .int 0, .long 0, .int (-1), .int 0, .ref m1w, .ref m2w, .ref m3w, .ref m4w, .int 0, .long 0, .long 0, .long 0])), (mr, .inl (cm1, 7, .inl (fun _ => 0)))]) [1, 0] (by decide) rfl
    have hKc := hK.sub (tys' := [(cm1, .int)]) [0] rfl
    have hFc := va_free (wc := [(h0, .inr (12, [.int 0, .int 0, .ref mr, .ref mt, .ref mw, .ref mu, .ref mp, .ref mi, .ref mk, .ref ms, .int 0, .ref mv, .int 0, .int 0, .int 0, .int 0, .long 0, .int (-1), .int 0, .ref m1w, .ref m2w, .ref m3w, .ref m4w, .int 0, .long 0, .long 0, .long 0])), (mr, .inl (cm1, 7, .inl (fun _ => 0)))]) hD hS hA [1, 0] rfl
    refine va_calli (va_runV (As := [.int (-2)]) (rest := []) ⟨hx, hb, hml, hown, hts⟩ (c_X12_refuse_2 l dC dI h0 mr mt mw mu mp mi mk ms mv m1w m2w m3w m4w cm1 H.size) (cwV 1 hts (gi_V (fun w_ h0_ => ⟨List.mem_cons_of_mem _ (List.mem_append_right _ (List.mem_append_right _ (List.mem_append_right _ (List.mem_append_right _ (List.mem_append_left _ h0_))))), (tb_c_X12_refuse_2 w_ h0_).2⟩) (List.mem_cons_of_mem _ (List.mem_append_left _ (List.mem_of_getElem? (i := 8) rfl))) (List.mem_cons_of_mem _ (List.mem_append_left _ (List.mem_of_getElem? (i := 9) rfl))) (List.mem_cons_of_mem _ (List.mem_append_left _ (List.mem_of_getElem? (i := 10) rfl))) (List.mem_cons_of_mem _ (List.mem_append_left _ (List.mem_of_getElem? (i := 4) rfl)))) rfl rfl rfl (by decide +kernel) ⟨Nat.le_of_ble_eq_true rfl, Nat.le_of_ble_eq_true rfl⟩) ⟨fun a U g mk q => by obtain ⟨q0, q1, qP, qK, qD⟩ := q; exact ⟨q0, q1, qP, va_K.moved (u := U) (U := U.calling g mk a) (Vm.Alike.refl U.vm) qK, qD⟩, va_recv hKc hPc (ci := 12) (q0 := 0) rfl rfl, fun U hU hW => ⟨rfl, by rw [hU], by rw [hU]; exact hPc, va_K.moved hW.alike hKc, hDc.weaken (fun _ _ _ _ => trivial)⟩⟩ rfl rfl hl.1 rfl (lv_room (Nat.le_of_ble_eq_true rfl)) dX12_slice_34 ⟨Nat.le_of_ble_eq_true rfl, Nat.le_of_ble_eq_true rfl⟩) hS (fun q _ h => hFc q h) hFc (fun r_4 u t H1 locs ht hvm hw hB hz1 hk1 hS => ?_)
    obtain ⟨hP1, hK1, hD1⟩ := hB
    rw [ht] at hP1
    have hK1 := va_K.moved hvm.symm hK1
    obtain ⟨hP, hD⟩ := va_join (wr := [(mw, .inl (cm3, 906, .inr (.inl fw)))]) (w1 := []) hP hD [1, 0] [2] rfl rfl (by decide) (by decide) hk1 hFc hP1 hD1
    generalize H1 = H at hP hS ⊢
    have hP : va_P (dC, dI) vwCl [(mw, .inl (cm3, 906, .inr (.inl fw)))] H := hP
    have hD : va_D A [(mw, .inl (cm3, 906, .inr (.inl fw)))] := hD
    refine W.widen (k := 0) (n := 0) (Nat.le_of_ble_eq_true rfl) (Nat.le_of_ble_eq_true rfl) ?_
    have hw : r_4 = (-2) := hw
    subst hw
    have hP9 := hP.sub (ws' := []) [] rfl
    have hD9 := hD.sub (ws' := []) [] (by decide) rfl
    have hK9 := hK.sub (tys' := []) [] rfl
    refine W.widen (k := 0) (n := 0) (Nat.le_of_ble_eq_true rfl) (Nat.le_of_ble_eq_true rfl) ?_
    exact W.iret (v := (-2)) hx hb hr (fun t ht hW => ⟨⟨(-2), (), rfl, (by have z0 := (sp_r1 _ _ _).mp c_2; unfold sp_one; (repeat' split) <;> first | rfl | omega | (refine Int32.toInt_inj.mp ?_; omega)), by rw [ht]; exact hP9, va_K.moved hW.alike hK9, hD9⟩, hS.F ht⟩) hS.2.2 dX12_slice_37
  · have c_2 := not_not_intro c_2
    refine lv_aload_n hx hb dX12_slice_17 rfl (lv_at hl 0 rfl) ?_
    refine lv_iconst (v := (-1)) hx hb dX12_slice_18 (by decide) ?_
    have hPc := hP.sub (ws' := [(h0, .inr (12, [.int 0, .int 0, .ref mr, .ref mt, .ref mw, .ref mu, .ref mp, .ref mi, .ref mk, .ref ms, .int 0, .ref mv, .int 0, .int 0, .int 0, .int 0, .long 0, .int (-1), .int 0, .ref m1w, .ref m2w, .ref m3w, .ref m4w, .int 0, .long 0, .long 0, .long 0])), (mr, .inl (cm1, 7, .inl (fun _ => 0)))]) [0, 1] rfl
    have hDc := hD.sub (ws' := [(h0, .inr (12, [.int 0, .int 0, .ref mr, .ref mt, .ref mw, .ref mu, .ref mp, .ref mi, .ref mk, .ref ms, .int 0, .ref mv, .int 0, .int 0, .int 0, .int 0, .long 0, .int (-1), .int 0, .ref m1w, .ref m2w, .ref m3w, .ref m4w, .int 0, .long 0, .long 0, .long 0])), (mr, .inl (cm1, 7, .inl (fun _ => 0)))]) [0, 1] (by decide) rfl
    have hKc := hK.sub (tys' := [(cm1, .int)]) [0] rfl
    have hFc := va_free (wc := [(h0, .inr (12, [.int 0, .int 0, .ref mr, .ref mt, .ref mw, .ref mu, .ref mp, .ref mi, .ref mk, .ref ms, .int 0, .ref mv, .int 0, .int 0, .int 0, .int 0, .long 0, .int (-1), .int 0, .ref m1w, .ref m2w, .ref m3w, .ref m4w, .int 0, .long 0, .long 0, .long 0])), (mr, .inl (cm1, 7, .inl (fun _ => 0)))]) hD hS hA [0, 1] rfl
    refine va_calli (va_runV (As := [.int (-1)]) (rest := []) ⟨hx, hb, hml, hown, hts⟩ (c_X12_refuse_1 l dC dI h0 mr mt mw mu mp mi mk ms mv m1w m2w m3w m4w cm1 H.size) (cwV 1 hts (gi_V (fun w_ h0_ => ⟨List.mem_cons_of_mem _ (List.mem_append_right _ (List.mem_append_right _ (List.mem_append_right _ (List.mem_append_right _ (List.mem_append_right _ (List.mem_append_left _ h0_)))))), (tb_c_X12_refuse_1 w_ h0_).2⟩) (List.mem_cons_of_mem _ (List.mem_append_left _ (List.mem_of_getElem? (i := 8) rfl))) (List.mem_cons_of_mem _ (List.mem_append_left _ (List.mem_of_getElem? (i := 9) rfl))) (List.mem_cons_of_mem _ (List.mem_append_left _ (List.mem_of_getElem? (i := 10) rfl))) (List.mem_cons_of_mem _ (List.mem_append_left _ (List.mem_of_getElem? (i := 4) rfl)))) rfl rfl rfl (by decide +kernel) ⟨Nat.le_of_ble_eq_true rfl, Nat.le_of_ble_eq_true rfl⟩) ⟨fun a U g mk q => by obtain ⟨q0, q1, qP, qK, qD⟩ := q; exact ⟨q0, q1, qP, va_K.moved (u := U) (U := U.calling g mk a) (Vm.Alike.refl U.vm) qK, qD⟩, va_recv hKc hPc (ci := 12) (q0 := 0) rfl rfl, fun U hU hW => ⟨rfl, by rw [hU], by rw [hU]; exact hPc, va_K.moved hW.alike hKc, hDc.weaken (fun _ _ _ _ => trivial)⟩⟩ rfl rfl hl.1 rfl (lv_room (Nat.le_of_ble_eq_true rfl)) dX12_slice_19 ⟨Nat.le_of_ble_eq_true rfl, Nat.le_of_ble_eq_true rfl⟩) hS (fun q _ h => hFc q h) hFc (fun r_5 u t H1 locs ht hvm hw hB hz1 hk1 hS => ?_)
    obtain ⟨hP1, hK1, hD1⟩ := hB
    rw [ht] at hP1
    have hK1 := va_K.moved hvm.symm hK1
    obtain ⟨hP, hD⟩ := va_join (wr := [(mw, .inl (cm3, 906, .inr (.inl fw)))]) (w1 := []) hP hD [0, 1] [2] rfl rfl (by decide) (by decide) hk1 hFc hP1 hD1
    generalize H1 = H at hP hS ⊢
    have hP : va_P (dC, dI) vwCl [(mw, .inl (cm3, 906, .inr (.inl fw)))] H := hP
    have hD : va_D A [(mw, .inl (cm3, 906, .inr (.inl fw)))] := hD
    refine W.widen (k := 0) (n := 0) (Nat.le_of_ble_eq_true rfl) (Nat.le_of_ble_eq_true rfl) ?_
    have hw : r_5 = (-1) := hw
    subst hw
    have hP9 := hP.sub (ws' := []) [] rfl
    have hD9 := hD.sub (ws' := []) [] (by decide) rfl
    have hK9 := hK.sub (tys' := []) [] rfl
    refine W.widen (k := 0) (n := 0) (Nat.le_of_ble_eq_true rfl) (Nat.le_of_ble_eq_true rfl) ?_
    exact W.iret (v := (-1)) hx hb hr (fun t ht hW => ⟨⟨(-1), (), rfl, (by have z0 := (sp_r0 _ _ _).mp (Classical.not_not.mp c_2); unfold sp_one; (repeat' split) <;> first | rfl | omega | (refine Int32.toInt_inj.mp ?_; omega)), by rw [ht]; exact hP9, va_K.moved hW.alike hK9, hD9⟩, hS.F ht⟩) hS.2.2 dX12_slice_22
def ow_c_X12_wish : List Cond := [.fieldLink RX12 67 "DeadlineShareModel" "thrown" "I", .constantLong RX12 165 (99), .methodLink RX12 83 yX12_in, .static yX12_in, .initialized RX12, .methodLink RX12 142 yX12_isTask, .instanceMethod yX12_isTask, .selects RX12 yX12_isTask yX12_isTask, .methodLink RX12 76 yX12_refuse, .instanceMethod yX12_refuse, .selects RX12 yX12_refuse yX12_refuse]
def wq_c_X12_wish : List Cond := .code yX12_wish cX12_wish 7 (some .int) :: (ow_c_X12_wish ++ (u_ws RX12 TX12 27 ++ (wq_c_X12_in ++ (wq_c_X12_isTask ++ (wq_c_X12_refuse_2 ++ (wq_c_X12_refuse_1 ++ ([] : List Cond)))))))
theorem tb_c_X12_wish : ∀ w ∈ wq_c_X12_wish, q_g w := by
  unfold wq_c_X12_wish ow_c_X12_wish
  exact q_cons tw_515 (q_app (q_cons tw_488 (q_cons tw_514 (q_cons tw_437 (q_cons tw_436 (q_cons tw_435 (q_cons tw_506 (q_cons tw_505 (q_cons tw_504 (q_cons tw_483 (q_cons tw_482 (q_cons tw_481 q_nil))))))))))) (q_app tu_X12 (q_app tb_c_X12_in (q_app tb_c_X12_isTask (q_app tb_c_X12_refuse_2 (q_app tb_c_X12_refuse_1 q_nil))))))
set_option maxHeartbeats 4000000 in
set_option maxRecDepth 100000 in
theorem c_X12_wish (l : Launch) (dC : Nat → ClassId) (dI : Nat → Nat → Nat) (h0 : Nat) (tk : Int32) (nw : Int32) (mr : Nat) (mt : Nat) (mw : Nat) (mu : Nat) (mp : Nat) (mi : Nat) (mk : Nat) (ms : Nat) (mv : Nat) (m1w : Nat) (m2w : Nat) (m3w : Nat) (m4w : Nat) (cm1 : ClassId) (cm3 : ClassId) (fw : Nat → Int64) (sz : Nat) (hw0 : fw 0 = 0) (hw1 : fw 1 = 0) (hw2 : fw 2 = 0) (hw3 : fw 3 = (-1)) (hw4 : fw 4 = (-1)) (hw5 : fw 5 = 0) : Met l yX12_wish wq_c_X12_wish ({ frames := 2, cells := 0, slots := 0, locals := 46 } : Room) (va_Pc [.ref h0, .int tk, .int nw] (fun U => U.heap.size = sz ∧ va_P (dC, dI) vwCl [(h0, .inr (12, [.int 0, .int 0, .ref mr, .ref mt, .ref mw, .ref mu, .ref mp, .ref mi, .ref mk, .ref ms, .int 0, .ref mv, .int 0, .int 0, .int 0, .int 0, .long 0, .int (-1), .int 0, .ref m1w, .ref m2w, .ref m3w, .ref m4w, .int 0, .long 0, .long 0, .long 0])), (mr, .inl (cm1, 7, .inl (fun _ => 0))), (mw, .inl (cm3, 906, .inr (.inl fw)))] U.heap ∧ va_K (dC, dI) vwCl [(cm1, .int), (cm3, .long)] U ∧ va_D (fun _ => True) [(h0, .inr (12, [.int 0, .int 0, .ref mr, .ref mt, .ref mw, .ref mu, .ref mp, .ref mi, .ref mk, .ref ms, .int 0, .ref mv, .int 0, .int 0, .int 0, .int 0, .long 0, .int (-1), .int 0, .ref m1w, .ref m2w, .ref m3w, .ref m4w, .int 0, .long 0, .long 0, .long 0])), (mr, .inl (cm1, 7, .inl (fun _ => 0))), (mw, .inl (cm3, 906, .inr (.inl fw)))])) (va_Qi (fun (r : Int32) (_ : Unit) => r = sp_one nw 1 99 (-2)) (fun (_ : Unit) t => va_P (dC, dI) vwCl [] t.heap ∧ va_K (dC, dI) vwCl [] t ∧ va_D (va_A [(h0, .inr (12, [.int 0, .int 0, .ref mr, .ref mt, .ref mw, .ref mu, .ref mp, .ref mi, .ref mk, .ref ms, .int 0, .ref mv, .int 0, .int 0, .int 0, .int 0, .long 0, .int (-1), .int 0, .ref m1w, .ref m2w, .ref m3w, .ref m4w, .int 0, .long 0, .long 0, .long 0])), (mr, .inl (cm1, 7, .inl (fun _ => 0))), (mw, .inl (cm3, 906, .inr (.inl fw)))] sz) []) (va_A [(h0, .inr (12, [.int 0, .int 0, .ref mr, .ref mt, .ref mw, .ref mu, .ref mp, .ref mi, .ref mk, .ref ms, .int 0, .ref mv, .int 0, .int 0, .int 0, .int 0, .long 0, .int (-1), .int 0, .ref m1w, .ref m2w, .ref m3w, .ref m4w, .int 0, .long 0, .long 0, .long 0])), (mr, .inl (cm1, 7, .inl (fun _ => 0))), (mw, .inl (cm3, 906, .inr (.inl fw)))] sz)) 0 0 (va_A [(h0, .inr (12, [.int 0, .int 0, .ref mr, .ref mt, .ref mw, .ref mu, .ref mp, .ref mi, .ref mk, .ref ms, .int 0, .ref mv, .int 0, .int 0, .int 0, .int 0, .long 0, .int (-1), .int 0, .ref m1w, .ref m2w, .ref m3w, .ref m4w, .int 0, .long 0, .long 0, .long 0])), (mr, .inl (cm1, 7, .inl (fun _ => 0))), (mw, .inl (cm3, 906, .inr (.inl fw)))] sz) := by
  refine Met.ofW (cc := cX12_wish) (maxL := 7) (ret := (some .int)) (by decide) rfl ?_
  intro p e s m args below meth c s₁ B hml hv
  obtain ⟨rfl, hsz, hP, hK, hD0⟩ := hv
  have hx := B.exec
  have hb := B.bytes
  have hr := B.returns
  have hts := atoms_spec (ws := wq_c_X12_wish) B.pre
  have hown : s.vm.findClass RX12 = some m.cls := findClass_of_methodNamed B.named
  have hlocks := B.notSynchronized
  subst hsz
  have hD := hD0.self (sz := s.heap.size)
  obtain ⟨A, hAe⟩ : ∃ A, A = va_A [(h0, .inr (12, [.int 0, .int 0, .ref mr, .ref mt, .ref mw, .ref mu, .ref mp, .ref mi, .ref mk, .ref ms, .int 0, .ref mv, .int 0, .int 0, .int 0, .int 0, .long 0, .int (-1), .int 0, .ref m1w, .ref m2w, .ref m3w, .ref m4w, .int 0, .long 0, .long 0, .long 0])), (mr, .inl (cm1, 7, .inl (fun _ => 0))), (mw, .inl (cm3, 906, .inr (.inl fw)))] s.heap.size := ⟨_, rfl⟩
  rw [← hAe] at hD ⊢
  have hA : ∀ q : Nat, s.heap.size ≤ q → A q := fun q h => by rw [hAe]; exact Or.inr h
  have hS : va_S A s.heap s.heap [] := va_S.rf
  have hP : va_P (dC, dI) vwCl [(h0, .inr (12, [.int 0, .int 0, .ref mr, .ref mt, .ref mw, .ref mu, .ref mp, .ref mi, .ref mk, .ref ms, .int 0, .ref mv, .int 0, .int 0, .int 0, .int 0, .long 0, .int (-1), .int 0, .ref m1w, .ref m2w, .ref m3w, .ref m4w, .int 0, .long 0, .long 0, .long 0])), (mr, .inl (cm1, 7, .inl (fun _ => 0))), (mw, .inl (cm3, 906, .inr (.inl fw)))] s.heap := hP
  have hl := lv_entry ([.ref h0, .int tk, .int nw]) (n := 7) (Nat.le_of_ble_eq_true rfl)
  rw [lg_entry_eq]
  generalize (lg_sl ([.ref h0, .int tk, .int nw]) ++ List.replicate (7 - (lg_sl ([.ref h0, .int tk, .int nw])).length) Slot.unset).toArray = ls at hl ⊢
  have hl : lv_has ls 7 [(0, .ref h0), (1, .int tk), (2, .int nw)] := hl
  refine lv_aload_n hx hb dX12_wish_0 rfl (lv_at hl 0 rfl) ?_
  refine lv_iconst (v := 0) hx hb dX12_wish_1 (by decide) ?_
  refine va_put (D := (dC, dI)) (ci := 12) (v := .int 0) (ty := .int) (C := RX12) (T := TX12) (N := 27) hx hb hts (fun _ h0_ => List.mem_cons_of_mem _ (List.mem_append_right _ (List.mem_append_left _ h0_))) tyX12 tyX12_ok nmX12 hown hK hP hD hS 0 rfl rfl 0 (by decide) (hts (.fieldLink RX12 67 "DeadlineShareModel" "thrown" "I") (List.mem_cons_of_mem _ (List.mem_append_left _ (List.mem_of_getElem? (i := 0) rfl)))) (fun _ h9 => h9) rfl (by decide +kernel) rfl rfl (Nat.le_of_ble_eq_true rfl) dX12_wish_2 (fun H locs hP hD hS => ?_)
  have hP : va_P (dC, dI) vwCl [(h0, .inr (12, [.int 0, .int 0, .ref mr, .ref mt, .ref mw, .ref mu, .ref mp, .ref mi, .ref mk, .ref ms, .int 0, .ref mv, .int 0, .int 0, .int 0, .int 0, .long 0, .int (-1), .int 0, .ref m1w, .ref m2w, .ref m3w, .ref m4w, .int 0, .long 0, .long 0, .long 0])), (mr, .inl (cm1, 7, .inl (fun _ => 0))), (mw, .inl (cm3, 906, .inr (.inl fw)))] H := hP
  have hD : va_D A [(h0, .inr (12, [.int 0, .int 0, .ref mr, .ref mt, .ref mw, .ref mu, .ref mp, .ref mi, .ref mk, .ref ms, .int 0, .ref mv, .int 0, .int 0, .int 0, .int 0, .long 0, .int (-1), .int 0, .ref m1w, .ref m2w, .ref m3w, .ref m4w, .int 0, .long 0, .long 0, .long 0])), (mr, .inl (cm1, 7, .inl (fun _ => 0))), (mw, .inl (cm3, 906, .inr (.inl fw)))] := hD
  refine lv_iload_n hx hb dX12_wish_5 rfl (lv_at hl 2 rfl) ?_
  refine lv_i2l (v := nw.toInt64) hx hb dX12_wish_6 rfl ?_
  refine lv_lconst (v := 1) hx hb dX12_wish_7 (by decide) ?_
  refine lv_ldc2 hx hb hown (hts (.constantLong RX12 165 (99)) (List.mem_cons_of_mem _ (List.mem_append_left _ (List.mem_of_getElem? (i := 1) rfl)))) dX12_wish_8 ?_
  have hPc := hP.sub (ws' := []) [] rfl
  have hDc := hD.sub (ws' := []) [] (by decide) rfl
  have hKc := hK.sub (tys' := []) [] rfl
  have hFc := va_free (wc := []) hD hS hA [] rfl
  refine va_calli (va_runS (As := [.long nw.toInt64, .long 1, .long 99]) (rest := []) ⟨hx, hb, hml, hown, hts⟩ (c_X12_in l dC dI nw.toInt64 1 99 H.size) (va_cwS 3 hts (gi_S (fun w_ h0_ => ⟨List.mem_cons_of_mem _ (List.mem_append_right _ (List.mem_append_right _ (List.mem_append_left _ h0_))), (tb_c_X12_in w_ h0_).2⟩) (List.mem_cons_of_mem _ (List.mem_append_left _ (List.mem_of_getElem? (i := 2) rfl))) (List.mem_cons_of_mem _ (List.mem_append_left _ (List.mem_of_getElem? (i := 3) rfl))) (List.mem_cons_of_mem _ (List.mem_append_left _ (List.mem_of_getElem? (i := 4) rfl)))) rfl rfl rfl (by decide +kernel) ⟨Nat.le_of_ble_eq_true rfl, Nat.le_of_ble_eq_true rfl⟩) ⟨fun a U g mk q => by obtain ⟨q0, q1, qP, qK, qD⟩ := q; exact ⟨q0, q1, qP, va_K.moved (u := U) (U := U.calling g mk a) (Vm.Alike.refl U.vm) qK, qD⟩, fun U hU hW => ⟨rfl, by rw [hU], by rw [hU]; exact hPc, va_K.moved hW.alike hKc, hDc.weaken (fun _ _ _ _ => trivial)⟩⟩ rfl rfl hl.1 rfl (lv_room (Nat.le_of_ble_eq_true rfl)) dX12_wish_11 ⟨Nat.le_of_ble_eq_true rfl, Nat.le_of_ble_eq_true rfl⟩) hS (fun q _ h => hFc q h) hFc (fun r_1 u t H1 locs ht hvm hw hB hz1 hk1 hS => ?_)
  obtain ⟨hP1, hK1, hD1⟩ := hB
  rw [ht] at hP1
  have hK1 := va_K.moved hvm.symm hK1
  obtain ⟨hP, hD⟩ := va_join (wr := [(h0, .inr (12, [.int 0, .int 0, .ref mr, .ref mt, .ref mw, .ref mu, .ref mp, .ref mi, .ref mk, .ref ms, .int 0, .ref mv, .int 0, .int 0, .int 0, .int 0, .long 0, .int (-1), .int 0, .ref m1w, .ref m2w, .ref m3w, .ref m4w, .int 0, .long 0, .long 0, .long 0])), (mr, .inl (cm1, 7, .inl (fun _ => 0))), (mw, .inl (cm3, 906, .inr (.inl fw)))]) (w1 := []) hP hD [] [0, 1, 2] rfl rfl (by decide) (by decide) hk1 hFc hP1 hD1
  generalize H1 = H at hP hS ⊢
  have hP : va_P (dC, dI) vwCl [(h0, .inr (12, [.int 0, .int 0, .ref mr, .ref mt, .ref mw, .ref mu, .ref mp, .ref mi, .ref mk, .ref ms, .int 0, .ref mv, .int 0, .int 0, .int 0, .int 0, .long 0, .int (-1), .int 0, .ref m1w, .ref m2w, .ref m3w, .ref m4w, .int 0, .long 0, .long 0, .long 0])), (mr, .inl (cm1, 7, .inl (fun _ => 0))), (mw, .inl (cm3, 906, .inr (.inl fw)))] H := hP
  have hD : va_D A [(h0, .inr (12, [.int 0, .int 0, .ref mr, .ref mt, .ref mw, .ref mu, .ref mp, .ref mi, .ref mk, .ref ms, .int 0, .ref mv, .int 0, .int 0, .int 0, .int 0, .long 0, .int (-1), .int 0, .ref m1w, .ref m2w, .ref m3w, .ref m4w, .int 0, .long 0, .long 0, .long 0])), (mr, .inl (cm1, 7, .inl (fun _ => 0))), (mw, .inl (cm3, 906, .inr (.inl fw)))] := hD
  refine W.widen (k := 0) (n := 0) (Nat.le_of_ble_eq_true rfl) (Nat.le_of_ble_eq_true rfl) ?_
  have hw : r_1 = sp_in nw.toInt64 1 99 := hw
  subst hw
  refine k_topi (y := sp_r nw 1 99) (sp_in_r _ _ _ (by decide) (by decide)) ?_
  refine lv_if_ne (tgt := 23) hx hb dX12_wish_14 (by decide) (fun c_2 => ?_) (fun c_2 => ?_)
  · refine lv_aload_n hx hb dX12_wish_23 rfl (lv_at hl 0 rfl) ?_
    refine lv_iload_n hx hb dX12_wish_24 rfl (lv_at hl 1 rfl) ?_
    have hPc := hP.sub (ws' := [(h0, .inr (12, [.int 0, .int 0, .ref mr, .ref mt, .ref mw, .ref mu, .ref mp, .ref mi, .ref mk, .ref ms, .int 0, .ref mv, .int 0, .int 0, .int 0, .int 0, .long 0, .int (-1), .int 0, .ref m1w, .ref m2w, .ref m3w, .ref m4w, .int 0, .long 0, .long 0, .long 0])), (mw, .inl (cm3, 906, .inr (.inl fw)))]) [0, 2] rfl
    have hDc := hD.sub (ws' := [(h0, .inr (12, [.int 0, .int 0, .ref mr, .ref mt, .ref mw, .ref mu, .ref mp, .ref mi, .ref mk, .ref ms, .int 0, .ref mv, .int 0, .int 0, .int 0, .int 0, .long 0, .int (-1), .int 0, .ref m1w, .ref m2w, .ref m3w, .ref m4w, .int 0, .long 0, .long 0, .long 0])), (mw, .inl (cm3, 906, .inr (.inl fw)))]) [0, 2] (by decide) rfl
    have hKc := hK.sub (tys' := [(cm3, .long)]) [1] rfl
    have hFc := va_free (wc := [(h0, .inr (12, [.int 0, .int 0, .ref mr, .ref mt, .ref mw, .ref mu, .ref mp, .ref mi, .ref mk, .ref ms, .int 0, .ref mv, .int 0, .int 0, .int 0, .int 0, .long 0, .int (-1), .int 0, .ref m1w, .ref m2w, .ref m3w, .ref m4w, .int 0, .long 0, .long 0, .long 0])), (mw, .inl (cm3, 906, .inr (.inl fw)))]) hD hS hA [0, 2] rfl
    refine va_calli (va_runV (As := [.int tk]) (rest := []) ⟨hx, hb, hml, hown, hts⟩ (c_X12_isTask l dC dI h0 tk mr mt mw mu mp mi mk ms mv m1w m2w m3w m4w cm3 fw H.size hw0) (cwV 1 hts (gi_V (fun w_ h0_ => ⟨List.mem_cons_of_mem _ (List.mem_append_right _ (List.mem_append_right _ (List.mem_append_right _ (List.mem_append_left _ h0_)))), (tb_c_X12_isTask w_ h0_).2⟩) (List.mem_cons_of_mem _ (List.mem_append_left _ (List.mem_of_getElem? (i := 5) rfl))) (List.mem_cons_of_mem _ (List.mem_append_left _ (List.mem_of_getElem? (i := 6) rfl))) (List.mem_cons_of_mem _ (List.mem_append_left _ (List.mem_of_getElem? (i := 7) rfl))) (List.mem_cons_of_mem _ (List.mem_append_left _ (List.mem_of_getElem? (i := 4) rfl)))) rfl rfl rfl (by decide +kernel) ⟨Nat.le_of_ble_eq_true rfl, Nat.le_of_ble_eq_true rfl⟩) ⟨fun a U g mk q => by obtain ⟨q0, q1, qP, qK, qD⟩ := q; exact ⟨q0, q1, qP, va_K.moved (u := U) (U := U.calling g mk a) (Vm.Alike.refl U.vm) qK, qD⟩, va_recv hKc hPc (ci := 12) (q0 := 0) rfl rfl, fun U hU hW => ⟨rfl, by rw [hU], by rw [hU]; exact hPc, va_K.moved hW.alike hKc, hDc.weaken (fun _ _ _ _ => trivial)⟩⟩ rfl rfl hl.1 rfl (lv_room (Nat.le_of_ble_eq_true rfl)) dX12_wish_25 ⟨Nat.le_of_ble_eq_true rfl, Nat.le_of_ble_eq_true rfl⟩) hS (fun q _ h => hFc q h) hFc (fun r_3 u t H1 locs ht hvm hw hB hz1 hk1 hS => ?_)
    obtain ⟨hP1, hK1, hD1⟩ := hB
    rw [ht] at hP1
    have hK1 := va_K.moved hvm.symm hK1
    obtain ⟨hP, hD⟩ := va_join (wr := [(mr, .inl (cm1, 7, .inl (fun _ => 0)))]) (w1 := [(h0, .inr (12, [.int 0, .int 0, .ref mr, .ref mt, .ref mw, .ref mu, .ref mp, .ref mi, .ref mk, .ref ms, .int 0, .ref mv, .int 0, .int 0, .int 0, .int 0, .long 0, .int (-1), .int 0, .ref m1w, .ref m2w, .ref m3w, .ref m4w, .int 0, .long 0, .long 0, .long 0])), (mw, .inl (cm3, 906, .inr (.inl fw)))]) hP hD [0, 2] [1] rfl rfl (by decide) (by decide) hk1 hFc hP1 hD1
    generalize H1 = H at hP hS ⊢
    have hP : va_P (dC, dI) vwCl [(mr, .inl (cm1, 7, .inl (fun _ => 0))), (h0, .inr (12, [.int 0, .int 0, .ref mr, .ref mt, .ref mw, .ref mu, .ref mp, .ref mi, .ref mk, .ref ms, .int 0, .ref mv, .int 0, .int 0, .int 0, .int 0, .long 0, .int (-1), .int 0, .ref m1w, .ref m2w, .ref m3w, .ref m4w, .int 0, .long 0, .long 0, .long 0])), (mw, .inl (cm3, 906, .inr (.inl fw)))] H := hP
    have hD : va_D A [(mr, .inl (cm1, 7, .inl (fun _ => 0))), (h0, .inr (12, [.int 0, .int 0, .ref mr, .ref mt, .ref mw, .ref mu, .ref mp, .ref mi, .ref mk, .ref ms, .int 0, .ref mv, .int 0, .int 0, .int 0, .int 0, .long 0, .int (-1), .int 0, .ref m1w, .ref m2w, .ref m3w, .ref m4w, .int 0, .long 0, .long 0, .long 0])), (mw, .inl (cm3, 906, .inr (.inl fw)))] := hD
    refine W.widen (k := 0) (n := 0) (Nat.le_of_ble_eq_true rfl) (Nat.le_of_ble_eq_true rfl) ?_
    have hw : r_3 = 0 := hw
    subst hw
    refine lv_if_ne (tgt := 38) hx hb dX12_wish_28 (by decide) (fun c => absurd c (by decide)) (fun _ => ?_)
    refine lv_aload_n hx hb dX12_wish_31 rfl (lv_at hl 0 rfl) ?_
    refine lv_bipush (v := (-2)) hx hb dX12_wish_32 (by decide) ?_
    have hPc := hP.sub (ws' := [(h0, .inr (12, [.int 0, .int 0, .ref mr, .ref mt, .ref mw, .ref mu, .ref mp, .ref mi, .ref mk, .ref ms, .int 0, .ref mv, .int 0, .int 0, .int 0, .int 0, .long 0, .int (-1), .int 0, .ref m1w, .ref m2w, .ref m3w, .ref m4w, .int 0, .long 0, .long 0, .long 0])), (mr, .inl (cm1, 7, .inl (fun _ => 0)))]) [1, 0] rfl
    have hDc := hD.sub (ws' := [(h0, .inr (12, [.int 0, .int 0, .ref mr, .ref mt, .ref mw, .ref mu, .ref mp, .ref mi, .ref mk, .ref ms, .int 0, .ref mv, .int 0, .int 0, .int 0, .int 0, .long 0, .int (-1), .int 0, .ref m1w, .ref m2w, .ref m3w, .ref m4w, .int 0, .long 0, .long 0, .long 0])), (mr, .inl (cm1, 7, .inl (fun _ => 0)))]) [1, 0] (by decide) rfl
    have hKc := hK.sub (tys' := [(cm1, .int)]) [0] rfl
    have hFc := va_free (wc := [(h0, .inr (12, [.int 0, .int 0, .ref mr, .ref mt, .ref mw, .ref mu, .ref mp, .ref mi, .ref mk, .ref ms, .int 0, .ref mv, .int 0, .int 0, .int 0, .int 0, .long 0, .int (-1), .int 0, .ref m1w, .ref m2w, .ref m3w, .ref m4w, .int 0, .long 0, .long 0, .long 0])), (mr, .inl (cm1, 7, .inl (fun _ => 0)))]) hD hS hA [1, 0] rfl
    refine va_calli (va_runV (As := [.int (-2)]) (rest := []) ⟨hx, hb, hml, hown, hts⟩ (c_X12_refuse_2 l dC dI h0 mr mt mw mu mp mi mk ms mv m1w m2w m3w m4w cm1 H.size) (cwV 1 hts (gi_V (fun w_ h0_ => ⟨List.mem_cons_of_mem _ (List.mem_append_right _ (List.mem_append_right _ (List.mem_append_right _ (List.mem_append_right _ (List.mem_append_left _ h0_))))), (tb_c_X12_refuse_2 w_ h0_).2⟩) (List.mem_cons_of_mem _ (List.mem_append_left _ (List.mem_of_getElem? (i := 8) rfl))) (List.mem_cons_of_mem _ (List.mem_append_left _ (List.mem_of_getElem? (i := 9) rfl))) (List.mem_cons_of_mem _ (List.mem_append_left _ (List.mem_of_getElem? (i := 10) rfl))) (List.mem_cons_of_mem _ (List.mem_append_left _ (List.mem_of_getElem? (i := 4) rfl)))) rfl rfl rfl (by decide +kernel) ⟨Nat.le_of_ble_eq_true rfl, Nat.le_of_ble_eq_true rfl⟩) ⟨fun a U g mk q => by obtain ⟨q0, q1, qP, qK, qD⟩ := q; exact ⟨q0, q1, qP, va_K.moved (u := U) (U := U.calling g mk a) (Vm.Alike.refl U.vm) qK, qD⟩, va_recv hKc hPc (ci := 12) (q0 := 0) rfl rfl, fun U hU hW => ⟨rfl, by rw [hU], by rw [hU]; exact hPc, va_K.moved hW.alike hKc, hDc.weaken (fun _ _ _ _ => trivial)⟩⟩ rfl rfl hl.1 rfl (lv_room (Nat.le_of_ble_eq_true rfl)) dX12_wish_34 ⟨Nat.le_of_ble_eq_true rfl, Nat.le_of_ble_eq_true rfl⟩) hS (fun q _ h => hFc q h) hFc (fun r_4 u t H1 locs ht hvm hw hB hz1 hk1 hS => ?_)
    obtain ⟨hP1, hK1, hD1⟩ := hB
    rw [ht] at hP1
    have hK1 := va_K.moved hvm.symm hK1
    obtain ⟨hP, hD⟩ := va_join (wr := [(mw, .inl (cm3, 906, .inr (.inl fw)))]) (w1 := []) hP hD [1, 0] [2] rfl rfl (by decide) (by decide) hk1 hFc hP1 hD1
    generalize H1 = H at hP hS ⊢
    have hP : va_P (dC, dI) vwCl [(mw, .inl (cm3, 906, .inr (.inl fw)))] H := hP
    have hD : va_D A [(mw, .inl (cm3, 906, .inr (.inl fw)))] := hD
    refine W.widen (k := 0) (n := 0) (Nat.le_of_ble_eq_true rfl) (Nat.le_of_ble_eq_true rfl) ?_
    have hw : r_4 = (-2) := hw
    subst hw
    have hP9 := hP.sub (ws' := []) [] rfl
    have hD9 := hD.sub (ws' := []) [] (by decide) rfl
    have hK9 := hK.sub (tys' := []) [] rfl
    refine W.widen (k := 0) (n := 0) (Nat.le_of_ble_eq_true rfl) (Nat.le_of_ble_eq_true rfl) ?_
    exact W.iret (v := (-2)) hx hb hr (fun t ht hW => ⟨⟨(-2), (), rfl, (by have z0 := (sp_r1 _ _ _).mp c_2; unfold sp_one; (repeat' split) <;> first | rfl | omega | (refine Int32.toInt_inj.mp ?_; omega)), by rw [ht]; exact hP9, va_K.moved hW.alike hK9, hD9⟩, hS.F ht⟩) hS.2.2 dX12_wish_37
  · have c_2 := not_not_intro c_2
    refine lv_aload_n hx hb dX12_wish_17 rfl (lv_at hl 0 rfl) ?_
    refine lv_iconst (v := (-1)) hx hb dX12_wish_18 (by decide) ?_
    have hPc := hP.sub (ws' := [(h0, .inr (12, [.int 0, .int 0, .ref mr, .ref mt, .ref mw, .ref mu, .ref mp, .ref mi, .ref mk, .ref ms, .int 0, .ref mv, .int 0, .int 0, .int 0, .int 0, .long 0, .int (-1), .int 0, .ref m1w, .ref m2w, .ref m3w, .ref m4w, .int 0, .long 0, .long 0, .long 0])), (mr, .inl (cm1, 7, .inl (fun _ => 0)))]) [0, 1] rfl
    have hDc := hD.sub (ws' := [(h0, .inr (12, [.int 0, .int 0, .ref mr, .ref mt, .ref mw, .ref mu, .ref mp, .ref mi, .ref mk, .ref ms, .int 0, .ref mv, .int 0, .int 0, .int 0, .int 0, .long 0, .int (-1), .int 0, .ref m1w, .ref m2w, .ref m3w, .ref m4w, .int 0, .long 0, .long 0, .long 0])), (mr, .inl (cm1, 7, .inl (fun _ => 0)))]) [0, 1] (by decide) rfl
    have hKc := hK.sub (tys' := [(cm1, .int)]) [0] rfl
    have hFc := va_free (wc := [(h0, .inr (12, [.int 0, .int 0, .ref mr, .ref mt, .ref mw, .ref mu, .ref mp, .ref mi, .ref mk, .ref ms, .int 0, .ref mv, .int 0, .int 0, .int 0, .int 0, .long 0, .int (-1), .int 0, .ref m1w, .ref m2w, .ref m3w, .ref m4w, .int 0, .long 0, .long 0, .long 0])), (mr, .inl (cm1, 7, .inl (fun _ => 0)))]) hD hS hA [0, 1] rfl
    refine va_calli (va_runV (As := [.int (-1)]) (rest := []) ⟨hx, hb, hml, hown, hts⟩ (c_X12_refuse_1 l dC dI h0 mr mt mw mu mp mi mk ms mv m1w m2w m3w m4w cm1 H.size) (cwV 1 hts (gi_V (fun w_ h0_ => ⟨List.mem_cons_of_mem _ (List.mem_append_right _ (List.mem_append_right _ (List.mem_append_right _ (List.mem_append_right _ (List.mem_append_right _ (List.mem_append_left _ h0_)))))), (tb_c_X12_refuse_1 w_ h0_).2⟩) (List.mem_cons_of_mem _ (List.mem_append_left _ (List.mem_of_getElem? (i := 8) rfl))) (List.mem_cons_of_mem _ (List.mem_append_left _ (List.mem_of_getElem? (i := 9) rfl))) (List.mem_cons_of_mem _ (List.mem_append_left _ (List.mem_of_getElem? (i := 10) rfl))) (List.mem_cons_of_mem _ (List.mem_append_left _ (List.mem_of_getElem? (i := 4) rfl)))) rfl rfl rfl (by decide +kernel) ⟨Nat.le_of_ble_eq_true rfl, Nat.le_of_ble_eq_true rfl⟩) ⟨fun a U g mk q => by obtain ⟨q0, q1, qP, qK, qD⟩ := q; exact ⟨q0, q1, qP, va_K.moved (u := U) (U := U.calling g mk a) (Vm.Alike.refl U.vm) qK, qD⟩, va_recv hKc hPc (ci := 12) (q0 := 0) rfl rfl, fun U hU hW => ⟨rfl, by rw [hU], by rw [hU]; exact hPc, va_K.moved hW.alike hKc, hDc.weaken (fun _ _ _ _ => trivial)⟩⟩ rfl rfl hl.1 rfl (lv_room (Nat.le_of_ble_eq_true rfl)) dX12_wish_19 ⟨Nat.le_of_ble_eq_true rfl, Nat.le_of_ble_eq_true rfl⟩) hS (fun q _ h => hFc q h) hFc (fun r_5 u t H1 locs ht hvm hw hB hz1 hk1 hS => ?_)
    obtain ⟨hP1, hK1, hD1⟩ := hB
    rw [ht] at hP1
    have hK1 := va_K.moved hvm.symm hK1
    obtain ⟨hP, hD⟩ := va_join (wr := [(mw, .inl (cm3, 906, .inr (.inl fw)))]) (w1 := []) hP hD [0, 1] [2] rfl rfl (by decide) (by decide) hk1 hFc hP1 hD1
    generalize H1 = H at hP hS ⊢
    have hP : va_P (dC, dI) vwCl [(mw, .inl (cm3, 906, .inr (.inl fw)))] H := hP
    have hD : va_D A [(mw, .inl (cm3, 906, .inr (.inl fw)))] := hD
    refine W.widen (k := 0) (n := 0) (Nat.le_of_ble_eq_true rfl) (Nat.le_of_ble_eq_true rfl) ?_
    have hw : r_5 = (-1) := hw
    subst hw
    have hP9 := hP.sub (ws' := []) [] rfl
    have hD9 := hD.sub (ws' := []) [] (by decide) rfl
    have hK9 := hK.sub (tys' := []) [] rfl
    refine W.widen (k := 0) (n := 0) (Nat.le_of_ble_eq_true rfl) (Nat.le_of_ble_eq_true rfl) ?_
    exact W.iret (v := (-1)) hx hb hr (fun t ht hW => ⟨⟨(-1), (), rfl, (by have z0 := (sp_r0 _ _ _).mp (Classical.not_not.mp c_2); unfold sp_one; (repeat' split) <;> first | rfl | omega | (refine Int32.toInt_inj.mp ?_; omega)), by rw [ht]; exact hP9, va_K.moved hW.alike hK9, hD9⟩, hS.F ht⟩) hS.2.2 dX12_wish_22
def ow_c_X12_quota : List Cond := [.fieldLink RX12 67 "DeadlineShareModel" "thrown" "I", .constantLong RX12 170 (50), .methodLink RX12 83 yX12_in, .static yX12_in, .initialized RX12, .methodLink RX12 76 yX12_refuse, .instanceMethod yX12_refuse, .selects RX12 yX12_refuse yX12_refuse, .methodLink RX12 142 yX12_isTask, .instanceMethod yX12_isTask, .selects RX12 yX12_isTask yX12_isTask, .constantLong RX12 172 (60)]
def wq_c_X12_quota : List Cond := .code yX12_quota cX12_quota 6 (some .int) :: (ow_c_X12_quota ++ (u_ws RX12 TX12 27 ++ (wq_c_X12_in ++ (wq_c_X12_refuse_1 ++ (wq_c_X12_isTask ++ (wq_c_X12_refuse_2 ++ ([] : List Cond)))))))
theorem tb_c_X12_quota : ∀ w ∈ wq_c_X12_quota, q_g w := by
  unfold wq_c_X12_quota ow_c_X12_quota
  exact q_cons tw_518 (q_app (q_cons tw_488 (q_cons tw_517 (q_cons tw_437 (q_cons tw_436 (q_cons tw_435 (q_cons tw_483 (q_cons tw_482 (q_cons tw_481 (q_cons tw_506 (q_cons tw_505 (q_cons tw_504 (q_cons tw_516 q_nil)))))))))))) (q_app tu_X12 (q_app tb_c_X12_in (q_app tb_c_X12_refuse_1 (q_app tb_c_X12_isTask (q_app tb_c_X12_refuse_2 q_nil))))))
set_option maxHeartbeats 4000000 in
set_option maxRecDepth 100000 in
theorem c_X12_quota (l : Launch) (dC : Nat → ClassId) (dI : Nat → Nat → Nat) (h0 : Nat) (tk : Int32) (nq : Int32) (pq : Int32) (mr : Nat) (mt : Nat) (mw : Nat) (mu : Nat) (mp : Nat) (mi : Nat) (mk : Nat) (ms : Nat) (mv : Nat) (m1w : Nat) (m2w : Nat) (m3w : Nat) (m4w : Nat) (cm1 : ClassId) (cm3 : ClassId) (fw : Nat → Int64) (sz : Nat) (hw0 : fw 0 = 0) (hw1 : fw 1 = 0) (hw2 : fw 2 = 0) (hw3 : fw 3 = (-1)) (hw4 : fw 4 = (-1)) (hw5 : fw 5 = 0) : Met l yX12_quota wq_c_X12_quota ({ frames := 2, cells := 0, slots := 0, locals := 46 } : Room) (va_Pc [.ref h0, .int tk, .int nq, .int pq] (fun U => U.heap.size = sz ∧ va_P (dC, dI) vwCl [(h0, .inr (12, [.int 0, .int 0, .ref mr, .ref mt, .ref mw, .ref mu, .ref mp, .ref mi, .ref mk, .ref ms, .int 0, .ref mv, .int 0, .int 0, .int 0, .int 0, .long 0, .int (-1), .int 0, .ref m1w, .ref m2w, .ref m3w, .ref m4w, .int 0, .long 0, .long 0, .long 0])), (mr, .inl (cm1, 7, .inl (fun _ => 0))), (mw, .inl (cm3, 906, .inr (.inl fw)))] U.heap ∧ va_K (dC, dI) vwCl [(cm1, .int), (cm3, .long)] U ∧ va_D (fun _ => True) [(h0, .inr (12, [.int 0, .int 0, .ref mr, .ref mt, .ref mw, .ref mu, .ref mp, .ref mi, .ref mk, .ref ms, .int 0, .ref mv, .int 0, .int 0, .int 0, .int 0, .long 0, .int (-1), .int 0, .ref m1w, .ref m2w, .ref m3w, .ref m4w, .int 0, .long 0, .long 0, .long 0])), (mr, .inl (cm1, 7, .inl (fun _ => 0))), (mw, .inl (cm3, 906, .inr (.inl fw)))])) (va_Qi (fun (r : Int32) (_ : Unit) => r = sp_quota nq pq) (fun (_ : Unit) t => va_P (dC, dI) vwCl [] t.heap ∧ va_K (dC, dI) vwCl [] t ∧ va_D (va_A [(h0, .inr (12, [.int 0, .int 0, .ref mr, .ref mt, .ref mw, .ref mu, .ref mp, .ref mi, .ref mk, .ref ms, .int 0, .ref mv, .int 0, .int 0, .int 0, .int 0, .long 0, .int (-1), .int 0, .ref m1w, .ref m2w, .ref m3w, .ref m4w, .int 0, .long 0, .long 0, .long 0])), (mr, .inl (cm1, 7, .inl (fun _ => 0))), (mw, .inl (cm3, 906, .inr (.inl fw)))] sz) []) (va_A [(h0, .inr (12, [.int 0, .int 0, .ref mr, .ref mt, .ref mw, .ref mu, .ref mp, .ref mi, .ref mk, .ref ms, .int 0, .ref mv, .int 0, .int 0, .int 0, .int 0, .long 0, .int (-1), .int 0, .ref m1w, .ref m2w, .ref m3w, .ref m4w, .int 0, .long 0, .long 0, .long 0])), (mr, .inl (cm1, 7, .inl (fun _ => 0))), (mw, .inl (cm3, 906, .inr (.inl fw)))] sz)) 0 0 (va_A [(h0, .inr (12, [.int 0, .int 0, .ref mr, .ref mt, .ref mw, .ref mu, .ref mp, .ref mi, .ref mk, .ref ms, .int 0, .ref mv, .int 0, .int 0, .int 0, .int 0, .long 0, .int (-1), .int 0, .ref m1w, .ref m2w, .ref m3w, .ref m4w, .int 0, .long 0, .long 0, .long 0])), (mr, .inl (cm1, 7, .inl (fun _ => 0))), (mw, .inl (cm3, 906, .inr (.inl fw)))] sz) := by
  refine Met.ofW (cc := cX12_quota) (maxL := 6) (ret := (some .int)) (by decide) rfl ?_
  intro p e s m args below meth c s₁ B hml hv
  obtain ⟨rfl, hsz, hP, hK, hD0⟩ := hv
  have hx := B.exec
  have hb := B.bytes
  have hr := B.returns
  have hts := atoms_spec (ws := wq_c_X12_quota) B.pre
  have hown : s.vm.findClass RX12 = some m.cls := findClass_of_methodNamed B.named
  have hlocks := B.notSynchronized
  subst hsz
  have hD := hD0.self (sz := s.heap.size)
  obtain ⟨A, hAe⟩ : ∃ A, A = va_A [(h0, .inr (12, [.int 0, .int 0, .ref mr, .ref mt, .ref mw, .ref mu, .ref mp, .ref mi, .ref mk, .ref ms, .int 0, .ref mv, .int 0, .int 0, .int 0, .int 0, .long 0, .int (-1), .int 0, .ref m1w, .ref m2w, .ref m3w, .ref m4w, .int 0, .long 0, .long 0, .long 0])), (mr, .inl (cm1, 7, .inl (fun _ => 0))), (mw, .inl (cm3, 906, .inr (.inl fw)))] s.heap.size := ⟨_, rfl⟩
  rw [← hAe] at hD ⊢
  have hA : ∀ q : Nat, s.heap.size ≤ q → A q := fun q h => by rw [hAe]; exact Or.inr h
  have hS : va_S A s.heap s.heap [] := va_S.rf
  have hP : va_P (dC, dI) vwCl [(h0, .inr (12, [.int 0, .int 0, .ref mr, .ref mt, .ref mw, .ref mu, .ref mp, .ref mi, .ref mk, .ref ms, .int 0, .ref mv, .int 0, .int 0, .int 0, .int 0, .long 0, .int (-1), .int 0, .ref m1w, .ref m2w, .ref m3w, .ref m4w, .int 0, .long 0, .long 0, .long 0])), (mr, .inl (cm1, 7, .inl (fun _ => 0))), (mw, .inl (cm3, 906, .inr (.inl fw)))] s.heap := hP
  have hl := lv_entry ([.ref h0, .int tk, .int nq, .int pq]) (n := 6) (Nat.le_of_ble_eq_true rfl)
  rw [lg_entry_eq]
  generalize (lg_sl ([.ref h0, .int tk, .int nq, .int pq]) ++ List.replicate (6 - (lg_sl ([.ref h0, .int tk, .int nq, .int pq])).length) Slot.unset).toArray = ls at hl ⊢
  have hl : lv_has ls 6 [(0, .ref h0), (1, .int tk), (2, .int nq), (3, .int pq)] := hl
  refine lv_aload_n hx hb dX12_quota_0 rfl (lv_at hl 0 rfl) ?_
  refine lv_iconst (v := 0) hx hb dX12_quota_1 (by decide) ?_
  refine va_put (D := (dC, dI)) (ci := 12) (v := .int 0) (ty := .int) (C := RX12) (T := TX12) (N := 27) hx hb hts (fun _ h0_ => List.mem_cons_of_mem _ (List.mem_append_right _ (List.mem_append_left _ h0_))) tyX12 tyX12_ok nmX12 hown hK hP hD hS 0 rfl rfl 0 (by decide) (hts (.fieldLink RX12 67 "DeadlineShareModel" "thrown" "I") (List.mem_cons_of_mem _ (List.mem_append_left _ (List.mem_of_getElem? (i := 0) rfl)))) (fun _ h9 => h9) rfl (by decide +kernel) rfl rfl (Nat.le_of_ble_eq_true rfl) dX12_quota_2 (fun H locs hP hD hS => ?_)
  have hP : va_P (dC, dI) vwCl [(h0, .inr (12, [.int 0, .int 0, .ref mr, .ref mt, .ref mw, .ref mu, .ref mp, .ref mi, .ref mk, .ref ms, .int 0, .ref mv, .int 0, .int 0, .int 0, .int 0, .long 0, .int (-1), .int 0, .ref m1w, .ref m2w, .ref m3w, .ref m4w, .int 0, .long 0, .long 0, .long 0])), (mr, .inl (cm1, 7, .inl (fun _ => 0))), (mw, .inl (cm3, 906, .inr (.inl fw)))] H := hP
  have hD : va_D A [(h0, .inr (12, [.int 0, .int 0, .ref mr, .ref mt, .ref mw, .ref mu, .ref mp, .ref mi, .ref mk, .ref ms, .int 0, .ref mv, .int 0, .int 0, .int 0, .int 0, .long 0, .int (-1), .int 0, .ref m1w, .ref m2w, .ref m3w, .ref m4w, .int 0, .long 0, .long 0, .long 0])), (mr, .inl (cm1, 7, .inl (fun _ => 0))), (mw, .inl (cm3, 906, .inr (.inl fw)))] := hD
  refine lv_iload_n hx hb dX12_quota_5 rfl (lv_at hl 2 rfl) ?_
  refine lv_i2l (v := nq.toInt64) hx hb dX12_quota_6 rfl ?_
  refine lv_lconst (v := 0) hx hb dX12_quota_7 (by decide) ?_
  refine lv_ldc2 hx hb hown (hts (.constantLong RX12 170 (50)) (List.mem_cons_of_mem _ (List.mem_append_left _ (List.mem_of_getElem? (i := 1) rfl)))) dX12_quota_8 ?_
  have hPc := hP.sub (ws' := []) [] rfl
  have hDc := hD.sub (ws' := []) [] (by decide) rfl
  have hKc := hK.sub (tys' := []) [] rfl
  have hFc := va_free (wc := []) hD hS hA [] rfl
  refine va_calli (va_runS (As := [.long nq.toInt64, .long 0, .long 50]) (rest := []) ⟨hx, hb, hml, hown, hts⟩ (c_X12_in l dC dI nq.toInt64 0 50 H.size) (va_cwS 3 hts (gi_S (fun w_ h0_ => ⟨List.mem_cons_of_mem _ (List.mem_append_right _ (List.mem_append_right _ (List.mem_append_left _ h0_))), (tb_c_X12_in w_ h0_).2⟩) (List.mem_cons_of_mem _ (List.mem_append_left _ (List.mem_of_getElem? (i := 2) rfl))) (List.mem_cons_of_mem _ (List.mem_append_left _ (List.mem_of_getElem? (i := 3) rfl))) (List.mem_cons_of_mem _ (List.mem_append_left _ (List.mem_of_getElem? (i := 4) rfl)))) rfl rfl rfl (by decide +kernel) ⟨Nat.le_of_ble_eq_true rfl, Nat.le_of_ble_eq_true rfl⟩) ⟨fun a U g mk q => by obtain ⟨q0, q1, qP, qK, qD⟩ := q; exact ⟨q0, q1, qP, va_K.moved (u := U) (U := U.calling g mk a) (Vm.Alike.refl U.vm) qK, qD⟩, fun U hU hW => ⟨rfl, by rw [hU], by rw [hU]; exact hPc, va_K.moved hW.alike hKc, hDc.weaken (fun _ _ _ _ => trivial)⟩⟩ rfl rfl hl.1 rfl (lv_room (Nat.le_of_ble_eq_true rfl)) dX12_quota_11 ⟨Nat.le_of_ble_eq_true rfl, Nat.le_of_ble_eq_true rfl⟩) hS (fun q _ h => hFc q h) hFc (fun r_1 u t H1 locs ht hvm hw hB hz1 hk1 hS => ?_)
  obtain ⟨hP1, hK1, hD1⟩ := hB
  rw [ht] at hP1
  have hK1 := va_K.moved hvm.symm hK1
  obtain ⟨hP, hD⟩ := va_join (wr := [(h0, .inr (12, [.int 0, .int 0, .ref mr, .ref mt, .ref mw, .ref mu, .ref mp, .ref mi, .ref mk, .ref ms, .int 0, .ref mv, .int 0, .int 0, .int 0, .int 0, .long 0, .int (-1), .int 0, .ref m1w, .ref m2w, .ref m3w, .ref m4w, .int 0, .long 0, .long 0, .long 0])), (mr, .inl (cm1, 7, .inl (fun _ => 0))), (mw, .inl (cm3, 906, .inr (.inl fw)))]) (w1 := []) hP hD [] [0, 1, 2] rfl rfl (by decide) (by decide) hk1 hFc hP1 hD1
  generalize H1 = H at hP hS ⊢
  have hP : va_P (dC, dI) vwCl [(h0, .inr (12, [.int 0, .int 0, .ref mr, .ref mt, .ref mw, .ref mu, .ref mp, .ref mi, .ref mk, .ref ms, .int 0, .ref mv, .int 0, .int 0, .int 0, .int 0, .long 0, .int (-1), .int 0, .ref m1w, .ref m2w, .ref m3w, .ref m4w, .int 0, .long 0, .long 0, .long 0])), (mr, .inl (cm1, 7, .inl (fun _ => 0))), (mw, .inl (cm3, 906, .inr (.inl fw)))] H := hP
  have hD : va_D A [(h0, .inr (12, [.int 0, .int 0, .ref mr, .ref mt, .ref mw, .ref mu, .ref mp, .ref mi, .ref mk, .ref ms, .int 0, .ref mv, .int 0, .int 0, .int 0, .int 0, .long 0, .int (-1), .int 0, .ref m1w, .ref m2w, .ref m3w, .ref m4w, .int 0, .long 0, .long 0, .long 0])), (mr, .inl (cm1, 7, .inl (fun _ => 0))), (mw, .inl (cm3, 906, .inr (.inl fw)))] := hD
  refine W.widen (k := 0) (n := 0) (Nat.le_of_ble_eq_true rfl) (Nat.le_of_ble_eq_true rfl) ?_
  have hw : r_1 = sp_in nq.toInt64 0 50 := hw
  subst hw
  refine k_topi (y := sp_r nq 0 50) (sp_in_r _ _ _ (by decide) (by decide)) ?_
  refine lv_if_eq (tgt := 36) hx hb dX12_quota_14 (by decide) (fun c_2 => ?_) (fun c_2 => ?_)
  · refine lv_aload_n hx hb dX12_quota_36 rfl (lv_at hl 0 rfl) ?_
    refine lv_iconst (v := (-1)) hx hb dX12_quota_37 (by decide) ?_
    have hPc := hP.sub (ws' := [(h0, .inr (12, [.int 0, .int 0, .ref mr, .ref mt, .ref mw, .ref mu, .ref mp, .ref mi, .ref mk, .ref ms, .int 0, .ref mv, .int 0, .int 0, .int 0, .int 0, .long 0, .int (-1), .int 0, .ref m1w, .ref m2w, .ref m3w, .ref m4w, .int 0, .long 0, .long 0, .long 0])), (mr, .inl (cm1, 7, .inl (fun _ => 0)))]) [0, 1] rfl
    have hDc := hD.sub (ws' := [(h0, .inr (12, [.int 0, .int 0, .ref mr, .ref mt, .ref mw, .ref mu, .ref mp, .ref mi, .ref mk, .ref ms, .int 0, .ref mv, .int 0, .int 0, .int 0, .int 0, .long 0, .int (-1), .int 0, .ref m1w, .ref m2w, .ref m3w, .ref m4w, .int 0, .long 0, .long 0, .long 0])), (mr, .inl (cm1, 7, .inl (fun _ => 0)))]) [0, 1] (by decide) rfl
    have hKc := hK.sub (tys' := [(cm1, .int)]) [0] rfl
    have hFc := va_free (wc := [(h0, .inr (12, [.int 0, .int 0, .ref mr, .ref mt, .ref mw, .ref mu, .ref mp, .ref mi, .ref mk, .ref ms, .int 0, .ref mv, .int 0, .int 0, .int 0, .int 0, .long 0, .int (-1), .int 0, .ref m1w, .ref m2w, .ref m3w, .ref m4w, .int 0, .long 0, .long 0, .long 0])), (mr, .inl (cm1, 7, .inl (fun _ => 0)))]) hD hS hA [0, 1] rfl
    refine va_calli (va_runV (As := [.int (-1)]) (rest := []) ⟨hx, hb, hml, hown, hts⟩ (c_X12_refuse_1 l dC dI h0 mr mt mw mu mp mi mk ms mv m1w m2w m3w m4w cm1 H.size) (cwV 1 hts (gi_V (fun w_ h0_ => ⟨List.mem_cons_of_mem _ (List.mem_append_right _ (List.mem_append_right _ (List.mem_append_right _ (List.mem_append_left _ h0_)))), (tb_c_X12_refuse_1 w_ h0_).2⟩) (List.mem_cons_of_mem _ (List.mem_append_left _ (List.mem_of_getElem? (i := 5) rfl))) (List.mem_cons_of_mem _ (List.mem_append_left _ (List.mem_of_getElem? (i := 6) rfl))) (List.mem_cons_of_mem _ (List.mem_append_left _ (List.mem_of_getElem? (i := 7) rfl))) (List.mem_cons_of_mem _ (List.mem_append_left _ (List.mem_of_getElem? (i := 4) rfl)))) rfl rfl rfl (by decide +kernel) ⟨Nat.le_of_ble_eq_true rfl, Nat.le_of_ble_eq_true rfl⟩) ⟨fun a U g mk q => by obtain ⟨q0, q1, qP, qK, qD⟩ := q; exact ⟨q0, q1, qP, va_K.moved (u := U) (U := U.calling g mk a) (Vm.Alike.refl U.vm) qK, qD⟩, va_recv hKc hPc (ci := 12) (q0 := 0) rfl rfl, fun U hU hW => ⟨rfl, by rw [hU], by rw [hU]; exact hPc, va_K.moved hW.alike hKc, hDc.weaken (fun _ _ _ _ => trivial)⟩⟩ rfl rfl hl.1 rfl (lv_room (Nat.le_of_ble_eq_true rfl)) dX12_quota_38 ⟨Nat.le_of_ble_eq_true rfl, Nat.le_of_ble_eq_true rfl⟩) hS (fun q _ h => hFc q h) hFc (fun r_3 u t H1 locs ht hvm hw hB hz1 hk1 hS => ?_)
    obtain ⟨hP1, hK1, hD1⟩ := hB
    rw [ht] at hP1
    have hK1 := va_K.moved hvm.symm hK1
    obtain ⟨hP, hD⟩ := va_join (wr := [(mw, .inl (cm3, 906, .inr (.inl fw)))]) (w1 := []) hP hD [0, 1] [2] rfl rfl (by decide) (by decide) hk1 hFc hP1 hD1
    generalize H1 = H at hP hS ⊢
    have hP : va_P (dC, dI) vwCl [(mw, .inl (cm3, 906, .inr (.inl fw)))] H := hP
    have hD : va_D A [(mw, .inl (cm3, 906, .inr (.inl fw)))] := hD
    refine W.widen (k := 0) (n := 0) (Nat.le_of_ble_eq_true rfl) (Nat.le_of_ble_eq_true rfl) ?_
    have hw : r_3 = (-1) := hw
    subst hw
    have hP9 := hP.sub (ws' := []) [] rfl
    have hD9 := hD.sub (ws' := []) [] (by decide) rfl
    have hK9 := hK.sub (tys' := []) [] rfl
    refine W.widen (k := 0) (n := 0) (Nat.le_of_ble_eq_true rfl) (Nat.le_of_ble_eq_true rfl) ?_
    exact W.iret (v := (-1)) hx hb hr (fun t ht hW => ⟨⟨(-1), (), rfl, (by have z0 := (sp_r0 _ _ _).mp c_2; unfold sp_quota; (repeat' split) <;> first | rfl | omega | (refine Int32.toInt_inj.mp ?_; omega)), by rw [ht]; exact hP9, va_K.moved hW.alike hK9, hD9⟩, hS.F ht⟩) hS.2.2 dX12_quota_41
  · refine lv_iload_n hx hb dX12_quota_17 rfl (lv_at hl 2 rfl) ?_
    refine lv_if_le (tgt := 42) hx hb dX12_quota_18 (by decide) (fun c_4 => ?_) (fun c_4 => ?_)
    · refine lv_aload_n hx hb dX12_quota_42 rfl (lv_at hl 0 rfl) ?_
      refine lv_iload_n hx hb dX12_quota_43 rfl (lv_at hl 1 rfl) ?_
      have hPc := hP.sub (ws' := [(h0, .inr (12, [.int 0, .int 0, .ref mr, .ref mt, .ref mw, .ref mu, .ref mp, .ref mi, .ref mk, .ref ms, .int 0, .ref mv, .int 0, .int 0, .int 0, .int 0, .long 0, .int (-1), .int 0, .ref m1w, .ref m2w, .ref m3w, .ref m4w, .int 0, .long 0, .long 0, .long 0])), (mw, .inl (cm3, 906, .inr (.inl fw)))]) [0, 2] rfl
      have hDc := hD.sub (ws' := [(h0, .inr (12, [.int 0, .int 0, .ref mr, .ref mt, .ref mw, .ref mu, .ref mp, .ref mi, .ref mk, .ref ms, .int 0, .ref mv, .int 0, .int 0, .int 0, .int 0, .long 0, .int (-1), .int 0, .ref m1w, .ref m2w, .ref m3w, .ref m4w, .int 0, .long 0, .long 0, .long 0])), (mw, .inl (cm3, 906, .inr (.inl fw)))]) [0, 2] (by decide) rfl
      have hKc := hK.sub (tys' := [(cm3, .long)]) [1] rfl
      have hFc := va_free (wc := [(h0, .inr (12, [.int 0, .int 0, .ref mr, .ref mt, .ref mw, .ref mu, .ref mp, .ref mi, .ref mk, .ref ms, .int 0, .ref mv, .int 0, .int 0, .int 0, .int 0, .long 0, .int (-1), .int 0, .ref m1w, .ref m2w, .ref m3w, .ref m4w, .int 0, .long 0, .long 0, .long 0])), (mw, .inl (cm3, 906, .inr (.inl fw)))]) hD hS hA [0, 2] rfl
      refine va_calli (va_runV (As := [.int tk]) (rest := []) ⟨hx, hb, hml, hown, hts⟩ (c_X12_isTask l dC dI h0 tk mr mt mw mu mp mi mk ms mv m1w m2w m3w m4w cm3 fw H.size hw0) (cwV 1 hts (gi_V (fun w_ h0_ => ⟨List.mem_cons_of_mem _ (List.mem_append_right _ (List.mem_append_right _ (List.mem_append_right _ (List.mem_append_right _ (List.mem_append_left _ h0_))))), (tb_c_X12_isTask w_ h0_).2⟩) (List.mem_cons_of_mem _ (List.mem_append_left _ (List.mem_of_getElem? (i := 8) rfl))) (List.mem_cons_of_mem _ (List.mem_append_left _ (List.mem_of_getElem? (i := 9) rfl))) (List.mem_cons_of_mem _ (List.mem_append_left _ (List.mem_of_getElem? (i := 10) rfl))) (List.mem_cons_of_mem _ (List.mem_append_left _ (List.mem_of_getElem? (i := 4) rfl)))) rfl rfl rfl (by decide +kernel) ⟨Nat.le_of_ble_eq_true rfl, Nat.le_of_ble_eq_true rfl⟩) ⟨fun a U g mk q => by obtain ⟨q0, q1, qP, qK, qD⟩ := q; exact ⟨q0, q1, qP, va_K.moved (u := U) (U := U.calling g mk a) (Vm.Alike.refl U.vm) qK, qD⟩, va_recv hKc hPc (ci := 12) (q0 := 0) rfl rfl, fun U hU hW => ⟨rfl, by rw [hU], by rw [hU]; exact hPc, va_K.moved hW.alike hKc, hDc.weaken (fun _ _ _ _ => trivial)⟩⟩ rfl rfl hl.1 rfl (lv_room (Nat.le_of_ble_eq_true rfl)) dX12_quota_44 ⟨Nat.le_of_ble_eq_true rfl, Nat.le_of_ble_eq_true rfl⟩) hS (fun q _ h => hFc q h) hFc (fun r_5 u t H1 locs ht hvm hw hB hz1 hk1 hS => ?_)
      obtain ⟨hP1, hK1, hD1⟩ := hB
      rw [ht] at hP1
      have hK1 := va_K.moved hvm.symm hK1
      obtain ⟨hP, hD⟩ := va_join (wr := [(mr, .inl (cm1, 7, .inl (fun _ => 0)))]) (w1 := [(h0, .inr (12, [.int 0, .int 0, .ref mr, .ref mt, .ref mw, .ref mu, .ref mp, .ref mi, .ref mk, .ref ms, .int 0, .ref mv, .int 0, .int 0, .int 0, .int 0, .long 0, .int (-1), .int 0, .ref m1w, .ref m2w, .ref m3w, .ref m4w, .int 0, .long 0, .long 0, .long 0])), (mw, .inl (cm3, 906, .inr (.inl fw)))]) hP hD [0, 2] [1] rfl rfl (by decide) (by decide) hk1 hFc hP1 hD1
      generalize H1 = H at hP hS ⊢
      have hP : va_P (dC, dI) vwCl [(mr, .inl (cm1, 7, .inl (fun _ => 0))), (h0, .inr (12, [.int 0, .int 0, .ref mr, .ref mt, .ref mw, .ref mu, .ref mp, .ref mi, .ref mk, .ref ms, .int 0, .ref mv, .int 0, .int 0, .int 0, .int 0, .long 0, .int (-1), .int 0, .ref m1w, .ref m2w, .ref m3w, .ref m4w, .int 0, .long 0, .long 0, .long 0])), (mw, .inl (cm3, 906, .inr (.inl fw)))] H := hP
      have hD : va_D A [(mr, .inl (cm1, 7, .inl (fun _ => 0))), (h0, .inr (12, [.int 0, .int 0, .ref mr, .ref mt, .ref mw, .ref mu, .ref mp, .ref mi, .ref mk, .ref ms, .int 0, .ref mv, .int 0, .int 0, .int 0, .int 0, .long 0, .int (-1), .int 0, .ref m1w, .ref m2w, .ref m3w, .ref m4w, .int 0, .long 0, .long 0, .long 0])), (mw, .inl (cm3, 906, .inr (.inl fw)))] := hD
      refine W.widen (k := 0) (n := 0) (Nat.le_of_ble_eq_true rfl) (Nat.le_of_ble_eq_true rfl) ?_
      have hw : r_5 = 0 := hw
      subst hw
      refine lv_if_ne (tgt := 57) hx hb dX12_quota_47 (by decide) (fun c => absurd c (by decide)) (fun _ => ?_)
      refine lv_aload_n hx hb dX12_quota_50 rfl (lv_at hl 0 rfl) ?_
      refine lv_bipush (v := (-2)) hx hb dX12_quota_51 (by decide) ?_
      have hPc := hP.sub (ws' := [(h0, .inr (12, [.int 0, .int 0, .ref mr, .ref mt, .ref mw, .ref mu, .ref mp, .ref mi, .ref mk, .ref ms, .int 0, .ref mv, .int 0, .int 0, .int 0, .int 0, .long 0, .int (-1), .int 0, .ref m1w, .ref m2w, .ref m3w, .ref m4w, .int 0, .long 0, .long 0, .long 0])), (mr, .inl (cm1, 7, .inl (fun _ => 0)))]) [1, 0] rfl
      have hDc := hD.sub (ws' := [(h0, .inr (12, [.int 0, .int 0, .ref mr, .ref mt, .ref mw, .ref mu, .ref mp, .ref mi, .ref mk, .ref ms, .int 0, .ref mv, .int 0, .int 0, .int 0, .int 0, .long 0, .int (-1), .int 0, .ref m1w, .ref m2w, .ref m3w, .ref m4w, .int 0, .long 0, .long 0, .long 0])), (mr, .inl (cm1, 7, .inl (fun _ => 0)))]) [1, 0] (by decide) rfl
      have hKc := hK.sub (tys' := [(cm1, .int)]) [0] rfl
      have hFc := va_free (wc := [(h0, .inr (12, [.int 0, .int 0, .ref mr, .ref mt, .ref mw, .ref mu, .ref mp, .ref mi, .ref mk, .ref ms, .int 0, .ref mv, .int 0, .int 0, .int 0, .int 0, .long 0, .int (-1), .int 0, .ref m1w, .ref m2w, .ref m3w, .ref m4w, .int 0, .long 0, .long 0, .long 0])), (mr, .inl (cm1, 7, .inl (fun _ => 0)))]) hD hS hA [1, 0] rfl
      refine va_calli (va_runV (As := [.int (-2)]) (rest := []) ⟨hx, hb, hml, hown, hts⟩ (c_X12_refuse_2 l dC dI h0 mr mt mw mu mp mi mk ms mv m1w m2w m3w m4w cm1 H.size) (cwV 1 hts (gi_V (fun w_ h0_ => ⟨List.mem_cons_of_mem _ (List.mem_append_right _ (List.mem_append_right _ (List.mem_append_right _ (List.mem_append_right _ (List.mem_append_right _ (List.mem_append_left _ h0_)))))), (tb_c_X12_refuse_2 w_ h0_).2⟩) (List.mem_cons_of_mem _ (List.mem_append_left _ (List.mem_of_getElem? (i := 5) rfl))) (List.mem_cons_of_mem _ (List.mem_append_left _ (List.mem_of_getElem? (i := 6) rfl))) (List.mem_cons_of_mem _ (List.mem_append_left _ (List.mem_of_getElem? (i := 7) rfl))) (List.mem_cons_of_mem _ (List.mem_append_left _ (List.mem_of_getElem? (i := 4) rfl)))) rfl rfl rfl (by decide +kernel) ⟨Nat.le_of_ble_eq_true rfl, Nat.le_of_ble_eq_true rfl⟩) ⟨fun a U g mk q => by obtain ⟨q0, q1, qP, qK, qD⟩ := q; exact ⟨q0, q1, qP, va_K.moved (u := U) (U := U.calling g mk a) (Vm.Alike.refl U.vm) qK, qD⟩, va_recv hKc hPc (ci := 12) (q0 := 0) rfl rfl, fun U hU hW => ⟨rfl, by rw [hU], by rw [hU]; exact hPc, va_K.moved hW.alike hKc, hDc.weaken (fun _ _ _ _ => trivial)⟩⟩ rfl rfl hl.1 rfl (lv_room (Nat.le_of_ble_eq_true rfl)) dX12_quota_53 ⟨Nat.le_of_ble_eq_true rfl, Nat.le_of_ble_eq_true rfl⟩) hS (fun q _ h => hFc q h) hFc (fun r_6 u t H1 locs ht hvm hw hB hz1 hk1 hS => ?_)
      obtain ⟨hP1, hK1, hD1⟩ := hB
      rw [ht] at hP1
      have hK1 := va_K.moved hvm.symm hK1
      obtain ⟨hP, hD⟩ := va_join (wr := [(mw, .inl (cm3, 906, .inr (.inl fw)))]) (w1 := []) hP hD [1, 0] [2] rfl rfl (by decide) (by decide) hk1 hFc hP1 hD1
      generalize H1 = H at hP hS ⊢
      have hP : va_P (dC, dI) vwCl [(mw, .inl (cm3, 906, .inr (.inl fw)))] H := hP
      have hD : va_D A [(mw, .inl (cm3, 906, .inr (.inl fw)))] := hD
      refine W.widen (k := 0) (n := 0) (Nat.le_of_ble_eq_true rfl) (Nat.le_of_ble_eq_true rfl) ?_
      have hw : r_6 = (-2) := hw
      subst hw
      have hP9 := hP.sub (ws' := []) [] rfl
      have hD9 := hD.sub (ws' := []) [] (by decide) rfl
      have hK9 := hK.sub (tys' := []) [] rfl
      refine W.widen (k := 0) (n := 0) (Nat.le_of_ble_eq_true rfl) (Nat.le_of_ble_eq_true rfl) ?_
      exact W.iret (v := (-2)) hx hb hr (fun t ht hW => ⟨⟨(-2), (), rfl, (by have z0 := (sp_r1 _ _ _).mp c_2; have z1 := (fa_le _ _).mp c_4; have li0 : Int32.toInt 0 = 0 := (by decide); unfold sp_quota; (repeat' split) <;> first | rfl | omega | (refine Int32.toInt_inj.mp ?_; omega)), by rw [ht]; exact hP9, va_K.moved hW.alike hK9, hD9⟩, hS.F ht⟩) hS.2.2 dX12_quota_56
    · refine lv_iload_n hx hb dX12_quota_21 rfl (lv_at hl 3 rfl) ?_
      refine lv_i2l (v := pq.toInt64) hx hb dX12_quota_22 rfl ?_
      refine lv_iload_n hx hb dX12_quota_23 rfl (lv_at hl 2 rfl) ?_
      refine lv_i2l (v := nq.toInt64) hx hb dX12_quota_24 rfl ?_
      refine lv_lconst (v := 1) hx hb dX12_quota_25 (by decide) ?_
      refine lv_ladd hx hb dX12_quota_26 ?_
      refine lv_topl (fun v_7 ev_7 => ?_)
      refine lv_ldc2 hx hb hown (hts (.constantLong RX12 172 (60)) (List.mem_cons_of_mem _ (List.mem_append_left _ (List.mem_of_getElem? (i := 11) rfl)))) dX12_quota_27 ?_
      have hPc := hP.sub (ws' := []) [] rfl
      have hDc := hD.sub (ws' := []) [] (by decide) rfl
      have hKc := hK.sub (tys' := []) [] rfl
      have hFc := va_free (wc := []) hD hS hA [] rfl
      refine va_calli (va_runS (As := [.long pq.toInt64, .long v_7, .long 60]) (rest := []) ⟨hx, hb, hml, hown, hts⟩ (c_X12_in l dC dI pq.toInt64 v_7 60 H.size) (va_cwS 3 hts (gi_S (fun w_ h0_ => ⟨List.mem_cons_of_mem _ (List.mem_append_right _ (List.mem_append_right _ (List.mem_append_left _ h0_))), (tb_c_X12_in w_ h0_).2⟩) (List.mem_cons_of_mem _ (List.mem_append_left _ (List.mem_of_getElem? (i := 2) rfl))) (List.mem_cons_of_mem _ (List.mem_append_left _ (List.mem_of_getElem? (i := 3) rfl))) (List.mem_cons_of_mem _ (List.mem_append_left _ (List.mem_of_getElem? (i := 4) rfl)))) rfl rfl rfl (by decide +kernel) ⟨Nat.le_of_ble_eq_true rfl, Nat.le_of_ble_eq_true rfl⟩) ⟨fun a U g mk q => by obtain ⟨q0, q1, qP, qK, qD⟩ := q; exact ⟨q0, q1, qP, va_K.moved (u := U) (U := U.calling g mk a) (Vm.Alike.refl U.vm) qK, qD⟩, fun U hU hW => ⟨rfl, by rw [hU], by rw [hU]; exact hPc, va_K.moved hW.alike hKc, hDc.weaken (fun _ _ _ _ => trivial)⟩⟩ rfl rfl hl.1 rfl (lv_room (Nat.le_of_ble_eq_true rfl)) dX12_quota_30 ⟨Nat.le_of_ble_eq_true rfl, Nat.le_of_ble_eq_true rfl⟩) hS (fun q _ h => hFc q h) hFc (fun r_8 u t H1 locs ht hvm hw hB hz1 hk1 hS => ?_)
      obtain ⟨hP1, hK1, hD1⟩ := hB
      rw [ht] at hP1
      have hK1 := va_K.moved hvm.symm hK1
      obtain ⟨hP, hD⟩ := va_join (wr := [(h0, .inr (12, [.int 0, .int 0, .ref mr, .ref mt, .ref mw, .ref mu, .ref mp, .ref mi, .ref mk, .ref ms, .int 0, .ref mv, .int 0, .int 0, .int 0, .int 0, .long 0, .int (-1), .int 0, .ref m1w, .ref m2w, .ref m3w, .ref m4w, .int 0, .long 0, .long 0, .long 0])), (mr, .inl (cm1, 7, .inl (fun _ => 0))), (mw, .inl (cm3, 906, .inr (.inl fw)))]) (w1 := []) hP hD [] [0, 1, 2] rfl rfl (by decide) (by decide) hk1 hFc hP1 hD1
      generalize H1 = H at hP hS ⊢
      have hP : va_P (dC, dI) vwCl [(h0, .inr (12, [.int 0, .int 0, .ref mr, .ref mt, .ref mw, .ref mu, .ref mp, .ref mi, .ref mk, .ref ms, .int 0, .ref mv, .int 0, .int 0, .int 0, .int 0, .long 0, .int (-1), .int 0, .ref m1w, .ref m2w, .ref m3w, .ref m4w, .int 0, .long 0, .long 0, .long 0])), (mr, .inl (cm1, 7, .inl (fun _ => 0))), (mw, .inl (cm3, 906, .inr (.inl fw)))] H := hP
      have hD : va_D A [(h0, .inr (12, [.int 0, .int 0, .ref mr, .ref mt, .ref mw, .ref mu, .ref mp, .ref mi, .ref mk, .ref ms, .int 0, .ref mv, .int 0, .int 0, .int 0, .int 0, .long 0, .int (-1), .int 0, .ref m1w, .ref m2w, .ref m3w, .ref m4w, .int 0, .long 0, .long 0, .long 0])), (mr, .inl (cm1, 7, .inl (fun _ => 0))), (mw, .inl (cm3, 906, .inr (.inl fw)))] := hD
      refine W.widen (k := 0) (n := 0) (Nat.le_of_ble_eq_true rfl) (Nat.le_of_ble_eq_true rfl) ?_
      have hw : r_8 = sp_in pq.toInt64 v_7 60 := hw
      subst hw
      refine lv_if_ne (tgt := 42) hx hb dX12_quota_33 (by decide) (fun c_9 => ?_) (fun c_9 => ?_)
      · refine lv_aload_n hx hb dX12_quota_42 rfl (lv_at hl 0 rfl) ?_
        refine lv_iload_n hx hb dX12_quota_43 rfl (lv_at hl 1 rfl) ?_
        have hPc := hP.sub (ws' := [(h0, .inr (12, [.int 0, .int 0, .ref mr, .ref mt, .ref mw, .ref mu, .ref mp, .ref mi, .ref mk, .ref ms, .int 0, .ref mv, .int 0, .int 0, .int 0, .int 0, .long 0, .int (-1), .int 0, .ref m1w, .ref m2w, .ref m3w, .ref m4w, .int 0, .long 0, .long 0, .long 0])), (mw, .inl (cm3, 906, .inr (.inl fw)))]) [0, 2] rfl
        have hDc := hD.sub (ws' := [(h0, .inr (12, [.int 0, .int 0, .ref mr, .ref mt, .ref mw, .ref mu, .ref mp, .ref mi, .ref mk, .ref ms, .int 0, .ref mv, .int 0, .int 0, .int 0, .int 0, .long 0, .int (-1), .int 0, .ref m1w, .ref m2w, .ref m3w, .ref m4w, .int 0, .long 0, .long 0, .long 0])), (mw, .inl (cm3, 906, .inr (.inl fw)))]) [0, 2] (by decide) rfl
        have hKc := hK.sub (tys' := [(cm3, .long)]) [1] rfl
        have hFc := va_free (wc := [(h0, .inr (12, [.int 0, .int 0, .ref mr, .ref mt, .ref mw, .ref mu, .ref mp, .ref mi, .ref mk, .ref ms, .int 0, .ref mv, .int 0, .int 0, .int 0, .int 0, .long 0, .int (-1), .int 0, .ref m1w, .ref m2w, .ref m3w, .ref m4w, .int 0, .long 0, .long 0, .long 0])), (mw, .inl (cm3, 906, .inr (.inl fw)))]) hD hS hA [0, 2] rfl
        refine va_calli (va_runV (As := [.int tk]) (rest := []) ⟨hx, hb, hml, hown, hts⟩ (c_X12_isTask l dC dI h0 tk mr mt mw mu mp mi mk ms mv m1w m2w m3w m4w cm3 fw H.size hw0) (cwV 1 hts (gi_V (fun w_ h0_ => ⟨List.mem_cons_of_mem _ (List.mem_append_right _ (List.mem_append_right _ (List.mem_append_right _ (List.mem_append_right _ (List.mem_append_left _ h0_))))), (tb_c_X12_isTask w_ h0_).2⟩) (List.mem_cons_of_mem _ (List.mem_append_left _ (List.mem_of_getElem? (i := 8) rfl))) (List.mem_cons_of_mem _ (List.mem_append_left _ (List.mem_of_getElem? (i := 9) rfl))) (List.mem_cons_of_mem _ (List.mem_append_left _ (List.mem_of_getElem? (i := 10) rfl))) (List.mem_cons_of_mem _ (List.mem_append_left _ (List.mem_of_getElem? (i := 4) rfl)))) rfl rfl rfl (by decide +kernel) ⟨Nat.le_of_ble_eq_true rfl, Nat.le_of_ble_eq_true rfl⟩) ⟨fun a U g mk q => by obtain ⟨q0, q1, qP, qK, qD⟩ := q; exact ⟨q0, q1, qP, va_K.moved (u := U) (U := U.calling g mk a) (Vm.Alike.refl U.vm) qK, qD⟩, va_recv hKc hPc (ci := 12) (q0 := 0) rfl rfl, fun U hU hW => ⟨rfl, by rw [hU], by rw [hU]; exact hPc, va_K.moved hW.alike hKc, hDc.weaken (fun _ _ _ _ => trivial)⟩⟩ rfl rfl hl.1 rfl (lv_room (Nat.le_of_ble_eq_true rfl)) dX12_quota_44 ⟨Nat.le_of_ble_eq_true rfl, Nat.le_of_ble_eq_true rfl⟩) hS (fun q _ h => hFc q h) hFc (fun r_10 u t H1 locs ht hvm hw hB hz1 hk1 hS => ?_)
        obtain ⟨hP1, hK1, hD1⟩ := hB
        rw [ht] at hP1
        have hK1 := va_K.moved hvm.symm hK1
        obtain ⟨hP, hD⟩ := va_join (wr := [(mr, .inl (cm1, 7, .inl (fun _ => 0)))]) (w1 := [(h0, .inr (12, [.int 0, .int 0, .ref mr, .ref mt, .ref mw, .ref mu, .ref mp, .ref mi, .ref mk, .ref ms, .int 0, .ref mv, .int 0, .int 0, .int 0, .int 0, .long 0, .int (-1), .int 0, .ref m1w, .ref m2w, .ref m3w, .ref m4w, .int 0, .long 0, .long 0, .long 0])), (mw, .inl (cm3, 906, .inr (.inl fw)))]) hP hD [0, 2] [1] rfl rfl (by decide) (by decide) hk1 hFc hP1 hD1
        generalize H1 = H at hP hS ⊢
        have hP : va_P (dC, dI) vwCl [(mr, .inl (cm1, 7, .inl (fun _ => 0))), (h0, .inr (12, [.int 0, .int 0, .ref mr, .ref mt, .ref mw, .ref mu, .ref mp, .ref mi, .ref mk, .ref ms, .int 0, .ref mv, .int 0, .int 0, .int 0, .int 0, .long 0, .int (-1), .int 0, .ref m1w, .ref m2w, .ref m3w, .ref m4w, .int 0, .long 0, .long 0, .long 0])), (mw, .inl (cm3, 906, .inr (.inl fw)))] H := hP
        have hD : va_D A [(mr, .inl (cm1, 7, .inl (fun _ => 0))), (h0, .inr (12, [.int 0, .int 0, .ref mr, .ref mt, .ref mw, .ref mu, .ref mp, .ref mi, .ref mk, .ref ms, .int 0, .ref mv, .int 0, .int 0, .int 0, .int 0, .long 0, .int (-1), .int 0, .ref m1w, .ref m2w, .ref m3w, .ref m4w, .int 0, .long 0, .long 0, .long 0])), (mw, .inl (cm3, 906, .inr (.inl fw)))] := hD
        refine W.widen (k := 0) (n := 0) (Nat.le_of_ble_eq_true rfl) (Nat.le_of_ble_eq_true rfl) ?_
        have hw : r_10 = 0 := hw
        subst hw
        refine lv_if_ne (tgt := 57) hx hb dX12_quota_47 (by decide) (fun c => absurd c (by decide)) (fun _ => ?_)
        refine lv_aload_n hx hb dX12_quota_50 rfl (lv_at hl 0 rfl) ?_
        refine lv_bipush (v := (-2)) hx hb dX12_quota_51 (by decide) ?_
        have hPc := hP.sub (ws' := [(h0, .inr (12, [.int 0, .int 0, .ref mr, .ref mt, .ref mw, .ref mu, .ref mp, .ref mi, .ref mk, .ref ms, .int 0, .ref mv, .int 0, .int 0, .int 0, .int 0, .long 0, .int (-1), .int 0, .ref m1w, .ref m2w, .ref m3w, .ref m4w, .int 0, .long 0, .long 0, .long 0])), (mr, .inl (cm1, 7, .inl (fun _ => 0)))]) [1, 0] rfl
        have hDc := hD.sub (ws' := [(h0, .inr (12, [.int 0, .int 0, .ref mr, .ref mt, .ref mw, .ref mu, .ref mp, .ref mi, .ref mk, .ref ms, .int 0, .ref mv, .int 0, .int 0, .int 0, .int 0, .long 0, .int (-1), .int 0, .ref m1w, .ref m2w, .ref m3w, .ref m4w, .int 0, .long 0, .long 0, .long 0])), (mr, .inl (cm1, 7, .inl (fun _ => 0)))]) [1, 0] (by decide) rfl
        have hKc := hK.sub (tys' := [(cm1, .int)]) [0] rfl
        have hFc := va_free (wc := [(h0, .inr (12, [.int 0, .int 0, .ref mr, .ref mt, .ref mw, .ref mu, .ref mp, .ref mi, .ref mk, .ref ms, .int 0, .ref mv, .int 0, .int 0, .int 0, .int 0, .long 0, .int (-1), .int 0, .ref m1w, .ref m2w, .ref m3w, .ref m4w, .int 0, .long 0, .long 0, .long 0])), (mr, .inl (cm1, 7, .inl (fun _ => 0)))]) hD hS hA [1, 0] rfl
        refine va_calli (va_runV (As := [.int (-2)]) (rest := []) ⟨hx, hb, hml, hown, hts⟩ (c_X12_refuse_2 l dC dI h0 mr mt mw mu mp mi mk ms mv m1w m2w m3w m4w cm1 H.size) (cwV 1 hts (gi_V (fun w_ h0_ => ⟨List.mem_cons_of_mem _ (List.mem_append_right _ (List.mem_append_right _ (List.mem_append_right _ (List.mem_append_right _ (List.mem_append_right _ (List.mem_append_left _ h0_)))))), (tb_c_X12_refuse_2 w_ h0_).2⟩) (List.mem_cons_of_mem _ (List.mem_append_left _ (List.mem_of_getElem? (i := 5) rfl))) (List.mem_cons_of_mem _ (List.mem_append_left _ (List.mem_of_getElem? (i := 6) rfl))) (List.mem_cons_of_mem _ (List.mem_append_left _ (List.mem_of_getElem? (i := 7) rfl))) (List.mem_cons_of_mem _ (List.mem_append_left _ (List.mem_of_getElem? (i := 4) rfl)))) rfl rfl rfl (by decide +kernel) ⟨Nat.le_of_ble_eq_true rfl, Nat.le_of_ble_eq_true rfl⟩) ⟨fun a U g mk q => by obtain ⟨q0, q1, qP, qK, qD⟩ := q; exact ⟨q0, q1, qP, va_K.moved (u := U) (U := U.calling g mk a) (Vm.Alike.refl U.vm) qK, qD⟩, va_recv hKc hPc (ci := 12) (q0 := 0) rfl rfl, fun U hU hW => ⟨rfl, by rw [hU], by rw [hU]; exact hPc, va_K.moved hW.alike hKc, hDc.weaken (fun _ _ _ _ => trivial)⟩⟩ rfl rfl hl.1 rfl (lv_room (Nat.le_of_ble_eq_true rfl)) dX12_quota_53 ⟨Nat.le_of_ble_eq_true rfl, Nat.le_of_ble_eq_true rfl⟩) hS (fun q _ h => hFc q h) hFc (fun r_11 u t H1 locs ht hvm hw hB hz1 hk1 hS => ?_)
        obtain ⟨hP1, hK1, hD1⟩ := hB
        rw [ht] at hP1
        have hK1 := va_K.moved hvm.symm hK1
        obtain ⟨hP, hD⟩ := va_join (wr := [(mw, .inl (cm3, 906, .inr (.inl fw)))]) (w1 := []) hP hD [1, 0] [2] rfl rfl (by decide) (by decide) hk1 hFc hP1 hD1
        generalize H1 = H at hP hS ⊢
        have hP : va_P (dC, dI) vwCl [(mw, .inl (cm3, 906, .inr (.inl fw)))] H := hP
        have hD : va_D A [(mw, .inl (cm3, 906, .inr (.inl fw)))] := hD
        refine W.widen (k := 0) (n := 0) (Nat.le_of_ble_eq_true rfl) (Nat.le_of_ble_eq_true rfl) ?_
        have hw : r_11 = (-2) := hw
        subst hw
        have hP9 := hP.sub (ws' := []) [] rfl
        have hD9 := hD.sub (ws' := []) [] (by decide) rfl
        have hK9 := hK.sub (tys' := []) [] rfl
        refine W.widen (k := 0) (n := 0) (Nat.le_of_ble_eq_true rfl) (Nat.le_of_ble_eq_true rfl) ?_
        exact W.iret (v := (-2)) hx hb hr (fun t ht hW => ⟨⟨(-2), (), rfl, (by have z0 := (sp_r1 _ _ _).mp c_2; have z1 : ¬ _ := fun h9 => c_4 ((fa_le _ _).mpr h9); have z2 := (sp_in1 _ _ _).mp c_9; have li0 : Int32.toInt 0 = 0 := (by decide); have ll60 : Int64.toInt 60 = 60 := (by decide); have w0 := Int32.toInt_toInt64 pq; have yy : v_7.toInt = nq.toInt + 1 := (by rw [ev_7]; exact k_add1 nq); unfold sp_quota; (repeat' split) <;> first | rfl | omega | (refine Int32.toInt_inj.mp ?_; omega)), by rw [ht]; exact hP9, va_K.moved hW.alike hK9, hD9⟩, hS.F ht⟩) hS.2.2 dX12_quota_56
      · have c_9 := not_not_intro c_9
        refine lv_aload_n hx hb dX12_quota_36 rfl (lv_at hl 0 rfl) ?_
        refine lv_iconst (v := (-1)) hx hb dX12_quota_37 (by decide) ?_
        have hPc := hP.sub (ws' := [(h0, .inr (12, [.int 0, .int 0, .ref mr, .ref mt, .ref mw, .ref mu, .ref mp, .ref mi, .ref mk, .ref ms, .int 0, .ref mv, .int 0, .int 0, .int 0, .int 0, .long 0, .int (-1), .int 0, .ref m1w, .ref m2w, .ref m3w, .ref m4w, .int 0, .long 0, .long 0, .long 0])), (mr, .inl (cm1, 7, .inl (fun _ => 0)))]) [0, 1] rfl
        have hDc := hD.sub (ws' := [(h0, .inr (12, [.int 0, .int 0, .ref mr, .ref mt, .ref mw, .ref mu, .ref mp, .ref mi, .ref mk, .ref ms, .int 0, .ref mv, .int 0, .int 0, .int 0, .int 0, .long 0, .int (-1), .int 0, .ref m1w, .ref m2w, .ref m3w, .ref m4w, .int 0, .long 0, .long 0, .long 0])), (mr, .inl (cm1, 7, .inl (fun _ => 0)))]) [0, 1] (by decide) rfl
        have hKc := hK.sub (tys' := [(cm1, .int)]) [0] rfl
        have hFc := va_free (wc := [(h0, .inr (12, [.int 0, .int 0, .ref mr, .ref mt, .ref mw, .ref mu, .ref mp, .ref mi, .ref mk, .ref ms, .int 0, .ref mv, .int 0, .int 0, .int 0, .int 0, .long 0, .int (-1), .int 0, .ref m1w, .ref m2w, .ref m3w, .ref m4w, .int 0, .long 0, .long 0, .long 0])), (mr, .inl (cm1, 7, .inl (fun _ => 0)))]) hD hS hA [0, 1] rfl
        refine va_calli (va_runV (As := [.int (-1)]) (rest := []) ⟨hx, hb, hml, hown, hts⟩ (c_X12_refuse_1 l dC dI h0 mr mt mw mu mp mi mk ms mv m1w m2w m3w m4w cm1 H.size) (cwV 1 hts (gi_V (fun w_ h0_ => ⟨List.mem_cons_of_mem _ (List.mem_append_right _ (List.mem_append_right _ (List.mem_append_right _ (List.mem_append_left _ h0_)))), (tb_c_X12_refuse_1 w_ h0_).2⟩) (List.mem_cons_of_mem _ (List.mem_append_left _ (List.mem_of_getElem? (i := 5) rfl))) (List.mem_cons_of_mem _ (List.mem_append_left _ (List.mem_of_getElem? (i := 6) rfl))) (List.mem_cons_of_mem _ (List.mem_append_left _ (List.mem_of_getElem? (i := 7) rfl))) (List.mem_cons_of_mem _ (List.mem_append_left _ (List.mem_of_getElem? (i := 4) rfl)))) rfl rfl rfl (by decide +kernel) ⟨Nat.le_of_ble_eq_true rfl, Nat.le_of_ble_eq_true rfl⟩) ⟨fun a U g mk q => by obtain ⟨q0, q1, qP, qK, qD⟩ := q; exact ⟨q0, q1, qP, va_K.moved (u := U) (U := U.calling g mk a) (Vm.Alike.refl U.vm) qK, qD⟩, va_recv hKc hPc (ci := 12) (q0 := 0) rfl rfl, fun U hU hW => ⟨rfl, by rw [hU], by rw [hU]; exact hPc, va_K.moved hW.alike hKc, hDc.weaken (fun _ _ _ _ => trivial)⟩⟩ rfl rfl hl.1 rfl (lv_room (Nat.le_of_ble_eq_true rfl)) dX12_quota_38 ⟨Nat.le_of_ble_eq_true rfl, Nat.le_of_ble_eq_true rfl⟩) hS (fun q _ h => hFc q h) hFc (fun r_12 u t H1 locs ht hvm hw hB hz1 hk1 hS => ?_)
        obtain ⟨hP1, hK1, hD1⟩ := hB
        rw [ht] at hP1
        have hK1 := va_K.moved hvm.symm hK1
        obtain ⟨hP, hD⟩ := va_join (wr := [(mw, .inl (cm3, 906, .inr (.inl fw)))]) (w1 := []) hP hD [0, 1] [2] rfl rfl (by decide) (by decide) hk1 hFc hP1 hD1
        generalize H1 = H at hP hS ⊢
        have hP : va_P (dC, dI) vwCl [(mw, .inl (cm3, 906, .inr (.inl fw)))] H := hP
        have hD : va_D A [(mw, .inl (cm3, 906, .inr (.inl fw)))] := hD
        refine W.widen (k := 0) (n := 0) (Nat.le_of_ble_eq_true rfl) (Nat.le_of_ble_eq_true rfl) ?_
        have hw : r_12 = (-1) := hw
        subst hw
        have hP9 := hP.sub (ws' := []) [] rfl
        have hD9 := hD.sub (ws' := []) [] (by decide) rfl
        have hK9 := hK.sub (tys' := []) [] rfl
        refine W.widen (k := 0) (n := 0) (Nat.le_of_ble_eq_true rfl) (Nat.le_of_ble_eq_true rfl) ?_
        exact W.iret (v := (-1)) hx hb hr (fun t ht hW => ⟨⟨(-1), (), rfl, (by have z0 := (sp_r1 _ _ _).mp c_2; have z1 : ¬ _ := fun h9 => c_4 ((fa_le _ _).mpr h9); have z2 := (sp_in0 _ _ _).mp (Classical.not_not.mp c_9); have li0 : Int32.toInt 0 = 0 := (by decide); have ll60 : Int64.toInt 60 = 60 := (by decide); have w0 := Int32.toInt_toInt64 pq; have yy : v_7.toInt = nq.toInt + 1 := (by rw [ev_7]; exact k_add1 nq); unfold sp_quota; (repeat' split) <;> first | rfl | omega | (refine Int32.toInt_inj.mp ?_; omega)), by rw [ht]; exact hP9, va_K.moved hW.alike hK9, hD9⟩, hS.F ht⟩) hS.2.2 dX12_quota_41
def ow_c_X12_fault : List Cond := [.fieldLink RX12 67 "DeadlineShareModel" "thrown" "I", .fieldLink RX12 39 "DeadlineShareModel" "fault" "I"]
def wq_c_X12_fault : List Cond := .code yX12_fault cX12_fault 1 (some .int) :: (ow_c_X12_fault ++ (u_ws RX12 TX12 27 ++ ([] : List Cond)))
theorem tb_c_X12_fault : ∀ w ∈ wq_c_X12_fault, q_g w := by
  unfold wq_c_X12_fault ow_c_X12_fault
  exact q_cons tw_519 (q_app (q_cons tw_488 (q_cons tw_418 q_nil)) (q_app tu_X12 q_nil))
set_option maxHeartbeats 4000000 in
set_option maxRecDepth 100000 in
theorem c_X12_fault (l : Launch) (dC : Nat → ClassId) (dI : Nat → Nat → Nat) (h0 : Nat) (mr : Nat) (mt : Nat) (mw : Nat) (mu : Nat) (mp : Nat) (mi : Nat) (mk : Nat) (ms : Nat) (mv : Nat) (m1w : Nat) (m2w : Nat) (m3w : Nat) (m4w : Nat) (sz : Nat) : Met l yX12_fault wq_c_X12_fault ({ frames := 0, cells := 0, slots := 0, locals := 0 } : Room) (va_Pc [.ref h0] (fun U => U.heap.size = sz ∧ va_P (dC, dI) vwCl [(h0, .inr (12, [.int 0, .int 0, .ref mr, .ref mt, .ref mw, .ref mu, .ref mp, .ref mi, .ref mk, .ref ms, .int 0, .ref mv, .int 0, .int 0, .int 0, .int 0, .long 0, .int (-1), .int 0, .ref m1w, .ref m2w, .ref m3w, .ref m4w, .int 0, .long 0, .long 0, .long 0]))] U.heap ∧ va_K (dC, dI) vwCl [] U ∧ va_D (fun _ => True) [(h0, .inr (12, [.int 0, .int 0, .ref mr, .ref mt, .ref mw, .ref mu, .ref mp, .ref mi, .ref mk, .ref ms, .int 0, .ref mv, .int 0, .int 0, .int 0, .int 0, .long 0, .int (-1), .int 0, .ref m1w, .ref m2w, .ref m3w, .ref m4w, .int 0, .long 0, .long 0, .long 0]))])) (va_Qi (fun (r : Int32) (_ : Unit) => r = (-1)) (fun (_ : Unit) t => va_P (dC, dI) vwCl [] t.heap ∧ va_K (dC, dI) vwCl [] t ∧ va_D (va_A [(h0, .inr (12, [.int 0, .int 0, .ref mr, .ref mt, .ref mw, .ref mu, .ref mp, .ref mi, .ref mk, .ref ms, .int 0, .ref mv, .int 0, .int 0, .int 0, .int 0, .long 0, .int (-1), .int 0, .ref m1w, .ref m2w, .ref m3w, .ref m4w, .int 0, .long 0, .long 0, .long 0]))] sz) []) (va_A [(h0, .inr (12, [.int 0, .int 0, .ref mr, .ref mt, .ref mw, .ref mu, .ref mp, .ref mi, .ref mk, .ref ms, .int 0, .ref mv, .int 0, .int 0, .int 0, .int 0, .long 0, .int (-1), .int 0, .ref m1w, .ref m2w, .ref m3w, .ref m4w, .int 0, .long 0, .long 0, .long 0]))] sz)) 0 0 (va_A [(h0, .inr (12, [.int 0, .int 0, .ref mr, .ref mt, .ref mw, .ref mu, .ref mp, .ref mi, .ref mk, .ref ms, .int 0, .ref mv, .int 0, .int 0, .int 0, .int 0, .long 0, .int (-1), .int 0, .ref m1w, .ref m2w, .ref m3w, .ref m4w, .int 0, .long 0, .long 0, .long 0]))] sz) := by
  refine Met.ofW (cc := cX12_fault) (maxL := 1) (ret := (some .int)) (by decide) rfl ?_
  intro p e s m args below meth c s₁ B hml hv
  obtain ⟨rfl, hsz, hP, hK, hD0⟩ := hv
  have hx := B.exec
  have hb := B.bytes
  have hr := B.returns
  have hts := atoms_spec (ws := wq_c_X12_fault) B.pre
  have hown : s.vm.findClass RX12 = some m.cls := findClass_of_methodNamed B.named
  have hlocks := B.notSynchronized
  subst hsz
  have hD := hD0.self (sz := s.heap.size)
  obtain ⟨A, hAe⟩ : ∃ A, A = va_A [(h0, .inr (12, [.int 0, .int 0, .ref mr, .ref mt, .ref mw, .ref mu, .ref mp, .ref mi, .ref mk, .ref ms, .int 0, .ref mv, .int 0, .int 0, .int 0, .int 0, .long 0, .int (-1), .int 0, .ref m1w, .ref m2w, .ref m3w, .ref m4w, .int 0, .long 0, .long 0, .long 0]))] s.heap.size := ⟨_, rfl⟩
  rw [← hAe] at hD ⊢
  have hA : ∀ q : Nat, s.heap.size ≤ q → A q := fun q h => by rw [hAe]; exact Or.inr h
  have hS : va_S A s.heap s.heap [] := va_S.rf
  have hP : va_P (dC, dI) vwCl [(h0, .inr (12, [.int 0, .int 0, .ref mr, .ref mt, .ref mw, .ref mu, .ref mp, .ref mi, .ref mk, .ref ms, .int 0, .ref mv, .int 0, .int 0, .int 0, .int 0, .long 0, .int (-1), .int 0, .ref m1w, .ref m2w, .ref m3w, .ref m4w, .int 0, .long 0, .long 0, .long 0]))] s.heap := hP
  have hl := lv_entry ([.ref h0]) (n := 1) (Nat.le_of_ble_eq_true rfl)
  rw [lg_entry_eq]
  generalize (lg_sl ([.ref h0]) ++ List.replicate (1 - (lg_sl ([.ref h0])).length) Slot.unset).toArray = ls at hl ⊢
  have hl : lv_has ls 1 [(0, .ref h0)] := hl
  refine lv_aload_n hx hb dX12_fault_0 rfl (lv_at hl 0 rfl) ?_
  refine lv_iconst (v := 0) hx hb dX12_fault_1 (by decide) ?_
  refine va_put (D := (dC, dI)) (ci := 12) (v := .int 0) (ty := .int) (C := RX12) (T := TX12) (N := 27) hx hb hts (fun _ h0_ => List.mem_cons_of_mem _ (List.mem_append_right _ (List.mem_append_left _ h0_))) tyX12 tyX12_ok nmX12 hown hK hP hD hS 0 rfl rfl 0 (by decide) (hts (.fieldLink RX12 67 "DeadlineShareModel" "thrown" "I") (List.mem_cons_of_mem _ (List.mem_append_left _ (List.mem_of_getElem? (i := 0) rfl)))) (fun _ h9 => h9) rfl (by decide +kernel) rfl rfl (Nat.le_of_ble_eq_true rfl) dX12_fault_2 (fun H locs hP hD hS => ?_)
  have hP : va_P (dC, dI) vwCl [(h0, .inr (12, [.int 0, .int 0, .ref mr, .ref mt, .ref mw, .ref mu, .ref mp, .ref mi, .ref mk, .ref ms, .int 0, .ref mv, .int 0, .int 0, .int 0, .int 0, .long 0, .int (-1), .int 0, .ref m1w, .ref m2w, .ref m3w, .ref m4w, .int 0, .long 0, .long 0, .long 0]))] H := hP
  have hD : va_D A [(h0, .inr (12, [.int 0, .int 0, .ref mr, .ref mt, .ref mw, .ref mu, .ref mp, .ref mi, .ref mk, .ref ms, .int 0, .ref mv, .int 0, .int 0, .int 0, .int 0, .long 0, .int (-1), .int 0, .ref m1w, .ref m2w, .ref m3w, .ref m4w, .int 0, .long 0, .long 0, .long 0]))] := hD
  refine lv_aload_n hx hb dX12_fault_5 rfl (lv_at hl 0 rfl) ?_
  refine va_get (D := (dC, dI)) (ci := 12) (v := .int (-1)) (C := RX12) (T := TX12) (N := 27) hx hb hts (fun _ h0_ => List.mem_cons_of_mem _ (List.mem_append_right _ (List.mem_append_left _ h0_))) hown hK hP 0 rfl rfl 17 (by decide) (hts (.fieldLink RX12 39 "DeadlineShareModel" "fault" "I") (List.mem_cons_of_mem _ (List.mem_append_left _ (List.mem_of_getElem? (i := 1) rfl)))) (fun _ h9 => h9) rfl dX12_fault_6 ?_
  have hP9 := hP.sub (ws' := []) [] rfl
  have hD9 := hD.sub (ws' := []) [] (by decide) rfl
  have hK9 := hK.sub (tys' := []) [] rfl
  refine W.widen (k := 0) (n := 0) (Nat.le_of_ble_eq_true rfl) (Nat.le_of_ble_eq_true rfl) ?_
  exact W.iret (v := (-1)) hx hb hr (fun t ht hW => ⟨⟨(-1), (), rfl, rfl, by rw [ht]; exact hP9, va_K.moved hW.alike hK9, hD9⟩, hS.F ht⟩) hS.2.2 dX12_fault_9
def ow_c_X12_undo : List Cond := [.fieldLink RX12 67 "DeadlineShareModel" "thrown" "I", .fieldLink RX12 73 "DeadlineShareModel" "nUndo" "I", .methodLink RX12 76 yX12_refuse, .instanceMethod yX12_refuse, .selects RX12 yX12_refuse yX12_refuse, .initialized RX12]
def wq_c_X12_undo : List Cond := .code yX12_undo cX12_undo 2 (some .int) :: (ow_c_X12_undo ++ (u_ws RX12 TX12 27 ++ (wq_c_X12_refuse_4 ++ ([] : List Cond))))
theorem tb_c_X12_undo : ∀ w ∈ wq_c_X12_undo, q_g w := by
  unfold wq_c_X12_undo ow_c_X12_undo
  exact q_cons tw_520 (q_app (q_cons tw_488 (q_cons tw_440 (q_cons tw_483 (q_cons tw_482 (q_cons tw_481 (q_cons tw_435 q_nil)))))) (q_app tu_X12 (q_app tb_c_X12_refuse_4 q_nil)))
set_option maxHeartbeats 4000000 in
set_option maxRecDepth 100000 in
theorem c_X12_undo (l : Launch) (dC : Nat → ClassId) (dI : Nat → Nat → Nat) (h0 : Nat) (mr : Nat) (mt : Nat) (mw : Nat) (mu : Nat) (mp : Nat) (mi : Nat) (mk : Nat) (ms : Nat) (mv : Nat) (m1w : Nat) (m2w : Nat) (m3w : Nat) (m4w : Nat) (cm1 : ClassId) (sz : Nat) : Met l yX12_undo wq_c_X12_undo ({ frames := 1, cells := 0, slots := 0, locals := 21 } : Room) (va_Pc [.ref h0] (fun U => U.heap.size = sz ∧ va_P (dC, dI) vwCl [(h0, .inr (12, [.int 0, .int 0, .ref mr, .ref mt, .ref mw, .ref mu, .ref mp, .ref mi, .ref mk, .ref ms, .int 0, .ref mv, .int 0, .int 0, .int 0, .int 0, .long 0, .int (-1), .int 0, .ref m1w, .ref m2w, .ref m3w, .ref m4w, .int 0, .long 0, .long 0, .long 0])), (mr, .inl (cm1, 7, .inl (fun _ => 0)))] U.heap ∧ va_K (dC, dI) vwCl [(cm1, .int)] U ∧ va_D (fun _ => True) [(h0, .inr (12, [.int 0, .int 0, .ref mr, .ref mt, .ref mw, .ref mu, .ref mp, .ref mi, .ref mk, .ref ms, .int 0, .ref mv, .int 0, .int 0, .int 0, .int 0, .long 0, .int (-1), .int 0, .ref m1w, .ref m2w, .ref m3w, .ref m4w, .int 0, .long 0, .long 0, .long 0])), (mr, .inl (cm1, 7, .inl (fun _ => 0)))])) (va_Qi (fun (r : Int32) (_ : Unit) => r = (-4)) (fun (_ : Unit) t => va_P (dC, dI) vwCl [] t.heap ∧ va_K (dC, dI) vwCl [] t ∧ va_D (va_A [(h0, .inr (12, [.int 0, .int 0, .ref mr, .ref mt, .ref mw, .ref mu, .ref mp, .ref mi, .ref mk, .ref ms, .int 0, .ref mv, .int 0, .int 0, .int 0, .int 0, .long 0, .int (-1), .int 0, .ref m1w, .ref m2w, .ref m3w, .ref m4w, .int 0, .long 0, .long 0, .long 0])), (mr, .inl (cm1, 7, .inl (fun _ => 0)))] sz) []) (va_A [(h0, .inr (12, [.int 0, .int 0, .ref mr, .ref mt, .ref mw, .ref mu, .ref mp, .ref mi, .ref mk, .ref ms, .int 0, .ref mv, .int 0, .int 0, .int 0, .int 0, .long 0, .int (-1), .int 0, .ref m1w, .ref m2w, .ref m3w, .ref m4w, .int 0, .long 0, .long 0, .long 0])), (mr, .inl (cm1, 7, .inl (fun _ => 0)))] sz)) 0 0 (va_A [(h0, .inr (12, [.int 0, .int 0, .ref mr, .ref mt, .ref mw, .ref mu, .ref mp, .ref mi, .ref mk, .ref ms, .int 0, .ref mv, .int 0, .int 0, .int 0, .int 0, .long 0, .int (-1), .int 0, .ref m1w, .ref m2w, .ref m3w, .ref m4w, .int 0, .long 0, .long 0, .long 0])), (mr, .inl (cm1, 7, .inl (fun _ => 0)))] sz) := by
  refine Met.ofW (cc := cX12_undo) (maxL := 2) (ret := (some .int)) (by decide) rfl ?_
  intro p e s m args below meth c s₁ B hml hv
  obtain ⟨rfl, hsz, hP, hK, hD0⟩ := hv
  have hx := B.exec
  have hb := B.bytes
  have hr := B.returns
  have hts := atoms_spec (ws := wq_c_X12_undo) B.pre
  have hown : s.vm.findClass RX12 = some m.cls := findClass_of_methodNamed B.named
  have hlocks := B.notSynchronized
  subst hsz
  have hD := hD0.self (sz := s.heap.size)
  obtain ⟨A, hAe⟩ : ∃ A, A = va_A [(h0, .inr (12, [.int 0, .int 0, .ref mr, .ref mt, .ref mw, .ref mu, .ref mp, .ref mi, .ref mk, .ref ms, .int 0, .ref mv, .int 0, .int 0, .int 0, .int 0, .long 0, .int (-1), .int 0, .ref m1w, .ref m2w, .ref m3w, .ref m4w, .int 0, .long 0, .long 0, .long 0])), (mr, .inl (cm1, 7, .inl (fun _ => 0)))] s.heap.size := ⟨_, rfl⟩
  rw [← hAe] at hD ⊢
  have hA : ∀ q : Nat, s.heap.size ≤ q → A q := fun q h => by rw [hAe]; exact Or.inr h
  have hS : va_S A s.heap s.heap [] := va_S.rf
  have hP : va_P (dC, dI) vwCl [(h0, .inr (12, [.int 0, .int 0, .ref mr, .ref mt, .ref mw, .ref mu, .ref mp, .ref mi, .ref mk, .ref ms, .int 0, .ref mv, .int 0, .int 0, .int 0, .int 0, .long 0, .int (-1), .int 0, .ref m1w, .ref m2w, .ref m3w, .ref m4w, .int 0, .long 0, .long 0, .long 0])), (mr, .inl (cm1, 7, .inl (fun _ => 0)))] s.heap := hP
  have hl := lv_entry ([.ref h0]) (n := 2) (Nat.le_of_ble_eq_true rfl)
  rw [lg_entry_eq]
  generalize (lg_sl ([.ref h0]) ++ List.replicate (2 - (lg_sl ([.ref h0])).length) Slot.unset).toArray = ls at hl ⊢
  have hl : lv_has ls 2 [(0, .ref h0)] := hl
  refine lv_aload_n hx hb dX12_undo_0 rfl (lv_at hl 0 rfl) ?_
  refine lv_iconst (v := 0) hx hb dX12_undo_1 (by decide) ?_
  refine va_put (D := (dC, dI)) (ci := 12) (v := .int 0) (ty := .int) (C := RX12) (T := TX12) (N := 27) hx hb hts (fun _ h0_ => List.mem_cons_of_mem _ (List.mem_append_right _ (List.mem_append_left _ h0_))) tyX12 tyX12_ok nmX12 hown hK hP hD hS 0 rfl rfl 0 (by decide) (hts (.fieldLink RX12 67 "DeadlineShareModel" "thrown" "I") (List.mem_cons_of_mem _ (List.mem_append_left _ (List.mem_of_getElem? (i := 0) rfl)))) (fun _ h9 => h9) rfl (by decide +kernel) rfl rfl (Nat.le_of_ble_eq_true rfl) dX12_undo_2 (fun H locs hP hD hS => ?_)
  have hP : va_P (dC, dI) vwCl [(h0, .inr (12, [.int 0, .int 0, .ref mr, .ref mt, .ref mw, .ref mu, .ref mp, .ref mi, .ref mk, .ref ms, .int 0, .ref mv, .int 0, .int 0, .int 0, .int 0, .long 0, .int (-1), .int 0, .ref m1w, .ref m2w, .ref m3w, .ref m4w, .int 0, .long 0, .long 0, .long 0])), (mr, .inl (cm1, 7, .inl (fun _ => 0)))] H := hP
  have hD : va_D A [(h0, .inr (12, [.int 0, .int 0, .ref mr, .ref mt, .ref mw, .ref mu, .ref mp, .ref mi, .ref mk, .ref ms, .int 0, .ref mv, .int 0, .int 0, .int 0, .int 0, .long 0, .int (-1), .int 0, .ref m1w, .ref m2w, .ref m3w, .ref m4w, .int 0, .long 0, .long 0, .long 0])), (mr, .inl (cm1, 7, .inl (fun _ => 0)))] := hD
  refine lv_aload_n hx hb dX12_undo_5 rfl (lv_at hl 0 rfl) ?_
  refine va_get (D := (dC, dI)) (ci := 12) (v := .int 0) (C := RX12) (T := TX12) (N := 27) hx hb hts (fun _ h0_ => List.mem_cons_of_mem _ (List.mem_append_right _ (List.mem_append_left _ h0_))) hown hK hP 0 rfl rfl 10 (by decide) (hts (.fieldLink RX12 73 "DeadlineShareModel" "nUndo" "I") (List.mem_cons_of_mem _ (List.mem_append_left _ (List.mem_of_getElem? (i := 1) rfl)))) (fun _ h9 => h9) rfl dX12_undo_6 ?_
  refine lv_if_ne (tgt := 19) hx hb dX12_undo_9 (by decide) (fun c => absurd c (by decide)) (fun _ => ?_)
  refine lv_aload_n hx hb dX12_undo_12 rfl (lv_at hl 0 rfl) ?_
  refine lv_bipush (v := (-4)) hx hb dX12_undo_13 (by decide) ?_
  have hPc := hP.sub (ws' := [(h0, .inr (12, [.int 0, .int 0, .ref mr, .ref mt, .ref mw, .ref mu, .ref mp, .ref mi, .ref mk, .ref ms, .int 0, .ref mv, .int 0, .int 0, .int 0, .int 0, .long 0, .int (-1), .int 0, .ref m1w, .ref m2w, .ref m3w, .ref m4w, .int 0, .long 0, .long 0, .long 0])), (mr, .inl (cm1, 7, .inl (fun _ => 0)))]) [0, 1] rfl
  have hDc := hD.sub (ws' := [(h0, .inr (12, [.int 0, .int 0, .ref mr, .ref mt, .ref mw, .ref mu, .ref mp, .ref mi, .ref mk, .ref ms, .int 0, .ref mv, .int 0, .int 0, .int 0, .int 0, .long 0, .int (-1), .int 0, .ref m1w, .ref m2w, .ref m3w, .ref m4w, .int 0, .long 0, .long 0, .long 0])), (mr, .inl (cm1, 7, .inl (fun _ => 0)))]) [0, 1] (by decide) rfl
  have hKc := hK.sub (tys' := [(cm1, .int)]) [0] rfl
  have hFc := va_free (wc := [(h0, .inr (12, [.int 0, .int 0, .ref mr, .ref mt, .ref mw, .ref mu, .ref mp, .ref mi, .ref mk, .ref ms, .int 0, .ref mv, .int 0, .int 0, .int 0, .int 0, .long 0, .int (-1), .int 0, .ref m1w, .ref m2w, .ref m3w, .ref m4w, .int 0, .long 0, .long 0, .long 0])), (mr, .inl (cm1, 7, .inl (fun _ => 0)))]) hD hS hA [0, 1] rfl
  refine va_calli (va_runV (As := [.int (-4)]) (rest := []) ⟨hx, hb, hml, hown, hts⟩ (c_X12_refuse_4 l dC dI h0 mr mt mw mu mp mi mk ms mv m1w m2w m3w m4w cm1 H.size) (cwV 1 hts (gi_V (fun w_ h0_ => ⟨List.mem_cons_of_mem _ (List.mem_append_right _ (List.mem_append_right _ (List.mem_append_left _ h0_))), (tb_c_X12_refuse_4 w_ h0_).2⟩) (List.mem_cons_of_mem _ (List.mem_append_left _ (List.mem_of_getElem? (i := 2) rfl))) (List.mem_cons_of_mem _ (List.mem_append_left _ (List.mem_of_getElem? (i := 3) rfl))) (List.mem_cons_of_mem _ (List.mem_append_left _ (List.mem_of_getElem? (i := 4) rfl))) (List.mem_cons_of_mem _ (List.mem_append_left _ (List.mem_of_getElem? (i := 5) rfl)))) rfl rfl rfl (by decide +kernel) ⟨Nat.le_of_ble_eq_true rfl, Nat.le_of_ble_eq_true rfl⟩) ⟨fun a U g mk q => by obtain ⟨q0, q1, qP, qK, qD⟩ := q; exact ⟨q0, q1, qP, va_K.moved (u := U) (U := U.calling g mk a) (Vm.Alike.refl U.vm) qK, qD⟩, va_recv hKc hPc (ci := 12) (q0 := 0) rfl rfl, fun U hU hW => ⟨rfl, by rw [hU], by rw [hU]; exact hPc, va_K.moved hW.alike hKc, hDc.weaken (fun _ _ _ _ => trivial)⟩⟩ rfl rfl hl.1 rfl (lv_room (Nat.le_of_ble_eq_true rfl)) dX12_undo_15 ⟨Nat.le_of_ble_eq_true rfl, Nat.le_of_ble_eq_true rfl⟩) hS (fun q _ h => hFc q h) hFc (fun r_1 u t H1 locs ht hvm hw hB hz1 hk1 hS => ?_)
  obtain ⟨hP1, hK1, hD1⟩ := hB
  rw [ht] at hP1
  have hK1 := va_K.moved hvm.symm hK1
  obtain ⟨hP, hD⟩ := va_join (wr := []) (w1 := []) hP hD [0, 1] [] rfl rfl (by decide) (by decide) hk1 hFc hP1 hD1
  generalize H1 = H at hP hS ⊢
  have hP : va_P (dC, dI) vwCl [] H := hP
  have hD : va_D A [] := hD
  refine W.widen (k := 0) (n := 0) (Nat.le_of_ble_eq_true rfl) (Nat.le_of_ble_eq_true rfl) ?_
  have hw : r_1 = (-4) := hw
  subst hw
  have hP9 := hP.sub (ws' := []) [] rfl
  have hD9 := hD.sub (ws' := []) [] (by decide) rfl
  have hK9 := hK.sub (tys' := []) [] rfl
  refine W.widen (k := 0) (n := 0) (Nat.le_of_ble_eq_true rfl) (Nat.le_of_ble_eq_true rfl) ?_
  exact W.iret (v := (-4)) hx hb hr (fun t ht hW => ⟨⟨(-4), (), rfl, rfl, by rw [ht]; exact hP9, va_K.moved hW.alike hK9, hD9⟩, hS.F ht⟩) hS.2.2 dX12_undo_18
def ow_c_X12_image : List Cond := [.fieldLink RX12 67 "DeadlineShareModel" "thrown" "I", .methodLink RX12 83 yX12_in, .static yX12_in, .initialized RX12, .fieldLink RX12 29 "DeadlineShareModel" "isKept" "[Z", .fieldLink RX12 16 "DeadlineShareModel" "row" "[J", .methodLink RX12 80 yX12_tell, .instanceMethod yX12_tell, .selects RX12 yX12_tell yX12_tell, .fieldLink RX12 26 "DeadlineShareModel" "images" "[J", .methodLink RX12 76 yX12_refuse, .instanceMethod yX12_refuse, .selects RX12 yX12_refuse yX12_refuse]
def wq_c_X12_image : List Cond := .code yX12_image cX12_image 3 (some .int) :: (ow_c_X12_image ++ (u_ws RX12 TX12 27 ++ (wq_c_X12_in ++ (wq_c_X12_tell ++ (wq_c_X12_refuse_1 ++ ([] : List Cond))))))
theorem tb_c_X12_image : ∀ w ∈ wq_c_X12_image, q_g w := by
  unfold wq_c_X12_image ow_c_X12_image
  exact q_cons tw_521 (q_app (q_cons tw_488 (q_cons tw_437 (q_cons tw_436 (q_cons tw_435 (q_cons tw_421 (q_cons tw_425 (q_cons tw_486 (q_cons tw_485 (q_cons tw_484 (q_cons tw_422 (q_cons tw_483 (q_cons tw_482 (q_cons tw_481 q_nil))))))))))))) (q_app tu_X12 (q_app tb_c_X12_in (q_app tb_c_X12_tell (q_app tb_c_X12_refuse_1 q_nil)))))
set_option maxHeartbeats 4000000 in
set_option maxRecDepth 100000 in
theorem c_X12_image (l : Launch) (dC : Nat → ClassId) (dI : Nat → Nat → Nat) (h0 : Nat) (kk : Int32) (mr : Nat) (mt : Nat) (mw : Nat) (mu : Nat) (mp : Nat) (mi : Nat) (mk : Nat) (ms : Nat) (mv : Nat) (m1w : Nat) (m2w : Nat) (m3w : Nat) (m4w : Nat) (cm1 : ClassId) (cm3 : ClassId) (fw : Nat → Int64) (cm6 : ClassId) (cm7 : ClassId) (sz : Nat) (hw0 : fw 0 = 0) (hw1 : fw 1 = 0) (hw2 : fw 2 = 0) (hw3 : fw 3 = (-1)) (hw4 : fw 4 = (-1)) (hw5 : fw 5 = 0) : Met l yX12_image wq_c_X12_image ({ frames := 1, cells := 0, slots := 0, locals := 25 } : Room) (va_Pc [.ref h0, .int kk] (fun U => U.heap.size = sz ∧ va_P (dC, dI) vwCl [(h0, .inr (12, [.int 0, .int 0, .ref mr, .ref mt, .ref mw, .ref mu, .ref mp, .ref mi, .ref mk, .ref ms, .int 0, .ref mv, .int 0, .int 0, .int 0, .int 0, .long 0, .int (-1), .int 0, .ref m1w, .ref m2w, .ref m3w, .ref m4w, .int 0, .long 0, .long 0, .long 0])), (mr, .inl (cm1, 7, .inl (fun _ => 0))), (mw, .inl (cm3, 906, .inr (.inl fw))), (mi, .inl (cm6, 1812, .inr (.inl (fun _ => 0)))), (mk, .inl (cm7, 2, .inl (fun _ => 0)))] U.heap ∧ va_K (dC, dI) vwCl [(cm1, .int), (cm3, .long), (cm6, .long), (cm7, .boolean)] U ∧ va_D (fun _ => True) [(h0, .inr (12, [.int 0, .int 0, .ref mr, .ref mt, .ref mw, .ref mu, .ref mp, .ref mi, .ref mk, .ref ms, .int 0, .ref mv, .int 0, .int 0, .int 0, .int 0, .long 0, .int (-1), .int 0, .ref m1w, .ref m2w, .ref m3w, .ref m4w, .int 0, .long 0, .long 0, .long 0])), (mr, .inl (cm1, 7, .inl (fun _ => 0))), (mw, .inl (cm3, 906, .inr (.inl fw))), (mi, .inl (cm6, 1812, .inr (.inl (fun _ => 0)))), (mk, .inl (cm7, 2, .inl (fun _ => 0)))])) (va_Qi (fun (r : Int32) (_ : Unit) => r = sp_one kk 0 1 0) (fun (_ : Unit) t => va_P (dC, dI) vwCl [] t.heap ∧ va_K (dC, dI) vwCl [] t ∧ va_D (va_A [(h0, .inr (12, [.int 0, .int 0, .ref mr, .ref mt, .ref mw, .ref mu, .ref mp, .ref mi, .ref mk, .ref ms, .int 0, .ref mv, .int 0, .int 0, .int 0, .int 0, .long 0, .int (-1), .int 0, .ref m1w, .ref m2w, .ref m3w, .ref m4w, .int 0, .long 0, .long 0, .long 0])), (mr, .inl (cm1, 7, .inl (fun _ => 0))), (mw, .inl (cm3, 906, .inr (.inl fw))), (mi, .inl (cm6, 1812, .inr (.inl (fun _ => 0)))), (mk, .inl (cm7, 2, .inl (fun _ => 0)))] sz) []) (va_A [(h0, .inr (12, [.int 0, .int 0, .ref mr, .ref mt, .ref mw, .ref mu, .ref mp, .ref mi, .ref mk, .ref ms, .int 0, .ref mv, .int 0, .int 0, .int 0, .int 0, .long 0, .int (-1), .int 0, .ref m1w, .ref m2w, .ref m3w, .ref m4w, .int 0, .long 0, .long 0, .long 0])), (mr, .inl (cm1, 7, .inl (fun _ => 0))), (mw, .inl (cm3, 906, .inr (.inl fw))), (mi, .inl (cm6, 1812, .inr (.inl (fun _ => 0)))), (mk, .inl (cm7, 2, .inl (fun _ => 0)))] sz)) 0 0 (va_A [(h0, .inr (12, [.int 0, .int 0, .ref mr, .ref mt, .ref mw, .ref mu, .ref mp, .ref mi, .ref mk, .ref ms, .int 0, .ref mv, .int 0, .int 0, .int 0, .int 0, .long 0, .int (-1), .int 0, .ref m1w, .ref m2w, .ref m3w, .ref m4w, .int 0, .long 0, .long 0, .long 0])), (mr, .inl (cm1, 7, .inl (fun _ => 0))), (mw, .inl (cm3, 906, .inr (.inl fw))), (mi, .inl (cm6, 1812, .inr (.inl (fun _ => 0)))), (mk, .inl (cm7, 2, .inl (fun _ => 0)))] sz) := by
  refine Met.ofW (cc := cX12_image) (maxL := 3) (ret := (some .int)) (by decide) rfl ?_
  intro p e s m args below meth c s₁ B hml hv
  obtain ⟨rfl, hsz, hP, hK, hD0⟩ := hv
  have hx := B.exec
  have hb := B.bytes
  have hr := B.returns
  have hts := atoms_spec (ws := wq_c_X12_image) B.pre
  have hown : s.vm.findClass RX12 = some m.cls := findClass_of_methodNamed B.named
  have hlocks := B.notSynchronized
  subst hsz
  have hD := hD0.self (sz := s.heap.size)
  obtain ⟨A, hAe⟩ : ∃ A, A = va_A [(h0, .inr (12, [.int 0, .int 0, .ref mr, .ref mt, .ref mw, .ref mu, .ref mp, .ref mi, .ref mk, .ref ms, .int 0, .ref mv, .int 0, .int 0, .int 0, .int 0, .long 0, .int (-1), .int 0, .ref m1w, .ref m2w, .ref m3w, .ref m4w, .int 0, .long 0, .long 0, .long 0])), (mr, .inl (cm1, 7, .inl (fun _ => 0))), (mw, .inl (cm3, 906, .inr (.inl fw))), (mi, .inl (cm6, 1812, .inr (.inl (fun _ => 0)))), (mk, .inl (cm7, 2, .inl (fun _ => 0)))] s.heap.size := ⟨_, rfl⟩
  rw [← hAe] at hD ⊢
  have hA : ∀ q : Nat, s.heap.size ≤ q → A q := fun q h => by rw [hAe]; exact Or.inr h
  have hS : va_S A s.heap s.heap [] := va_S.rf
  have hP : va_P (dC, dI) vwCl [(h0, .inr (12, [.int 0, .int 0, .ref mr, .ref mt, .ref mw, .ref mu, .ref mp, .ref mi, .ref mk, .ref ms, .int 0, .ref mv, .int 0, .int 0, .int 0, .int 0, .long 0, .int (-1), .int 0, .ref m1w, .ref m2w, .ref m3w, .ref m4w, .int 0, .long 0, .long 0, .long 0])), (mr, .inl (cm1, 7, .inl (fun _ => 0))), (mw, .inl (cm3, 906, .inr (.inl fw))), (mi, .inl (cm6, 1812, .inr (.inl (fun _ => 0)))), (mk, .inl (cm7, 2, .inl (fun _ => 0)))] s.heap := hP
  have hl := lv_entry ([.ref h0, .int kk]) (n := 3) (Nat.le_of_ble_eq_true rfl)
  rw [lg_entry_eq]
  generalize (lg_sl ([.ref h0, .int kk]) ++ List.replicate (3 - (lg_sl ([.ref h0, .int kk])).length) Slot.unset).toArray = ls at hl ⊢
  have hl : lv_has ls 3 [(0, .ref h0), (1, .int kk)] := hl
  by_cases h_1 : kk = 0
  · subst h_1
    refine lv_aload_n hx hb dX12_image_0 rfl (lv_at hl 0 rfl) ?_
    refine lv_iconst (v := 0) hx hb dX12_image_1 (by decide) ?_
    refine va_put (D := (dC, dI)) (ci := 12) (v := .int 0) (ty := .int) (C := RX12) (T := TX12) (N := 27) hx hb hts (fun _ h0_ => List.mem_cons_of_mem _ (List.mem_append_right _ (List.mem_append_left _ h0_))) tyX12 tyX12_ok nmX12 hown hK hP hD hS 0 rfl rfl 0 (by decide) (hts (.fieldLink RX12 67 "DeadlineShareModel" "thrown" "I") (List.mem_cons_of_mem _ (List.mem_append_left _ (List.mem_of_getElem? (i := 0) rfl)))) (fun _ h9 => h9) rfl (by decide +kernel) rfl rfl (Nat.le_of_ble_eq_true rfl) dX12_image_2 (fun H locs hP hD hS => ?_)
    have hP : va_P (dC, dI) vwCl [(h0, .inr (12, [.int 0, .int 0, .ref mr, .ref mt, .ref mw, .ref mu, .ref mp, .ref mi, .ref mk, .ref ms, .int 0, .ref mv, .int 0, .int 0, .int 0, .int 0, .long 0, .int (-1), .int 0, .ref m1w, .ref m2w, .ref m3w, .ref m4w, .int 0, .long 0, .long 0, .long 0])), (mr, .inl (cm1, 7, .inl (fun _ => 0))), (mw, .inl (cm3, 906, .inr (.inl fw))), (mi, .inl (cm6, 1812, .inr (.inl (fun _ => 0)))), (mk, .inl (cm7, 2, .inl (fun _ => 0)))] H := hP
    have hD : va_D A [(h0, .inr (12, [.int 0, .int 0, .ref mr, .ref mt, .ref mw, .ref mu, .ref mp, .ref mi, .ref mk, .ref ms, .int 0, .ref mv, .int 0, .int 0, .int 0, .int 0, .long 0, .int (-1), .int 0, .ref m1w, .ref m2w, .ref m3w, .ref m4w, .int 0, .long 0, .long 0, .long 0])), (mr, .inl (cm1, 7, .inl (fun _ => 0))), (mw, .inl (cm3, 906, .inr (.inl fw))), (mi, .inl (cm6, 1812, .inr (.inl (fun _ => 0)))), (mk, .inl (cm7, 2, .inl (fun _ => 0)))] := hD
    refine lv_iload_n hx hb dX12_image_5 rfl (lv_at hl 1 rfl) ?_
    refine lv_i2l (v := 0) hx hb dX12_image_6 (by decide) ?_
    refine lv_lconst (v := 0) hx hb dX12_image_7 (by decide) ?_
    refine lv_lconst (v := 1) hx hb dX12_image_8 (by decide) ?_
    have hPc := hP.sub (ws' := []) [] rfl
    have hDc := hD.sub (ws' := []) [] (by decide) rfl
    have hKc := hK.sub (tys' := []) [] rfl
    have hFc := va_free (wc := []) hD hS hA [] rfl
    refine va_calli (va_runS (As := [.long 0, .long 0, .long 1]) (rest := []) ⟨hx, hb, hml, hown, hts⟩ (c_X12_in l dC dI 0 0 1 H.size) (va_cwS 3 hts (gi_S (fun w_ h0_ => ⟨List.mem_cons_of_mem _ (List.mem_append_right _ (List.mem_append_right _ (List.mem_append_left _ h0_))), (tb_c_X12_in w_ h0_).2⟩) (List.mem_cons_of_mem _ (List.mem_append_left _ (List.mem_of_getElem? (i := 1) rfl))) (List.mem_cons_of_mem _ (List.mem_append_left _ (List.mem_of_getElem? (i := 2) rfl))) (List.mem_cons_of_mem _ (List.mem_append_left _ (List.mem_of_getElem? (i := 3) rfl)))) rfl rfl rfl (by decide +kernel) ⟨Nat.le_of_ble_eq_true rfl, Nat.le_of_ble_eq_true rfl⟩) ⟨fun a U g mk q => by obtain ⟨q0, q1, qP, qK, qD⟩ := q; exact ⟨q0, q1, qP, va_K.moved (u := U) (U := U.calling g mk a) (Vm.Alike.refl U.vm) qK, qD⟩, fun U hU hW => ⟨rfl, by rw [hU], by rw [hU]; exact hPc, va_K.moved hW.alike hKc, hDc.weaken (fun _ _ _ _ => trivial)⟩⟩ rfl rfl hl.1 rfl (lv_room (Nat.le_of_ble_eq_true rfl)) dX12_image_9 ⟨Nat.le_of_ble_eq_true rfl, Nat.le_of_ble_eq_true rfl⟩) hS (fun q _ h => hFc q h) hFc (fun r_2 u t H1 locs ht hvm hw hB hz1 hk1 hS => ?_)
    obtain ⟨hP1, hK1, hD1⟩ := hB
    rw [ht] at hP1
    have hK1 := va_K.moved hvm.symm hK1
    obtain ⟨hP, hD⟩ := va_join (wr := [(h0, .inr (12, [.int 0, .int 0, .ref mr, .ref mt, .ref mw, .ref mu, .ref mp, .ref mi, .ref mk, .ref ms, .int 0, .ref mv, .int 0, .int 0, .int 0, .int 0, .long 0, .int (-1), .int 0, .ref m1w, .ref m2w, .ref m3w, .ref m4w, .int 0, .long 0, .long 0, .long 0])), (mr, .inl (cm1, 7, .inl (fun _ => 0))), (mw, .inl (cm3, 906, .inr (.inl fw))), (mi, .inl (cm6, 1812, .inr (.inl (fun _ => 0)))), (mk, .inl (cm7, 2, .inl (fun _ => 0)))]) (w1 := []) hP hD [] [0, 1, 2, 3, 4] rfl rfl (by decide) (by decide) hk1 hFc hP1 hD1
    generalize H1 = H at hP hS ⊢
    have hP : va_P (dC, dI) vwCl [(h0, .inr (12, [.int 0, .int 0, .ref mr, .ref mt, .ref mw, .ref mu, .ref mp, .ref mi, .ref mk, .ref ms, .int 0, .ref mv, .int 0, .int 0, .int 0, .int 0, .long 0, .int (-1), .int 0, .ref m1w, .ref m2w, .ref m3w, .ref m4w, .int 0, .long 0, .long 0, .long 0])), (mr, .inl (cm1, 7, .inl (fun _ => 0))), (mw, .inl (cm3, 906, .inr (.inl fw))), (mi, .inl (cm6, 1812, .inr (.inl (fun _ => 0)))), (mk, .inl (cm7, 2, .inl (fun _ => 0)))] H := hP
    have hD : va_D A [(h0, .inr (12, [.int 0, .int 0, .ref mr, .ref mt, .ref mw, .ref mu, .ref mp, .ref mi, .ref mk, .ref ms, .int 0, .ref mv, .int 0, .int 0, .int 0, .int 0, .long 0, .int (-1), .int 0, .ref m1w, .ref m2w, .ref m3w, .ref m4w, .int 0, .long 0, .long 0, .long 0])), (mr, .inl (cm1, 7, .inl (fun _ => 0))), (mw, .inl (cm3, 906, .inr (.inl fw))), (mi, .inl (cm6, 1812, .inr (.inl (fun _ => 0)))), (mk, .inl (cm7, 2, .inl (fun _ => 0)))] := hD
    refine W.widen (k := 0) (n := 0) (Nat.le_of_ble_eq_true rfl) (Nat.le_of_ble_eq_true rfl) ?_
    have hw : r_2 = sp_in 0 0 1 := hw
    subst hw
    refine k_topi (y := 1) (by decide) ?_
    refine lv_if_ne (tgt := 21) hx hb dX12_image_12 (by decide) (fun _ => ?_) (fun c => absurd c (by decide))
    refine lv_iconst (v := 0) hx hb dX12_image_21 (by decide) ?_
    refine lv_istore_n (lv' := [(2, .int 0), (0, .ref h0), (1, .int 0)]) hx hb dX12_image_22 rfl hl (by decide) rfl (fun ls hl => ?_)
    have key : ∀ (nn ii : Nat) (fq : Nat → Int64) (H : Heap) (locs : List Loc) (ls : Array Slot), ii + nn = 906 → va_P (dC, dI) vwCl [(h0, .inr (12, [.int 0, .int 0, .ref mr, .ref mt, .ref mw, .ref mu, .ref mp, .ref mi, .ref mk, .ref ms, .int 0, .ref mv, .int 0, .int 0, .int 0, .int 0, .long 0, .int (-1), .int 0, .ref m1w, .ref m2w, .ref m3w, .ref m4w, .int 0, .long 0, .long 0, .long 0])), (mr, .inl (cm1, 7, .inl (fun _ => 0))), (mw, .inl (cm3, 906, .inr (.inl fw))), (mi, .inl (cm6, 1812, .inr (.inl fq))), (mk, .inl (cm7, 2, .inl (fun _ => 0)))] H → va_D A [(h0, .inr (12, [.int 0, .int 0, .ref mr, .ref mt, .ref mw, .ref mu, .ref mp, .ref mi, .ref mk, .ref ms, .int 0, .ref mv, .int 0, .int 0, .int 0, .int 0, .long 0, .int (-1), .int 0, .ref m1w, .ref m2w, .ref m3w, .ref m4w, .int 0, .long 0, .long 0, .long 0])), (mr, .inl (cm1, 7, .inl (fun _ => 0))), (mw, .inl (cm3, 906, .inr (.inl fw))), (mi, .inl (cm6, 1812, .inr (.inl fq))), (mk, .inl (cm7, 2, .inl (fun _ => 0)))] → va_S A s.heap H locs → lv_has ls 3 [(2, .int (nI ii)), (0, .ref h0), (1, .int 0)] → W p l e (headSpec wq_c_X12_image ({ frames := 1, cells := 0, slots := 0, locals := 25 } : Room)).room s m ([.ref h0, .int 0].toArray) below meth c H locs 0 0 (MQ below (va_Qi (fun (r : Int32) (_ : Unit) => r = sp_one 0 0 1 0) (fun (_ : Unit) t => va_P (dC, dI) vwCl [] t.heap ∧ va_K (dC, dI) vwCl [] t ∧ va_D A []) A) ([.ref h0, .int 0].toArray) s 0 0 A) (F0 m 23 ls []) := by
      intro nn
      induction nn with
      | zero =>
        intro ii fq H locs ls hin hP hD hS hl
        have hiB : ii = 906 := by omega
        refine lv_iload_n hx hb dX12_image_23 rfl (lv_at hl 0 rfl) ?_
        refine lv_sipush (v := 906) hx hb dX12_image_24 (by decide) ?_
        refine lv_icmp_ge (tgt := 54) hx hb dX12_image_27 (by decide) (fun _ => ?_) (fun c => absurd (nI_le (a := 906) (b := ii) (by omega) (by omega)) c)
        refine lv_aload_n hx hb dX12_image_54 rfl (lv_at hl 1 rfl) ?_
        refine va_get (D := (dC, dI)) (ci := 12) (v := .ref mk) (C := RX12) (T := TX12) (N := 27) hx hb hts (fun _ h0_ => List.mem_cons_of_mem _ (List.mem_append_right _ (List.mem_append_left _ h0_))) hown hK hP 0 rfl rfl 8 (by decide) (hts (.fieldLink RX12 29 "DeadlineShareModel" "isKept" "[Z") (List.mem_cons_of_mem _ (List.mem_append_left _ (List.mem_of_getElem? (i := 4) rfl)))) (fun _ h9 => h9) rfl dX12_image_55 ?_
        refine lv_iload_n hx hb dX12_image_58 rfl (lv_at hl 2 rfl) ?_
        refine lv_iconst (v := 1) hx hb dX12_image_59 (by decide) ?_
        refine va_zast hx hb hK hP hD hS 4 3 rfl rfl (by unfold vp_in; decide) dX12_image_60 (fun H locs hP hD hS => ?_)
        have hP : va_P (dC, dI) vwCl [(h0, .inr (12, [.int 0, .int 0, .ref mr, .ref mt, .ref mw, .ref mu, .ref mp, .ref mi, .ref mk, .ref ms, .int 0, .ref mv, .int 0, .int 0, .int 0, .int 0, .long 0, .int (-1), .int 0, .ref m1w, .ref m2w, .ref m3w, .ref m4w, .int 0, .long 0, .long 0, .long 0])), (mr, .inl (cm1, 7, .inl (fun _ => 0))), (mw, .inl (cm3, 906, .inr (.inl fw))), (mi, .inl (cm6, 1812, .inr (.inl fq))), (mk, .inl (cm7, 2, .inl (upd (fun _ => 0) (Int32.toNatClampNeg 0) (vp_nar .boolean 1))))] H := hP
        have hD : va_D A [(h0, .inr (12, [.int 0, .int 0, .ref mr, .ref mt, .ref mw, .ref mu, .ref mp, .ref mi, .ref mk, .ref ms, .int 0, .ref mv, .int 0, .int 0, .int 0, .int 0, .long 0, .int (-1), .int 0, .ref m1w, .ref m2w, .ref m3w, .ref m4w, .int 0, .long 0, .long 0, .long 0])), (mr, .inl (cm1, 7, .inl (fun _ => 0))), (mw, .inl (cm3, 906, .inr (.inl fw))), (mi, .inl (cm6, 1812, .inr (.inl fq))), (mk, .inl (cm7, 2, .inl (upd (fun _ => 0) (Int32.toNatClampNeg 0) (vp_nar .boolean 1))))] := hD
        generalize ef_3 : upd (fun _ => 0) (Int32.toNatClampNeg 0) (vp_nar .boolean 1) = f_3 at hP hD
        refine lv_aload_n hx hb dX12_image_61 rfl (lv_at hl 1 rfl) ?_
        refine lv_aload_n hx hb dX12_image_62 rfl (lv_at hl 1 rfl) ?_
        refine va_get (D := (dC, dI)) (ci := 12) (v := .ref mw) (C := RX12) (T := TX12) (N := 27) hx hb hts (fun _ h0_ => List.mem_cons_of_mem _ (List.mem_append_right _ (List.mem_append_left _ h0_))) hown hK hP 0 rfl rfl 4 (by decide) (hts (.fieldLink RX12 16 "DeadlineShareModel" "row" "[J") (List.mem_cons_of_mem _ (List.mem_append_left _ (List.mem_of_getElem? (i := 5) rfl)))) (fun _ h9 => h9) rfl dX12_image_63 ?_
        refine lv_iconst (v := 1) hx hb dX12_image_66 (by decide) ?_
        refine va_lald hx hb hK hP 2 1 rfl rfl (by unfold vp_in; decide) dX12_image_67 ?_
        refine k_topl (y := 0) ((congrArg fw (show Int32.toNatClampNeg 1 = 1 by decide)).trans hw1) ?_
        refine lv_l2i (v := 0) hx hb dX12_image_68 (by decide) ?_
        have hPc := hP.sub (ws' := [(h0, .inr (12, [.int 0, .int 0, .ref mr, .ref mt, .ref mw, .ref mu, .ref mp, .ref mi, .ref mk, .ref ms, .int 0, .ref mv, .int 0, .int 0, .int 0, .int 0, .long 0, .int (-1), .int 0, .ref m1w, .ref m2w, .ref m3w, .ref m4w, .int 0, .long 0, .long 0, .long 0]))]) [0] rfl
        have hDc := hD.sub (ws' := [(h0, .inr (12, [.int 0, .int 0, .ref mr, .ref mt, .ref mw, .ref mu, .ref mp, .ref mi, .ref mk, .ref ms, .int 0, .ref mv, .int 0, .int 0, .int 0, .int 0, .long 0, .int (-1), .int 0, .ref m1w, .ref m2w, .ref m3w, .ref m4w, .int 0, .long 0, .long 0, .long 0]))]) [0] (by decide) rfl
        have hKc := hK.sub (tys' := []) [] rfl
        have hFc := va_free (wc := [(h0, .inr (12, [.int 0, .int 0, .ref mr, .ref mt, .ref mw, .ref mu, .ref mp, .ref mi, .ref mk, .ref ms, .int 0, .ref mv, .int 0, .int 0, .int 0, .int 0, .long 0, .int (-1), .int 0, .ref m1w, .ref m2w, .ref m3w, .ref m4w, .int 0, .long 0, .long 0, .long 0]))]) hD hS hA [0] rfl
        refine va_calli (va_runV (As := [.int 0]) (rest := []) ⟨hx, hb, hml, hown, hts⟩ (c_X12_tell l dC dI h0 0 0 0 mr mt mw mu mp mi mk ms 0 mv 0 0 0 0 0 (-1) 0 m1w m2w m3w m4w 0 0 0 0 H.size) (cwV 1 hts (gi_V (fun w_ h0_ => ⟨List.mem_cons_of_mem _ (List.mem_append_right _ (List.mem_append_right _ (List.mem_append_right _ (List.mem_append_left _ h0_)))), (tb_c_X12_tell w_ h0_).2⟩) (List.mem_cons_of_mem _ (List.mem_append_left _ (List.mem_of_getElem? (i := 6) rfl))) (List.mem_cons_of_mem _ (List.mem_append_left _ (List.mem_of_getElem? (i := 7) rfl))) (List.mem_cons_of_mem _ (List.mem_append_left _ (List.mem_of_getElem? (i := 8) rfl))) (List.mem_cons_of_mem _ (List.mem_append_left _ (List.mem_of_getElem? (i := 3) rfl)))) rfl rfl rfl (by decide +kernel) ⟨Nat.le_of_ble_eq_true rfl, Nat.le_of_ble_eq_true rfl⟩) ⟨fun a U g mk q => by obtain ⟨q0, q1, qP, qK, qD⟩ := q; exact ⟨q0, q1, qP, va_K.moved (u := U) (U := U.calling g mk a) (Vm.Alike.refl U.vm) qK, qD⟩, va_recv hKc hPc (ci := 12) (q0 := 0) rfl rfl, fun U hU hW => ⟨rfl, by rw [hU], by rw [hU]; exact hPc, va_K.moved hW.alike hKc, hDc.weaken (fun _ _ _ _ => trivial)⟩⟩ rfl rfl hl.1 rfl (lv_room (Nat.le_of_ble_eq_true rfl)) dX12_image_69 ⟨Nat.le_of_ble_eq_true rfl, Nat.le_of_ble_eq_true rfl⟩) hS (fun q _ h => hFc q h) hFc (fun r_4 u t H1 locs ht hvm hw hB hz1 hk1 hS => ?_)
        obtain ⟨hP1, hK1, hD1⟩ := hB
        rw [ht] at hP1
        have hK1 := va_K.moved hvm.symm hK1
        obtain ⟨hP, hD⟩ := va_join (wr := [(mr, .inl (cm1, 7, .inl (fun _ => 0))), (mw, .inl (cm3, 906, .inr (.inl fw))), (mi, .inl (cm6, 1812, .inr (.inl fq))), (mk, .inl (cm7, 2, .inl f_3))]) (w1 := []) hP hD [0] [1, 2, 3, 4] rfl rfl (by decide) (by decide) hk1 hFc hP1 hD1
        generalize H1 = H at hP hS ⊢
        have hP : va_P (dC, dI) vwCl [(mr, .inl (cm1, 7, .inl (fun _ => 0))), (mw, .inl (cm3, 906, .inr (.inl fw))), (mi, .inl (cm6, 1812, .inr (.inl fq))), (mk, .inl (cm7, 2, .inl f_3))] H := hP
        have hD : va_D A [(mr, .inl (cm1, 7, .inl (fun _ => 0))), (mw, .inl (cm3, 906, .inr (.inl fw))), (mi, .inl (cm6, 1812, .inr (.inl fq))), (mk, .inl (cm7, 2, .inl f_3))] := hD
        refine W.widen (k := 0) (n := 0) (Nat.le_of_ble_eq_true rfl) (Nat.le_of_ble_eq_true rfl) ?_
        have hw : r_4 = 0 := hw
        subst hw
        have hP9 := hP.sub (ws' := []) [] rfl
        have hD9 := hD.sub (ws' := []) [] (by decide) rfl
        have hK9 := hK.sub (tys' := []) [] rfl
        refine W.widen (k := 0) (n := 0) (Nat.le_of_ble_eq_true rfl) (Nat.le_of_ble_eq_true rfl) ?_
        exact W.iret (v := 0) hx hb hr (fun t ht hW => ⟨⟨0, (), rfl, (by decide), by rw [ht]; exact hP9, va_K.moved hW.alike hK9, hD9⟩, hS.F ht⟩) hS.2.2 dX12_image_72
      | succ nn ih =>
        intro ii fq H locs ls hin hP hD hS hl
        refine lv_iload_n hx hb dX12_image_23 rfl (lv_at hl 0 rfl) ?_
        refine lv_sipush (v := 906) hx hb dX12_image_24 (by decide) ?_
        refine lv_icmp_ge (tgt := 54) hx hb dX12_image_27 (by decide) (fun c => absurd c (nI_ge (a := ii) (b := 906) (by omega) (by omega))) (fun _ => ?_)
        refine lv_aload_n hx hb dX12_image_30 rfl (lv_at hl 1 rfl) ?_
        refine va_get (D := (dC, dI)) (ci := 12) (v := .ref mi) (C := RX12) (T := TX12) (N := 27) hx hb hts (fun _ h0_ => List.mem_cons_of_mem _ (List.mem_append_right _ (List.mem_append_left _ h0_))) hown hK hP 0 rfl rfl 7 (by decide) (hts (.fieldLink RX12 26 "DeadlineShareModel" "images" "[J") (List.mem_cons_of_mem _ (List.mem_append_left _ (List.mem_of_getElem? (i := 9) rfl)))) (fun _ h9 => h9) rfl dX12_image_31 ?_
        refine lv_sipush (v := 906) hx hb dX12_image_34 (by decide) ?_
        refine lv_iload_n hx hb dX12_image_37 rfl (lv_at hl 2 rfl) ?_
        refine lv_imul hx hb dX12_image_38 ?_
        refine k_topi (y := 0) (by decide) ?_
        refine lv_iload_n hx hb dX12_image_39 rfl (lv_at hl 0 rfl) ?_
        refine lv_iadd hx hb dX12_image_40 ?_
        refine k_topi (y := nI ii) (Int32.zero_add _) ?_
        refine lv_aload_n hx hb dX12_image_41 rfl (lv_at hl 1 rfl) ?_
        refine va_get (D := (dC, dI)) (ci := 12) (v := .ref mw) (C := RX12) (T := TX12) (N := 27) hx hb hts (fun _ h0_ => List.mem_cons_of_mem _ (List.mem_append_right _ (List.mem_append_left _ h0_))) hown hK hP 0 rfl rfl 4 (by decide) (hts (.fieldLink RX12 16 "DeadlineShareModel" "row" "[J") (List.mem_cons_of_mem _ (List.mem_append_left _ (List.mem_of_getElem? (i := 5) rfl)))) (fun _ h9 => h9) rfl dX12_image_42 ?_
        refine lv_iload_n hx hb dX12_image_45 rfl (lv_at hl 0 rfl) ?_
        refine va_lald hx hb hK hP 2 1 rfl rfl (vp_in_nI (by omega) (by omega)) dX12_image_46 ?_
        refine lv_topl (fun v_5 ev_5 => ?_)
        refine va_last hx hb hK hP hD hS 3 2 rfl rfl (vp_in_nI (by omega) (by omega)) dX12_image_47 (fun H locs hP hD hS => ?_)
        have hP : va_P (dC, dI) vwCl [(h0, .inr (12, [.int 0, .int 0, .ref mr, .ref mt, .ref mw, .ref mu, .ref mp, .ref mi, .ref mk, .ref ms, .int 0, .ref mv, .int 0, .int 0, .int 0, .int 0, .long 0, .int (-1), .int 0, .ref m1w, .ref m2w, .ref m3w, .ref m4w, .int 0, .long 0, .long 0, .long 0])), (mr, .inl (cm1, 7, .inl (fun _ => 0))), (mw, .inl (cm3, 906, .inr (.inl fw))), (mi, .inl (cm6, 1812, .inr (.inl (vp_updL fq (Int32.toNatClampNeg (nI ii)) v_5)))), (mk, .inl (cm7, 2, .inl (fun _ => 0)))] H := hP
        have hD : va_D A [(h0, .inr (12, [.int 0, .int 0, .ref mr, .ref mt, .ref mw, .ref mu, .ref mp, .ref mi, .ref mk, .ref ms, .int 0, .ref mv, .int 0, .int 0, .int 0, .int 0, .long 0, .int (-1), .int 0, .ref m1w, .ref m2w, .ref m3w, .ref m4w, .int 0, .long 0, .long 0, .long 0])), (mr, .inl (cm1, 7, .inl (fun _ => 0))), (mw, .inl (cm3, 906, .inr (.inl fw))), (mi, .inl (cm6, 1812, .inr (.inl (vp_updL fq (Int32.toNatClampNeg (nI ii)) v_5)))), (mk, .inl (cm7, 2, .inl (fun _ => 0)))] := hD
        generalize ef_6 : vp_updL fq (Int32.toNatClampNeg (nI ii)) v_5 = f_6 at hP hD
        refine lv_iinc (v := nI (ii + 1)) (lv' := [(2, .int (nI (ii + 1))), (0, .ref h0), (1, .int 0)]) hx hb dX12_image_48 hl (k := 0) rfl (nI_1 _) (by decide) rfl (fun ls hl => ?_)
        refine lv_goto (tgt := 23) hx hb dX12_image_51 (by decide) ?_
        exact ih (ii + 1) f_6 _ _ _ (by omega) (hP.sub [0, 1, 2, 3, 4] rfl) (hD.sub [0, 1, 2, 3, 4] (by decide) rfl) hS (lv_sub hl [0, 1, 2] rfl)
    exact key 906 0 (fun _ => 0) _ _ _ (by omega) hP hD hS (lv_sub hl [0, 1, 2] rfl)
  by_cases h_7 : kk = 1
  · subst h_7
    refine lv_aload_n hx hb dX12_image_0 rfl (lv_at hl 0 rfl) ?_
    refine lv_iconst (v := 0) hx hb dX12_image_1 (by decide) ?_
    refine va_put (D := (dC, dI)) (ci := 12) (v := .int 0) (ty := .int) (C := RX12) (T := TX12) (N := 27) hx hb hts (fun _ h0_ => List.mem_cons_of_mem _ (List.mem_append_right _ (List.mem_append_left _ h0_))) tyX12 tyX12_ok nmX12 hown hK hP hD hS 0 rfl rfl 0 (by decide) (hts (.fieldLink RX12 67 "DeadlineShareModel" "thrown" "I") (List.mem_cons_of_mem _ (List.mem_append_left _ (List.mem_of_getElem? (i := 0) rfl)))) (fun _ h9 => h9) rfl (by decide +kernel) rfl rfl (Nat.le_of_ble_eq_true rfl) dX12_image_2 (fun H locs hP hD hS => ?_)
    have hP : va_P (dC, dI) vwCl [(h0, .inr (12, [.int 0, .int 0, .ref mr, .ref mt, .ref mw, .ref mu, .ref mp, .ref mi, .ref mk, .ref ms, .int 0, .ref mv, .int 0, .int 0, .int 0, .int 0, .long 0, .int (-1), .int 0, .ref m1w, .ref m2w, .ref m3w, .ref m4w, .int 0, .long 0, .long 0, .long 0])), (mr, .inl (cm1, 7, .inl (fun _ => 0))), (mw, .inl (cm3, 906, .inr (.inl fw))), (mi, .inl (cm6, 1812, .inr (.inl (fun _ => 0)))), (mk, .inl (cm7, 2, .inl (fun _ => 0)))] H := hP
    have hD : va_D A [(h0, .inr (12, [.int 0, .int 0, .ref mr, .ref mt, .ref mw, .ref mu, .ref mp, .ref mi, .ref mk, .ref ms, .int 0, .ref mv, .int 0, .int 0, .int 0, .int 0, .long 0, .int (-1), .int 0, .ref m1w, .ref m2w, .ref m3w, .ref m4w, .int 0, .long 0, .long 0, .long 0])), (mr, .inl (cm1, 7, .inl (fun _ => 0))), (mw, .inl (cm3, 906, .inr (.inl fw))), (mi, .inl (cm6, 1812, .inr (.inl (fun _ => 0)))), (mk, .inl (cm7, 2, .inl (fun _ => 0)))] := hD
    refine lv_iload_n hx hb dX12_image_5 rfl (lv_at hl 1 rfl) ?_
    refine lv_i2l (v := 1) hx hb dX12_image_6 (by decide) ?_
    refine lv_lconst (v := 0) hx hb dX12_image_7 (by decide) ?_
    refine lv_lconst (v := 1) hx hb dX12_image_8 (by decide) ?_
    have hPc := hP.sub (ws' := []) [] rfl
    have hDc := hD.sub (ws' := []) [] (by decide) rfl
    have hKc := hK.sub (tys' := []) [] rfl
    have hFc := va_free (wc := []) hD hS hA [] rfl
    refine va_calli (va_runS (As := [.long 1, .long 0, .long 1]) (rest := []) ⟨hx, hb, hml, hown, hts⟩ (c_X12_in l dC dI 1 0 1 H.size) (va_cwS 3 hts (gi_S (fun w_ h0_ => ⟨List.mem_cons_of_mem _ (List.mem_append_right _ (List.mem_append_right _ (List.mem_append_left _ h0_))), (tb_c_X12_in w_ h0_).2⟩) (List.mem_cons_of_mem _ (List.mem_append_left _ (List.mem_of_getElem? (i := 1) rfl))) (List.mem_cons_of_mem _ (List.mem_append_left _ (List.mem_of_getElem? (i := 2) rfl))) (List.mem_cons_of_mem _ (List.mem_append_left _ (List.mem_of_getElem? (i := 3) rfl)))) rfl rfl rfl (by decide +kernel) ⟨Nat.le_of_ble_eq_true rfl, Nat.le_of_ble_eq_true rfl⟩) ⟨fun a U g mk q => by obtain ⟨q0, q1, qP, qK, qD⟩ := q; exact ⟨q0, q1, qP, va_K.moved (u := U) (U := U.calling g mk a) (Vm.Alike.refl U.vm) qK, qD⟩, fun U hU hW => ⟨rfl, by rw [hU], by rw [hU]; exact hPc, va_K.moved hW.alike hKc, hDc.weaken (fun _ _ _ _ => trivial)⟩⟩ rfl rfl hl.1 rfl (lv_room (Nat.le_of_ble_eq_true rfl)) dX12_image_9 ⟨Nat.le_of_ble_eq_true rfl, Nat.le_of_ble_eq_true rfl⟩) hS (fun q _ h => hFc q h) hFc (fun r_8 u t H1 locs ht hvm hw hB hz1 hk1 hS => ?_)
    obtain ⟨hP1, hK1, hD1⟩ := hB
    rw [ht] at hP1
    have hK1 := va_K.moved hvm.symm hK1
    obtain ⟨hP, hD⟩ := va_join (wr := [(h0, .inr (12, [.int 0, .int 0, .ref mr, .ref mt, .ref mw, .ref mu, .ref mp, .ref mi, .ref mk, .ref ms, .int 0, .ref mv, .int 0, .int 0, .int 0, .int 0, .long 0, .int (-1), .int 0, .ref m1w, .ref m2w, .ref m3w, .ref m4w, .int 0, .long 0, .long 0, .long 0])), (mr, .inl (cm1, 7, .inl (fun _ => 0))), (mw, .inl (cm3, 906, .inr (.inl fw))), (mi, .inl (cm6, 1812, .inr (.inl (fun _ => 0)))), (mk, .inl (cm7, 2, .inl (fun _ => 0)))]) (w1 := []) hP hD [] [0, 1, 2, 3, 4] rfl rfl (by decide) (by decide) hk1 hFc hP1 hD1
    generalize H1 = H at hP hS ⊢
    have hP : va_P (dC, dI) vwCl [(h0, .inr (12, [.int 0, .int 0, .ref mr, .ref mt, .ref mw, .ref mu, .ref mp, .ref mi, .ref mk, .ref ms, .int 0, .ref mv, .int 0, .int 0, .int 0, .int 0, .long 0, .int (-1), .int 0, .ref m1w, .ref m2w, .ref m3w, .ref m4w, .int 0, .long 0, .long 0, .long 0])), (mr, .inl (cm1, 7, .inl (fun _ => 0))), (mw, .inl (cm3, 906, .inr (.inl fw))), (mi, .inl (cm6, 1812, .inr (.inl (fun _ => 0)))), (mk, .inl (cm7, 2, .inl (fun _ => 0)))] H := hP
    have hD : va_D A [(h0, .inr (12, [.int 0, .int 0, .ref mr, .ref mt, .ref mw, .ref mu, .ref mp, .ref mi, .ref mk, .ref ms, .int 0, .ref mv, .int 0, .int 0, .int 0, .int 0, .long 0, .int (-1), .int 0, .ref m1w, .ref m2w, .ref m3w, .ref m4w, .int 0, .long 0, .long 0, .long 0])), (mr, .inl (cm1, 7, .inl (fun _ => 0))), (mw, .inl (cm3, 906, .inr (.inl fw))), (mi, .inl (cm6, 1812, .inr (.inl (fun _ => 0)))), (mk, .inl (cm7, 2, .inl (fun _ => 0)))] := hD
    refine W.widen (k := 0) (n := 0) (Nat.le_of_ble_eq_true rfl) (Nat.le_of_ble_eq_true rfl) ?_
    have hw : r_8 = sp_in 1 0 1 := hw
    subst hw
    refine k_topi (y := 1) (by decide) ?_
    refine lv_if_ne (tgt := 21) hx hb dX12_image_12 (by decide) (fun _ => ?_) (fun c => absurd c (by decide))
    refine lv_iconst (v := 0) hx hb dX12_image_21 (by decide) ?_
    refine lv_istore_n (lv' := [(2, .int 0), (0, .ref h0), (1, .int 1)]) hx hb dX12_image_22 rfl hl (by decide) rfl (fun ls hl => ?_)
    have key : ∀ (nn ii : Nat) (fq : Nat → Int64) (H : Heap) (locs : List Loc) (ls : Array Slot), ii + nn = 906 → va_P (dC, dI) vwCl [(h0, .inr (12, [.int 0, .int 0, .ref mr, .ref mt, .ref mw, .ref mu, .ref mp, .ref mi, .ref mk, .ref ms, .int 0, .ref mv, .int 0, .int 0, .int 0, .int 0, .long 0, .int (-1), .int 0, .ref m1w, .ref m2w, .ref m3w, .ref m4w, .int 0, .long 0, .long 0, .long 0])), (mr, .inl (cm1, 7, .inl (fun _ => 0))), (mw, .inl (cm3, 906, .inr (.inl fw))), (mi, .inl (cm6, 1812, .inr (.inl fq))), (mk, .inl (cm7, 2, .inl (fun _ => 0)))] H → va_D A [(h0, .inr (12, [.int 0, .int 0, .ref mr, .ref mt, .ref mw, .ref mu, .ref mp, .ref mi, .ref mk, .ref ms, .int 0, .ref mv, .int 0, .int 0, .int 0, .int 0, .long 0, .int (-1), .int 0, .ref m1w, .ref m2w, .ref m3w, .ref m4w, .int 0, .long 0, .long 0, .long 0])), (mr, .inl (cm1, 7, .inl (fun _ => 0))), (mw, .inl (cm3, 906, .inr (.inl fw))), (mi, .inl (cm6, 1812, .inr (.inl fq))), (mk, .inl (cm7, 2, .inl (fun _ => 0)))] → va_S A s.heap H locs → lv_has ls 3 [(2, .int (nI ii)), (0, .ref h0), (1, .int 1)] → W p l e (headSpec wq_c_X12_image ({ frames := 1, cells := 0, slots := 0, locals := 25 } : Room)).room s m ([.ref h0, .int 1].toArray) below meth c H locs 0 0 (MQ below (va_Qi (fun (r : Int32) (_ : Unit) => r = sp_one 1 0 1 0) (fun (_ : Unit) t => va_P (dC, dI) vwCl [] t.heap ∧ va_K (dC, dI) vwCl [] t ∧ va_D A []) A) ([.ref h0, .int 1].toArray) s 0 0 A) (F0 m 23 ls []) := by
      intro nn
      induction nn with
      | zero =>
        intro ii fq H locs ls hin hP hD hS hl
        have hiB : ii = 906 := by omega
        refine lv_iload_n hx hb dX12_image_23 rfl (lv_at hl 0 rfl) ?_
        refine lv_sipush (v := 906) hx hb dX12_image_24 (by decide) ?_
        refine lv_icmp_ge (tgt := 54) hx hb dX12_image_27 (by decide) (fun _ => ?_) (fun c => absurd (nI_le (a := 906) (b := ii) (by omega) (by omega)) c)
        refine lv_aload_n hx hb dX12_image_54 rfl (lv_at hl 1 rfl) ?_
        refine va_get (D := (dC, dI)) (ci := 12) (v := .ref mk) (C := RX12) (T := TX12) (N := 27) hx hb hts (fun _ h0_ => List.mem_cons_of_mem _ (List.mem_append_right _ (List.mem_append_left _ h0_))) hown hK hP 0 rfl rfl 8 (by decide) (hts (.fieldLink RX12 29 "DeadlineShareModel" "isKept" "[Z") (List.mem_cons_of_mem _ (List.mem_append_left _ (List.mem_of_getElem? (i := 4) rfl)))) (fun _ h9 => h9) rfl dX12_image_55 ?_
        refine lv_iload_n hx hb dX12_image_58 rfl (lv_at hl 2 rfl) ?_
        refine lv_iconst (v := 1) hx hb dX12_image_59 (by decide) ?_
        refine va_zast hx hb hK hP hD hS 4 3 rfl rfl (by unfold vp_in; decide) dX12_image_60 (fun H locs hP hD hS => ?_)
        have hP : va_P (dC, dI) vwCl [(h0, .inr (12, [.int 0, .int 0, .ref mr, .ref mt, .ref mw, .ref mu, .ref mp, .ref mi, .ref mk, .ref ms, .int 0, .ref mv, .int 0, .int 0, .int 0, .int 0, .long 0, .int (-1), .int 0, .ref m1w, .ref m2w, .ref m3w, .ref m4w, .int 0, .long 0, .long 0, .long 0])), (mr, .inl (cm1, 7, .inl (fun _ => 0))), (mw, .inl (cm3, 906, .inr (.inl fw))), (mi, .inl (cm6, 1812, .inr (.inl fq))), (mk, .inl (cm7, 2, .inl (upd (fun _ => 0) (Int32.toNatClampNeg 1) (vp_nar .boolean 1))))] H := hP
        have hD : va_D A [(h0, .inr (12, [.int 0, .int 0, .ref mr, .ref mt, .ref mw, .ref mu, .ref mp, .ref mi, .ref mk, .ref ms, .int 0, .ref mv, .int 0, .int 0, .int 0, .int 0, .long 0, .int (-1), .int 0, .ref m1w, .ref m2w, .ref m3w, .ref m4w, .int 0, .long 0, .long 0, .long 0])), (mr, .inl (cm1, 7, .inl (fun _ => 0))), (mw, .inl (cm3, 906, .inr (.inl fw))), (mi, .inl (cm6, 1812, .inr (.inl fq))), (mk, .inl (cm7, 2, .inl (upd (fun _ => 0) (Int32.toNatClampNeg 1) (vp_nar .boolean 1))))] := hD
        generalize ef_9 : upd (fun _ => 0) (Int32.toNatClampNeg 1) (vp_nar .boolean 1) = f_9 at hP hD
        refine lv_aload_n hx hb dX12_image_61 rfl (lv_at hl 1 rfl) ?_
        refine lv_aload_n hx hb dX12_image_62 rfl (lv_at hl 1 rfl) ?_
        refine va_get (D := (dC, dI)) (ci := 12) (v := .ref mw) (C := RX12) (T := TX12) (N := 27) hx hb hts (fun _ h0_ => List.mem_cons_of_mem _ (List.mem_append_right _ (List.mem_append_left _ h0_))) hown hK hP 0 rfl rfl 4 (by decide) (hts (.fieldLink RX12 16 "DeadlineShareModel" "row" "[J") (List.mem_cons_of_mem _ (List.mem_append_left _ (List.mem_of_getElem? (i := 5) rfl)))) (fun _ h9 => h9) rfl dX12_image_63 ?_
        refine lv_iconst (v := 1) hx hb dX12_image_66 (by decide) ?_
        refine va_lald hx hb hK hP 2 1 rfl rfl (by unfold vp_in; decide) dX12_image_67 ?_
        refine k_topl (y := 0) ((congrArg fw (show Int32.toNatClampNeg 1 = 1 by decide)).trans hw1) ?_
        refine lv_l2i (v := 0) hx hb dX12_image_68 (by decide) ?_
        have hPc := hP.sub (ws' := [(h0, .inr (12, [.int 0, .int 0, .ref mr, .ref mt, .ref mw, .ref mu, .ref mp, .ref mi, .ref mk, .ref ms, .int 0, .ref mv, .int 0, .int 0, .int 0, .int 0, .long 0, .int (-1), .int 0, .ref m1w, .ref m2w, .ref m3w, .ref m4w, .int 0, .long 0, .long 0, .long 0]))]) [0] rfl
        have hDc := hD.sub (ws' := [(h0, .inr (12, [.int 0, .int 0, .ref mr, .ref mt, .ref mw, .ref mu, .ref mp, .ref mi, .ref mk, .ref ms, .int 0, .ref mv, .int 0, .int 0, .int 0, .int 0, .long 0, .int (-1), .int 0, .ref m1w, .ref m2w, .ref m3w, .ref m4w, .int 0, .long 0, .long 0, .long 0]))]) [0] (by decide) rfl
        have hKc := hK.sub (tys' := []) [] rfl
        have hFc := va_free (wc := [(h0, .inr (12, [.int 0, .int 0, .ref mr, .ref mt, .ref mw, .ref mu, .ref mp, .ref mi, .ref mk, .ref ms, .int 0, .ref mv, .int 0, .int 0, .int 0, .int 0, .long 0, .int (-1), .int 0, .ref m1w, .ref m2w, .ref m3w, .ref m4w, .int 0, .long 0, .long 0, .long 0]))]) hD hS hA [0] rfl
        refine va_calli (va_runV (As := [.int 0]) (rest := []) ⟨hx, hb, hml, hown, hts⟩ (c_X12_tell l dC dI h0 0 0 0 mr mt mw mu mp mi mk ms 0 mv 0 0 0 0 0 (-1) 0 m1w m2w m3w m4w 0 0 0 0 H.size) (cwV 1 hts (gi_V (fun w_ h0_ => ⟨List.mem_cons_of_mem _ (List.mem_append_right _ (List.mem_append_right _ (List.mem_append_right _ (List.mem_append_left _ h0_)))), (tb_c_X12_tell w_ h0_).2⟩) (List.mem_cons_of_mem _ (List.mem_append_left _ (List.mem_of_getElem? (i := 6) rfl))) (List.mem_cons_of_mem _ (List.mem_append_left _ (List.mem_of_getElem? (i := 7) rfl))) (List.mem_cons_of_mem _ (List.mem_append_left _ (List.mem_of_getElem? (i := 8) rfl))) (List.mem_cons_of_mem _ (List.mem_append_left _ (List.mem_of_getElem? (i := 3) rfl)))) rfl rfl rfl (by decide +kernel) ⟨Nat.le_of_ble_eq_true rfl, Nat.le_of_ble_eq_true rfl⟩) ⟨fun a U g mk q => by obtain ⟨q0, q1, qP, qK, qD⟩ := q; exact ⟨q0, q1, qP, va_K.moved (u := U) (U := U.calling g mk a) (Vm.Alike.refl U.vm) qK, qD⟩, va_recv hKc hPc (ci := 12) (q0 := 0) rfl rfl, fun U hU hW => ⟨rfl, by rw [hU], by rw [hU]; exact hPc, va_K.moved hW.alike hKc, hDc.weaken (fun _ _ _ _ => trivial)⟩⟩ rfl rfl hl.1 rfl (lv_room (Nat.le_of_ble_eq_true rfl)) dX12_image_69 ⟨Nat.le_of_ble_eq_true rfl, Nat.le_of_ble_eq_true rfl⟩) hS (fun q _ h => hFc q h) hFc (fun r_10 u t H1 locs ht hvm hw hB hz1 hk1 hS => ?_)
        obtain ⟨hP1, hK1, hD1⟩ := hB
        rw [ht] at hP1
        have hK1 := va_K.moved hvm.symm hK1
        obtain ⟨hP, hD⟩ := va_join (wr := [(mr, .inl (cm1, 7, .inl (fun _ => 0))), (mw, .inl (cm3, 906, .inr (.inl fw))), (mi, .inl (cm6, 1812, .inr (.inl fq))), (mk, .inl (cm7, 2, .inl f_9))]) (w1 := []) hP hD [0] [1, 2, 3, 4] rfl rfl (by decide) (by decide) hk1 hFc hP1 hD1
        generalize H1 = H at hP hS ⊢
        have hP : va_P (dC, dI) vwCl [(mr, .inl (cm1, 7, .inl (fun _ => 0))), (mw, .inl (cm3, 906, .inr (.inl fw))), (mi, .inl (cm6, 1812, .inr (.inl fq))), (mk, .inl (cm7, 2, .inl f_9))] H := hP
        have hD : va_D A [(mr, .inl (cm1, 7, .inl (fun _ => 0))), (mw, .inl (cm3, 906, .inr (.inl fw))), (mi, .inl (cm6, 1812, .inr (.inl fq))), (mk, .inl (cm7, 2, .inl f_9))] := hD
        refine W.widen (k := 0) (n := 0) (Nat.le_of_ble_eq_true rfl) (Nat.le_of_ble_eq_true rfl) ?_
        have hw : r_10 = 0 := hw
        subst hw
        have hP9 := hP.sub (ws' := []) [] rfl
        have hD9 := hD.sub (ws' := []) [] (by decide) rfl
        have hK9 := hK.sub (tys' := []) [] rfl
        refine W.widen (k := 0) (n := 0) (Nat.le_of_ble_eq_true rfl) (Nat.le_of_ble_eq_true rfl) ?_
        exact W.iret (v := 0) hx hb hr (fun t ht hW => ⟨⟨0, (), rfl, (by decide), by rw [ht]; exact hP9, va_K.moved hW.alike hK9, hD9⟩, hS.F ht⟩) hS.2.2 dX12_image_72
      | succ nn ih =>
        intro ii fq H locs ls hin hP hD hS hl
        refine lv_iload_n hx hb dX12_image_23 rfl (lv_at hl 0 rfl) ?_
        refine lv_sipush (v := 906) hx hb dX12_image_24 (by decide) ?_
        refine lv_icmp_ge (tgt := 54) hx hb dX12_image_27 (by decide) (fun c => absurd c (nI_ge (a := ii) (b := 906) (by omega) (by omega))) (fun _ => ?_)
        refine lv_aload_n hx hb dX12_image_30 rfl (lv_at hl 1 rfl) ?_
        refine va_get (D := (dC, dI)) (ci := 12) (v := .ref mi) (C := RX12) (T := TX12) (N := 27) hx hb hts (fun _ h0_ => List.mem_cons_of_mem _ (List.mem_append_right _ (List.mem_append_left _ h0_))) hown hK hP 0 rfl rfl 7 (by decide) (hts (.fieldLink RX12 26 "DeadlineShareModel" "images" "[J") (List.mem_cons_of_mem _ (List.mem_append_left _ (List.mem_of_getElem? (i := 9) rfl)))) (fun _ h9 => h9) rfl dX12_image_31 ?_
        refine lv_sipush (v := 906) hx hb dX12_image_34 (by decide) ?_
        refine lv_iload_n hx hb dX12_image_37 rfl (lv_at hl 2 rfl) ?_
        refine lv_imul hx hb dX12_image_38 ?_
        refine k_topi (y := 906) (by decide) ?_
        refine lv_iload_n hx hb dX12_image_39 rfl (lv_at hl 0 rfl) ?_
        refine lv_iadd hx hb dX12_image_40 ?_
        refine k_topi (y := nI (906 + ii)) ((nI_add 906 ii).trans (congrArg nI (by omega))) ?_
        refine lv_aload_n hx hb dX12_image_41 rfl (lv_at hl 1 rfl) ?_
        refine va_get (D := (dC, dI)) (ci := 12) (v := .ref mw) (C := RX12) (T := TX12) (N := 27) hx hb hts (fun _ h0_ => List.mem_cons_of_mem _ (List.mem_append_right _ (List.mem_append_left _ h0_))) hown hK hP 0 rfl rfl 4 (by decide) (hts (.fieldLink RX12 16 "DeadlineShareModel" "row" "[J") (List.mem_cons_of_mem _ (List.mem_append_left _ (List.mem_of_getElem? (i := 5) rfl)))) (fun _ h9 => h9) rfl dX12_image_42 ?_
        refine lv_iload_n hx hb dX12_image_45 rfl (lv_at hl 0 rfl) ?_
        refine va_lald hx hb hK hP 2 1 rfl rfl (vp_in_nI (by omega) (by omega)) dX12_image_46 ?_
        refine lv_topl (fun v_11 ev_11 => ?_)
        refine va_last hx hb hK hP hD hS 3 2 rfl rfl (vp_in_nI (by omega) (by omega)) dX12_image_47 (fun H locs hP hD hS => ?_)
        have hP : va_P (dC, dI) vwCl [(h0, .inr (12, [.int 0, .int 0, .ref mr, .ref mt, .ref mw, .ref mu, .ref mp, .ref mi, .ref mk, .ref ms, .int 0, .ref mv, .int 0, .int 0, .int 0, .int 0, .long 0, .int (-1), .int 0, .ref m1w, .ref m2w, .ref m3w, .ref m4w, .int 0, .long 0, .long 0, .long 0])), (mr, .inl (cm1, 7, .inl (fun _ => 0))), (mw, .inl (cm3, 906, .inr (.inl fw))), (mi, .inl (cm6, 1812, .inr (.inl (vp_updL fq (Int32.toNatClampNeg (nI (906 + ii))) v_11)))), (mk, .inl (cm7, 2, .inl (fun _ => 0)))] H := hP
        have hD : va_D A [(h0, .inr (12, [.int 0, .int 0, .ref mr, .ref mt, .ref mw, .ref mu, .ref mp, .ref mi, .ref mk, .ref ms, .int 0, .ref mv, .int 0, .int 0, .int 0, .int 0, .long 0, .int (-1), .int 0, .ref m1w, .ref m2w, .ref m3w, .ref m4w, .int 0, .long 0, .long 0, .long 0])), (mr, .inl (cm1, 7, .inl (fun _ => 0))), (mw, .inl (cm3, 906, .inr (.inl fw))), (mi, .inl (cm6, 1812, .inr (.inl (vp_updL fq (Int32.toNatClampNeg (nI (906 + ii))) v_11)))), (mk, .inl (cm7, 2, .inl (fun _ => 0)))] := hD
        generalize ef_12 : vp_updL fq (Int32.toNatClampNeg (nI (906 + ii))) v_11 = f_12 at hP hD
        refine lv_iinc (v := nI (ii + 1)) (lv' := [(2, .int (nI (ii + 1))), (0, .ref h0), (1, .int 1)]) hx hb dX12_image_48 hl (k := 0) rfl (nI_1 _) (by decide) rfl (fun ls hl => ?_)
        refine lv_goto (tgt := 23) hx hb dX12_image_51 (by decide) ?_
        exact ih (ii + 1) f_12 _ _ _ (by omega) (hP.sub [0, 1, 2, 3, 4] rfl) (hD.sub [0, 1, 2, 3, 4] (by decide) rfl) hS (lv_sub hl [0, 1, 2] rfl)
    exact key 906 0 (fun _ => 0) _ _ _ (by omega) hP hD hS (lv_sub hl [0, 1, 2] rfl)
  refine lv_aload_n hx hb dX12_image_0 rfl (lv_at hl 0 rfl) ?_
  refine lv_iconst (v := 0) hx hb dX12_image_1 (by decide) ?_
  refine va_put (D := (dC, dI)) (ci := 12) (v := .int 0) (ty := .int) (C := RX12) (T := TX12) (N := 27) hx hb hts (fun _ h0_ => List.mem_cons_of_mem _ (List.mem_append_right _ (List.mem_append_left _ h0_))) tyX12 tyX12_ok nmX12 hown hK hP hD hS 0 rfl rfl 0 (by decide) (hts (.fieldLink RX12 67 "DeadlineShareModel" "thrown" "I") (List.mem_cons_of_mem _ (List.mem_append_left _ (List.mem_of_getElem? (i := 0) rfl)))) (fun _ h9 => h9) rfl (by decide +kernel) rfl rfl (Nat.le_of_ble_eq_true rfl) dX12_image_2 (fun H locs hP hD hS => ?_)
  have hP : va_P (dC, dI) vwCl [(h0, .inr (12, [.int 0, .int 0, .ref mr, .ref mt, .ref mw, .ref mu, .ref mp, .ref mi, .ref mk, .ref ms, .int 0, .ref mv, .int 0, .int 0, .int 0, .int 0, .long 0, .int (-1), .int 0, .ref m1w, .ref m2w, .ref m3w, .ref m4w, .int 0, .long 0, .long 0, .long 0])), (mr, .inl (cm1, 7, .inl (fun _ => 0))), (mw, .inl (cm3, 906, .inr (.inl fw))), (mi, .inl (cm6, 1812, .inr (.inl (fun _ => 0)))), (mk, .inl (cm7, 2, .inl (fun _ => 0)))] H := hP
  have hD : va_D A [(h0, .inr (12, [.int 0, .int 0, .ref mr, .ref mt, .ref mw, .ref mu, .ref mp, .ref mi, .ref mk, .ref ms, .int 0, .ref mv, .int 0, .int 0, .int 0, .int 0, .long 0, .int (-1), .int 0, .ref m1w, .ref m2w, .ref m3w, .ref m4w, .int 0, .long 0, .long 0, .long 0])), (mr, .inl (cm1, 7, .inl (fun _ => 0))), (mw, .inl (cm3, 906, .inr (.inl fw))), (mi, .inl (cm6, 1812, .inr (.inl (fun _ => 0)))), (mk, .inl (cm7, 2, .inl (fun _ => 0)))] := hD
  refine lv_iload_n hx hb dX12_image_5 rfl (lv_at hl 1 rfl) ?_
  refine lv_i2l (v := kk.toInt64) hx hb dX12_image_6 rfl ?_
  refine lv_lconst (v := 0) hx hb dX12_image_7 (by decide) ?_
  refine lv_lconst (v := 1) hx hb dX12_image_8 (by decide) ?_
  have hPc := hP.sub (ws' := []) [] rfl
  have hDc := hD.sub (ws' := []) [] (by decide) rfl
  have hKc := hK.sub (tys' := []) [] rfl
  have hFc := va_free (wc := []) hD hS hA [] rfl
  refine va_calli (va_runS (As := [.long kk.toInt64, .long 0, .long 1]) (rest := []) ⟨hx, hb, hml, hown, hts⟩ (c_X12_in l dC dI kk.toInt64 0 1 H.size) (va_cwS 3 hts (gi_S (fun w_ h0_ => ⟨List.mem_cons_of_mem _ (List.mem_append_right _ (List.mem_append_right _ (List.mem_append_left _ h0_))), (tb_c_X12_in w_ h0_).2⟩) (List.mem_cons_of_mem _ (List.mem_append_left _ (List.mem_of_getElem? (i := 1) rfl))) (List.mem_cons_of_mem _ (List.mem_append_left _ (List.mem_of_getElem? (i := 2) rfl))) (List.mem_cons_of_mem _ (List.mem_append_left _ (List.mem_of_getElem? (i := 3) rfl)))) rfl rfl rfl (by decide +kernel) ⟨Nat.le_of_ble_eq_true rfl, Nat.le_of_ble_eq_true rfl⟩) ⟨fun a U g mk q => by obtain ⟨q0, q1, qP, qK, qD⟩ := q; exact ⟨q0, q1, qP, va_K.moved (u := U) (U := U.calling g mk a) (Vm.Alike.refl U.vm) qK, qD⟩, fun U hU hW => ⟨rfl, by rw [hU], by rw [hU]; exact hPc, va_K.moved hW.alike hKc, hDc.weaken (fun _ _ _ _ => trivial)⟩⟩ rfl rfl hl.1 rfl (lv_room (Nat.le_of_ble_eq_true rfl)) dX12_image_9 ⟨Nat.le_of_ble_eq_true rfl, Nat.le_of_ble_eq_true rfl⟩) hS (fun q _ h => hFc q h) hFc (fun r_13 u t H1 locs ht hvm hw hB hz1 hk1 hS => ?_)
  obtain ⟨hP1, hK1, hD1⟩ := hB
  rw [ht] at hP1
  have hK1 := va_K.moved hvm.symm hK1
  obtain ⟨hP, hD⟩ := va_join (wr := [(h0, .inr (12, [.int 0, .int 0, .ref mr, .ref mt, .ref mw, .ref mu, .ref mp, .ref mi, .ref mk, .ref ms, .int 0, .ref mv, .int 0, .int 0, .int 0, .int 0, .long 0, .int (-1), .int 0, .ref m1w, .ref m2w, .ref m3w, .ref m4w, .int 0, .long 0, .long 0, .long 0])), (mr, .inl (cm1, 7, .inl (fun _ => 0))), (mw, .inl (cm3, 906, .inr (.inl fw))), (mi, .inl (cm6, 1812, .inr (.inl (fun _ => 0)))), (mk, .inl (cm7, 2, .inl (fun _ => 0)))]) (w1 := []) hP hD [] [0, 1, 2, 3, 4] rfl rfl (by decide) (by decide) hk1 hFc hP1 hD1
  generalize H1 = H at hP hS ⊢
  have hP : va_P (dC, dI) vwCl [(h0, .inr (12, [.int 0, .int 0, .ref mr, .ref mt, .ref mw, .ref mu, .ref mp, .ref mi, .ref mk, .ref ms, .int 0, .ref mv, .int 0, .int 0, .int 0, .int 0, .long 0, .int (-1), .int 0, .ref m1w, .ref m2w, .ref m3w, .ref m4w, .int 0, .long 0, .long 0, .long 0])), (mr, .inl (cm1, 7, .inl (fun _ => 0))), (mw, .inl (cm3, 906, .inr (.inl fw))), (mi, .inl (cm6, 1812, .inr (.inl (fun _ => 0)))), (mk, .inl (cm7, 2, .inl (fun _ => 0)))] H := hP
  have hD : va_D A [(h0, .inr (12, [.int 0, .int 0, .ref mr, .ref mt, .ref mw, .ref mu, .ref mp, .ref mi, .ref mk, .ref ms, .int 0, .ref mv, .int 0, .int 0, .int 0, .int 0, .long 0, .int (-1), .int 0, .ref m1w, .ref m2w, .ref m3w, .ref m4w, .int 0, .long 0, .long 0, .long 0])), (mr, .inl (cm1, 7, .inl (fun _ => 0))), (mw, .inl (cm3, 906, .inr (.inl fw))), (mi, .inl (cm6, 1812, .inr (.inl (fun _ => 0)))), (mk, .inl (cm7, 2, .inl (fun _ => 0)))] := hD
  refine W.widen (k := 0) (n := 0) (Nat.le_of_ble_eq_true rfl) (Nat.le_of_ble_eq_true rfl) ?_
  have hw : r_13 = sp_in kk.toInt64 0 1 := hw
  subst hw
  refine k_topi (y := sp_r kk 0 1) (sp_in_r _ _ _ (by decide) (by decide)) ?_
  refine lv_if_ne (tgt := 21) hx hb dX12_image_12 (by decide) (fun c => absurd c (Classical.not_not.mpr ((sp_r0 _ _ _).mpr (by have nh_1 := lv_neT (a := 0) h_1 (by decide); have nh_7 := lv_neT (a := 1) h_7 (by decide); skip; omega)))) (fun _ => ?_)
  refine lv_aload_n hx hb dX12_image_15 rfl (lv_at hl 0 rfl) ?_
  refine lv_iconst (v := (-1)) hx hb dX12_image_16 (by decide) ?_
  have hPc := hP.sub (ws' := [(h0, .inr (12, [.int 0, .int 0, .ref mr, .ref mt, .ref mw, .ref mu, .ref mp, .ref mi, .ref mk, .ref ms, .int 0, .ref mv, .int 0, .int 0, .int 0, .int 0, .long 0, .int (-1), .int 0, .ref m1w, .ref m2w, .ref m3w, .ref m4w, .int 0, .long 0, .long 0, .long 0])), (mr, .inl (cm1, 7, .inl (fun _ => 0)))]) [0, 1] rfl
  have hDc := hD.sub (ws' := [(h0, .inr (12, [.int 0, .int 0, .ref mr, .ref mt, .ref mw, .ref mu, .ref mp, .ref mi, .ref mk, .ref ms, .int 0, .ref mv, .int 0, .int 0, .int 0, .int 0, .long 0, .int (-1), .int 0, .ref m1w, .ref m2w, .ref m3w, .ref m4w, .int 0, .long 0, .long 0, .long 0])), (mr, .inl (cm1, 7, .inl (fun _ => 0)))]) [0, 1] (by decide) rfl
  have hKc := hK.sub (tys' := [(cm1, .int)]) [0] rfl
  have hFc := va_free (wc := [(h0, .inr (12, [.int 0, .int 0, .ref mr, .ref mt, .ref mw, .ref mu, .ref mp, .ref mi, .ref mk, .ref ms, .int 0, .ref mv, .int 0, .int 0, .int 0, .int 0, .long 0, .int (-1), .int 0, .ref m1w, .ref m2w, .ref m3w, .ref m4w, .int 0, .long 0, .long 0, .long 0])), (mr, .inl (cm1, 7, .inl (fun _ => 0)))]) hD hS hA [0, 1] rfl
  refine va_calli (va_runV (As := [.int (-1)]) (rest := []) ⟨hx, hb, hml, hown, hts⟩ (c_X12_refuse_1 l dC dI h0 mr mt mw mu mp mi mk ms mv m1w m2w m3w m4w cm1 H.size) (cwV 1 hts (gi_V (fun w_ h0_ => ⟨List.mem_cons_of_mem _ (List.mem_append_right _ (List.mem_append_right _ (List.mem_append_right _ (List.mem_append_right _ (List.mem_append_left _ h0_))))), (tb_c_X12_refuse_1 w_ h0_).2⟩) (List.mem_cons_of_mem _ (List.mem_append_left _ (List.mem_of_getElem? (i := 10) rfl))) (List.mem_cons_of_mem _ (List.mem_append_left _ (List.mem_of_getElem? (i := 11) rfl))) (List.mem_cons_of_mem _ (List.mem_append_left _ (List.mem_of_getElem? (i := 12) rfl))) (List.mem_cons_of_mem _ (List.mem_append_left _ (List.mem_of_getElem? (i := 3) rfl)))) rfl rfl rfl (by decide +kernel) ⟨Nat.le_of_ble_eq_true rfl, Nat.le_of_ble_eq_true rfl⟩) ⟨fun a U g mk q => by obtain ⟨q0, q1, qP, qK, qD⟩ := q; exact ⟨q0, q1, qP, va_K.moved (u := U) (U := U.calling g mk a) (Vm.Alike.refl U.vm) qK, qD⟩, va_recv hKc hPc (ci := 12) (q0 := 0) rfl rfl, fun U hU hW => ⟨rfl, by rw [hU], by rw [hU]; exact hPc, va_K.moved hW.alike hKc, hDc.weaken (fun _ _ _ _ => trivial)⟩⟩ rfl rfl hl.1 rfl (lv_room (Nat.le_of_ble_eq_true rfl)) dX12_image_17 ⟨Nat.le_of_ble_eq_true rfl, Nat.le_of_ble_eq_true rfl⟩) hS (fun q _ h => hFc q h) hFc (fun r_14 u t H1 locs ht hvm hw hB hz1 hk1 hS => ?_)
  obtain ⟨hP1, hK1, hD1⟩ := hB
  rw [ht] at hP1
  have hK1 := va_K.moved hvm.symm hK1
  obtain ⟨hP, hD⟩ := va_join (wr := [(mw, .inl (cm3, 906, .inr (.inl fw))), (mi, .inl (cm6, 1812, .inr (.inl (fun _ => 0)))), (mk, .inl (cm7, 2, .inl (fun _ => 0)))]) (w1 := []) hP hD [0, 1] [2, 3, 4] rfl rfl (by decide) (by decide) hk1 hFc hP1 hD1
  generalize H1 = H at hP hS ⊢
  have hP : va_P (dC, dI) vwCl [(mw, .inl (cm3, 906, .inr (.inl fw))), (mi, .inl (cm6, 1812, .inr (.inl (fun _ => 0)))), (mk, .inl (cm7, 2, .inl (fun _ => 0)))] H := hP
  have hD : va_D A [(mw, .inl (cm3, 906, .inr (.inl fw))), (mi, .inl (cm6, 1812, .inr (.inl (fun _ => 0)))), (mk, .inl (cm7, 2, .inl (fun _ => 0)))] := hD
  refine W.widen (k := 0) (n := 0) (Nat.le_of_ble_eq_true rfl) (Nat.le_of_ble_eq_true rfl) ?_
  have hw : r_14 = (-1) := hw
  subst hw
  have hP9 := hP.sub (ws' := []) [] rfl
  have hD9 := hD.sub (ws' := []) [] (by decide) rfl
  have hK9 := hK.sub (tys' := []) [] rfl
  refine W.widen (k := 0) (n := 0) (Nat.le_of_ble_eq_true rfl) (Nat.le_of_ble_eq_true rfl) ?_
  exact W.iret (v := (-1)) hx hb hr (fun t ht hW => ⟨⟨(-1), (), rfl, (by have nh_1 := lv_neT (a := 0) h_1 (by decide); have nh_7 := lv_neT (a := 1) h_7 (by decide); unfold sp_one; (repeat' split) <;> first | rfl | omega | (refine Int32.toInt_inj.mp ?_; omega)), by rw [ht]; exact hP9, va_K.moved hW.alike hK9, hD9⟩, hS.F ht⟩) hS.2.2 dX12_image_20
def ow_c_X12_back : List Cond := [.fieldLink RX12 67 "DeadlineShareModel" "thrown" "I", .methodLink RX12 83 yX12_in, .static yX12_in, .initialized RX12, .fieldLink RX12 29 "DeadlineShareModel" "isKept" "[Z", .methodLink RX12 76 yX12_refuse, .instanceMethod yX12_refuse, .selects RX12 yX12_refuse yX12_refuse]
def wq_c_X12_back : List Cond := .code yX12_back cX12_back 3 (some .int) :: (ow_c_X12_back ++ (u_ws RX12 TX12 27 ++ (wq_c_X12_in ++ (wq_c_X12_refuse_4 ++ (wq_c_X12_refuse_1 ++ ([] : List Cond))))))
theorem tb_c_X12_back : ∀ w ∈ wq_c_X12_back, q_g w := by
  unfold wq_c_X12_back ow_c_X12_back
  exact q_cons tw_522 (q_app (q_cons tw_488 (q_cons tw_437 (q_cons tw_436 (q_cons tw_435 (q_cons tw_421 (q_cons tw_483 (q_cons tw_482 (q_cons tw_481 q_nil)))))))) (q_app tu_X12 (q_app tb_c_X12_in (q_app tb_c_X12_refuse_4 (q_app tb_c_X12_refuse_1 q_nil)))))
set_option maxHeartbeats 4000000 in
set_option maxRecDepth 100000 in
theorem c_X12_back (l : Launch) (dC : Nat → ClassId) (dI : Nat → Nat → Nat) (h0 : Nat) (kk : Int32) (mr : Nat) (mt : Nat) (mw : Nat) (mu : Nat) (mp : Nat) (mi : Nat) (mk : Nat) (ms : Nat) (mv : Nat) (m1w : Nat) (m2w : Nat) (m3w : Nat) (m4w : Nat) (cm1 : ClassId) (cm7 : ClassId) (sz : Nat) : Met l yX12_back wq_c_X12_back ({ frames := 1, cells := 0, slots := 0, locals := 25 } : Room) (va_Pc [.ref h0, .int kk] (fun U => U.heap.size = sz ∧ va_P (dC, dI) vwCl [(h0, .inr (12, [.int 0, .int 0, .ref mr, .ref mt, .ref mw, .ref mu, .ref mp, .ref mi, .ref mk, .ref ms, .int 0, .ref mv, .int 0, .int 0, .int 0, .int 0, .long 0, .int (-1), .int 0, .ref m1w, .ref m2w, .ref m3w, .ref m4w, .int 0, .long 0, .long 0, .long 0])), (mr, .inl (cm1, 7, .inl (fun _ => 0))), (mk, .inl (cm7, 2, .inl (fun _ => 0)))] U.heap ∧ va_K (dC, dI) vwCl [(cm1, .int), (cm7, .boolean)] U ∧ va_D (fun _ => True) [(h0, .inr (12, [.int 0, .int 0, .ref mr, .ref mt, .ref mw, .ref mu, .ref mp, .ref mi, .ref mk, .ref ms, .int 0, .ref mv, .int 0, .int 0, .int 0, .int 0, .long 0, .int (-1), .int 0, .ref m1w, .ref m2w, .ref m3w, .ref m4w, .int 0, .long 0, .long 0, .long 0])), (mr, .inl (cm1, 7, .inl (fun _ => 0))), (mk, .inl (cm7, 2, .inl (fun _ => 0)))])) (va_Qi (fun (r : Int32) (_ : Unit) => r = sp_one kk 0 1 (-4)) (fun (_ : Unit) t => va_P (dC, dI) vwCl [] t.heap ∧ va_K (dC, dI) vwCl [] t ∧ va_D (va_A [(h0, .inr (12, [.int 0, .int 0, .ref mr, .ref mt, .ref mw, .ref mu, .ref mp, .ref mi, .ref mk, .ref ms, .int 0, .ref mv, .int 0, .int 0, .int 0, .int 0, .long 0, .int (-1), .int 0, .ref m1w, .ref m2w, .ref m3w, .ref m4w, .int 0, .long 0, .long 0, .long 0])), (mr, .inl (cm1, 7, .inl (fun _ => 0))), (mk, .inl (cm7, 2, .inl (fun _ => 0)))] sz) []) (va_A [(h0, .inr (12, [.int 0, .int 0, .ref mr, .ref mt, .ref mw, .ref mu, .ref mp, .ref mi, .ref mk, .ref ms, .int 0, .ref mv, .int 0, .int 0, .int 0, .int 0, .long 0, .int (-1), .int 0, .ref m1w, .ref m2w, .ref m3w, .ref m4w, .int 0, .long 0, .long 0, .long 0])), (mr, .inl (cm1, 7, .inl (fun _ => 0))), (mk, .inl (cm7, 2, .inl (fun _ => 0)))] sz)) 0 0 (va_A [(h0, .inr (12, [.int 0, .int 0, .ref mr, .ref mt, .ref mw, .ref mu, .ref mp, .ref mi, .ref mk, .ref ms, .int 0, .ref mv, .int 0, .int 0, .int 0, .int 0, .long 0, .int (-1), .int 0, .ref m1w, .ref m2w, .ref m3w, .ref m4w, .int 0, .long 0, .long 0, .long 0])), (mr, .inl (cm1, 7, .inl (fun _ => 0))), (mk, .inl (cm7, 2, .inl (fun _ => 0)))] sz) := by
  refine Met.ofW (cc := cX12_back) (maxL := 3) (ret := (some .int)) (by decide) rfl ?_
  intro p e s m args below meth c s₁ B hml hv
  obtain ⟨rfl, hsz, hP, hK, hD0⟩ := hv
  have hx := B.exec
  have hb := B.bytes
  have hr := B.returns
  have hts := atoms_spec (ws := wq_c_X12_back) B.pre
  have hown : s.vm.findClass RX12 = some m.cls := findClass_of_methodNamed B.named
  have hlocks := B.notSynchronized
  subst hsz
  have hD := hD0.self (sz := s.heap.size)
  obtain ⟨A, hAe⟩ : ∃ A, A = va_A [(h0, .inr (12, [.int 0, .int 0, .ref mr, .ref mt, .ref mw, .ref mu, .ref mp, .ref mi, .ref mk, .ref ms, .int 0, .ref mv, .int 0, .int 0, .int 0, .int 0, .long 0, .int (-1), .int 0, .ref m1w, .ref m2w, .ref m3w, .ref m4w, .int 0, .long 0, .long 0, .long 0])), (mr, .inl (cm1, 7, .inl (fun _ => 0))), (mk, .inl (cm7, 2, .inl (fun _ => 0)))] s.heap.size := ⟨_, rfl⟩
  rw [← hAe] at hD ⊢
  have hA : ∀ q : Nat, s.heap.size ≤ q → A q := fun q h => by rw [hAe]; exact Or.inr h
  have hS : va_S A s.heap s.heap [] := va_S.rf
  have hP : va_P (dC, dI) vwCl [(h0, .inr (12, [.int 0, .int 0, .ref mr, .ref mt, .ref mw, .ref mu, .ref mp, .ref mi, .ref mk, .ref ms, .int 0, .ref mv, .int 0, .int 0, .int 0, .int 0, .long 0, .int (-1), .int 0, .ref m1w, .ref m2w, .ref m3w, .ref m4w, .int 0, .long 0, .long 0, .long 0])), (mr, .inl (cm1, 7, .inl (fun _ => 0))), (mk, .inl (cm7, 2, .inl (fun _ => 0)))] s.heap := hP
  have hl := lv_entry ([.ref h0, .int kk]) (n := 3) (Nat.le_of_ble_eq_true rfl)
  rw [lg_entry_eq]
  generalize (lg_sl ([.ref h0, .int kk]) ++ List.replicate (3 - (lg_sl ([.ref h0, .int kk])).length) Slot.unset).toArray = ls at hl ⊢
  have hl : lv_has ls 3 [(0, .ref h0), (1, .int kk)] := hl
  by_cases h_1 : kk = 0
  · subst h_1
    refine lv_aload_n hx hb dX12_back_0 rfl (lv_at hl 0 rfl) ?_
    refine lv_iconst (v := 0) hx hb dX12_back_1 (by decide) ?_
    refine va_put (D := (dC, dI)) (ci := 12) (v := .int 0) (ty := .int) (C := RX12) (T := TX12) (N := 27) hx hb hts (fun _ h0_ => List.mem_cons_of_mem _ (List.mem_append_right _ (List.mem_append_left _ h0_))) tyX12 tyX12_ok nmX12 hown hK hP hD hS 0 rfl rfl 0 (by decide) (hts (.fieldLink RX12 67 "DeadlineShareModel" "thrown" "I") (List.mem_cons_of_mem _ (List.mem_append_left _ (List.mem_of_getElem? (i := 0) rfl)))) (fun _ h9 => h9) rfl (by decide +kernel) rfl rfl (Nat.le_of_ble_eq_true rfl) dX12_back_2 (fun H locs hP hD hS => ?_)
    have hP : va_P (dC, dI) vwCl [(h0, .inr (12, [.int 0, .int 0, .ref mr, .ref mt, .ref mw, .ref mu, .ref mp, .ref mi, .ref mk, .ref ms, .int 0, .ref mv, .int 0, .int 0, .int 0, .int 0, .long 0, .int (-1), .int 0, .ref m1w, .ref m2w, .ref m3w, .ref m4w, .int 0, .long 0, .long 0, .long 0])), (mr, .inl (cm1, 7, .inl (fun _ => 0))), (mk, .inl (cm7, 2, .inl (fun _ => 0)))] H := hP
    have hD : va_D A [(h0, .inr (12, [.int 0, .int 0, .ref mr, .ref mt, .ref mw, .ref mu, .ref mp, .ref mi, .ref mk, .ref ms, .int 0, .ref mv, .int 0, .int 0, .int 0, .int 0, .long 0, .int (-1), .int 0, .ref m1w, .ref m2w, .ref m3w, .ref m4w, .int 0, .long 0, .long 0, .long 0])), (mr, .inl (cm1, 7, .inl (fun _ => 0))), (mk, .inl (cm7, 2, .inl (fun _ => 0)))] := hD
    refine lv_iload_n hx hb dX12_back_5 rfl (lv_at hl 1 rfl) ?_
    refine lv_i2l (v := 0) hx hb dX12_back_6 (by decide) ?_
    refine lv_lconst (v := 0) hx hb dX12_back_7 (by decide) ?_
    refine lv_lconst (v := 1) hx hb dX12_back_8 (by decide) ?_
    have hPc := hP.sub (ws' := []) [] rfl
    have hDc := hD.sub (ws' := []) [] (by decide) rfl
    have hKc := hK.sub (tys' := []) [] rfl
    have hFc := va_free (wc := []) hD hS hA [] rfl
    refine va_calli (va_runS (As := [.long 0, .long 0, .long 1]) (rest := []) ⟨hx, hb, hml, hown, hts⟩ (c_X12_in l dC dI 0 0 1 H.size) (va_cwS 3 hts (gi_S (fun w_ h0_ => ⟨List.mem_cons_of_mem _ (List.mem_append_right _ (List.mem_append_right _ (List.mem_append_left _ h0_))), (tb_c_X12_in w_ h0_).2⟩) (List.mem_cons_of_mem _ (List.mem_append_left _ (List.mem_of_getElem? (i := 1) rfl))) (List.mem_cons_of_mem _ (List.mem_append_left _ (List.mem_of_getElem? (i := 2) rfl))) (List.mem_cons_of_mem _ (List.mem_append_left _ (List.mem_of_getElem? (i := 3) rfl)))) rfl rfl rfl (by decide +kernel) ⟨Nat.le_of_ble_eq_true rfl, Nat.le_of_ble_eq_true rfl⟩) ⟨fun a U g mk q => by obtain ⟨q0, q1, qP, qK, qD⟩ := q; exact ⟨q0, q1, qP, va_K.moved (u := U) (U := U.calling g mk a) (Vm.Alike.refl U.vm) qK, qD⟩, fun U hU hW => ⟨rfl, by rw [hU], by rw [hU]; exact hPc, va_K.moved hW.alike hKc, hDc.weaken (fun _ _ _ _ => trivial)⟩⟩ rfl rfl hl.1 rfl (lv_room (Nat.le_of_ble_eq_true rfl)) dX12_back_9 ⟨Nat.le_of_ble_eq_true rfl, Nat.le_of_ble_eq_true rfl⟩) hS (fun q _ h => hFc q h) hFc (fun r_2 u t H1 locs ht hvm hw hB hz1 hk1 hS => ?_)
    obtain ⟨hP1, hK1, hD1⟩ := hB
    rw [ht] at hP1
    have hK1 := va_K.moved hvm.symm hK1
    obtain ⟨hP, hD⟩ := va_join (wr := [(h0, .inr (12, [.int 0, .int 0, .ref mr, .ref mt, .ref mw, .ref mu, .ref mp, .ref mi, .ref mk, .ref ms, .int 0, .ref mv, .int 0, .int 0, .int 0, .int 0, .long 0, .int (-1), .int 0, .ref m1w, .ref m2w, .ref m3w, .ref m4w, .int 0, .long 0, .long 0, .long 0])), (mr, .inl (cm1, 7, .inl (fun _ => 0))), (mk, .inl (cm7, 2, .inl (fun _ => 0)))]) (w1 := []) hP hD [] [0, 1, 2] rfl rfl (by decide) (by decide) hk1 hFc hP1 hD1
    generalize H1 = H at hP hS ⊢
    have hP : va_P (dC, dI) vwCl [(h0, .inr (12, [.int 0, .int 0, .ref mr, .ref mt, .ref mw, .ref mu, .ref mp, .ref mi, .ref mk, .ref ms, .int 0, .ref mv, .int 0, .int 0, .int 0, .int 0, .long 0, .int (-1), .int 0, .ref m1w, .ref m2w, .ref m3w, .ref m4w, .int 0, .long 0, .long 0, .long 0])), (mr, .inl (cm1, 7, .inl (fun _ => 0))), (mk, .inl (cm7, 2, .inl (fun _ => 0)))] H := hP
    have hD : va_D A [(h0, .inr (12, [.int 0, .int 0, .ref mr, .ref mt, .ref mw, .ref mu, .ref mp, .ref mi, .ref mk, .ref ms, .int 0, .ref mv, .int 0, .int 0, .int 0, .int 0, .long 0, .int (-1), .int 0, .ref m1w, .ref m2w, .ref m3w, .ref m4w, .int 0, .long 0, .long 0, .long 0])), (mr, .inl (cm1, 7, .inl (fun _ => 0))), (mk, .inl (cm7, 2, .inl (fun _ => 0)))] := hD
    refine W.widen (k := 0) (n := 0) (Nat.le_of_ble_eq_true rfl) (Nat.le_of_ble_eq_true rfl) ?_
    have hw : r_2 = sp_in 0 0 1 := hw
    subst hw
    refine k_topi (y := 1) (by decide) ?_
    refine lv_if_ne (tgt := 21) hx hb dX12_back_12 (by decide) (fun _ => ?_) (fun c => absurd c (by decide))
    refine lv_aload_n hx hb dX12_back_21 rfl (lv_at hl 0 rfl) ?_
    refine va_get (D := (dC, dI)) (ci := 12) (v := .ref mk) (C := RX12) (T := TX12) (N := 27) hx hb hts (fun _ h0_ => List.mem_cons_of_mem _ (List.mem_append_right _ (List.mem_append_left _ h0_))) hown hK hP 0 rfl rfl 8 (by decide) (hts (.fieldLink RX12 29 "DeadlineShareModel" "isKept" "[Z") (List.mem_cons_of_mem _ (List.mem_append_left _ (List.mem_of_getElem? (i := 4) rfl)))) (fun _ h9 => h9) rfl dX12_back_22 ?_
    refine lv_iload_n hx hb dX12_back_25 rfl (lv_at hl 1 rfl) ?_
    refine va_zald hx hb hK hP 2 1 rfl rfl (by unfold vp_in; decide) dX12_back_26 ?_
    refine k_topi (y := 0) rfl ?_
    refine lv_if_ne (tgt := 37) hx hb dX12_back_27 (by decide) (fun c => absurd c (by decide)) (fun _ => ?_)
    refine lv_aload_n hx hb dX12_back_30 rfl (lv_at hl 0 rfl) ?_
    refine lv_bipush (v := (-4)) hx hb dX12_back_31 (by decide) ?_
    have hPc := hP.sub (ws' := [(h0, .inr (12, [.int 0, .int 0, .ref mr, .ref mt, .ref mw, .ref mu, .ref mp, .ref mi, .ref mk, .ref ms, .int 0, .ref mv, .int 0, .int 0, .int 0, .int 0, .long 0, .int (-1), .int 0, .ref m1w, .ref m2w, .ref m3w, .ref m4w, .int 0, .long 0, .long 0, .long 0])), (mr, .inl (cm1, 7, .inl (fun _ => 0)))]) [0, 1] rfl
    have hDc := hD.sub (ws' := [(h0, .inr (12, [.int 0, .int 0, .ref mr, .ref mt, .ref mw, .ref mu, .ref mp, .ref mi, .ref mk, .ref ms, .int 0, .ref mv, .int 0, .int 0, .int 0, .int 0, .long 0, .int (-1), .int 0, .ref m1w, .ref m2w, .ref m3w, .ref m4w, .int 0, .long 0, .long 0, .long 0])), (mr, .inl (cm1, 7, .inl (fun _ => 0)))]) [0, 1] (by decide) rfl
    have hKc := hK.sub (tys' := [(cm1, .int)]) [0] rfl
    have hFc := va_free (wc := [(h0, .inr (12, [.int 0, .int 0, .ref mr, .ref mt, .ref mw, .ref mu, .ref mp, .ref mi, .ref mk, .ref ms, .int 0, .ref mv, .int 0, .int 0, .int 0, .int 0, .long 0, .int (-1), .int 0, .ref m1w, .ref m2w, .ref m3w, .ref m4w, .int 0, .long 0, .long 0, .long 0])), (mr, .inl (cm1, 7, .inl (fun _ => 0)))]) hD hS hA [0, 1] rfl
    refine va_calli (va_runV (As := [.int (-4)]) (rest := []) ⟨hx, hb, hml, hown, hts⟩ (c_X12_refuse_4 l dC dI h0 mr mt mw mu mp mi mk ms mv m1w m2w m3w m4w cm1 H.size) (cwV 1 hts (gi_V (fun w_ h0_ => ⟨List.mem_cons_of_mem _ (List.mem_append_right _ (List.mem_append_right _ (List.mem_append_right _ (List.mem_append_left _ h0_)))), (tb_c_X12_refuse_4 w_ h0_).2⟩) (List.mem_cons_of_mem _ (List.mem_append_left _ (List.mem_of_getElem? (i := 5) rfl))) (List.mem_cons_of_mem _ (List.mem_append_left _ (List.mem_of_getElem? (i := 6) rfl))) (List.mem_cons_of_mem _ (List.mem_append_left _ (List.mem_of_getElem? (i := 7) rfl))) (List.mem_cons_of_mem _ (List.mem_append_left _ (List.mem_of_getElem? (i := 3) rfl)))) rfl rfl rfl (by decide +kernel) ⟨Nat.le_of_ble_eq_true rfl, Nat.le_of_ble_eq_true rfl⟩) ⟨fun a U g mk q => by obtain ⟨q0, q1, qP, qK, qD⟩ := q; exact ⟨q0, q1, qP, va_K.moved (u := U) (U := U.calling g mk a) (Vm.Alike.refl U.vm) qK, qD⟩, va_recv hKc hPc (ci := 12) (q0 := 0) rfl rfl, fun U hU hW => ⟨rfl, by rw [hU], by rw [hU]; exact hPc, va_K.moved hW.alike hKc, hDc.weaken (fun _ _ _ _ => trivial)⟩⟩ rfl rfl hl.1 rfl (lv_room (Nat.le_of_ble_eq_true rfl)) dX12_back_33 ⟨Nat.le_of_ble_eq_true rfl, Nat.le_of_ble_eq_true rfl⟩) hS (fun q _ h => hFc q h) hFc (fun r_3 u t H1 locs ht hvm hw hB hz1 hk1 hS => ?_)
    obtain ⟨hP1, hK1, hD1⟩ := hB
    rw [ht] at hP1
    have hK1 := va_K.moved hvm.symm hK1
    obtain ⟨hP, hD⟩ := va_join (wr := [(mk, .inl (cm7, 2, .inl (fun _ => 0)))]) (w1 := []) hP hD [0, 1] [2] rfl rfl (by decide) (by decide) hk1 hFc hP1 hD1
    generalize H1 = H at hP hS ⊢
    have hP : va_P (dC, dI) vwCl [(mk, .inl (cm7, 2, .inl (fun _ => 0)))] H := hP
    have hD : va_D A [(mk, .inl (cm7, 2, .inl (fun _ => 0)))] := hD
    refine W.widen (k := 0) (n := 0) (Nat.le_of_ble_eq_true rfl) (Nat.le_of_ble_eq_true rfl) ?_
    have hw : r_3 = (-4) := hw
    subst hw
    have hP9 := hP.sub (ws' := []) [] rfl
    have hD9 := hD.sub (ws' := []) [] (by decide) rfl
    have hK9 := hK.sub (tys' := []) [] rfl
    refine W.widen (k := 0) (n := 0) (Nat.le_of_ble_eq_true rfl) (Nat.le_of_ble_eq_true rfl) ?_
    exact W.iret (v := (-4)) hx hb hr (fun t ht hW => ⟨⟨(-4), (), rfl, (by decide), by rw [ht]; exact hP9, va_K.moved hW.alike hK9, hD9⟩, hS.F ht⟩) hS.2.2 dX12_back_36
  by_cases h_4 : kk = 1
  · subst h_4
    refine lv_aload_n hx hb dX12_back_0 rfl (lv_at hl 0 rfl) ?_
    refine lv_iconst (v := 0) hx hb dX12_back_1 (by decide) ?_
    refine va_put (D := (dC, dI)) (ci := 12) (v := .int 0) (ty := .int) (C := RX12) (T := TX12) (N := 27) hx hb hts (fun _ h0_ => List.mem_cons_of_mem _ (List.mem_append_right _ (List.mem_append_left _ h0_))) tyX12 tyX12_ok nmX12 hown hK hP hD hS 0 rfl rfl 0 (by decide) (hts (.fieldLink RX12 67 "DeadlineShareModel" "thrown" "I") (List.mem_cons_of_mem _ (List.mem_append_left _ (List.mem_of_getElem? (i := 0) rfl)))) (fun _ h9 => h9) rfl (by decide +kernel) rfl rfl (Nat.le_of_ble_eq_true rfl) dX12_back_2 (fun H locs hP hD hS => ?_)
    have hP : va_P (dC, dI) vwCl [(h0, .inr (12, [.int 0, .int 0, .ref mr, .ref mt, .ref mw, .ref mu, .ref mp, .ref mi, .ref mk, .ref ms, .int 0, .ref mv, .int 0, .int 0, .int 0, .int 0, .long 0, .int (-1), .int 0, .ref m1w, .ref m2w, .ref m3w, .ref m4w, .int 0, .long 0, .long 0, .long 0])), (mr, .inl (cm1, 7, .inl (fun _ => 0))), (mk, .inl (cm7, 2, .inl (fun _ => 0)))] H := hP
    have hD : va_D A [(h0, .inr (12, [.int 0, .int 0, .ref mr, .ref mt, .ref mw, .ref mu, .ref mp, .ref mi, .ref mk, .ref ms, .int 0, .ref mv, .int 0, .int 0, .int 0, .int 0, .long 0, .int (-1), .int 0, .ref m1w, .ref m2w, .ref m3w, .ref m4w, .int 0, .long 0, .long 0, .long 0])), (mr, .inl (cm1, 7, .inl (fun _ => 0))), (mk, .inl (cm7, 2, .inl (fun _ => 0)))] := hD
    refine lv_iload_n hx hb dX12_back_5 rfl (lv_at hl 1 rfl) ?_
    refine lv_i2l (v := 1) hx hb dX12_back_6 (by decide) ?_
    refine lv_lconst (v := 0) hx hb dX12_back_7 (by decide) ?_
    refine lv_lconst (v := 1) hx hb dX12_back_8 (by decide) ?_
    have hPc := hP.sub (ws' := []) [] rfl
    have hDc := hD.sub (ws' := []) [] (by decide) rfl
    have hKc := hK.sub (tys' := []) [] rfl
    have hFc := va_free (wc := []) hD hS hA [] rfl
    refine va_calli (va_runS (As := [.long 1, .long 0, .long 1]) (rest := []) ⟨hx, hb, hml, hown, hts⟩ (c_X12_in l dC dI 1 0 1 H.size) (va_cwS 3 hts (gi_S (fun w_ h0_ => ⟨List.mem_cons_of_mem _ (List.mem_append_right _ (List.mem_append_right _ (List.mem_append_left _ h0_))), (tb_c_X12_in w_ h0_).2⟩) (List.mem_cons_of_mem _ (List.mem_append_left _ (List.mem_of_getElem? (i := 1) rfl))) (List.mem_cons_of_mem _ (List.mem_append_left _ (List.mem_of_getElem? (i := 2) rfl))) (List.mem_cons_of_mem _ (List.mem_append_left _ (List.mem_of_getElem? (i := 3) rfl)))) rfl rfl rfl (by decide +kernel) ⟨Nat.le_of_ble_eq_true rfl, Nat.le_of_ble_eq_true rfl⟩) ⟨fun a U g mk q => by obtain ⟨q0, q1, qP, qK, qD⟩ := q; exact ⟨q0, q1, qP, va_K.moved (u := U) (U := U.calling g mk a) (Vm.Alike.refl U.vm) qK, qD⟩, fun U hU hW => ⟨rfl, by rw [hU], by rw [hU]; exact hPc, va_K.moved hW.alike hKc, hDc.weaken (fun _ _ _ _ => trivial)⟩⟩ rfl rfl hl.1 rfl (lv_room (Nat.le_of_ble_eq_true rfl)) dX12_back_9 ⟨Nat.le_of_ble_eq_true rfl, Nat.le_of_ble_eq_true rfl⟩) hS (fun q _ h => hFc q h) hFc (fun r_5 u t H1 locs ht hvm hw hB hz1 hk1 hS => ?_)
    obtain ⟨hP1, hK1, hD1⟩ := hB
    rw [ht] at hP1
    have hK1 := va_K.moved hvm.symm hK1
    obtain ⟨hP, hD⟩ := va_join (wr := [(h0, .inr (12, [.int 0, .int 0, .ref mr, .ref mt, .ref mw, .ref mu, .ref mp, .ref mi, .ref mk, .ref ms, .int 0, .ref mv, .int 0, .int 0, .int 0, .int 0, .long 0, .int (-1), .int 0, .ref m1w, .ref m2w, .ref m3w, .ref m4w, .int 0, .long 0, .long 0, .long 0])), (mr, .inl (cm1, 7, .inl (fun _ => 0))), (mk, .inl (cm7, 2, .inl (fun _ => 0)))]) (w1 := []) hP hD [] [0, 1, 2] rfl rfl (by decide) (by decide) hk1 hFc hP1 hD1
    generalize H1 = H at hP hS ⊢
    have hP : va_P (dC, dI) vwCl [(h0, .inr (12, [.int 0, .int 0, .ref mr, .ref mt, .ref mw, .ref mu, .ref mp, .ref mi, .ref mk, .ref ms, .int 0, .ref mv, .int 0, .int 0, .int 0, .int 0, .long 0, .int (-1), .int 0, .ref m1w, .ref m2w, .ref m3w, .ref m4w, .int 0, .long 0, .long 0, .long 0])), (mr, .inl (cm1, 7, .inl (fun _ => 0))), (mk, .inl (cm7, 2, .inl (fun _ => 0)))] H := hP
    have hD : va_D A [(h0, .inr (12, [.int 0, .int 0, .ref mr, .ref mt, .ref mw, .ref mu, .ref mp, .ref mi, .ref mk, .ref ms, .int 0, .ref mv, .int 0, .int 0, .int 0, .int 0, .long 0, .int (-1), .int 0, .ref m1w, .ref m2w, .ref m3w, .ref m4w, .int 0, .long 0, .long 0, .long 0])), (mr, .inl (cm1, 7, .inl (fun _ => 0))), (mk, .inl (cm7, 2, .inl (fun _ => 0)))] := hD
    refine W.widen (k := 0) (n := 0) (Nat.le_of_ble_eq_true rfl) (Nat.le_of_ble_eq_true rfl) ?_
    have hw : r_5 = sp_in 1 0 1 := hw
    subst hw
    refine k_topi (y := 1) (by decide) ?_
    refine lv_if_ne (tgt := 21) hx hb dX12_back_12 (by decide) (fun _ => ?_) (fun c => absurd c (by decide))
    refine lv_aload_n hx hb dX12_back_21 rfl (lv_at hl 0 rfl) ?_
    refine va_get (D := (dC, dI)) (ci := 12) (v := .ref mk) (C := RX12) (T := TX12) (N := 27) hx hb hts (fun _ h0_ => List.mem_cons_of_mem _ (List.mem_append_right _ (List.mem_append_left _ h0_))) hown hK hP 0 rfl rfl 8 (by decide) (hts (.fieldLink RX12 29 "DeadlineShareModel" "isKept" "[Z") (List.mem_cons_of_mem _ (List.mem_append_left _ (List.mem_of_getElem? (i := 4) rfl)))) (fun _ h9 => h9) rfl dX12_back_22 ?_
    refine lv_iload_n hx hb dX12_back_25 rfl (lv_at hl 1 rfl) ?_
    refine va_zald hx hb hK hP 2 1 rfl rfl (by unfold vp_in; decide) dX12_back_26 ?_
    refine k_topi (y := 0) rfl ?_
    refine lv_if_ne (tgt := 37) hx hb dX12_back_27 (by decide) (fun c => absurd c (by decide)) (fun _ => ?_)
    refine lv_aload_n hx hb dX12_back_30 rfl (lv_at hl 0 rfl) ?_
    refine lv_bipush (v := (-4)) hx hb dX12_back_31 (by decide) ?_
    have hPc := hP.sub (ws' := [(h0, .inr (12, [.int 0, .int 0, .ref mr, .ref mt, .ref mw, .ref mu, .ref mp, .ref mi, .ref mk, .ref ms, .int 0, .ref mv, .int 0, .int 0, .int 0, .int 0, .long 0, .int (-1), .int 0, .ref m1w, .ref m2w, .ref m3w, .ref m4w, .int 0, .long 0, .long 0, .long 0])), (mr, .inl (cm1, 7, .inl (fun _ => 0)))]) [0, 1] rfl
    have hDc := hD.sub (ws' := [(h0, .inr (12, [.int 0, .int 0, .ref mr, .ref mt, .ref mw, .ref mu, .ref mp, .ref mi, .ref mk, .ref ms, .int 0, .ref mv, .int 0, .int 0, .int 0, .int 0, .long 0, .int (-1), .int 0, .ref m1w, .ref m2w, .ref m3w, .ref m4w, .int 0, .long 0, .long 0, .long 0])), (mr, .inl (cm1, 7, .inl (fun _ => 0)))]) [0, 1] (by decide) rfl
    have hKc := hK.sub (tys' := [(cm1, .int)]) [0] rfl
    have hFc := va_free (wc := [(h0, .inr (12, [.int 0, .int 0, .ref mr, .ref mt, .ref mw, .ref mu, .ref mp, .ref mi, .ref mk, .ref ms, .int 0, .ref mv, .int 0, .int 0, .int 0, .int 0, .long 0, .int (-1), .int 0, .ref m1w, .ref m2w, .ref m3w, .ref m4w, .int 0, .long 0, .long 0, .long 0])), (mr, .inl (cm1, 7, .inl (fun _ => 0)))]) hD hS hA [0, 1] rfl
    refine va_calli (va_runV (As := [.int (-4)]) (rest := []) ⟨hx, hb, hml, hown, hts⟩ (c_X12_refuse_4 l dC dI h0 mr mt mw mu mp mi mk ms mv m1w m2w m3w m4w cm1 H.size) (cwV 1 hts (gi_V (fun w_ h0_ => ⟨List.mem_cons_of_mem _ (List.mem_append_right _ (List.mem_append_right _ (List.mem_append_right _ (List.mem_append_left _ h0_)))), (tb_c_X12_refuse_4 w_ h0_).2⟩) (List.mem_cons_of_mem _ (List.mem_append_left _ (List.mem_of_getElem? (i := 5) rfl))) (List.mem_cons_of_mem _ (List.mem_append_left _ (List.mem_of_getElem? (i := 6) rfl))) (List.mem_cons_of_mem _ (List.mem_append_left _ (List.mem_of_getElem? (i := 7) rfl))) (List.mem_cons_of_mem _ (List.mem_append_left _ (List.mem_of_getElem? (i := 3) rfl)))) rfl rfl rfl (by decide +kernel) ⟨Nat.le_of_ble_eq_true rfl, Nat.le_of_ble_eq_true rfl⟩) ⟨fun a U g mk q => by obtain ⟨q0, q1, qP, qK, qD⟩ := q; exact ⟨q0, q1, qP, va_K.moved (u := U) (U := U.calling g mk a) (Vm.Alike.refl U.vm) qK, qD⟩, va_recv hKc hPc (ci := 12) (q0 := 0) rfl rfl, fun U hU hW => ⟨rfl, by rw [hU], by rw [hU]; exact hPc, va_K.moved hW.alike hKc, hDc.weaken (fun _ _ _ _ => trivial)⟩⟩ rfl rfl hl.1 rfl (lv_room (Nat.le_of_ble_eq_true rfl)) dX12_back_33 ⟨Nat.le_of_ble_eq_true rfl, Nat.le_of_ble_eq_true rfl⟩) hS (fun q _ h => hFc q h) hFc (fun r_6 u t H1 locs ht hvm hw hB hz1 hk1 hS => ?_)
    obtain ⟨hP1, hK1, hD1⟩ := hB
    rw [ht] at hP1
    have hK1 := va_K.moved hvm.symm hK1
    obtain ⟨hP, hD⟩ := va_join (wr := [(mk, .inl (cm7, 2, .inl (fun _ => 0)))]) (w1 := []) hP hD [0, 1] [2] rfl rfl (by decide) (by decide) hk1 hFc hP1 hD1
    generalize H1 = H at hP hS ⊢
    have hP : va_P (dC, dI) vwCl [(mk, .inl (cm7, 2, .inl (fun _ => 0)))] H := hP
    have hD : va_D A [(mk, .inl (cm7, 2, .inl (fun _ => 0)))] := hD
    refine W.widen (k := 0) (n := 0) (Nat.le_of_ble_eq_true rfl) (Nat.le_of_ble_eq_true rfl) ?_
    have hw : r_6 = (-4) := hw
    subst hw
    have hP9 := hP.sub (ws' := []) [] rfl
    have hD9 := hD.sub (ws' := []) [] (by decide) rfl
    have hK9 := hK.sub (tys' := []) [] rfl
    refine W.widen (k := 0) (n := 0) (Nat.le_of_ble_eq_true rfl) (Nat.le_of_ble_eq_true rfl) ?_
    exact W.iret (v := (-4)) hx hb hr (fun t ht hW => ⟨⟨(-4), (), rfl, (by decide), by rw [ht]; exact hP9, va_K.moved hW.alike hK9, hD9⟩, hS.F ht⟩) hS.2.2 dX12_back_36
  refine lv_aload_n hx hb dX12_back_0 rfl (lv_at hl 0 rfl) ?_
  refine lv_iconst (v := 0) hx hb dX12_back_1 (by decide) ?_
  refine va_put (D := (dC, dI)) (ci := 12) (v := .int 0) (ty := .int) (C := RX12) (T := TX12) (N := 27) hx hb hts (fun _ h0_ => List.mem_cons_of_mem _ (List.mem_append_right _ (List.mem_append_left _ h0_))) tyX12 tyX12_ok nmX12 hown hK hP hD hS 0 rfl rfl 0 (by decide) (hts (.fieldLink RX12 67 "DeadlineShareModel" "thrown" "I") (List.mem_cons_of_mem _ (List.mem_append_left _ (List.mem_of_getElem? (i := 0) rfl)))) (fun _ h9 => h9) rfl (by decide +kernel) rfl rfl (Nat.le_of_ble_eq_true rfl) dX12_back_2 (fun H locs hP hD hS => ?_)
  have hP : va_P (dC, dI) vwCl [(h0, .inr (12, [.int 0, .int 0, .ref mr, .ref mt, .ref mw, .ref mu, .ref mp, .ref mi, .ref mk, .ref ms, .int 0, .ref mv, .int 0, .int 0, .int 0, .int 0, .long 0, .int (-1), .int 0, .ref m1w, .ref m2w, .ref m3w, .ref m4w, .int 0, .long 0, .long 0, .long 0])), (mr, .inl (cm1, 7, .inl (fun _ => 0))), (mk, .inl (cm7, 2, .inl (fun _ => 0)))] H := hP
  have hD : va_D A [(h0, .inr (12, [.int 0, .int 0, .ref mr, .ref mt, .ref mw, .ref mu, .ref mp, .ref mi, .ref mk, .ref ms, .int 0, .ref mv, .int 0, .int 0, .int 0, .int 0, .long 0, .int (-1), .int 0, .ref m1w, .ref m2w, .ref m3w, .ref m4w, .int 0, .long 0, .long 0, .long 0])), (mr, .inl (cm1, 7, .inl (fun _ => 0))), (mk, .inl (cm7, 2, .inl (fun _ => 0)))] := hD
  refine lv_iload_n hx hb dX12_back_5 rfl (lv_at hl 1 rfl) ?_
  refine lv_i2l (v := kk.toInt64) hx hb dX12_back_6 rfl ?_
  refine lv_lconst (v := 0) hx hb dX12_back_7 (by decide) ?_
  refine lv_lconst (v := 1) hx hb dX12_back_8 (by decide) ?_
  have hPc := hP.sub (ws' := []) [] rfl
  have hDc := hD.sub (ws' := []) [] (by decide) rfl
  have hKc := hK.sub (tys' := []) [] rfl
  have hFc := va_free (wc := []) hD hS hA [] rfl
  refine va_calli (va_runS (As := [.long kk.toInt64, .long 0, .long 1]) (rest := []) ⟨hx, hb, hml, hown, hts⟩ (c_X12_in l dC dI kk.toInt64 0 1 H.size) (va_cwS 3 hts (gi_S (fun w_ h0_ => ⟨List.mem_cons_of_mem _ (List.mem_append_right _ (List.mem_append_right _ (List.mem_append_left _ h0_))), (tb_c_X12_in w_ h0_).2⟩) (List.mem_cons_of_mem _ (List.mem_append_left _ (List.mem_of_getElem? (i := 1) rfl))) (List.mem_cons_of_mem _ (List.mem_append_left _ (List.mem_of_getElem? (i := 2) rfl))) (List.mem_cons_of_mem _ (List.mem_append_left _ (List.mem_of_getElem? (i := 3) rfl)))) rfl rfl rfl (by decide +kernel) ⟨Nat.le_of_ble_eq_true rfl, Nat.le_of_ble_eq_true rfl⟩) ⟨fun a U g mk q => by obtain ⟨q0, q1, qP, qK, qD⟩ := q; exact ⟨q0, q1, qP, va_K.moved (u := U) (U := U.calling g mk a) (Vm.Alike.refl U.vm) qK, qD⟩, fun U hU hW => ⟨rfl, by rw [hU], by rw [hU]; exact hPc, va_K.moved hW.alike hKc, hDc.weaken (fun _ _ _ _ => trivial)⟩⟩ rfl rfl hl.1 rfl (lv_room (Nat.le_of_ble_eq_true rfl)) dX12_back_9 ⟨Nat.le_of_ble_eq_true rfl, Nat.le_of_ble_eq_true rfl⟩) hS (fun q _ h => hFc q h) hFc (fun r_7 u t H1 locs ht hvm hw hB hz1 hk1 hS => ?_)
  obtain ⟨hP1, hK1, hD1⟩ := hB
  rw [ht] at hP1
  have hK1 := va_K.moved hvm.symm hK1
  obtain ⟨hP, hD⟩ := va_join (wr := [(h0, .inr (12, [.int 0, .int 0, .ref mr, .ref mt, .ref mw, .ref mu, .ref mp, .ref mi, .ref mk, .ref ms, .int 0, .ref mv, .int 0, .int 0, .int 0, .int 0, .long 0, .int (-1), .int 0, .ref m1w, .ref m2w, .ref m3w, .ref m4w, .int 0, .long 0, .long 0, .long 0])), (mr, .inl (cm1, 7, .inl (fun _ => 0))), (mk, .inl (cm7, 2, .inl (fun _ => 0)))]) (w1 := []) hP hD [] [0, 1, 2] rfl rfl (by decide) (by decide) hk1 hFc hP1 hD1
  generalize H1 = H at hP hS ⊢
  have hP : va_P (dC, dI) vwCl [(h0, .inr (12, [.int 0, .int 0, .ref mr, .ref mt, .ref mw, .ref mu, .ref mp, .ref mi, .ref mk, .ref ms, .int 0, .ref mv, .int 0, .int 0, .int 0, .int 0, .long 0, .int (-1), .int 0, .ref m1w, .ref m2w, .ref m3w, .ref m4w, .int 0, .long 0, .long 0, .long 0])), (mr, .inl (cm1, 7, .inl (fun _ => 0))), (mk, .inl (cm7, 2, .inl (fun _ => 0)))] H := hP
  have hD : va_D A [(h0, .inr (12, [.int 0, .int 0, .ref mr, .ref mt, .ref mw, .ref mu, .ref mp, .ref mi, .ref mk, .ref ms, .int 0, .ref mv, .int 0, .int 0, .int 0, .int 0, .long 0, .int (-1), .int 0, .ref m1w, .ref m2w, .ref m3w, .ref m4w, .int 0, .long 0, .long 0, .long 0])), (mr, .inl (cm1, 7, .inl (fun _ => 0))), (mk, .inl (cm7, 2, .inl (fun _ => 0)))] := hD
  refine W.widen (k := 0) (n := 0) (Nat.le_of_ble_eq_true rfl) (Nat.le_of_ble_eq_true rfl) ?_
  have hw : r_7 = sp_in kk.toInt64 0 1 := hw
  subst hw
  refine k_topi (y := sp_r kk 0 1) (sp_in_r _ _ _ (by decide) (by decide)) ?_
  refine lv_if_ne (tgt := 21) hx hb dX12_back_12 (by decide) (fun c => absurd c (Classical.not_not.mpr ((sp_r0 _ _ _).mpr (by have nh_1 := lv_neT (a := 0) h_1 (by decide); have nh_4 := lv_neT (a := 1) h_4 (by decide); skip; omega)))) (fun _ => ?_)
  refine lv_aload_n hx hb dX12_back_15 rfl (lv_at hl 0 rfl) ?_
  refine lv_iconst (v := (-1)) hx hb dX12_back_16 (by decide) ?_
  have hPc := hP.sub (ws' := [(h0, .inr (12, [.int 0, .int 0, .ref mr, .ref mt, .ref mw, .ref mu, .ref mp, .ref mi, .ref mk, .ref ms, .int 0, .ref mv, .int 0, .int 0, .int 0, .int 0, .long 0, .int (-1), .int 0, .ref m1w, .ref m2w, .ref m3w, .ref m4w, .int 0, .long 0, .long 0, .long 0])), (mr, .inl (cm1, 7, .inl (fun _ => 0)))]) [0, 1] rfl
  have hDc := hD.sub (ws' := [(h0, .inr (12, [.int 0, .int 0, .ref mr, .ref mt, .ref mw, .ref mu, .ref mp, .ref mi, .ref mk, .ref ms, .int 0, .ref mv, .int 0, .int 0, .int 0, .int 0, .long 0, .int (-1), .int 0, .ref m1w, .ref m2w, .ref m3w, .ref m4w, .int 0, .long 0, .long 0, .long 0])), (mr, .inl (cm1, 7, .inl (fun _ => 0)))]) [0, 1] (by decide) rfl
  have hKc := hK.sub (tys' := [(cm1, .int)]) [0] rfl
  have hFc := va_free (wc := [(h0, .inr (12, [.int 0, .int 0, .ref mr, .ref mt, .ref mw, .ref mu, .ref mp, .ref mi, .ref mk, .ref ms, .int 0, .ref mv, .int 0, .int 0, .int 0, .int 0, .long 0, .int (-1), .int 0, .ref m1w, .ref m2w, .ref m3w, .ref m4w, .int 0, .long 0, .long 0, .long 0])), (mr, .inl (cm1, 7, .inl (fun _ => 0)))]) hD hS hA [0, 1] rfl
  refine va_calli (va_runV (As := [.int (-1)]) (rest := []) ⟨hx, hb, hml, hown, hts⟩ (c_X12_refuse_1 l dC dI h0 mr mt mw mu mp mi mk ms mv m1w m2w m3w m4w cm1 H.size) (cwV 1 hts (gi_V (fun w_ h0_ => ⟨List.mem_cons_of_mem _ (List.mem_append_right _ (List.mem_append_right _ (List.mem_append_right _ (List.mem_append_right _ (List.mem_append_left _ h0_))))), (tb_c_X12_refuse_1 w_ h0_).2⟩) (List.mem_cons_of_mem _ (List.mem_append_left _ (List.mem_of_getElem? (i := 5) rfl))) (List.mem_cons_of_mem _ (List.mem_append_left _ (List.mem_of_getElem? (i := 6) rfl))) (List.mem_cons_of_mem _ (List.mem_append_left _ (List.mem_of_getElem? (i := 7) rfl))) (List.mem_cons_of_mem _ (List.mem_append_left _ (List.mem_of_getElem? (i := 3) rfl)))) rfl rfl rfl (by decide +kernel) ⟨Nat.le_of_ble_eq_true rfl, Nat.le_of_ble_eq_true rfl⟩) ⟨fun a U g mk q => by obtain ⟨q0, q1, qP, qK, qD⟩ := q; exact ⟨q0, q1, qP, va_K.moved (u := U) (U := U.calling g mk a) (Vm.Alike.refl U.vm) qK, qD⟩, va_recv hKc hPc (ci := 12) (q0 := 0) rfl rfl, fun U hU hW => ⟨rfl, by rw [hU], by rw [hU]; exact hPc, va_K.moved hW.alike hKc, hDc.weaken (fun _ _ _ _ => trivial)⟩⟩ rfl rfl hl.1 rfl (lv_room (Nat.le_of_ble_eq_true rfl)) dX12_back_17 ⟨Nat.le_of_ble_eq_true rfl, Nat.le_of_ble_eq_true rfl⟩) hS (fun q _ h => hFc q h) hFc (fun r_8 u t H1 locs ht hvm hw hB hz1 hk1 hS => ?_)
  obtain ⟨hP1, hK1, hD1⟩ := hB
  rw [ht] at hP1
  have hK1 := va_K.moved hvm.symm hK1
  obtain ⟨hP, hD⟩ := va_join (wr := [(mk, .inl (cm7, 2, .inl (fun _ => 0)))]) (w1 := []) hP hD [0, 1] [2] rfl rfl (by decide) (by decide) hk1 hFc hP1 hD1
  generalize H1 = H at hP hS ⊢
  have hP : va_P (dC, dI) vwCl [(mk, .inl (cm7, 2, .inl (fun _ => 0)))] H := hP
  have hD : va_D A [(mk, .inl (cm7, 2, .inl (fun _ => 0)))] := hD
  refine W.widen (k := 0) (n := 0) (Nat.le_of_ble_eq_true rfl) (Nat.le_of_ble_eq_true rfl) ?_
  have hw : r_8 = (-1) := hw
  subst hw
  have hP9 := hP.sub (ws' := []) [] rfl
  have hD9 := hD.sub (ws' := []) [] (by decide) rfl
  have hK9 := hK.sub (tys' := []) [] rfl
  refine W.widen (k := 0) (n := 0) (Nat.le_of_ble_eq_true rfl) (Nat.le_of_ble_eq_true rfl) ?_
  exact W.iret (v := (-1)) hx hb hr (fun t ht hW => ⟨⟨(-1), (), rfl, (by have nh_1 := lv_neT (a := 0) h_1 (by decide); have nh_4 := lv_neT (a := 1) h_4 (by decide); unfold sp_one; (repeat' split) <;> first | rfl | omega | (refine Int32.toInt_inj.mp ?_; omega)), by rw [ht]; exact hP9, va_K.moved hW.alike hK9, hD9⟩, hS.F ht⟩) hS.2.2 dX12_back_20
def ow_c_X12_of : List Cond := [.fieldLink RX12 67 "DeadlineShareModel" "thrown" "I", .methodLink RX12 142 yX12_isTask, .instanceMethod yX12_isTask, .selects RX12 yX12_isTask yX12_isTask, .initialized RX12]
def wq_c_X12_of : List Cond := .code yX12_of cX12_of 6 (some .int) :: (ow_c_X12_of ++ (u_ws RX12 TX12 27 ++ (wq_c_X12_isTask ++ ([] : List Cond))))
theorem tb_c_X12_of : ∀ w ∈ wq_c_X12_of, q_g w := by
  unfold wq_c_X12_of ow_c_X12_of
  exact q_cons tw_523 (q_app (q_cons tw_488 (q_cons tw_506 (q_cons tw_505 (q_cons tw_504 (q_cons tw_435 q_nil))))) (q_app tu_X12 (q_app tb_c_X12_isTask q_nil)))
set_option maxHeartbeats 4000000 in
set_option maxRecDepth 100000 in
theorem c_X12_of (l : Launch) (dC : Nat → ClassId) (dI : Nat → Nat → Nat) (h0 : Nat) (tk : Int32) (wh : Int32) (mr : Nat) (mt : Nat) (mw : Nat) (mu : Nat) (mp : Nat) (mi : Nat) (mk : Nat) (ms : Nat) (mv : Nat) (m1w : Nat) (m2w : Nat) (m3w : Nat) (m4w : Nat) (cm3 : ClassId) (fw : Nat → Int64) (sz : Nat) (hw0 : fw 0 = 0) (hw1 : fw 1 = 0) (hw2 : fw 2 = 0) (hw3 : fw 3 = (-1)) (hw4 : fw 4 = (-1)) (hw5 : fw 5 = 0) : Met l yX12_of wq_c_X12_of ({ frames := 2, cells := 0, slots := 0, locals := 46 } : Room) (va_Pc [.ref h0, .int tk, .int wh] (fun U => U.heap.size = sz ∧ va_P (dC, dI) vwCl [(h0, .inr (12, [.int 0, .int 0, .ref mr, .ref mt, .ref mw, .ref mu, .ref mp, .ref mi, .ref mk, .ref ms, .int 0, .ref mv, .int 0, .int 0, .int 0, .int 0, .long 0, .int (-1), .int 0, .ref m1w, .ref m2w, .ref m3w, .ref m4w, .int 0, .long 0, .long 0, .long 0])), (mw, .inl (cm3, 906, .inr (.inl fw)))] U.heap ∧ va_K (dC, dI) vwCl [(cm3, .long)] U ∧ va_D (fun _ => True) [(h0, .inr (12, [.int 0, .int 0, .ref mr, .ref mt, .ref mw, .ref mu, .ref mp, .ref mi, .ref mk, .ref ms, .int 0, .ref mv, .int 0, .int 0, .int 0, .int 0, .long 0, .int (-1), .int 0, .ref m1w, .ref m2w, .ref m3w, .ref m4w, .int 0, .long 0, .long 0, .long 0])), (mw, .inl (cm3, 906, .inr (.inl fw)))])) (va_Qi (fun (r : Int32) (_ : Unit) => r = (-1)) (fun (_ : Unit) t => va_P (dC, dI) vwCl [] t.heap ∧ va_K (dC, dI) vwCl [] t ∧ va_D (va_A [(h0, .inr (12, [.int 0, .int 0, .ref mr, .ref mt, .ref mw, .ref mu, .ref mp, .ref mi, .ref mk, .ref ms, .int 0, .ref mv, .int 0, .int 0, .int 0, .int 0, .long 0, .int (-1), .int 0, .ref m1w, .ref m2w, .ref m3w, .ref m4w, .int 0, .long 0, .long 0, .long 0])), (mw, .inl (cm3, 906, .inr (.inl fw)))] sz) []) (va_A [(h0, .inr (12, [.int 0, .int 0, .ref mr, .ref mt, .ref mw, .ref mu, .ref mp, .ref mi, .ref mk, .ref ms, .int 0, .ref mv, .int 0, .int 0, .int 0, .int 0, .long 0, .int (-1), .int 0, .ref m1w, .ref m2w, .ref m3w, .ref m4w, .int 0, .long 0, .long 0, .long 0])), (mw, .inl (cm3, 906, .inr (.inl fw)))] sz)) 0 0 (va_A [(h0, .inr (12, [.int 0, .int 0, .ref mr, .ref mt, .ref mw, .ref mu, .ref mp, .ref mi, .ref mk, .ref ms, .int 0, .ref mv, .int 0, .int 0, .int 0, .int 0, .long 0, .int (-1), .int 0, .ref m1w, .ref m2w, .ref m3w, .ref m4w, .int 0, .long 0, .long 0, .long 0])), (mw, .inl (cm3, 906, .inr (.inl fw)))] sz) := by
  refine Met.ofW (cc := cX12_of) (maxL := 6) (ret := (some .int)) (by decide) rfl ?_
  intro p e s m args below meth c s₁ B hml hv
  obtain ⟨rfl, hsz, hP, hK, hD0⟩ := hv
  have hx := B.exec
  have hb := B.bytes
  have hr := B.returns
  have hts := atoms_spec (ws := wq_c_X12_of) B.pre
  have hown : s.vm.findClass RX12 = some m.cls := findClass_of_methodNamed B.named
  have hlocks := B.notSynchronized
  subst hsz
  have hD := hD0.self (sz := s.heap.size)
  obtain ⟨A, hAe⟩ : ∃ A, A = va_A [(h0, .inr (12, [.int 0, .int 0, .ref mr, .ref mt, .ref mw, .ref mu, .ref mp, .ref mi, .ref mk, .ref ms, .int 0, .ref mv, .int 0, .int 0, .int 0, .int 0, .long 0, .int (-1), .int 0, .ref m1w, .ref m2w, .ref m3w, .ref m4w, .int 0, .long 0, .long 0, .long 0])), (mw, .inl (cm3, 906, .inr (.inl fw)))] s.heap.size := ⟨_, rfl⟩
  rw [← hAe] at hD ⊢
  have hA : ∀ q : Nat, s.heap.size ≤ q → A q := fun q h => by rw [hAe]; exact Or.inr h
  have hS : va_S A s.heap s.heap [] := va_S.rf
  have hP : va_P (dC, dI) vwCl [(h0, .inr (12, [.int 0, .int 0, .ref mr, .ref mt, .ref mw, .ref mu, .ref mp, .ref mi, .ref mk, .ref ms, .int 0, .ref mv, .int 0, .int 0, .int 0, .int 0, .long 0, .int (-1), .int 0, .ref m1w, .ref m2w, .ref m3w, .ref m4w, .int 0, .long 0, .long 0, .long 0])), (mw, .inl (cm3, 906, .inr (.inl fw)))] s.heap := hP
  have hl := lv_entry ([.ref h0, .int tk, .int wh]) (n := 6) (Nat.le_of_ble_eq_true rfl)
  rw [lg_entry_eq]
  generalize (lg_sl ([.ref h0, .int tk, .int wh]) ++ List.replicate (6 - (lg_sl ([.ref h0, .int tk, .int wh])).length) Slot.unset).toArray = ls at hl ⊢
  have hl : lv_has ls 6 [(0, .ref h0), (1, .int tk), (2, .int wh)] := hl
  refine lv_aload_n hx hb dX12_of_0 rfl (lv_at hl 0 rfl) ?_
  refine lv_iconst (v := 0) hx hb dX12_of_1 (by decide) ?_
  refine va_put (D := (dC, dI)) (ci := 12) (v := .int 0) (ty := .int) (C := RX12) (T := TX12) (N := 27) hx hb hts (fun _ h0_ => List.mem_cons_of_mem _ (List.mem_append_right _ (List.mem_append_left _ h0_))) tyX12 tyX12_ok nmX12 hown hK hP hD hS 0 rfl rfl 0 (by decide) (hts (.fieldLink RX12 67 "DeadlineShareModel" "thrown" "I") (List.mem_cons_of_mem _ (List.mem_append_left _ (List.mem_of_getElem? (i := 0) rfl)))) (fun _ h9 => h9) rfl (by decide +kernel) rfl rfl (Nat.le_of_ble_eq_true rfl) dX12_of_2 (fun H locs hP hD hS => ?_)
  have hP : va_P (dC, dI) vwCl [(h0, .inr (12, [.int 0, .int 0, .ref mr, .ref mt, .ref mw, .ref mu, .ref mp, .ref mi, .ref mk, .ref ms, .int 0, .ref mv, .int 0, .int 0, .int 0, .int 0, .long 0, .int (-1), .int 0, .ref m1w, .ref m2w, .ref m3w, .ref m4w, .int 0, .long 0, .long 0, .long 0])), (mw, .inl (cm3, 906, .inr (.inl fw)))] H := hP
  have hD : va_D A [(h0, .inr (12, [.int 0, .int 0, .ref mr, .ref mt, .ref mw, .ref mu, .ref mp, .ref mi, .ref mk, .ref ms, .int 0, .ref mv, .int 0, .int 0, .int 0, .int 0, .long 0, .int (-1), .int 0, .ref m1w, .ref m2w, .ref m3w, .ref m4w, .int 0, .long 0, .long 0, .long 0])), (mw, .inl (cm3, 906, .inr (.inl fw)))] := hD
  refine lv_aload_n hx hb dX12_of_5 rfl (lv_at hl 0 rfl) ?_
  refine lv_iload_n hx hb dX12_of_6 rfl (lv_at hl 1 rfl) ?_
  have hPc := hP.sub (ws' := [(h0, .inr (12, [.int 0, .int 0, .ref mr, .ref mt, .ref mw, .ref mu, .ref mp, .ref mi, .ref mk, .ref ms, .int 0, .ref mv, .int 0, .int 0, .int 0, .int 0, .long 0, .int (-1), .int 0, .ref m1w, .ref m2w, .ref m3w, .ref m4w, .int 0, .long 0, .long 0, .long 0])), (mw, .inl (cm3, 906, .inr (.inl fw)))]) [0, 1] rfl
  have hDc := hD.sub (ws' := [(h0, .inr (12, [.int 0, .int 0, .ref mr, .ref mt, .ref mw, .ref mu, .ref mp, .ref mi, .ref mk, .ref ms, .int 0, .ref mv, .int 0, .int 0, .int 0, .int 0, .long 0, .int (-1), .int 0, .ref m1w, .ref m2w, .ref m3w, .ref m4w, .int 0, .long 0, .long 0, .long 0])), (mw, .inl (cm3, 906, .inr (.inl fw)))]) [0, 1] (by decide) rfl
  have hKc := hK.sub (tys' := [(cm3, .long)]) [0] rfl
  have hFc := va_free (wc := [(h0, .inr (12, [.int 0, .int 0, .ref mr, .ref mt, .ref mw, .ref mu, .ref mp, .ref mi, .ref mk, .ref ms, .int 0, .ref mv, .int 0, .int 0, .int 0, .int 0, .long 0, .int (-1), .int 0, .ref m1w, .ref m2w, .ref m3w, .ref m4w, .int 0, .long 0, .long 0, .long 0])), (mw, .inl (cm3, 906, .inr (.inl fw)))]) hD hS hA [0, 1] rfl
  refine va_calli (va_runV (As := [.int tk]) (rest := []) ⟨hx, hb, hml, hown, hts⟩ (c_X12_isTask l dC dI h0 tk mr mt mw mu mp mi mk ms mv m1w m2w m3w m4w cm3 fw H.size hw0) (cwV 1 hts (gi_V (fun w_ h0_ => ⟨List.mem_cons_of_mem _ (List.mem_append_right _ (List.mem_append_right _ (List.mem_append_left _ h0_))), (tb_c_X12_isTask w_ h0_).2⟩) (List.mem_cons_of_mem _ (List.mem_append_left _ (List.mem_of_getElem? (i := 1) rfl))) (List.mem_cons_of_mem _ (List.mem_append_left _ (List.mem_of_getElem? (i := 2) rfl))) (List.mem_cons_of_mem _ (List.mem_append_left _ (List.mem_of_getElem? (i := 3) rfl))) (List.mem_cons_of_mem _ (List.mem_append_left _ (List.mem_of_getElem? (i := 4) rfl)))) rfl rfl rfl (by decide +kernel) ⟨Nat.le_of_ble_eq_true rfl, Nat.le_of_ble_eq_true rfl⟩) ⟨fun a U g mk q => by obtain ⟨q0, q1, qP, qK, qD⟩ := q; exact ⟨q0, q1, qP, va_K.moved (u := U) (U := U.calling g mk a) (Vm.Alike.refl U.vm) qK, qD⟩, va_recv hKc hPc (ci := 12) (q0 := 0) rfl rfl, fun U hU hW => ⟨rfl, by rw [hU], by rw [hU]; exact hPc, va_K.moved hW.alike hKc, hDc.weaken (fun _ _ _ _ => trivial)⟩⟩ rfl rfl hl.1 rfl (lv_room (Nat.le_of_ble_eq_true rfl)) dX12_of_7 ⟨Nat.le_of_ble_eq_true rfl, Nat.le_of_ble_eq_true rfl⟩) hS (fun q _ h => hFc q h) hFc (fun r_1 u t H1 locs ht hvm hw hB hz1 hk1 hS => ?_)
  obtain ⟨hP1, hK1, hD1⟩ := hB
  rw [ht] at hP1
  have hK1 := va_K.moved hvm.symm hK1
  obtain ⟨hP, hD⟩ := va_join (wr := []) (w1 := [(h0, .inr (12, [.int 0, .int 0, .ref mr, .ref mt, .ref mw, .ref mu, .ref mp, .ref mi, .ref mk, .ref ms, .int 0, .ref mv, .int 0, .int 0, .int 0, .int 0, .long 0, .int (-1), .int 0, .ref m1w, .ref m2w, .ref m3w, .ref m4w, .int 0, .long 0, .long 0, .long 0])), (mw, .inl (cm3, 906, .inr (.inl fw)))]) hP hD [0, 1] [] rfl rfl (by decide) (by decide) hk1 hFc hP1 hD1
  generalize H1 = H at hP hS ⊢
  have hP : va_P (dC, dI) vwCl [(h0, .inr (12, [.int 0, .int 0, .ref mr, .ref mt, .ref mw, .ref mu, .ref mp, .ref mi, .ref mk, .ref ms, .int 0, .ref mv, .int 0, .int 0, .int 0, .int 0, .long 0, .int (-1), .int 0, .ref m1w, .ref m2w, .ref m3w, .ref m4w, .int 0, .long 0, .long 0, .long 0])), (mw, .inl (cm3, 906, .inr (.inl fw)))] H := hP
  have hD : va_D A [(h0, .inr (12, [.int 0, .int 0, .ref mr, .ref mt, .ref mw, .ref mu, .ref mp, .ref mi, .ref mk, .ref ms, .int 0, .ref mv, .int 0, .int 0, .int 0, .int 0, .long 0, .int (-1), .int 0, .ref m1w, .ref m2w, .ref m3w, .ref m4w, .int 0, .long 0, .long 0, .long 0])), (mw, .inl (cm3, 906, .inr (.inl fw)))] := hD
  refine W.widen (k := 0) (n := 0) (Nat.le_of_ble_eq_true rfl) (Nat.le_of_ble_eq_true rfl) ?_
  have hw : r_1 = 0 := hw
  subst hw
  refine lv_if_ne (tgt := 15) hx hb dX12_of_10 (by decide) (fun c => absurd c (by decide)) (fun _ => ?_)
  refine lv_iconst (v := (-1)) hx hb dX12_of_13 (by decide) ?_
  have hP9 := hP.sub (ws' := []) [] rfl
  have hD9 := hD.sub (ws' := []) [] (by decide) rfl
  have hK9 := hK.sub (tys' := []) [] rfl
  refine W.widen (k := 0) (n := 0) (Nat.le_of_ble_eq_true rfl) (Nat.le_of_ble_eq_true rfl) ?_
  exact W.iret (v := (-1)) hx hb hr (fun t ht hW => ⟨⟨(-1), (), rfl, rfl, by rw [ht]; exact hP9, va_K.moved hW.alike hK9, hD9⟩, hS.F ht⟩) hS.2.2 dX12_of_14
def ow_c_X12_exact : List Cond := [.fieldLink RX12 67 "DeadlineShareModel" "thrown" "I", .methodLink RX12 142 yX12_isTask, .instanceMethod yX12_isTask, .selects RX12 yX12_isTask yX12_isTask, .initialized RX12, .constantLong RX12 291 (-9223372036854775808)]
def wq_c_X12_exact : List Cond := .code yX12_exact cX12_exact 3 (some .long) :: (ow_c_X12_exact ++ (u_ws RX12 TX12 27 ++ (wq_c_X12_isTask ++ ([] : List Cond))))
theorem tb_c_X12_exact : ∀ w ∈ wq_c_X12_exact, q_g w := by
  unfold wq_c_X12_exact ow_c_X12_exact
  exact q_cons tw_525 (q_app (q_cons tw_488 (q_cons tw_506 (q_cons tw_505 (q_cons tw_504 (q_cons tw_435 (q_cons tw_524 q_nil)))))) (q_app tu_X12 (q_app tb_c_X12_isTask q_nil)))
set_option maxHeartbeats 4000000 in
set_option maxRecDepth 100000 in
theorem c_X12_exact (l : Launch) (dC : Nat → ClassId) (dI : Nat → Nat → Nat) (h0 : Nat) (tk : Int32) (wh : Int32) (mr : Nat) (mt : Nat) (mw : Nat) (mu : Nat) (mp : Nat) (mi : Nat) (mk : Nat) (ms : Nat) (mv : Nat) (m1w : Nat) (m2w : Nat) (m3w : Nat) (m4w : Nat) (cm3 : ClassId) (fw : Nat → Int64) (sz : Nat) (hw0 : fw 0 = 0) (hw1 : fw 1 = 0) (hw2 : fw 2 = 0) (hw3 : fw 3 = (-1)) (hw4 : fw 4 = (-1)) (hw5 : fw 5 = 0) : Met l yX12_exact wq_c_X12_exact ({ frames := 2, cells := 0, slots := 0, locals := 46 } : Room) (va_Pc [.ref h0, .int tk, .int wh] (fun U => U.heap.size = sz ∧ va_P (dC, dI) vwCl [(h0, .inr (12, [.int 0, .int 0, .ref mr, .ref mt, .ref mw, .ref mu, .ref mp, .ref mi, .ref mk, .ref ms, .int 0, .ref mv, .int 0, .int 0, .int 0, .int 0, .long 0, .int (-1), .int 0, .ref m1w, .ref m2w, .ref m3w, .ref m4w, .int 0, .long 0, .long 0, .long 0])), (mw, .inl (cm3, 906, .inr (.inl fw)))] U.heap ∧ va_K (dC, dI) vwCl [(cm3, .long)] U ∧ va_D (fun _ => True) [(h0, .inr (12, [.int 0, .int 0, .ref mr, .ref mt, .ref mw, .ref mu, .ref mp, .ref mi, .ref mk, .ref ms, .int 0, .ref mv, .int 0, .int 0, .int 0, .int 0, .long 0, .int (-1), .int 0, .ref m1w, .ref m2w, .ref m3w, .ref m4w, .int 0, .long 0, .long 0, .long 0])), (mw, .inl (cm3, 906, .inr (.inl fw)))])) (va_Ql (fun (r : Int64) (_ : Unit) => r = (-9223372036854775808)) (fun (_ : Unit) t => va_P (dC, dI) vwCl [] t.heap ∧ va_K (dC, dI) vwCl [] t ∧ va_D (va_A [(h0, .inr (12, [.int 0, .int 0, .ref mr, .ref mt, .ref mw, .ref mu, .ref mp, .ref mi, .ref mk, .ref ms, .int 0, .ref mv, .int 0, .int 0, .int 0, .int 0, .long 0, .int (-1), .int 0, .ref m1w, .ref m2w, .ref m3w, .ref m4w, .int 0, .long 0, .long 0, .long 0])), (mw, .inl (cm3, 906, .inr (.inl fw)))] sz) []) (va_A [(h0, .inr (12, [.int 0, .int 0, .ref mr, .ref mt, .ref mw, .ref mu, .ref mp, .ref mi, .ref mk, .ref ms, .int 0, .ref mv, .int 0, .int 0, .int 0, .int 0, .long 0, .int (-1), .int 0, .ref m1w, .ref m2w, .ref m3w, .ref m4w, .int 0, .long 0, .long 0, .long 0])), (mw, .inl (cm3, 906, .inr (.inl fw)))] sz)) 0 0 (va_A [(h0, .inr (12, [.int 0, .int 0, .ref mr, .ref mt, .ref mw, .ref mu, .ref mp, .ref mi, .ref mk, .ref ms, .int 0, .ref mv, .int 0, .int 0, .int 0, .int 0, .long 0, .int (-1), .int 0, .ref m1w, .ref m2w, .ref m3w, .ref m4w, .int 0, .long 0, .long 0, .long 0])), (mw, .inl (cm3, 906, .inr (.inl fw)))] sz) := by
  refine Met.ofW (cc := cX12_exact) (maxL := 3) (ret := (some .long)) (by decide) rfl ?_
  intro p e s m args below meth c s₁ B hml hv
  obtain ⟨rfl, hsz, hP, hK, hD0⟩ := hv
  have hx := B.exec
  have hb := B.bytes
  have hr := B.returns
  have hts := atoms_spec (ws := wq_c_X12_exact) B.pre
  have hown : s.vm.findClass RX12 = some m.cls := findClass_of_methodNamed B.named
  have hlocks := B.notSynchronized
  subst hsz
  have hD := hD0.self (sz := s.heap.size)
  obtain ⟨A, hAe⟩ : ∃ A, A = va_A [(h0, .inr (12, [.int 0, .int 0, .ref mr, .ref mt, .ref mw, .ref mu, .ref mp, .ref mi, .ref mk, .ref ms, .int 0, .ref mv, .int 0, .int 0, .int 0, .int 0, .long 0, .int (-1), .int 0, .ref m1w, .ref m2w, .ref m3w, .ref m4w, .int 0, .long 0, .long 0, .long 0])), (mw, .inl (cm3, 906, .inr (.inl fw)))] s.heap.size := ⟨_, rfl⟩
  rw [← hAe] at hD ⊢
  have hA : ∀ q : Nat, s.heap.size ≤ q → A q := fun q h => by rw [hAe]; exact Or.inr h
  have hS : va_S A s.heap s.heap [] := va_S.rf
  have hP : va_P (dC, dI) vwCl [(h0, .inr (12, [.int 0, .int 0, .ref mr, .ref mt, .ref mw, .ref mu, .ref mp, .ref mi, .ref mk, .ref ms, .int 0, .ref mv, .int 0, .int 0, .int 0, .int 0, .long 0, .int (-1), .int 0, .ref m1w, .ref m2w, .ref m3w, .ref m4w, .int 0, .long 0, .long 0, .long 0])), (mw, .inl (cm3, 906, .inr (.inl fw)))] s.heap := hP
  have hl := lv_entry ([.ref h0, .int tk, .int wh]) (n := 3) (Nat.le_of_ble_eq_true rfl)
  rw [lg_entry_eq]
  generalize (lg_sl ([.ref h0, .int tk, .int wh]) ++ List.replicate (3 - (lg_sl ([.ref h0, .int tk, .int wh])).length) Slot.unset).toArray = ls at hl ⊢
  have hl : lv_has ls 3 [(0, .ref h0), (1, .int tk), (2, .int wh)] := hl
  refine lv_aload_n hx hb dX12_exact_0 rfl (lv_at hl 0 rfl) ?_
  refine lv_iconst (v := 0) hx hb dX12_exact_1 (by decide) ?_
  refine va_put (D := (dC, dI)) (ci := 12) (v := .int 0) (ty := .int) (C := RX12) (T := TX12) (N := 27) hx hb hts (fun _ h0_ => List.mem_cons_of_mem _ (List.mem_append_right _ (List.mem_append_left _ h0_))) tyX12 tyX12_ok nmX12 hown hK hP hD hS 0 rfl rfl 0 (by decide) (hts (.fieldLink RX12 67 "DeadlineShareModel" "thrown" "I") (List.mem_cons_of_mem _ (List.mem_append_left _ (List.mem_of_getElem? (i := 0) rfl)))) (fun _ h9 => h9) rfl (by decide +kernel) rfl rfl (Nat.le_of_ble_eq_true rfl) dX12_exact_2 (fun H locs hP hD hS => ?_)
  have hP : va_P (dC, dI) vwCl [(h0, .inr (12, [.int 0, .int 0, .ref mr, .ref mt, .ref mw, .ref mu, .ref mp, .ref mi, .ref mk, .ref ms, .int 0, .ref mv, .int 0, .int 0, .int 0, .int 0, .long 0, .int (-1), .int 0, .ref m1w, .ref m2w, .ref m3w, .ref m4w, .int 0, .long 0, .long 0, .long 0])), (mw, .inl (cm3, 906, .inr (.inl fw)))] H := hP
  have hD : va_D A [(h0, .inr (12, [.int 0, .int 0, .ref mr, .ref mt, .ref mw, .ref mu, .ref mp, .ref mi, .ref mk, .ref ms, .int 0, .ref mv, .int 0, .int 0, .int 0, .int 0, .long 0, .int (-1), .int 0, .ref m1w, .ref m2w, .ref m3w, .ref m4w, .int 0, .long 0, .long 0, .long 0])), (mw, .inl (cm3, 906, .inr (.inl fw)))] := hD
  refine lv_aload_n hx hb dX12_exact_5 rfl (lv_at hl 0 rfl) ?_
  refine lv_iload_n hx hb dX12_exact_6 rfl (lv_at hl 1 rfl) ?_
  have hPc := hP.sub (ws' := [(h0, .inr (12, [.int 0, .int 0, .ref mr, .ref mt, .ref mw, .ref mu, .ref mp, .ref mi, .ref mk, .ref ms, .int 0, .ref mv, .int 0, .int 0, .int 0, .int 0, .long 0, .int (-1), .int 0, .ref m1w, .ref m2w, .ref m3w, .ref m4w, .int 0, .long 0, .long 0, .long 0])), (mw, .inl (cm3, 906, .inr (.inl fw)))]) [0, 1] rfl
  have hDc := hD.sub (ws' := [(h0, .inr (12, [.int 0, .int 0, .ref mr, .ref mt, .ref mw, .ref mu, .ref mp, .ref mi, .ref mk, .ref ms, .int 0, .ref mv, .int 0, .int 0, .int 0, .int 0, .long 0, .int (-1), .int 0, .ref m1w, .ref m2w, .ref m3w, .ref m4w, .int 0, .long 0, .long 0, .long 0])), (mw, .inl (cm3, 906, .inr (.inl fw)))]) [0, 1] (by decide) rfl
  have hKc := hK.sub (tys' := [(cm3, .long)]) [0] rfl
  have hFc := va_free (wc := [(h0, .inr (12, [.int 0, .int 0, .ref mr, .ref mt, .ref mw, .ref mu, .ref mp, .ref mi, .ref mk, .ref ms, .int 0, .ref mv, .int 0, .int 0, .int 0, .int 0, .long 0, .int (-1), .int 0, .ref m1w, .ref m2w, .ref m3w, .ref m4w, .int 0, .long 0, .long 0, .long 0])), (mw, .inl (cm3, 906, .inr (.inl fw)))]) hD hS hA [0, 1] rfl
  refine va_calli (va_runV (As := [.int tk]) (rest := []) ⟨hx, hb, hml, hown, hts⟩ (c_X12_isTask l dC dI h0 tk mr mt mw mu mp mi mk ms mv m1w m2w m3w m4w cm3 fw H.size hw0) (cwV 1 hts (gi_V (fun w_ h0_ => ⟨List.mem_cons_of_mem _ (List.mem_append_right _ (List.mem_append_right _ (List.mem_append_left _ h0_))), (tb_c_X12_isTask w_ h0_).2⟩) (List.mem_cons_of_mem _ (List.mem_append_left _ (List.mem_of_getElem? (i := 1) rfl))) (List.mem_cons_of_mem _ (List.mem_append_left _ (List.mem_of_getElem? (i := 2) rfl))) (List.mem_cons_of_mem _ (List.mem_append_left _ (List.mem_of_getElem? (i := 3) rfl))) (List.mem_cons_of_mem _ (List.mem_append_left _ (List.mem_of_getElem? (i := 4) rfl)))) rfl rfl rfl (by decide +kernel) ⟨Nat.le_of_ble_eq_true rfl, Nat.le_of_ble_eq_true rfl⟩) ⟨fun a U g mk q => by obtain ⟨q0, q1, qP, qK, qD⟩ := q; exact ⟨q0, q1, qP, va_K.moved (u := U) (U := U.calling g mk a) (Vm.Alike.refl U.vm) qK, qD⟩, va_recv hKc hPc (ci := 12) (q0 := 0) rfl rfl, fun U hU hW => ⟨rfl, by rw [hU], by rw [hU]; exact hPc, va_K.moved hW.alike hKc, hDc.weaken (fun _ _ _ _ => trivial)⟩⟩ rfl rfl hl.1 rfl (lv_room (Nat.le_of_ble_eq_true rfl)) dX12_exact_7 ⟨Nat.le_of_ble_eq_true rfl, Nat.le_of_ble_eq_true rfl⟩) hS (fun q _ h => hFc q h) hFc (fun r_1 u t H1 locs ht hvm hw hB hz1 hk1 hS => ?_)
  obtain ⟨hP1, hK1, hD1⟩ := hB
  rw [ht] at hP1
  have hK1 := va_K.moved hvm.symm hK1
  obtain ⟨hP, hD⟩ := va_join (wr := []) (w1 := [(h0, .inr (12, [.int 0, .int 0, .ref mr, .ref mt, .ref mw, .ref mu, .ref mp, .ref mi, .ref mk, .ref ms, .int 0, .ref mv, .int 0, .int 0, .int 0, .int 0, .long 0, .int (-1), .int 0, .ref m1w, .ref m2w, .ref m3w, .ref m4w, .int 0, .long 0, .long 0, .long 0])), (mw, .inl (cm3, 906, .inr (.inl fw)))]) hP hD [0, 1] [] rfl rfl (by decide) (by decide) hk1 hFc hP1 hD1
  generalize H1 = H at hP hS ⊢
  have hP : va_P (dC, dI) vwCl [(h0, .inr (12, [.int 0, .int 0, .ref mr, .ref mt, .ref mw, .ref mu, .ref mp, .ref mi, .ref mk, .ref ms, .int 0, .ref mv, .int 0, .int 0, .int 0, .int 0, .long 0, .int (-1), .int 0, .ref m1w, .ref m2w, .ref m3w, .ref m4w, .int 0, .long 0, .long 0, .long 0])), (mw, .inl (cm3, 906, .inr (.inl fw)))] H := hP
  have hD : va_D A [(h0, .inr (12, [.int 0, .int 0, .ref mr, .ref mt, .ref mw, .ref mu, .ref mp, .ref mi, .ref mk, .ref ms, .int 0, .ref mv, .int 0, .int 0, .int 0, .int 0, .long 0, .int (-1), .int 0, .ref m1w, .ref m2w, .ref m3w, .ref m4w, .int 0, .long 0, .long 0, .long 0])), (mw, .inl (cm3, 906, .inr (.inl fw)))] := hD
  refine W.widen (k := 0) (n := 0) (Nat.le_of_ble_eq_true rfl) (Nat.le_of_ble_eq_true rfl) ?_
  have hw : r_1 = 0 := hw
  subst hw
  refine lv_if_ne (tgt := 17) hx hb dX12_exact_10 (by decide) (fun c => absurd c (by decide)) (fun _ => ?_)
  refine lv_ldc2 hx hb hown (hts (.constantLong RX12 291 (-9223372036854775808)) (List.mem_cons_of_mem _ (List.mem_append_left _ (List.mem_of_getElem? (i := 5) rfl)))) dX12_exact_13 ?_
  have hP9 := hP.sub (ws' := []) [] rfl
  have hD9 := hD.sub (ws' := []) [] (by decide) rfl
  have hK9 := hK.sub (tys' := []) [] rfl
  refine W.widen (k := 0) (n := 0) (Nat.le_of_ble_eq_true rfl) (Nat.le_of_ble_eq_true rfl) ?_
  exact W.lret (v := (-9223372036854775808)) hx hb hr (fun t ht hW => ⟨⟨(-9223372036854775808), (), rfl, rfl, by rw [ht]; exact hP9, va_K.moved hW.alike hK9, hD9⟩, hS.F ht⟩) hS.2.2 dX12_exact_16
def ow_c_X12_time : List Cond := [.fieldLink RX12 67 "DeadlineShareModel" "thrown" "I", .methodLink RX12 105 yX12_heavy, .instanceMethod yX12_heavy, .selects RX12 yX12_heavy yX12_heavy, .initialized RX12, .fieldLink RX12 16 "DeadlineShareModel" "row" "[J", .constantLong RX12 291 (-9223372036854775808)]
def wq_c_X12_time : List Cond := .code yX12_time cX12_time 4 (some .long) :: (ow_c_X12_time ++ (u_ws RX12 TX12 27 ++ (wq_c_X12_heavy ++ ([] : List Cond))))
theorem tb_c_X12_time : ∀ w ∈ wq_c_X12_time, q_g w := by
  unfold wq_c_X12_time ow_c_X12_time
  exact q_cons tw_526 (q_app (q_cons tw_488 (q_cons tw_454 (q_cons tw_453 (q_cons tw_452 (q_cons tw_435 (q_cons tw_425 (q_cons tw_524 q_nil))))))) (q_app tu_X12 (q_app tb_c_X12_heavy q_nil)))
set_option maxHeartbeats 4000000 in
set_option maxRecDepth 100000 in
theorem c_X12_time (l : Launch) (dC : Nat → ClassId) (dI : Nat → Nat → Nat) (h0 : Nat) (wh : Int32) (mr : Nat) (mt : Nat) (mw : Nat) (mu : Nat) (mp : Nat) (mi : Nat) (mk : Nat) (ms : Nat) (mv : Nat) (m1w : Nat) (m2w : Nat) (m3w : Nat) (m4w : Nat) (cm3 : ClassId) (fw : Nat → Int64) (sz : Nat) (hw0 : fw 0 = 0) (hw1 : fw 1 = 0) (hw2 : fw 2 = 0) (hw3 : fw 3 = (-1)) (hw4 : fw 4 = (-1)) (hw5 : fw 5 = 0) : Met l yX12_time wq_c_X12_time ({ frames := 1, cells := 0, slots := 0, locals := 23 } : Room) (va_Pc [.ref h0, .int wh] (fun U => U.heap.size = sz ∧ va_P (dC, dI) vwCl [(h0, .inr (12, [.int 0, .int 0, .ref mr, .ref mt, .ref mw, .ref mu, .ref mp, .ref mi, .ref mk, .ref ms, .int 0, .ref mv, .int 0, .int 0, .int 0, .int 0, .long 0, .int (-1), .int 0, .ref m1w, .ref m2w, .ref m3w, .ref m4w, .int 0, .long 0, .long 0, .long 0])), (mw, .inl (cm3, 906, .inr (.inl fw)))] U.heap ∧ va_K (dC, dI) vwCl [(cm3, .long)] U ∧ va_D (fun _ => True) [(h0, .inr (12, [.int 0, .int 0, .ref mr, .ref mt, .ref mw, .ref mu, .ref mp, .ref mi, .ref mk, .ref ms, .int 0, .ref mv, .int 0, .int 0, .int 0, .int 0, .long 0, .int (-1), .int 0, .ref m1w, .ref m2w, .ref m3w, .ref m4w, .int 0, .long 0, .long 0, .long 0])), (mw, .inl (cm3, 906, .inr (.inl fw)))])) (va_Ql (fun (r : Int64) (_ : Unit) => r = sp_time wh) (fun (_ : Unit) t => va_P (dC, dI) vwCl [] t.heap ∧ va_K (dC, dI) vwCl [] t ∧ va_D (va_A [(h0, .inr (12, [.int 0, .int 0, .ref mr, .ref mt, .ref mw, .ref mu, .ref mp, .ref mi, .ref mk, .ref ms, .int 0, .ref mv, .int 0, .int 0, .int 0, .int 0, .long 0, .int (-1), .int 0, .ref m1w, .ref m2w, .ref m3w, .ref m4w, .int 0, .long 0, .long 0, .long 0])), (mw, .inl (cm3, 906, .inr (.inl fw)))] sz) []) (va_A [(h0, .inr (12, [.int 0, .int 0, .ref mr, .ref mt, .ref mw, .ref mu, .ref mp, .ref mi, .ref mk, .ref ms, .int 0, .ref mv, .int 0, .int 0, .int 0, .int 0, .long 0, .int (-1), .int 0, .ref m1w, .ref m2w, .ref m3w, .ref m4w, .int 0, .long 0, .long 0, .long 0])), (mw, .inl (cm3, 906, .inr (.inl fw)))] sz)) 0 0 (va_A [(h0, .inr (12, [.int 0, .int 0, .ref mr, .ref mt, .ref mw, .ref mu, .ref mp, .ref mi, .ref mk, .ref ms, .int 0, .ref mv, .int 0, .int 0, .int 0, .int 0, .long 0, .int (-1), .int 0, .ref m1w, .ref m2w, .ref m3w, .ref m4w, .int 0, .long 0, .long 0, .long 0])), (mw, .inl (cm3, 906, .inr (.inl fw)))] sz) := by
  refine Met.ofW (cc := cX12_time) (maxL := 4) (ret := (some .long)) (by decide) rfl ?_
  intro p e s m args below meth c s₁ B hml hv
  obtain ⟨rfl, hsz, hP, hK, hD0⟩ := hv
  have hx := B.exec
  have hb := B.bytes
  have hr := B.returns
  have hts := atoms_spec (ws := wq_c_X12_time) B.pre
  have hown : s.vm.findClass RX12 = some m.cls := findClass_of_methodNamed B.named
  have hlocks := B.notSynchronized
  subst hsz
  have hD := hD0.self (sz := s.heap.size)
  obtain ⟨A, hAe⟩ : ∃ A, A = va_A [(h0, .inr (12, [.int 0, .int 0, .ref mr, .ref mt, .ref mw, .ref mu, .ref mp, .ref mi, .ref mk, .ref ms, .int 0, .ref mv, .int 0, .int 0, .int 0, .int 0, .long 0, .int (-1), .int 0, .ref m1w, .ref m2w, .ref m3w, .ref m4w, .int 0, .long 0, .long 0, .long 0])), (mw, .inl (cm3, 906, .inr (.inl fw)))] s.heap.size := ⟨_, rfl⟩
  rw [← hAe] at hD ⊢
  have hA : ∀ q : Nat, s.heap.size ≤ q → A q := fun q h => by rw [hAe]; exact Or.inr h
  have hS : va_S A s.heap s.heap [] := va_S.rf
  have hP : va_P (dC, dI) vwCl [(h0, .inr (12, [.int 0, .int 0, .ref mr, .ref mt, .ref mw, .ref mu, .ref mp, .ref mi, .ref mk, .ref ms, .int 0, .ref mv, .int 0, .int 0, .int 0, .int 0, .long 0, .int (-1), .int 0, .ref m1w, .ref m2w, .ref m3w, .ref m4w, .int 0, .long 0, .long 0, .long 0])), (mw, .inl (cm3, 906, .inr (.inl fw)))] s.heap := hP
  have hl := lv_entry ([.ref h0, .int wh]) (n := 4) (Nat.le_of_ble_eq_true rfl)
  rw [lg_entry_eq]
  generalize (lg_sl ([.ref h0, .int wh]) ++ List.replicate (4 - (lg_sl ([.ref h0, .int wh])).length) Slot.unset).toArray = ls at hl ⊢
  have hl : lv_has ls 4 [(0, .ref h0), (1, .int wh)] := hl
  refine lv_aload_n hx hb dX12_time_0 rfl (lv_at hl 0 rfl) ?_
  refine lv_iconst (v := 0) hx hb dX12_time_1 (by decide) ?_
  refine va_put (D := (dC, dI)) (ci := 12) (v := .int 0) (ty := .int) (C := RX12) (T := TX12) (N := 27) hx hb hts (fun _ h0_ => List.mem_cons_of_mem _ (List.mem_append_right _ (List.mem_append_left _ h0_))) tyX12 tyX12_ok nmX12 hown hK hP hD hS 0 rfl rfl 0 (by decide) (hts (.fieldLink RX12 67 "DeadlineShareModel" "thrown" "I") (List.mem_cons_of_mem _ (List.mem_append_left _ (List.mem_of_getElem? (i := 0) rfl)))) (fun _ h9 => h9) rfl (by decide +kernel) rfl rfl (Nat.le_of_ble_eq_true rfl) dX12_time_2 (fun H locs hP hD hS => ?_)
  have hP : va_P (dC, dI) vwCl [(h0, .inr (12, [.int 0, .int 0, .ref mr, .ref mt, .ref mw, .ref mu, .ref mp, .ref mi, .ref mk, .ref ms, .int 0, .ref mv, .int 0, .int 0, .int 0, .int 0, .long 0, .int (-1), .int 0, .ref m1w, .ref m2w, .ref m3w, .ref m4w, .int 0, .long 0, .long 0, .long 0])), (mw, .inl (cm3, 906, .inr (.inl fw)))] H := hP
  have hD : va_D A [(h0, .inr (12, [.int 0, .int 0, .ref mr, .ref mt, .ref mw, .ref mu, .ref mp, .ref mi, .ref mk, .ref ms, .int 0, .ref mv, .int 0, .int 0, .int 0, .int 0, .long 0, .int (-1), .int 0, .ref m1w, .ref m2w, .ref m3w, .ref m4w, .int 0, .long 0, .long 0, .long 0])), (mw, .inl (cm3, 906, .inr (.inl fw)))] := hD
  refine lv_aload_n hx hb dX12_time_5 rfl (lv_at hl 0 rfl) ?_
  have hPc := hP.sub (ws' := [(h0, .inr (12, [.int 0, .int 0, .ref mr, .ref mt, .ref mw, .ref mu, .ref mp, .ref mi, .ref mk, .ref ms, .int 0, .ref mv, .int 0, .int 0, .int 0, .int 0, .long 0, .int (-1), .int 0, .ref m1w, .ref m2w, .ref m3w, .ref m4w, .int 0, .long 0, .long 0, .long 0])), (mw, .inl (cm3, 906, .inr (.inl fw)))]) [0, 1] rfl
  have hDc := hD.sub (ws' := [(h0, .inr (12, [.int 0, .int 0, .ref mr, .ref mt, .ref mw, .ref mu, .ref mp, .ref mi, .ref mk, .ref ms, .int 0, .ref mv, .int 0, .int 0, .int 0, .int 0, .long 0, .int (-1), .int 0, .ref m1w, .ref m2w, .ref m3w, .ref m4w, .int 0, .long 0, .long 0, .long 0])), (mw, .inl (cm3, 906, .inr (.inl fw)))]) [0, 1] (by decide) rfl
  have hKc := hK.sub (tys' := [(cm3, .long)]) [0] rfl
  have hFc := va_free (wc := [(h0, .inr (12, [.int 0, .int 0, .ref mr, .ref mt, .ref mw, .ref mu, .ref mp, .ref mi, .ref mk, .ref ms, .int 0, .ref mv, .int 0, .int 0, .int 0, .int 0, .long 0, .int (-1), .int 0, .ref m1w, .ref m2w, .ref m3w, .ref m4w, .int 0, .long 0, .long 0, .long 0])), (mw, .inl (cm3, 906, .inr (.inl fw)))]) hD hS hA [0, 1] rfl
  refine va_calll (va_runV (As := []) (rest := []) ⟨hx, hb, hml, hown, hts⟩ (c_X12_heavy l dC dI h0 0 0 mr mt mw mu mp mi mk ms 0 mv 0 0 0 0 0 (-1) 0 m1w m2w m3w m4w 0 0 0 0 cm3 fw H.size hw0) (cwV 0 hts (gi_V (fun w_ h0_ => ⟨List.mem_cons_of_mem _ (List.mem_append_right _ (List.mem_append_right _ (List.mem_append_left _ h0_))), (tb_c_X12_heavy w_ h0_).2⟩) (List.mem_cons_of_mem _ (List.mem_append_left _ (List.mem_of_getElem? (i := 1) rfl))) (List.mem_cons_of_mem _ (List.mem_append_left _ (List.mem_of_getElem? (i := 2) rfl))) (List.mem_cons_of_mem _ (List.mem_append_left _ (List.mem_of_getElem? (i := 3) rfl))) (List.mem_cons_of_mem _ (List.mem_append_left _ (List.mem_of_getElem? (i := 4) rfl)))) rfl rfl rfl (by decide +kernel) ⟨Nat.le_of_ble_eq_true rfl, Nat.le_of_ble_eq_true rfl⟩) ⟨fun a U g mk q => by obtain ⟨q0, q1, qP, qK, qD⟩ := q; exact ⟨q0, q1, qP, va_K.moved (u := U) (U := U.calling g mk a) (Vm.Alike.refl U.vm) qK, qD⟩, va_recv hKc hPc (ci := 12) (q0 := 0) rfl rfl, fun U hU hW => ⟨rfl, by rw [hU], by rw [hU]; exact hPc, va_K.moved hW.alike hKc, hDc.weaken (fun _ _ _ _ => trivial)⟩⟩ rfl rfl hl.1 rfl (lv_room (Nat.le_of_ble_eq_true rfl)) dX12_time_6 ⟨Nat.le_of_ble_eq_true rfl, Nat.le_of_ble_eq_true rfl⟩) hS (fun q _ h => hFc q h) hFc (fun r_1 u t H1 locs ht hvm hw hB hz1 hk1 hS => ?_)
  obtain ⟨hP1, hK1, hD1⟩ := hB
  rw [ht] at hP1
  have hK1 := va_K.moved hvm.symm hK1
  obtain ⟨hP, hD⟩ := va_join (wr := []) (w1 := [(h0, .inr (12, [.int 0, .int 0, .ref mr, .ref mt, .ref mw, .ref mu, .ref mp, .ref mi, .ref mk, .ref ms, .int 0, .ref mv, .int 0, .int 0, .int 0, .int 0, .long 0, .int (-1), .int 0, .ref m1w, .ref m2w, .ref m3w, .ref m4w, .int 0, .long 0, .long 0, .long 0])), (mw, .inl (cm3, 906, .inr (.inl fw)))]) hP hD [0, 1] [] rfl rfl (by decide) (by decide) hk1 hFc hP1 hD1
  generalize H1 = H at hP hS ⊢
  have hP : va_P (dC, dI) vwCl [(h0, .inr (12, [.int 0, .int 0, .ref mr, .ref mt, .ref mw, .ref mu, .ref mp, .ref mi, .ref mk, .ref ms, .int 0, .ref mv, .int 0, .int 0, .int 0, .int 0, .long 0, .int (-1), .int 0, .ref m1w, .ref m2w, .ref m3w, .ref m4w, .int 0, .long 0, .long 0, .long 0])), (mw, .inl (cm3, 906, .inr (.inl fw)))] H := hP
  have hD : va_D A [(h0, .inr (12, [.int 0, .int 0, .ref mr, .ref mt, .ref mw, .ref mu, .ref mp, .ref mi, .ref mk, .ref ms, .int 0, .ref mv, .int 0, .int 0, .int 0, .int 0, .long 0, .int (-1), .int 0, .ref m1w, .ref m2w, .ref m3w, .ref m4w, .int 0, .long 0, .long 0, .long 0])), (mw, .inl (cm3, 906, .inr (.inl fw)))] := hD
  refine W.widen (k := 0) (n := 0) (Nat.le_of_ble_eq_true rfl) (Nat.le_of_ble_eq_true rfl) ?_
  have hw : r_1 = 0 := hw
  subst hw
  refine lv_lstore_n (lv' := [(2, .long 0), (0, .ref h0), (1, .int wh)]) hx hb dX12_time_9 rfl hl (by decide) rfl (fun ls hl => ?_)
  refine lv_iload_n hx hb dX12_time_10 rfl (lv_at hl 2 rfl) ?_
  by_cases h_2 : wh = 0
  · subst h_2
    refine lv_tableIn (tgt := 40) hx hb dX12_time_11 (by decide) (by decide) rfl (by decide) ?_
    refine lv_lload_n hx hb dX12_time_40 rfl (lv_at hl 0 rfl) ?_
    refine lv_lconst (v := 0) hx hb dX12_time_41 (by decide) ?_
    refine W.lcmp hx hb dX12_time_42 ?_
    refine k_topi (y := 0) (by decide) ?_
    refine lv_if_ne (tgt := 55) hx hb dX12_time_43 (by decide) (fun c => absurd c (by decide)) (fun _ => ?_)
    refine lv_aload_n hx hb dX12_time_46 rfl (lv_at hl 1 rfl) ?_
    refine va_get (D := (dC, dI)) (ci := 12) (v := .ref mw) (C := RX12) (T := TX12) (N := 27) hx hb hts (fun _ h0_ => List.mem_cons_of_mem _ (List.mem_append_right _ (List.mem_append_left _ h0_))) hown hK hP 0 rfl rfl 4 (by decide) (hts (.fieldLink RX12 16 "DeadlineShareModel" "row" "[J") (List.mem_cons_of_mem _ (List.mem_append_left _ (List.mem_of_getElem? (i := 5) rfl)))) (fun _ h9 => h9) rfl dX12_time_47 ?_
    refine lv_iconst (v := 2) hx hb dX12_time_50 (by decide) ?_
    refine va_lald hx hb hK hP 1 0 rfl rfl (by unfold vp_in; decide) dX12_time_51 ?_
    refine k_topl (y := 0) ((congrArg fw (show Int32.toNatClampNeg 2 = 2 by decide)).trans hw2) ?_
    refine lv_goto (tgt := 63) hx hb dX12_time_52 (by decide) ?_
    have hP9 := hP.sub (ws' := []) [] rfl
    have hD9 := hD.sub (ws' := []) [] (by decide) rfl
    have hK9 := hK.sub (tys' := []) [] rfl
    refine W.widen (k := 0) (n := 0) (Nat.le_of_ble_eq_true rfl) (Nat.le_of_ble_eq_true rfl) ?_
    exact W.lret (v := 0) hx hb hr (fun t ht hW => ⟨⟨0, (), rfl, (by decide), by rw [ht]; exact hP9, va_K.moved hW.alike hK9, hD9⟩, hS.F ht⟩) hS.2.2 dX12_time_63
  by_cases h_3 : wh = 1
  · subst h_3
    refine lv_tableIn (tgt := 64) hx hb dX12_time_11 (by decide) (by decide) rfl (by decide) ?_
    refine lv_lload_n hx hb dX12_time_64 rfl (lv_at hl 0 rfl) ?_
    refine lv_lconst (v := 0) hx hb dX12_time_65 (by decide) ?_
    refine W.lcmp hx hb dX12_time_66 ?_
    refine k_topi (y := 0) (by decide) ?_
    refine lv_if_ne (tgt := 74) hx hb dX12_time_67 (by decide) (fun c => absurd c (by decide)) (fun _ => ?_)
    refine lv_lconst (v := 0) hx hb dX12_time_70 (by decide) ?_
    refine lv_goto (tgt := 89) hx hb dX12_time_71 (by decide) ?_
    have hP9 := hP.sub (ws' := []) [] rfl
    have hD9 := hD.sub (ws' := []) [] (by decide) rfl
    have hK9 := hK.sub (tys' := []) [] rfl
    refine W.widen (k := 0) (n := 0) (Nat.le_of_ble_eq_true rfl) (Nat.le_of_ble_eq_true rfl) ?_
    exact W.lret (v := 0) hx hb hr (fun t ht hW => ⟨⟨0, (), rfl, (by decide), by rw [ht]; exact hP9, va_K.moved hW.alike hK9, hD9⟩, hS.F ht⟩) hS.2.2 dX12_time_89
  by_cases h_4 : wh = 2
  · subst h_4
    refine lv_tableIn (tgt := 90) hx hb dX12_time_11 (by decide) (by decide) rfl (by decide) ?_
    refine lv_lload_n hx hb dX12_time_90 rfl (lv_at hl 0 rfl) ?_
    have hP9 := hP.sub (ws' := []) [] rfl
    have hD9 := hD.sub (ws' := []) [] (by decide) rfl
    have hK9 := hK.sub (tys' := []) [] rfl
    refine W.widen (k := 0) (n := 0) (Nat.le_of_ble_eq_true rfl) (Nat.le_of_ble_eq_true rfl) ?_
    exact W.lret (v := 0) hx hb hr (fun t ht hW => ⟨⟨0, (), rfl, (by decide), by rw [ht]; exact hP9, va_K.moved hW.alike hK9, hD9⟩, hS.F ht⟩) hS.2.2 dX12_time_91
  by_cases h_5 : wh = 3
  · subst h_5
    refine lv_tableIn (tgt := 92) hx hb dX12_time_11 (by decide) (by decide) rfl (by decide) ?_
    refine lv_aload_n hx hb dX12_time_92 rfl (lv_at hl 1 rfl) ?_
    refine va_get (D := (dC, dI)) (ci := 12) (v := .ref mw) (C := RX12) (T := TX12) (N := 27) hx hb hts (fun _ h0_ => List.mem_cons_of_mem _ (List.mem_append_right _ (List.mem_append_left _ h0_))) hown hK hP 0 rfl rfl 4 (by decide) (hts (.fieldLink RX12 16 "DeadlineShareModel" "row" "[J") (List.mem_cons_of_mem _ (List.mem_append_left _ (List.mem_of_getElem? (i := 5) rfl)))) (fun _ h9 => h9) rfl dX12_time_93 ?_
    refine lv_iconst (v := 1) hx hb dX12_time_96 (by decide) ?_
    refine va_lald hx hb hK hP 1 0 rfl rfl (by unfold vp_in; decide) dX12_time_97 ?_
    refine k_topl (y := 0) ((congrArg fw (show Int32.toNatClampNeg 1 = 1 by decide)).trans hw1) ?_
    have hP9 := hP.sub (ws' := []) [] rfl
    have hD9 := hD.sub (ws' := []) [] (by decide) rfl
    have hK9 := hK.sub (tys' := []) [] rfl
    refine W.widen (k := 0) (n := 0) (Nat.le_of_ble_eq_true rfl) (Nat.le_of_ble_eq_true rfl) ?_
    exact W.lret (v := 0) hx hb hr (fun t ht hW => ⟨⟨0, (), rfl, (by decide), by rw [ht]; exact hP9, va_K.moved hW.alike hK9, hD9⟩, hS.F ht⟩) hS.2.2 dX12_time_98
  have z_6 := lv_neT (a := 0) h_2 (by decide)
  have z_7 := lv_neT (a := 1) h_3 (by decide)
  have z_8 := lv_neT (a := 2) h_4 (by decide)
  have z_9 := lv_neT (a := 3) h_5 (by decide)
  refine lv_tableOut (tgt := 99) hx hb dX12_time_11 (by omega) (by decide) ?_
  refine lv_ldc2 hx hb hown (hts (.constantLong RX12 291 (-9223372036854775808)) (List.mem_cons_of_mem _ (List.mem_append_left _ (List.mem_of_getElem? (i := 6) rfl)))) dX12_time_99 ?_
  have hP9 := hP.sub (ws' := []) [] rfl
  have hD9 := hD.sub (ws' := []) [] (by decide) rfl
  have hK9 := hK.sub (tys' := []) [] rfl
  refine W.widen (k := 0) (n := 0) (Nat.le_of_ble_eq_true rfl) (Nat.le_of_ble_eq_true rfl) ?_
  exact W.lret (v := (-9223372036854775808)) hx hb hr (fun t ht hW => ⟨⟨(-9223372036854775808), (), rfl, (by have nh_2 := lv_neT (a := 0) h_2 (by decide); have nh_3 := lv_neT (a := 1) h_3 (by decide); have nh_4 := lv_neT (a := 2) h_4 (by decide); have nh_5 := lv_neT (a := 3) h_5 (by decide); unfold sp_time; (repeat' split) <;> first | rfl | omega | (refine Int32.toInt_inj.mp ?_; omega)), by rw [ht]; exact hP9, va_K.moved hW.alike hK9, hD9⟩, hS.F ht⟩) hS.2.2 dX12_time_102
def ow_c_X12_eligible : List Cond := [.fieldLink RX12 67 "DeadlineShareModel" "thrown" "I", .fieldLink RX12 16 "DeadlineShareModel" "row" "[J"]
def wq_c_X12_eligible : List Cond := .code yX12_eligible cX12_eligible 3 (some .int) :: (ow_c_X12_eligible ++ (u_ws RX12 TX12 27 ++ ([] : List Cond)))
theorem tb_c_X12_eligible : ∀ w ∈ wq_c_X12_eligible, q_g w := by
  unfold wq_c_X12_eligible ow_c_X12_eligible
  exact q_cons tw_527 (q_app (q_cons tw_488 (q_cons tw_425 q_nil)) (q_app tu_X12 q_nil))
set_option maxHeartbeats 4000000 in
set_option maxRecDepth 100000 in
theorem c_X12_eligible (l : Launch) (dC : Nat → ClassId) (dI : Nat → Nat → Nat) (h0 : Nat) (mr : Nat) (mt : Nat) (mw : Nat) (mu : Nat) (mp : Nat) (mi : Nat) (mk : Nat) (ms : Nat) (mv : Nat) (m1w : Nat) (m2w : Nat) (m3w : Nat) (m4w : Nat) (cm3 : ClassId) (fw : Nat → Int64) (sz : Nat) (hw0 : fw 0 = 0) (hw1 : fw 1 = 0) (hw2 : fw 2 = 0) (hw3 : fw 3 = (-1)) (hw4 : fw 4 = (-1)) (hw5 : fw 5 = 0) : Met l yX12_eligible wq_c_X12_eligible ({ frames := 0, cells := 0, slots := 0, locals := 0 } : Room) (va_Pc [.ref h0] (fun U => U.heap.size = sz ∧ va_P (dC, dI) vwCl [(h0, .inr (12, [.int 0, .int 0, .ref mr, .ref mt, .ref mw, .ref mu, .ref mp, .ref mi, .ref mk, .ref ms, .int 0, .ref mv, .int 0, .int 0, .int 0, .int 0, .long 0, .int (-1), .int 0, .ref m1w, .ref m2w, .ref m3w, .ref m4w, .int 0, .long 0, .long 0, .long 0])), (mw, .inl (cm3, 906, .inr (.inl fw)))] U.heap ∧ va_K (dC, dI) vwCl [(cm3, .long)] U ∧ va_D (fun _ => True) [(h0, .inr (12, [.int 0, .int 0, .ref mr, .ref mt, .ref mw, .ref mu, .ref mp, .ref mi, .ref mk, .ref ms, .int 0, .ref mv, .int 0, .int 0, .int 0, .int 0, .long 0, .int (-1), .int 0, .ref m1w, .ref m2w, .ref m3w, .ref m4w, .int 0, .long 0, .long 0, .long 0])), (mw, .inl (cm3, 906, .inr (.inl fw)))])) (va_Qi (fun (r : Int32) (_ : Unit) => r = 0) (fun (_ : Unit) t => va_P (dC, dI) vwCl [] t.heap ∧ va_K (dC, dI) vwCl [] t ∧ va_D (va_A [(h0, .inr (12, [.int 0, .int 0, .ref mr, .ref mt, .ref mw, .ref mu, .ref mp, .ref mi, .ref mk, .ref ms, .int 0, .ref mv, .int 0, .int 0, .int 0, .int 0, .long 0, .int (-1), .int 0, .ref m1w, .ref m2w, .ref m3w, .ref m4w, .int 0, .long 0, .long 0, .long 0])), (mw, .inl (cm3, 906, .inr (.inl fw)))] sz) []) (va_A [(h0, .inr (12, [.int 0, .int 0, .ref mr, .ref mt, .ref mw, .ref mu, .ref mp, .ref mi, .ref mk, .ref ms, .int 0, .ref mv, .int 0, .int 0, .int 0, .int 0, .long 0, .int (-1), .int 0, .ref m1w, .ref m2w, .ref m3w, .ref m4w, .int 0, .long 0, .long 0, .long 0])), (mw, .inl (cm3, 906, .inr (.inl fw)))] sz)) 0 0 (va_A [(h0, .inr (12, [.int 0, .int 0, .ref mr, .ref mt, .ref mw, .ref mu, .ref mp, .ref mi, .ref mk, .ref ms, .int 0, .ref mv, .int 0, .int 0, .int 0, .int 0, .long 0, .int (-1), .int 0, .ref m1w, .ref m2w, .ref m3w, .ref m4w, .int 0, .long 0, .long 0, .long 0])), (mw, .inl (cm3, 906, .inr (.inl fw)))] sz) := by
  refine Met.ofW (cc := cX12_eligible) (maxL := 3) (ret := (some .int)) (by decide) rfl ?_
  intro p e s m args below meth c s₁ B hml hv
  obtain ⟨rfl, hsz, hP, hK, hD0⟩ := hv
  have hx := B.exec
  have hb := B.bytes
  have hr := B.returns
  have hts := atoms_spec (ws := wq_c_X12_eligible) B.pre
  have hown : s.vm.findClass RX12 = some m.cls := findClass_of_methodNamed B.named
  have hlocks := B.notSynchronized
  subst hsz
  have hD := hD0.self (sz := s.heap.size)
  obtain ⟨A, hAe⟩ : ∃ A, A = va_A [(h0, .inr (12, [.int 0, .int 0, .ref mr, .ref mt, .ref mw, .ref mu, .ref mp, .ref mi, .ref mk, .ref ms, .int 0, .ref mv, .int 0, .int 0, .int 0, .int 0, .long 0, .int (-1), .int 0, .ref m1w, .ref m2w, .ref m3w, .ref m4w, .int 0, .long 0, .long 0, .long 0])), (mw, .inl (cm3, 906, .inr (.inl fw)))] s.heap.size := ⟨_, rfl⟩
  rw [← hAe] at hD ⊢
  have hA : ∀ q : Nat, s.heap.size ≤ q → A q := fun q h => by rw [hAe]; exact Or.inr h
  have hS : va_S A s.heap s.heap [] := va_S.rf
  have hP : va_P (dC, dI) vwCl [(h0, .inr (12, [.int 0, .int 0, .ref mr, .ref mt, .ref mw, .ref mu, .ref mp, .ref mi, .ref mk, .ref ms, .int 0, .ref mv, .int 0, .int 0, .int 0, .int 0, .long 0, .int (-1), .int 0, .ref m1w, .ref m2w, .ref m3w, .ref m4w, .int 0, .long 0, .long 0, .long 0])), (mw, .inl (cm3, 906, .inr (.inl fw)))] s.heap := hP
  have hl := lv_entry ([.ref h0]) (n := 3) (Nat.le_of_ble_eq_true rfl)
  rw [lg_entry_eq]
  generalize (lg_sl ([.ref h0]) ++ List.replicate (3 - (lg_sl ([.ref h0])).length) Slot.unset).toArray = ls at hl ⊢
  have hl : lv_has ls 3 [(0, .ref h0)] := hl
  refine lv_aload_n hx hb dX12_eligible_0 rfl (lv_at hl 0 rfl) ?_
  refine lv_iconst (v := 0) hx hb dX12_eligible_1 (by decide) ?_
  refine va_put (D := (dC, dI)) (ci := 12) (v := .int 0) (ty := .int) (C := RX12) (T := TX12) (N := 27) hx hb hts (fun _ h0_ => List.mem_cons_of_mem _ (List.mem_append_right _ (List.mem_append_left _ h0_))) tyX12 tyX12_ok nmX12 hown hK hP hD hS 0 rfl rfl 0 (by decide) (hts (.fieldLink RX12 67 "DeadlineShareModel" "thrown" "I") (List.mem_cons_of_mem _ (List.mem_append_left _ (List.mem_of_getElem? (i := 0) rfl)))) (fun _ h9 => h9) rfl (by decide +kernel) rfl rfl (Nat.le_of_ble_eq_true rfl) dX12_eligible_2 (fun H locs hP hD hS => ?_)
  have hP : va_P (dC, dI) vwCl [(h0, .inr (12, [.int 0, .int 0, .ref mr, .ref mt, .ref mw, .ref mu, .ref mp, .ref mi, .ref mk, .ref ms, .int 0, .ref mv, .int 0, .int 0, .int 0, .int 0, .long 0, .int (-1), .int 0, .ref m1w, .ref m2w, .ref m3w, .ref m4w, .int 0, .long 0, .long 0, .long 0])), (mw, .inl (cm3, 906, .inr (.inl fw)))] H := hP
  have hD : va_D A [(h0, .inr (12, [.int 0, .int 0, .ref mr, .ref mt, .ref mw, .ref mu, .ref mp, .ref mi, .ref mk, .ref ms, .int 0, .ref mv, .int 0, .int 0, .int 0, .int 0, .long 0, .int (-1), .int 0, .ref m1w, .ref m2w, .ref m3w, .ref m4w, .int 0, .long 0, .long 0, .long 0])), (mw, .inl (cm3, 906, .inr (.inl fw)))] := hD
  refine lv_iconst (v := 0) hx hb dX12_eligible_5 (by decide) ?_
  refine lv_istore_n (lv' := [(1, .int 0), (0, .ref h0)]) hx hb dX12_eligible_6 rfl hl (by decide) rfl (fun ls hl => ?_)
  refine lv_iconst (v := 0) hx hb dX12_eligible_7 (by decide) ?_
  refine lv_istore_n (lv' := [(2, .int 0), (1, .int 0), (0, .ref h0)]) hx hb dX12_eligible_8 rfl hl (by decide) rfl (fun ls hl => ?_)
  refine lv_iload_n hx hb dX12_eligible_9 rfl (lv_at hl 0 rfl) ?_
  refine lv_i2l (v := 0) hx hb dX12_eligible_10 (by decide) ?_
  refine lv_aload_n hx hb dX12_eligible_11 rfl (lv_at hl 2 rfl) ?_
  refine va_get (D := (dC, dI)) (ci := 12) (v := .ref mw) (C := RX12) (T := TX12) (N := 27) hx hb hts (fun _ h0_ => List.mem_cons_of_mem _ (List.mem_append_right _ (List.mem_append_left _ h0_))) hown hK hP 0 rfl rfl 4 (by decide) (hts (.fieldLink RX12 16 "DeadlineShareModel" "row" "[J") (List.mem_cons_of_mem _ (List.mem_append_left _ (List.mem_of_getElem? (i := 1) rfl)))) (fun _ h9 => h9) rfl dX12_eligible_12 ?_
  refine lv_iconst (v := 0) hx hb dX12_eligible_15 (by decide) ?_
  refine va_lald hx hb hK hP 1 0 rfl rfl (by unfold vp_in; decide) dX12_eligible_16 ?_
  refine k_topl (y := 0) ((congrArg fw (show Int32.toNatClampNeg 0 = 0 by decide)).trans hw0) ?_
  refine W.lcmp hx hb dX12_eligible_17 ?_
  refine k_topi (y := 0) (by decide) ?_
  refine lv_if_ge (tgt := 45) hx hb dX12_eligible_18 (by decide) (fun _ => ?_) (fun c => absurd (by decide) c)
  refine lv_iload_n hx hb dX12_eligible_45 rfl (lv_at hl 1 rfl) ?_
  have hP9 := hP.sub (ws' := []) [] rfl
  have hD9 := hD.sub (ws' := []) [] (by decide) rfl
  have hK9 := hK.sub (tys' := []) [] rfl
  refine W.widen (k := 0) (n := 0) (Nat.le_of_ble_eq_true rfl) (Nat.le_of_ble_eq_true rfl) ?_
  exact W.iret (v := 0) hx hb hr (fun t ht hW => ⟨⟨0, (), rfl, rfl, by rw [ht]; exact hP9, va_K.moved hW.alike hK9, hD9⟩, hS.F ht⟩) hS.2.2 dX12_eligible_46
def ow_c_X12_earliest : List Cond := [.fieldLink RX12 67 "DeadlineShareModel" "thrown" "I", .fieldLink RX12 16 "DeadlineShareModel" "row" "[J"]
def wq_c_X12_earliest : List Cond := .code yX12_earliest cX12_earliest 4 (some .int) :: (ow_c_X12_earliest ++ (u_ws RX12 TX12 27 ++ ([] : List Cond)))
theorem tb_c_X12_earliest : ∀ w ∈ wq_c_X12_earliest, q_g w := by
  unfold wq_c_X12_earliest ow_c_X12_earliest
  exact q_cons tw_528 (q_app (q_cons tw_488 (q_cons tw_425 q_nil)) (q_app tu_X12 q_nil))
set_option maxHeartbeats 4000000 in
set_option maxRecDepth 100000 in
theorem c_X12_earliest (l : Launch) (dC : Nat → ClassId) (dI : Nat → Nat → Nat) (h0 : Nat) (kd : Int32) (mr : Nat) (mt : Nat) (mw : Nat) (mu : Nat) (mp : Nat) (mi : Nat) (mk : Nat) (ms : Nat) (mv : Nat) (m1w : Nat) (m2w : Nat) (m3w : Nat) (m4w : Nat) (cm3 : ClassId) (fw : Nat → Int64) (sz : Nat) (hw0 : fw 0 = 0) (hw1 : fw 1 = 0) (hw2 : fw 2 = 0) (hw3 : fw 3 = (-1)) (hw4 : fw 4 = (-1)) (hw5 : fw 5 = 0) : Met l yX12_earliest wq_c_X12_earliest ({ frames := 0, cells := 0, slots := 0, locals := 0 } : Room) (va_Pc [.ref h0, .int kd] (fun U => U.heap.size = sz ∧ va_P (dC, dI) vwCl [(h0, .inr (12, [.int 0, .int 0, .ref mr, .ref mt, .ref mw, .ref mu, .ref mp, .ref mi, .ref mk, .ref ms, .int 0, .ref mv, .int 0, .int 0, .int 0, .int 0, .long 0, .int (-1), .int 0, .ref m1w, .ref m2w, .ref m3w, .ref m4w, .int 0, .long 0, .long 0, .long 0])), (mw, .inl (cm3, 906, .inr (.inl fw)))] U.heap ∧ va_K (dC, dI) vwCl [(cm3, .long)] U ∧ va_D (fun _ => True) [(h0, .inr (12, [.int 0, .int 0, .ref mr, .ref mt, .ref mw, .ref mu, .ref mp, .ref mi, .ref mk, .ref ms, .int 0, .ref mv, .int 0, .int 0, .int 0, .int 0, .long 0, .int (-1), .int 0, .ref m1w, .ref m2w, .ref m3w, .ref m4w, .int 0, .long 0, .long 0, .long 0])), (mw, .inl (cm3, 906, .inr (.inl fw)))])) (va_Qi (fun (r : Int32) (_ : Unit) => r = (-1)) (fun (_ : Unit) t => va_P (dC, dI) vwCl [] t.heap ∧ va_K (dC, dI) vwCl [] t ∧ va_D (va_A [(h0, .inr (12, [.int 0, .int 0, .ref mr, .ref mt, .ref mw, .ref mu, .ref mp, .ref mi, .ref mk, .ref ms, .int 0, .ref mv, .int 0, .int 0, .int 0, .int 0, .long 0, .int (-1), .int 0, .ref m1w, .ref m2w, .ref m3w, .ref m4w, .int 0, .long 0, .long 0, .long 0])), (mw, .inl (cm3, 906, .inr (.inl fw)))] sz) []) (va_A [(h0, .inr (12, [.int 0, .int 0, .ref mr, .ref mt, .ref mw, .ref mu, .ref mp, .ref mi, .ref mk, .ref ms, .int 0, .ref mv, .int 0, .int 0, .int 0, .int 0, .long 0, .int (-1), .int 0, .ref m1w, .ref m2w, .ref m3w, .ref m4w, .int 0, .long 0, .long 0, .long 0])), (mw, .inl (cm3, 906, .inr (.inl fw)))] sz)) 0 0 (va_A [(h0, .inr (12, [.int 0, .int 0, .ref mr, .ref mt, .ref mw, .ref mu, .ref mp, .ref mi, .ref mk, .ref ms, .int 0, .ref mv, .int 0, .int 0, .int 0, .int 0, .long 0, .int (-1), .int 0, .ref m1w, .ref m2w, .ref m3w, .ref m4w, .int 0, .long 0, .long 0, .long 0])), (mw, .inl (cm3, 906, .inr (.inl fw)))] sz) := by
  refine Met.ofW (cc := cX12_earliest) (maxL := 4) (ret := (some .int)) (by decide) rfl ?_
  intro p e s m args below meth c s₁ B hml hv
  obtain ⟨rfl, hsz, hP, hK, hD0⟩ := hv
  have hx := B.exec
  have hb := B.bytes
  have hr := B.returns
  have hts := atoms_spec (ws := wq_c_X12_earliest) B.pre
  have hown : s.vm.findClass RX12 = some m.cls := findClass_of_methodNamed B.named
  have hlocks := B.notSynchronized
  subst hsz
  have hD := hD0.self (sz := s.heap.size)
  obtain ⟨A, hAe⟩ : ∃ A, A = va_A [(h0, .inr (12, [.int 0, .int 0, .ref mr, .ref mt, .ref mw, .ref mu, .ref mp, .ref mi, .ref mk, .ref ms, .int 0, .ref mv, .int 0, .int 0, .int 0, .int 0, .long 0, .int (-1), .int 0, .ref m1w, .ref m2w, .ref m3w, .ref m4w, .int 0, .long 0, .long 0, .long 0])), (mw, .inl (cm3, 906, .inr (.inl fw)))] s.heap.size := ⟨_, rfl⟩
  rw [← hAe] at hD ⊢
  have hA : ∀ q : Nat, s.heap.size ≤ q → A q := fun q h => by rw [hAe]; exact Or.inr h
  have hS : va_S A s.heap s.heap [] := va_S.rf
  have hP : va_P (dC, dI) vwCl [(h0, .inr (12, [.int 0, .int 0, .ref mr, .ref mt, .ref mw, .ref mu, .ref mp, .ref mi, .ref mk, .ref ms, .int 0, .ref mv, .int 0, .int 0, .int 0, .int 0, .long 0, .int (-1), .int 0, .ref m1w, .ref m2w, .ref m3w, .ref m4w, .int 0, .long 0, .long 0, .long 0])), (mw, .inl (cm3, 906, .inr (.inl fw)))] s.heap := hP
  have hl := lv_entry ([.ref h0, .int kd]) (n := 4) (Nat.le_of_ble_eq_true rfl)
  rw [lg_entry_eq]
  generalize (lg_sl ([.ref h0, .int kd]) ++ List.replicate (4 - (lg_sl ([.ref h0, .int kd])).length) Slot.unset).toArray = ls at hl ⊢
  have hl : lv_has ls 4 [(0, .ref h0), (1, .int kd)] := hl
  refine lv_aload_n hx hb dX12_earliest_0 rfl (lv_at hl 0 rfl) ?_
  refine lv_iconst (v := 0) hx hb dX12_earliest_1 (by decide) ?_
  refine va_put (D := (dC, dI)) (ci := 12) (v := .int 0) (ty := .int) (C := RX12) (T := TX12) (N := 27) hx hb hts (fun _ h0_ => List.mem_cons_of_mem _ (List.mem_append_right _ (List.mem_append_left _ h0_))) tyX12 tyX12_ok nmX12 hown hK hP hD hS 0 rfl rfl 0 (by decide) (hts (.fieldLink RX12 67 "DeadlineShareModel" "thrown" "I") (List.mem_cons_of_mem _ (List.mem_append_left _ (List.mem_of_getElem? (i := 0) rfl)))) (fun _ h9 => h9) rfl (by decide +kernel) rfl rfl (Nat.le_of_ble_eq_true rfl) dX12_earliest_2 (fun H locs hP hD hS => ?_)
  have hP : va_P (dC, dI) vwCl [(h0, .inr (12, [.int 0, .int 0, .ref mr, .ref mt, .ref mw, .ref mu, .ref mp, .ref mi, .ref mk, .ref ms, .int 0, .ref mv, .int 0, .int 0, .int 0, .int 0, .long 0, .int (-1), .int 0, .ref m1w, .ref m2w, .ref m3w, .ref m4w, .int 0, .long 0, .long 0, .long 0])), (mw, .inl (cm3, 906, .inr (.inl fw)))] H := hP
  have hD : va_D A [(h0, .inr (12, [.int 0, .int 0, .ref mr, .ref mt, .ref mw, .ref mu, .ref mp, .ref mi, .ref mk, .ref ms, .int 0, .ref mv, .int 0, .int 0, .int 0, .int 0, .long 0, .int (-1), .int 0, .ref m1w, .ref m2w, .ref m3w, .ref m4w, .int 0, .long 0, .long 0, .long 0])), (mw, .inl (cm3, 906, .inr (.inl fw)))] := hD
  refine lv_iconst (v := (-1)) hx hb dX12_earliest_5 (by decide) ?_
  refine lv_istore_n (lv' := [(2, .int (-1)), (0, .ref h0), (1, .int kd)]) hx hb dX12_earliest_6 rfl hl (by decide) rfl (fun ls hl => ?_)
  refine lv_iconst (v := 0) hx hb dX12_earliest_7 (by decide) ?_
  refine lv_istore_n (lv' := [(3, .int 0), (2, .int (-1)), (0, .ref h0), (1, .int kd)]) hx hb dX12_earliest_8 rfl hl (by decide) rfl (fun ls hl => ?_)
  refine lv_iload_n hx hb dX12_earliest_9 rfl (lv_at hl 0 rfl) ?_
  refine lv_i2l (v := 0) hx hb dX12_earliest_10 (by decide) ?_
  refine lv_aload_n hx hb dX12_earliest_11 rfl (lv_at hl 2 rfl) ?_
  refine va_get (D := (dC, dI)) (ci := 12) (v := .ref mw) (C := RX12) (T := TX12) (N := 27) hx hb hts (fun _ h0_ => List.mem_cons_of_mem _ (List.mem_append_right _ (List.mem_append_left _ h0_))) hown hK hP 0 rfl rfl 4 (by decide) (hts (.fieldLink RX12 16 "DeadlineShareModel" "row" "[J") (List.mem_cons_of_mem _ (List.mem_append_left _ (List.mem_of_getElem? (i := 1) rfl)))) (fun _ h9 => h9) rfl dX12_earliest_12 ?_
  refine lv_iconst (v := 0) hx hb dX12_earliest_15 (by decide) ?_
  refine va_lald hx hb hK hP 1 0 rfl rfl (by unfold vp_in; decide) dX12_earliest_16 ?_
  refine k_topl (y := 0) ((congrArg fw (show Int32.toNatClampNeg 0 = 0 by decide)).trans hw0) ?_
  refine W.lcmp hx hb dX12_earliest_17 ?_
  refine k_topi (y := 0) (by decide) ?_
  refine lv_if_ge (tgt := 50) hx hb dX12_earliest_18 (by decide) (fun _ => ?_) (fun c => absurd (by decide) c)
  refine lv_iload_n hx hb dX12_earliest_50 rfl (lv_at hl 1 rfl) ?_
  have hP9 := hP.sub (ws' := []) [] rfl
  have hD9 := hD.sub (ws' := []) [] (by decide) rfl
  have hK9 := hK.sub (tys' := []) [] rfl
  refine W.widen (k := 0) (n := 0) (Nat.le_of_ble_eq_true rfl) (Nat.le_of_ble_eq_true rfl) ?_
  exact W.iret (v := (-1)) hx hb hr (fun t ht hW => ⟨⟨(-1), (), rfl, rfl, by rw [ht]; exact hP9, va_K.moved hW.alike hK9, hD9⟩, hS.F ht⟩) hS.2.2 dX12_earliest_51
def ow_c_X12_rank : List Cond := [.fieldLink RX12 67 "DeadlineShareModel" "thrown" "I", .methodLink RX12 142 yX12_isTask, .instanceMethod yX12_isTask, .selects RX12 yX12_isTask yX12_isTask, .initialized RX12]
def wq_c_X12_rank : List Cond := .code yX12_rank cX12_rank 4 (some .int) :: (ow_c_X12_rank ++ (u_ws RX12 TX12 27 ++ (wq_c_X12_isTask ++ ([] : List Cond))))
theorem tb_c_X12_rank : ∀ w ∈ wq_c_X12_rank, q_g w := by
  unfold wq_c_X12_rank ow_c_X12_rank
  exact q_cons tw_529 (q_app (q_cons tw_488 (q_cons tw_506 (q_cons tw_505 (q_cons tw_504 (q_cons tw_435 q_nil))))) (q_app tu_X12 (q_app tb_c_X12_isTask q_nil)))
set_option maxHeartbeats 4000000 in
set_option maxRecDepth 100000 in
theorem c_X12_rank (l : Launch) (dC : Nat → ClassId) (dI : Nat → Nat → Nat) (h0 : Nat) (tk : Int32) (mr : Nat) (mt : Nat) (mw : Nat) (mu : Nat) (mp : Nat) (mi : Nat) (mk : Nat) (ms : Nat) (mv : Nat) (m1w : Nat) (m2w : Nat) (m3w : Nat) (m4w : Nat) (cm3 : ClassId) (fw : Nat → Int64) (sz : Nat) (hw0 : fw 0 = 0) (hw1 : fw 1 = 0) (hw2 : fw 2 = 0) (hw3 : fw 3 = (-1)) (hw4 : fw 4 = (-1)) (hw5 : fw 5 = 0) : Met l yX12_rank wq_c_X12_rank ({ frames := 2, cells := 0, slots := 0, locals := 46 } : Room) (va_Pc [.ref h0, .int tk] (fun U => U.heap.size = sz ∧ va_P (dC, dI) vwCl [(h0, .inr (12, [.int 0, .int 0, .ref mr, .ref mt, .ref mw, .ref mu, .ref mp, .ref mi, .ref mk, .ref ms, .int 0, .ref mv, .int 0, .int 0, .int 0, .int 0, .long 0, .int (-1), .int 0, .ref m1w, .ref m2w, .ref m3w, .ref m4w, .int 0, .long 0, .long 0, .long 0])), (mw, .inl (cm3, 906, .inr (.inl fw)))] U.heap ∧ va_K (dC, dI) vwCl [(cm3, .long)] U ∧ va_D (fun _ => True) [(h0, .inr (12, [.int 0, .int 0, .ref mr, .ref mt, .ref mw, .ref mu, .ref mp, .ref mi, .ref mk, .ref ms, .int 0, .ref mv, .int 0, .int 0, .int 0, .int 0, .long 0, .int (-1), .int 0, .ref m1w, .ref m2w, .ref m3w, .ref m4w, .int 0, .long 0, .long 0, .long 0])), (mw, .inl (cm3, 906, .inr (.inl fw)))])) (va_Qi (fun (r : Int32) (_ : Unit) => r = (-1)) (fun (_ : Unit) t => va_P (dC, dI) vwCl [] t.heap ∧ va_K (dC, dI) vwCl [] t ∧ va_D (va_A [(h0, .inr (12, [.int 0, .int 0, .ref mr, .ref mt, .ref mw, .ref mu, .ref mp, .ref mi, .ref mk, .ref ms, .int 0, .ref mv, .int 0, .int 0, .int 0, .int 0, .long 0, .int (-1), .int 0, .ref m1w, .ref m2w, .ref m3w, .ref m4w, .int 0, .long 0, .long 0, .long 0])), (mw, .inl (cm3, 906, .inr (.inl fw)))] sz) []) (va_A [(h0, .inr (12, [.int 0, .int 0, .ref mr, .ref mt, .ref mw, .ref mu, .ref mp, .ref mi, .ref mk, .ref ms, .int 0, .ref mv, .int 0, .int 0, .int 0, .int 0, .long 0, .int (-1), .int 0, .ref m1w, .ref m2w, .ref m3w, .ref m4w, .int 0, .long 0, .long 0, .long 0])), (mw, .inl (cm3, 906, .inr (.inl fw)))] sz)) 0 0 (va_A [(h0, .inr (12, [.int 0, .int 0, .ref mr, .ref mt, .ref mw, .ref mu, .ref mp, .ref mi, .ref mk, .ref ms, .int 0, .ref mv, .int 0, .int 0, .int 0, .int 0, .long 0, .int (-1), .int 0, .ref m1w, .ref m2w, .ref m3w, .ref m4w, .int 0, .long 0, .long 0, .long 0])), (mw, .inl (cm3, 906, .inr (.inl fw)))] sz) := by
  refine Met.ofW (cc := cX12_rank) (maxL := 4) (ret := (some .int)) (by decide) rfl ?_
  intro p e s m args below meth c s₁ B hml hv
  obtain ⟨rfl, hsz, hP, hK, hD0⟩ := hv
  have hx := B.exec
  have hb := B.bytes
  have hr := B.returns
  have hts := atoms_spec (ws := wq_c_X12_rank) B.pre
  have hown : s.vm.findClass RX12 = some m.cls := findClass_of_methodNamed B.named
  have hlocks := B.notSynchronized
  subst hsz
  have hD := hD0.self (sz := s.heap.size)
  obtain ⟨A, hAe⟩ : ∃ A, A = va_A [(h0, .inr (12, [.int 0, .int 0, .ref mr, .ref mt, .ref mw, .ref mu, .ref mp, .ref mi, .ref mk, .ref ms, .int 0, .ref mv, .int 0, .int 0, .int 0, .int 0, .long 0, .int (-1), .int 0, .ref m1w, .ref m2w, .ref m3w, .ref m4w, .int 0, .long 0, .long 0, .long 0])), (mw, .inl (cm3, 906, .inr (.inl fw)))] s.heap.size := ⟨_, rfl⟩
  rw [← hAe] at hD ⊢
  have hA : ∀ q : Nat, s.heap.size ≤ q → A q := fun q h => by rw [hAe]; exact Or.inr h
  have hS : va_S A s.heap s.heap [] := va_S.rf
  have hP : va_P (dC, dI) vwCl [(h0, .inr (12, [.int 0, .int 0, .ref mr, .ref mt, .ref mw, .ref mu, .ref mp, .ref mi, .ref mk, .ref ms, .int 0, .ref mv, .int 0, .int 0, .int 0, .int 0, .long 0, .int (-1), .int 0, .ref m1w, .ref m2w, .ref m3w, .ref m4w, .int 0, .long 0, .long 0, .long 0])), (mw, .inl (cm3, 906, .inr (.inl fw)))] s.heap := hP
  have hl := lv_entry ([.ref h0, .int tk]) (n := 4) (Nat.le_of_ble_eq_true rfl)
  rw [lg_entry_eq]
  generalize (lg_sl ([.ref h0, .int tk]) ++ List.replicate (4 - (lg_sl ([.ref h0, .int tk])).length) Slot.unset).toArray = ls at hl ⊢
  have hl : lv_has ls 4 [(0, .ref h0), (1, .int tk)] := hl
  refine lv_aload_n hx hb dX12_rank_0 rfl (lv_at hl 0 rfl) ?_
  refine lv_iconst (v := 0) hx hb dX12_rank_1 (by decide) ?_
  refine va_put (D := (dC, dI)) (ci := 12) (v := .int 0) (ty := .int) (C := RX12) (T := TX12) (N := 27) hx hb hts (fun _ h0_ => List.mem_cons_of_mem _ (List.mem_append_right _ (List.mem_append_left _ h0_))) tyX12 tyX12_ok nmX12 hown hK hP hD hS 0 rfl rfl 0 (by decide) (hts (.fieldLink RX12 67 "DeadlineShareModel" "thrown" "I") (List.mem_cons_of_mem _ (List.mem_append_left _ (List.mem_of_getElem? (i := 0) rfl)))) (fun _ h9 => h9) rfl (by decide +kernel) rfl rfl (Nat.le_of_ble_eq_true rfl) dX12_rank_2 (fun H locs hP hD hS => ?_)
  have hP : va_P (dC, dI) vwCl [(h0, .inr (12, [.int 0, .int 0, .ref mr, .ref mt, .ref mw, .ref mu, .ref mp, .ref mi, .ref mk, .ref ms, .int 0, .ref mv, .int 0, .int 0, .int 0, .int 0, .long 0, .int (-1), .int 0, .ref m1w, .ref m2w, .ref m3w, .ref m4w, .int 0, .long 0, .long 0, .long 0])), (mw, .inl (cm3, 906, .inr (.inl fw)))] H := hP
  have hD : va_D A [(h0, .inr (12, [.int 0, .int 0, .ref mr, .ref mt, .ref mw, .ref mu, .ref mp, .ref mi, .ref mk, .ref ms, .int 0, .ref mv, .int 0, .int 0, .int 0, .int 0, .long 0, .int (-1), .int 0, .ref m1w, .ref m2w, .ref m3w, .ref m4w, .int 0, .long 0, .long 0, .long 0])), (mw, .inl (cm3, 906, .inr (.inl fw)))] := hD
  refine lv_aload_n hx hb dX12_rank_5 rfl (lv_at hl 0 rfl) ?_
  refine lv_iload_n hx hb dX12_rank_6 rfl (lv_at hl 1 rfl) ?_
  have hPc := hP.sub (ws' := [(h0, .inr (12, [.int 0, .int 0, .ref mr, .ref mt, .ref mw, .ref mu, .ref mp, .ref mi, .ref mk, .ref ms, .int 0, .ref mv, .int 0, .int 0, .int 0, .int 0, .long 0, .int (-1), .int 0, .ref m1w, .ref m2w, .ref m3w, .ref m4w, .int 0, .long 0, .long 0, .long 0])), (mw, .inl (cm3, 906, .inr (.inl fw)))]) [0, 1] rfl
  have hDc := hD.sub (ws' := [(h0, .inr (12, [.int 0, .int 0, .ref mr, .ref mt, .ref mw, .ref mu, .ref mp, .ref mi, .ref mk, .ref ms, .int 0, .ref mv, .int 0, .int 0, .int 0, .int 0, .long 0, .int (-1), .int 0, .ref m1w, .ref m2w, .ref m3w, .ref m4w, .int 0, .long 0, .long 0, .long 0])), (mw, .inl (cm3, 906, .inr (.inl fw)))]) [0, 1] (by decide) rfl
  have hKc := hK.sub (tys' := [(cm3, .long)]) [0] rfl
  have hFc := va_free (wc := [(h0, .inr (12, [.int 0, .int 0, .ref mr, .ref mt, .ref mw, .ref mu, .ref mp, .ref mi, .ref mk, .ref ms, .int 0, .ref mv, .int 0, .int 0, .int 0, .int 0, .long 0, .int (-1), .int 0, .ref m1w, .ref m2w, .ref m3w, .ref m4w, .int 0, .long 0, .long 0, .long 0])), (mw, .inl (cm3, 906, .inr (.inl fw)))]) hD hS hA [0, 1] rfl
  refine va_calli (va_runV (As := [.int tk]) (rest := []) ⟨hx, hb, hml, hown, hts⟩ (c_X12_isTask l dC dI h0 tk mr mt mw mu mp mi mk ms mv m1w m2w m3w m4w cm3 fw H.size hw0) (cwV 1 hts (gi_V (fun w_ h0_ => ⟨List.mem_cons_of_mem _ (List.mem_append_right _ (List.mem_append_right _ (List.mem_append_left _ h0_))), (tb_c_X12_isTask w_ h0_).2⟩) (List.mem_cons_of_mem _ (List.mem_append_left _ (List.mem_of_getElem? (i := 1) rfl))) (List.mem_cons_of_mem _ (List.mem_append_left _ (List.mem_of_getElem? (i := 2) rfl))) (List.mem_cons_of_mem _ (List.mem_append_left _ (List.mem_of_getElem? (i := 3) rfl))) (List.mem_cons_of_mem _ (List.mem_append_left _ (List.mem_of_getElem? (i := 4) rfl)))) rfl rfl rfl (by decide +kernel) ⟨Nat.le_of_ble_eq_true rfl, Nat.le_of_ble_eq_true rfl⟩) ⟨fun a U g mk q => by obtain ⟨q0, q1, qP, qK, qD⟩ := q; exact ⟨q0, q1, qP, va_K.moved (u := U) (U := U.calling g mk a) (Vm.Alike.refl U.vm) qK, qD⟩, va_recv hKc hPc (ci := 12) (q0 := 0) rfl rfl, fun U hU hW => ⟨rfl, by rw [hU], by rw [hU]; exact hPc, va_K.moved hW.alike hKc, hDc.weaken (fun _ _ _ _ => trivial)⟩⟩ rfl rfl hl.1 rfl (lv_room (Nat.le_of_ble_eq_true rfl)) dX12_rank_7 ⟨Nat.le_of_ble_eq_true rfl, Nat.le_of_ble_eq_true rfl⟩) hS (fun q _ h => hFc q h) hFc (fun r_1 u t H1 locs ht hvm hw hB hz1 hk1 hS => ?_)
  obtain ⟨hP1, hK1, hD1⟩ := hB
  rw [ht] at hP1
  have hK1 := va_K.moved hvm.symm hK1
  obtain ⟨hP, hD⟩ := va_join (wr := []) (w1 := [(h0, .inr (12, [.int 0, .int 0, .ref mr, .ref mt, .ref mw, .ref mu, .ref mp, .ref mi, .ref mk, .ref ms, .int 0, .ref mv, .int 0, .int 0, .int 0, .int 0, .long 0, .int (-1), .int 0, .ref m1w, .ref m2w, .ref m3w, .ref m4w, .int 0, .long 0, .long 0, .long 0])), (mw, .inl (cm3, 906, .inr (.inl fw)))]) hP hD [0, 1] [] rfl rfl (by decide) (by decide) hk1 hFc hP1 hD1
  generalize H1 = H at hP hS ⊢
  have hP : va_P (dC, dI) vwCl [(h0, .inr (12, [.int 0, .int 0, .ref mr, .ref mt, .ref mw, .ref mu, .ref mp, .ref mi, .ref mk, .ref ms, .int 0, .ref mv, .int 0, .int 0, .int 0, .int 0, .long 0, .int (-1), .int 0, .ref m1w, .ref m2w, .ref m3w, .ref m4w, .int 0, .long 0, .long 0, .long 0])), (mw, .inl (cm3, 906, .inr (.inl fw)))] H := hP
  have hD : va_D A [(h0, .inr (12, [.int 0, .int 0, .ref mr, .ref mt, .ref mw, .ref mu, .ref mp, .ref mi, .ref mk, .ref ms, .int 0, .ref mv, .int 0, .int 0, .int 0, .int 0, .long 0, .int (-1), .int 0, .ref m1w, .ref m2w, .ref m3w, .ref m4w, .int 0, .long 0, .long 0, .long 0])), (mw, .inl (cm3, 906, .inr (.inl fw)))] := hD
  refine W.widen (k := 0) (n := 0) (Nat.le_of_ble_eq_true rfl) (Nat.le_of_ble_eq_true rfl) ?_
  have hw : r_1 = 0 := hw
  subst hw
  refine lv_if_eq (tgt := 21) hx hb dX12_rank_10 (by decide) (fun _ => ?_) (fun c => absurd (by decide) c)
  refine lv_iconst (v := (-1)) hx hb dX12_rank_21 (by decide) ?_
  have hP9 := hP.sub (ws' := []) [] rfl
  have hD9 := hD.sub (ws' := []) [] (by decide) rfl
  have hK9 := hK.sub (tys' := []) [] rfl
  refine W.widen (k := 0) (n := 0) (Nat.le_of_ble_eq_true rfl) (Nat.le_of_ble_eq_true rfl) ?_
  exact W.iret (v := (-1)) hx hb hr (fun t ht hW => ⟨⟨(-1), (), rfl, rfl, by rw [ht]; exact hP9, va_K.moved hW.alike hK9, hD9⟩, hS.F ht⟩) hS.2.2 dX12_rank_22
def ow_c_X12_ran : List Cond := [.fieldLink RX12 67 "DeadlineShareModel" "thrown" "I", .methodLink RX12 296 yX12_logAt, .instanceMethod yX12_logAt, .selects RX12 yX12_logAt yX12_logAt, .initialized RX12]
def wq_c_X12_ran : List Cond := .code yX12_ran cX12_ran 3 (some .int) :: (ow_c_X12_ran ++ (u_ws RX12 TX12 27 ++ (wq_c_X12_logAt ++ ([] : List Cond))))
theorem tb_c_X12_ran : ∀ w ∈ wq_c_X12_ran, q_g w := by
  unfold wq_c_X12_ran ow_c_X12_ran
  exact q_cons tw_533 (q_app (q_cons tw_488 (q_cons tw_532 (q_cons tw_531 (q_cons tw_530 (q_cons tw_435 q_nil))))) (q_app tu_X12 (q_app tb_c_X12_logAt q_nil)))
set_option maxHeartbeats 4000000 in
set_option maxRecDepth 100000 in
theorem c_X12_ran (l : Launch) (dC : Nat → ClassId) (dI : Nat → Nat → Nat) (h0 : Nat) (wh : Int32) (mr : Nat) (mt : Nat) (mw : Nat) (mu : Nat) (mp : Nat) (mi : Nat) (mk : Nat) (ms : Nat) (mv : Nat) (m1w : Nat) (m2w : Nat) (m3w : Nat) (m4w : Nat) (cm3 : ClassId) (fw : Nat → Int64) (sz : Nat) (hw0 : fw 0 = 0) (hw1 : fw 1 = 0) (hw2 : fw 2 = 0) (hw3 : fw 3 = (-1)) (hw4 : fw 4 = (-1)) (hw5 : fw 5 = 0) : Met l yX12_ran wq_c_X12_ran ({ frames := 2, cells := 0, slots := 0, locals := 49 } : Room) (va_Pc [.ref h0, .int wh] (fun U => U.heap.size = sz ∧ va_P (dC, dI) vwCl [(h0, .inr (12, [.int 0, .int 0, .ref mr, .ref mt, .ref mw, .ref mu, .ref mp, .ref mi, .ref mk, .ref ms, .int 0, .ref mv, .int 0, .int 0, .int 0, .int 0, .long 0, .int (-1), .int 0, .ref m1w, .ref m2w, .ref m3w, .ref m4w, .int 0, .long 0, .long 0, .long 0])), (mw, .inl (cm3, 906, .inr (.inl fw)))] U.heap ∧ va_K (dC, dI) vwCl [(cm3, .long)] U ∧ va_D (fun _ => True) [(h0, .inr (12, [.int 0, .int 0, .ref mr, .ref mt, .ref mw, .ref mu, .ref mp, .ref mi, .ref mk, .ref ms, .int 0, .ref mv, .int 0, .int 0, .int 0, .int 0, .long 0, .int (-1), .int 0, .ref m1w, .ref m2w, .ref m3w, .ref m4w, .int 0, .long 0, .long 0, .long 0])), (mw, .inl (cm3, 906, .inr (.inl fw)))])) (va_Qi (fun (r : Int32) (_ : Unit) => r = (-1)) (fun (_ : Unit) t => va_P (dC, dI) vwCl [] t.heap ∧ va_K (dC, dI) vwCl [] t ∧ va_D (va_A [(h0, .inr (12, [.int 0, .int 0, .ref mr, .ref mt, .ref mw, .ref mu, .ref mp, .ref mi, .ref mk, .ref ms, .int 0, .ref mv, .int 0, .int 0, .int 0, .int 0, .long 0, .int (-1), .int 0, .ref m1w, .ref m2w, .ref m3w, .ref m4w, .int 0, .long 0, .long 0, .long 0])), (mw, .inl (cm3, 906, .inr (.inl fw)))] sz) []) (va_A [(h0, .inr (12, [.int 0, .int 0, .ref mr, .ref mt, .ref mw, .ref mu, .ref mp, .ref mi, .ref mk, .ref ms, .int 0, .ref mv, .int 0, .int 0, .int 0, .int 0, .long 0, .int (-1), .int 0, .ref m1w, .ref m2w, .ref m3w, .ref m4w, .int 0, .long 0, .long 0, .long 0])), (mw, .inl (cm3, 906, .inr (.inl fw)))] sz)) 0 0 (va_A [(h0, .inr (12, [.int 0, .int 0, .ref mr, .ref mt, .ref mw, .ref mu, .ref mp, .ref mi, .ref mk, .ref ms, .int 0, .ref mv, .int 0, .int 0, .int 0, .int 0, .long 0, .int (-1), .int 0, .ref m1w, .ref m2w, .ref m3w, .ref m4w, .int 0, .long 0, .long 0, .long 0])), (mw, .inl (cm3, 906, .inr (.inl fw)))] sz) := by
  refine Met.ofW (cc := cX12_ran) (maxL := 3) (ret := (some .int)) (by decide) rfl ?_
  intro p e s m args below meth c s₁ B hml hv
  obtain ⟨rfl, hsz, hP, hK, hD0⟩ := hv
  have hx := B.exec
  have hb := B.bytes
  have hr := B.returns
  have hts := atoms_spec (ws := wq_c_X12_ran) B.pre
  have hown : s.vm.findClass RX12 = some m.cls := findClass_of_methodNamed B.named
  have hlocks := B.notSynchronized
  subst hsz
  have hD := hD0.self (sz := s.heap.size)
  obtain ⟨A, hAe⟩ : ∃ A, A = va_A [(h0, .inr (12, [.int 0, .int 0, .ref mr, .ref mt, .ref mw, .ref mu, .ref mp, .ref mi, .ref mk, .ref ms, .int 0, .ref mv, .int 0, .int 0, .int 0, .int 0, .long 0, .int (-1), .int 0, .ref m1w, .ref m2w, .ref m3w, .ref m4w, .int 0, .long 0, .long 0, .long 0])), (mw, .inl (cm3, 906, .inr (.inl fw)))] s.heap.size := ⟨_, rfl⟩
  rw [← hAe] at hD ⊢
  have hA : ∀ q : Nat, s.heap.size ≤ q → A q := fun q h => by rw [hAe]; exact Or.inr h
  have hS : va_S A s.heap s.heap [] := va_S.rf
  have hP : va_P (dC, dI) vwCl [(h0, .inr (12, [.int 0, .int 0, .ref mr, .ref mt, .ref mw, .ref mu, .ref mp, .ref mi, .ref mk, .ref ms, .int 0, .ref mv, .int 0, .int 0, .int 0, .int 0, .long 0, .int (-1), .int 0, .ref m1w, .ref m2w, .ref m3w, .ref m4w, .int 0, .long 0, .long 0, .long 0])), (mw, .inl (cm3, 906, .inr (.inl fw)))] s.heap := hP
  have hl := lv_entry ([.ref h0, .int wh]) (n := 3) (Nat.le_of_ble_eq_true rfl)
  rw [lg_entry_eq]
  generalize (lg_sl ([.ref h0, .int wh]) ++ List.replicate (3 - (lg_sl ([.ref h0, .int wh])).length) Slot.unset).toArray = ls at hl ⊢
  have hl : lv_has ls 3 [(0, .ref h0), (1, .int wh)] := hl
  refine lv_aload_n hx hb dX12_ran_0 rfl (lv_at hl 0 rfl) ?_
  refine lv_iconst (v := 0) hx hb dX12_ran_1 (by decide) ?_
  refine va_put (D := (dC, dI)) (ci := 12) (v := .int 0) (ty := .int) (C := RX12) (T := TX12) (N := 27) hx hb hts (fun _ h0_ => List.mem_cons_of_mem _ (List.mem_append_right _ (List.mem_append_left _ h0_))) tyX12 tyX12_ok nmX12 hown hK hP hD hS 0 rfl rfl 0 (by decide) (hts (.fieldLink RX12 67 "DeadlineShareModel" "thrown" "I") (List.mem_cons_of_mem _ (List.mem_append_left _ (List.mem_of_getElem? (i := 0) rfl)))) (fun _ h9 => h9) rfl (by decide +kernel) rfl rfl (Nat.le_of_ble_eq_true rfl) dX12_ran_2 (fun H locs hP hD hS => ?_)
  have hP : va_P (dC, dI) vwCl [(h0, .inr (12, [.int 0, .int 0, .ref mr, .ref mt, .ref mw, .ref mu, .ref mp, .ref mi, .ref mk, .ref ms, .int 0, .ref mv, .int 0, .int 0, .int 0, .int 0, .long 0, .int (-1), .int 0, .ref m1w, .ref m2w, .ref m3w, .ref m4w, .int 0, .long 0, .long 0, .long 0])), (mw, .inl (cm3, 906, .inr (.inl fw)))] H := hP
  have hD : va_D A [(h0, .inr (12, [.int 0, .int 0, .ref mr, .ref mt, .ref mw, .ref mu, .ref mp, .ref mi, .ref mk, .ref ms, .int 0, .ref mv, .int 0, .int 0, .int 0, .int 0, .long 0, .int (-1), .int 0, .ref m1w, .ref m2w, .ref m3w, .ref m4w, .int 0, .long 0, .long 0, .long 0])), (mw, .inl (cm3, 906, .inr (.inl fw)))] := hD
  refine lv_aload_n hx hb dX12_ran_5 rfl (lv_at hl 0 rfl) ?_
  refine lv_iload_n hx hb dX12_ran_6 rfl (lv_at hl 1 rfl) ?_
  refine lv_i2l (v := wh.toInt64) hx hb dX12_ran_7 rfl ?_
  have hPc := hP.sub (ws' := [(h0, .inr (12, [.int 0, .int 0, .ref mr, .ref mt, .ref mw, .ref mu, .ref mp, .ref mi, .ref mk, .ref ms, .int 0, .ref mv, .int 0, .int 0, .int 0, .int 0, .long 0, .int (-1), .int 0, .ref m1w, .ref m2w, .ref m3w, .ref m4w, .int 0, .long 0, .long 0, .long 0])), (mw, .inl (cm3, 906, .inr (.inl fw)))]) [0, 1] rfl
  have hDc := hD.sub (ws' := [(h0, .inr (12, [.int 0, .int 0, .ref mr, .ref mt, .ref mw, .ref mu, .ref mp, .ref mi, .ref mk, .ref ms, .int 0, .ref mv, .int 0, .int 0, .int 0, .int 0, .long 0, .int (-1), .int 0, .ref m1w, .ref m2w, .ref m3w, .ref m4w, .int 0, .long 0, .long 0, .long 0])), (mw, .inl (cm3, 906, .inr (.inl fw)))]) [0, 1] (by decide) rfl
  have hKc := hK.sub (tys' := [(cm3, .long)]) [0] rfl
  have hFc := va_free (wc := [(h0, .inr (12, [.int 0, .int 0, .ref mr, .ref mt, .ref mw, .ref mu, .ref mp, .ref mi, .ref mk, .ref ms, .int 0, .ref mv, .int 0, .int 0, .int 0, .int 0, .long 0, .int (-1), .int 0, .ref m1w, .ref m2w, .ref m3w, .ref m4w, .int 0, .long 0, .long 0, .long 0])), (mw, .inl (cm3, 906, .inr (.inl fw)))]) hD hS hA [0, 1] rfl
  refine va_calli (va_runV (As := [.long wh.toInt64]) (rest := []) ⟨hx, hb, hml, hown, hts⟩ (c_X12_logAt l dC dI h0 mr mt mw mu mp mi mk ms mv m1w m2w m3w m4w cm3 fw wh H.size hw0 hw1 hw5) (cwV 1 hts (gi_V (fun w_ h0_ => ⟨List.mem_cons_of_mem _ (List.mem_append_right _ (List.mem_append_right _ (List.mem_append_left _ h0_))), (tb_c_X12_logAt w_ h0_).2⟩) (List.mem_cons_of_mem _ (List.mem_append_left _ (List.mem_of_getElem? (i := 1) rfl))) (List.mem_cons_of_mem _ (List.mem_append_left _ (List.mem_of_getElem? (i := 2) rfl))) (List.mem_cons_of_mem _ (List.mem_append_left _ (List.mem_of_getElem? (i := 3) rfl))) (List.mem_cons_of_mem _ (List.mem_append_left _ (List.mem_of_getElem? (i := 4) rfl)))) rfl rfl rfl (by decide +kernel) ⟨Nat.le_of_ble_eq_true rfl, Nat.le_of_ble_eq_true rfl⟩) ⟨fun a U g mk q => by obtain ⟨q0, q1, qP, qK, qD⟩ := q; exact ⟨q0, q1, qP, va_K.moved (u := U) (U := U.calling g mk a) (Vm.Alike.refl U.vm) qK, qD⟩, va_recv hKc hPc (ci := 12) (q0 := 0) rfl rfl, fun U hU hW => ⟨rfl, by rw [hU], by rw [hU]; exact hPc, va_K.moved hW.alike hKc, hDc.weaken (fun _ _ _ _ => trivial)⟩⟩ rfl rfl hl.1 rfl (lv_room (Nat.le_of_ble_eq_true rfl)) dX12_ran_8 ⟨Nat.le_of_ble_eq_true rfl, Nat.le_of_ble_eq_true rfl⟩) hS (fun q _ h => hFc q h) hFc (fun r_1 u t H1 locs ht hvm hw hB hz1 hk1 hS => ?_)
  obtain ⟨hP1, hK1, hD1⟩ := hB
  rw [ht] at hP1
  have hK1 := va_K.moved hvm.symm hK1
  obtain ⟨hP, hD⟩ := va_join (wr := []) (w1 := [(h0, .inr (12, [.int 0, .int 0, .ref mr, .ref mt, .ref mw, .ref mu, .ref mp, .ref mi, .ref mk, .ref ms, .int 0, .ref mv, .int 0, .int 0, .int 0, .int 0, .long 0, .int (-1), .int 0, .ref m1w, .ref m2w, .ref m3w, .ref m4w, .int 0, .long 0, .long 0, .long 0])), (mw, .inl (cm3, 906, .inr (.inl fw)))]) hP hD [0, 1] [] rfl rfl (by decide) (by decide) hk1 hFc hP1 hD1
  generalize H1 = H at hP hS ⊢
  have hP : va_P (dC, dI) vwCl [(h0, .inr (12, [.int 0, .int 0, .ref mr, .ref mt, .ref mw, .ref mu, .ref mp, .ref mi, .ref mk, .ref ms, .int 0, .ref mv, .int 0, .int 0, .int 0, .int 0, .long 0, .int (-1), .int 0, .ref m1w, .ref m2w, .ref m3w, .ref m4w, .int 0, .long 0, .long 0, .long 0])), (mw, .inl (cm3, 906, .inr (.inl fw)))] H := hP
  have hD : va_D A [(h0, .inr (12, [.int 0, .int 0, .ref mr, .ref mt, .ref mw, .ref mu, .ref mp, .ref mi, .ref mk, .ref ms, .int 0, .ref mv, .int 0, .int 0, .int 0, .int 0, .long 0, .int (-1), .int 0, .ref m1w, .ref m2w, .ref m3w, .ref m4w, .int 0, .long 0, .long 0, .long 0])), (mw, .inl (cm3, 906, .inr (.inl fw)))] := hD
  refine W.widen (k := 0) (n := 0) (Nat.le_of_ble_eq_true rfl) (Nat.le_of_ble_eq_true rfl) ?_
  have hw : r_1 = (-1) := hw
  subst hw
  refine lv_istore_n (lv' := [(2, .int (-1)), (0, .ref h0), (1, .int wh)]) hx hb dX12_ran_11 rfl hl (by decide) rfl (fun ls hl => ?_)
  refine lv_iload_n hx hb dX12_ran_12 rfl (lv_at hl 0 rfl) ?_
  refine lv_iconst (v := (-1)) hx hb dX12_ran_13 (by decide) ?_
  refine lv_icmp_ne (tgt := 21) hx hb dX12_ran_14 (by decide) (fun c => absurd c (by decide)) (fun _ => ?_)
  refine lv_iconst (v := (-1)) hx hb dX12_ran_17 (by decide) ?_
  refine lv_goto (tgt := 28) hx hb dX12_ran_18 (by decide) ?_
  have hP9 := hP.sub (ws' := []) [] rfl
  have hD9 := hD.sub (ws' := []) [] (by decide) rfl
  have hK9 := hK.sub (tys' := []) [] rfl
  refine W.widen (k := 0) (n := 0) (Nat.le_of_ble_eq_true rfl) (Nat.le_of_ble_eq_true rfl) ?_
  exact W.iret (v := (-1)) hx hb hr (fun t ht hW => ⟨⟨(-1), (), rfl, rfl, by rw [ht]; exact hP9, va_K.moved hW.alike hK9, hD9⟩, hS.F ht⟩) hS.2.2 dX12_ran_28
def ow_c_X12_service : List Cond := [.fieldLink RX12 67 "DeadlineShareModel" "thrown" "I", .methodLink RX12 142 yX12_isTask, .instanceMethod yX12_isTask, .selects RX12 yX12_isTask yX12_isTask, .initialized RX12]
def wq_c_X12_service : List Cond := .code yX12_service cX12_service 7 (some .int) :: (ow_c_X12_service ++ (u_ws RX12 TX12 27 ++ (wq_c_X12_isTask ++ ([] : List Cond))))
theorem tb_c_X12_service : ∀ w ∈ wq_c_X12_service, q_g w := by
  unfold wq_c_X12_service ow_c_X12_service
  exact q_cons tw_534 (q_app (q_cons tw_488 (q_cons tw_506 (q_cons tw_505 (q_cons tw_504 (q_cons tw_435 q_nil))))) (q_app tu_X12 (q_app tb_c_X12_isTask q_nil)))
set_option maxHeartbeats 4000000 in
set_option maxRecDepth 100000 in
theorem c_X12_service (l : Launch) (dC : Nat → ClassId) (dI : Nat → Nat → Nat) (h0 : Nat) (tk : Int32) (wa : Int32) (wb : Int32) (mr : Nat) (mt : Nat) (mw : Nat) (mu : Nat) (mp : Nat) (mi : Nat) (mk : Nat) (ms : Nat) (mv : Nat) (m1w : Nat) (m2w : Nat) (m3w : Nat) (m4w : Nat) (cm3 : ClassId) (fw : Nat → Int64) (sz : Nat) (hw0 : fw 0 = 0) (hw1 : fw 1 = 0) (hw2 : fw 2 = 0) (hw3 : fw 3 = (-1)) (hw4 : fw 4 = (-1)) (hw5 : fw 5 = 0) : Met l yX12_service wq_c_X12_service ({ frames := 2, cells := 0, slots := 0, locals := 46 } : Room) (va_Pc [.ref h0, .int tk, .int wa, .int wb] (fun U => U.heap.size = sz ∧ va_P (dC, dI) vwCl [(h0, .inr (12, [.int 0, .int 0, .ref mr, .ref mt, .ref mw, .ref mu, .ref mp, .ref mi, .ref mk, .ref ms, .int 0, .ref mv, .int 0, .int 0, .int 0, .int 0, .long 0, .int (-1), .int 0, .ref m1w, .ref m2w, .ref m3w, .ref m4w, .int 0, .long 0, .long 0, .long 0])), (mw, .inl (cm3, 906, .inr (.inl fw)))] U.heap ∧ va_K (dC, dI) vwCl [(cm3, .long)] U ∧ va_D (fun _ => True) [(h0, .inr (12, [.int 0, .int 0, .ref mr, .ref mt, .ref mw, .ref mu, .ref mp, .ref mi, .ref mk, .ref ms, .int 0, .ref mv, .int 0, .int 0, .int 0, .int 0, .long 0, .int (-1), .int 0, .ref m1w, .ref m2w, .ref m3w, .ref m4w, .int 0, .long 0, .long 0, .long 0])), (mw, .inl (cm3, 906, .inr (.inl fw)))])) (va_Qi (fun (r : Int32) (_ : Unit) => r = (-1)) (fun (_ : Unit) t => va_P (dC, dI) vwCl [] t.heap ∧ va_K (dC, dI) vwCl [] t ∧ va_D (va_A [(h0, .inr (12, [.int 0, .int 0, .ref mr, .ref mt, .ref mw, .ref mu, .ref mp, .ref mi, .ref mk, .ref ms, .int 0, .ref mv, .int 0, .int 0, .int 0, .int 0, .long 0, .int (-1), .int 0, .ref m1w, .ref m2w, .ref m3w, .ref m4w, .int 0, .long 0, .long 0, .long 0])), (mw, .inl (cm3, 906, .inr (.inl fw)))] sz) []) (va_A [(h0, .inr (12, [.int 0, .int 0, .ref mr, .ref mt, .ref mw, .ref mu, .ref mp, .ref mi, .ref mk, .ref ms, .int 0, .ref mv, .int 0, .int 0, .int 0, .int 0, .long 0, .int (-1), .int 0, .ref m1w, .ref m2w, .ref m3w, .ref m4w, .int 0, .long 0, .long 0, .long 0])), (mw, .inl (cm3, 906, .inr (.inl fw)))] sz)) 0 0 (va_A [(h0, .inr (12, [.int 0, .int 0, .ref mr, .ref mt, .ref mw, .ref mu, .ref mp, .ref mi, .ref mk, .ref ms, .int 0, .ref mv, .int 0, .int 0, .int 0, .int 0, .long 0, .int (-1), .int 0, .ref m1w, .ref m2w, .ref m3w, .ref m4w, .int 0, .long 0, .long 0, .long 0])), (mw, .inl (cm3, 906, .inr (.inl fw)))] sz) := by
  refine Met.ofW (cc := cX12_service) (maxL := 7) (ret := (some .int)) (by decide) rfl ?_
  intro p e s m args below meth c s₁ B hml hv
  obtain ⟨rfl, hsz, hP, hK, hD0⟩ := hv
  have hx := B.exec
  have hb := B.bytes
  have hr := B.returns
  have hts := atoms_spec (ws := wq_c_X12_service) B.pre
  have hown : s.vm.findClass RX12 = some m.cls := findClass_of_methodNamed B.named
  have hlocks := B.notSynchronized
  subst hsz
  have hD := hD0.self (sz := s.heap.size)
  obtain ⟨A, hAe⟩ : ∃ A, A = va_A [(h0, .inr (12, [.int 0, .int 0, .ref mr, .ref mt, .ref mw, .ref mu, .ref mp, .ref mi, .ref mk, .ref ms, .int 0, .ref mv, .int 0, .int 0, .int 0, .int 0, .long 0, .int (-1), .int 0, .ref m1w, .ref m2w, .ref m3w, .ref m4w, .int 0, .long 0, .long 0, .long 0])), (mw, .inl (cm3, 906, .inr (.inl fw)))] s.heap.size := ⟨_, rfl⟩
  rw [← hAe] at hD ⊢
  have hA : ∀ q : Nat, s.heap.size ≤ q → A q := fun q h => by rw [hAe]; exact Or.inr h
  have hS : va_S A s.heap s.heap [] := va_S.rf
  have hP : va_P (dC, dI) vwCl [(h0, .inr (12, [.int 0, .int 0, .ref mr, .ref mt, .ref mw, .ref mu, .ref mp, .ref mi, .ref mk, .ref ms, .int 0, .ref mv, .int 0, .int 0, .int 0, .int 0, .long 0, .int (-1), .int 0, .ref m1w, .ref m2w, .ref m3w, .ref m4w, .int 0, .long 0, .long 0, .long 0])), (mw, .inl (cm3, 906, .inr (.inl fw)))] s.heap := hP
  have hl := lv_entry ([.ref h0, .int tk, .int wa, .int wb]) (n := 7) (Nat.le_of_ble_eq_true rfl)
  rw [lg_entry_eq]
  generalize (lg_sl ([.ref h0, .int tk, .int wa, .int wb]) ++ List.replicate (7 - (lg_sl ([.ref h0, .int tk, .int wa, .int wb])).length) Slot.unset).toArray = ls at hl ⊢
  have hl : lv_has ls 7 [(0, .ref h0), (1, .int tk), (2, .int wa), (3, .int wb)] := hl
  refine lv_aload_n hx hb dX12_service_0 rfl (lv_at hl 0 rfl) ?_
  refine lv_iconst (v := 0) hx hb dX12_service_1 (by decide) ?_
  refine va_put (D := (dC, dI)) (ci := 12) (v := .int 0) (ty := .int) (C := RX12) (T := TX12) (N := 27) hx hb hts (fun _ h0_ => List.mem_cons_of_mem _ (List.mem_append_right _ (List.mem_append_left _ h0_))) tyX12 tyX12_ok nmX12 hown hK hP hD hS 0 rfl rfl 0 (by decide) (hts (.fieldLink RX12 67 "DeadlineShareModel" "thrown" "I") (List.mem_cons_of_mem _ (List.mem_append_left _ (List.mem_of_getElem? (i := 0) rfl)))) (fun _ h9 => h9) rfl (by decide +kernel) rfl rfl (Nat.le_of_ble_eq_true rfl) dX12_service_2 (fun H locs hP hD hS => ?_)
  have hP : va_P (dC, dI) vwCl [(h0, .inr (12, [.int 0, .int 0, .ref mr, .ref mt, .ref mw, .ref mu, .ref mp, .ref mi, .ref mk, .ref ms, .int 0, .ref mv, .int 0, .int 0, .int 0, .int 0, .long 0, .int (-1), .int 0, .ref m1w, .ref m2w, .ref m3w, .ref m4w, .int 0, .long 0, .long 0, .long 0])), (mw, .inl (cm3, 906, .inr (.inl fw)))] H := hP
  have hD : va_D A [(h0, .inr (12, [.int 0, .int 0, .ref mr, .ref mt, .ref mw, .ref mu, .ref mp, .ref mi, .ref mk, .ref ms, .int 0, .ref mv, .int 0, .int 0, .int 0, .int 0, .long 0, .int (-1), .int 0, .ref m1w, .ref m2w, .ref m3w, .ref m4w, .int 0, .long 0, .long 0, .long 0])), (mw, .inl (cm3, 906, .inr (.inl fw)))] := hD
  refine lv_aload_n hx hb dX12_service_5 rfl (lv_at hl 0 rfl) ?_
  refine lv_iload_n hx hb dX12_service_6 rfl (lv_at hl 1 rfl) ?_
  have hPc := hP.sub (ws' := [(h0, .inr (12, [.int 0, .int 0, .ref mr, .ref mt, .ref mw, .ref mu, .ref mp, .ref mi, .ref mk, .ref ms, .int 0, .ref mv, .int 0, .int 0, .int 0, .int 0, .long 0, .int (-1), .int 0, .ref m1w, .ref m2w, .ref m3w, .ref m4w, .int 0, .long 0, .long 0, .long 0])), (mw, .inl (cm3, 906, .inr (.inl fw)))]) [0, 1] rfl
  have hDc := hD.sub (ws' := [(h0, .inr (12, [.int 0, .int 0, .ref mr, .ref mt, .ref mw, .ref mu, .ref mp, .ref mi, .ref mk, .ref ms, .int 0, .ref mv, .int 0, .int 0, .int 0, .int 0, .long 0, .int (-1), .int 0, .ref m1w, .ref m2w, .ref m3w, .ref m4w, .int 0, .long 0, .long 0, .long 0])), (mw, .inl (cm3, 906, .inr (.inl fw)))]) [0, 1] (by decide) rfl
  have hKc := hK.sub (tys' := [(cm3, .long)]) [0] rfl
  have hFc := va_free (wc := [(h0, .inr (12, [.int 0, .int 0, .ref mr, .ref mt, .ref mw, .ref mu, .ref mp, .ref mi, .ref mk, .ref ms, .int 0, .ref mv, .int 0, .int 0, .int 0, .int 0, .long 0, .int (-1), .int 0, .ref m1w, .ref m2w, .ref m3w, .ref m4w, .int 0, .long 0, .long 0, .long 0])), (mw, .inl (cm3, 906, .inr (.inl fw)))]) hD hS hA [0, 1] rfl
  refine va_calli (va_runV (As := [.int tk]) (rest := []) ⟨hx, hb, hml, hown, hts⟩ (c_X12_isTask l dC dI h0 tk mr mt mw mu mp mi mk ms mv m1w m2w m3w m4w cm3 fw H.size hw0) (cwV 1 hts (gi_V (fun w_ h0_ => ⟨List.mem_cons_of_mem _ (List.mem_append_right _ (List.mem_append_right _ (List.mem_append_left _ h0_))), (tb_c_X12_isTask w_ h0_).2⟩) (List.mem_cons_of_mem _ (List.mem_append_left _ (List.mem_of_getElem? (i := 1) rfl))) (List.mem_cons_of_mem _ (List.mem_append_left _ (List.mem_of_getElem? (i := 2) rfl))) (List.mem_cons_of_mem _ (List.mem_append_left _ (List.mem_of_getElem? (i := 3) rfl))) (List.mem_cons_of_mem _ (List.mem_append_left _ (List.mem_of_getElem? (i := 4) rfl)))) rfl rfl rfl (by decide +kernel) ⟨Nat.le_of_ble_eq_true rfl, Nat.le_of_ble_eq_true rfl⟩) ⟨fun a U g mk q => by obtain ⟨q0, q1, qP, qK, qD⟩ := q; exact ⟨q0, q1, qP, va_K.moved (u := U) (U := U.calling g mk a) (Vm.Alike.refl U.vm) qK, qD⟩, va_recv hKc hPc (ci := 12) (q0 := 0) rfl rfl, fun U hU hW => ⟨rfl, by rw [hU], by rw [hU]; exact hPc, va_K.moved hW.alike hKc, hDc.weaken (fun _ _ _ _ => trivial)⟩⟩ rfl rfl hl.1 rfl (lv_room (Nat.le_of_ble_eq_true rfl)) dX12_service_7 ⟨Nat.le_of_ble_eq_true rfl, Nat.le_of_ble_eq_true rfl⟩) hS (fun q _ h => hFc q h) hFc (fun r_1 u t H1 locs ht hvm hw hB hz1 hk1 hS => ?_)
  obtain ⟨hP1, hK1, hD1⟩ := hB
  rw [ht] at hP1
  have hK1 := va_K.moved hvm.symm hK1
  obtain ⟨hP, hD⟩ := va_join (wr := []) (w1 := [(h0, .inr (12, [.int 0, .int 0, .ref mr, .ref mt, .ref mw, .ref mu, .ref mp, .ref mi, .ref mk, .ref ms, .int 0, .ref mv, .int 0, .int 0, .int 0, .int 0, .long 0, .int (-1), .int 0, .ref m1w, .ref m2w, .ref m3w, .ref m4w, .int 0, .long 0, .long 0, .long 0])), (mw, .inl (cm3, 906, .inr (.inl fw)))]) hP hD [0, 1] [] rfl rfl (by decide) (by decide) hk1 hFc hP1 hD1
  generalize H1 = H at hP hS ⊢
  have hP : va_P (dC, dI) vwCl [(h0, .inr (12, [.int 0, .int 0, .ref mr, .ref mt, .ref mw, .ref mu, .ref mp, .ref mi, .ref mk, .ref ms, .int 0, .ref mv, .int 0, .int 0, .int 0, .int 0, .long 0, .int (-1), .int 0, .ref m1w, .ref m2w, .ref m3w, .ref m4w, .int 0, .long 0, .long 0, .long 0])), (mw, .inl (cm3, 906, .inr (.inl fw)))] H := hP
  have hD : va_D A [(h0, .inr (12, [.int 0, .int 0, .ref mr, .ref mt, .ref mw, .ref mu, .ref mp, .ref mi, .ref mk, .ref ms, .int 0, .ref mv, .int 0, .int 0, .int 0, .int 0, .long 0, .int (-1), .int 0, .ref m1w, .ref m2w, .ref m3w, .ref m4w, .int 0, .long 0, .long 0, .long 0])), (mw, .inl (cm3, 906, .inr (.inl fw)))] := hD
  refine W.widen (k := 0) (n := 0) (Nat.le_of_ble_eq_true rfl) (Nat.le_of_ble_eq_true rfl) ?_
  have hw : r_1 = 0 := hw
  subst hw
  refine lv_if_eq (tgt := 22) hx hb dX12_service_10 (by decide) (fun _ => ?_) (fun c => absurd (by decide) c)
  refine lv_iconst (v := (-1)) hx hb dX12_service_22 (by decide) ?_
  have hP9 := hP.sub (ws' := []) [] rfl
  have hD9 := hD.sub (ws' := []) [] (by decide) rfl
  have hK9 := hK.sub (tys' := []) [] rfl
  refine W.widen (k := 0) (n := 0) (Nat.le_of_ble_eq_true rfl) (Nat.le_of_ble_eq_true rfl) ?_
  exact W.iret (v := (-1)) hx hb hr (fun t ht hW => ⟨⟨(-1), (), rfl, rfl, by rw [ht]; exact hP9, va_K.moved hW.alike hK9, hD9⟩, hS.F ht⟩) hS.2.2 dX12_service_23
def ow_c_X12_share : List Cond := [.fieldLink RX12 67 "DeadlineShareModel" "thrown" "I", .methodLink RX12 142 yX12_isTask, .instanceMethod yX12_isTask, .selects RX12 yX12_isTask yX12_isTask, .initialized RX12, .constantLong RX12 291 (-9223372036854775808)]
def wq_c_X12_share : List Cond := .code yX12_share cX12_share 8 (some .long) :: (ow_c_X12_share ++ (u_ws RX12 TX12 27 ++ (wq_c_X12_isTask ++ ([] : List Cond))))
theorem tb_c_X12_share : ∀ w ∈ wq_c_X12_share, q_g w := by
  unfold wq_c_X12_share ow_c_X12_share
  exact q_cons tw_535 (q_app (q_cons tw_488 (q_cons tw_506 (q_cons tw_505 (q_cons tw_504 (q_cons tw_435 (q_cons tw_524 q_nil)))))) (q_app tu_X12 (q_app tb_c_X12_isTask q_nil)))
set_option maxHeartbeats 4000000 in
set_option maxRecDepth 100000 in
theorem c_X12_share (l : Launch) (dC : Nat → ClassId) (dI : Nat → Nat → Nat) (h0 : Nat) (tk : Int32) (wa : Int32) (wb : Int32) (mr : Nat) (mt : Nat) (mw : Nat) (mu : Nat) (mp : Nat) (mi : Nat) (mk : Nat) (ms : Nat) (mv : Nat) (m1w : Nat) (m2w : Nat) (m3w : Nat) (m4w : Nat) (cm3 : ClassId) (fw : Nat → Int64) (sz : Nat) (hw0 : fw 0 = 0) (hw1 : fw 1 = 0) (hw2 : fw 2 = 0) (hw3 : fw 3 = (-1)) (hw4 : fw 4 = (-1)) (hw5 : fw 5 = 0) : Met l yX12_share wq_c_X12_share ({ frames := 2, cells := 0, slots := 0, locals := 46 } : Room) (va_Pc [.ref h0, .int tk, .int wa, .int wb] (fun U => U.heap.size = sz ∧ va_P (dC, dI) vwCl [(h0, .inr (12, [.int 0, .int 0, .ref mr, .ref mt, .ref mw, .ref mu, .ref mp, .ref mi, .ref mk, .ref ms, .int 0, .ref mv, .int 0, .int 0, .int 0, .int 0, .long 0, .int (-1), .int 0, .ref m1w, .ref m2w, .ref m3w, .ref m4w, .int 0, .long 0, .long 0, .long 0])), (mw, .inl (cm3, 906, .inr (.inl fw)))] U.heap ∧ va_K (dC, dI) vwCl [(cm3, .long)] U ∧ va_D (fun _ => True) [(h0, .inr (12, [.int 0, .int 0, .ref mr, .ref mt, .ref mw, .ref mu, .ref mp, .ref mi, .ref mk, .ref ms, .int 0, .ref mv, .int 0, .int 0, .int 0, .int 0, .long 0, .int (-1), .int 0, .ref m1w, .ref m2w, .ref m3w, .ref m4w, .int 0, .long 0, .long 0, .long 0])), (mw, .inl (cm3, 906, .inr (.inl fw)))])) (va_Ql (fun (r : Int64) (_ : Unit) => r = (-9223372036854775808)) (fun (_ : Unit) t => va_P (dC, dI) vwCl [] t.heap ∧ va_K (dC, dI) vwCl [] t ∧ va_D (va_A [(h0, .inr (12, [.int 0, .int 0, .ref mr, .ref mt, .ref mw, .ref mu, .ref mp, .ref mi, .ref mk, .ref ms, .int 0, .ref mv, .int 0, .int 0, .int 0, .int 0, .long 0, .int (-1), .int 0, .ref m1w, .ref m2w, .ref m3w, .ref m4w, .int 0, .long 0, .long 0, .long 0])), (mw, .inl (cm3, 906, .inr (.inl fw)))] sz) []) (va_A [(h0, .inr (12, [.int 0, .int 0, .ref mr, .ref mt, .ref mw, .ref mu, .ref mp, .ref mi, .ref mk, .ref ms, .int 0, .ref mv, .int 0, .int 0, .int 0, .int 0, .long 0, .int (-1), .int 0, .ref m1w, .ref m2w, .ref m3w, .ref m4w, .int 0, .long 0, .long 0, .long 0])), (mw, .inl (cm3, 906, .inr (.inl fw)))] sz)) 0 0 (va_A [(h0, .inr (12, [.int 0, .int 0, .ref mr, .ref mt, .ref mw, .ref mu, .ref mp, .ref mi, .ref mk, .ref ms, .int 0, .ref mv, .int 0, .int 0, .int 0, .int 0, .long 0, .int (-1), .int 0, .ref m1w, .ref m2w, .ref m3w, .ref m4w, .int 0, .long 0, .long 0, .long 0])), (mw, .inl (cm3, 906, .inr (.inl fw)))] sz) := by
  refine Met.ofW (cc := cX12_share) (maxL := 8) (ret := (some .long)) (by decide) rfl ?_
  intro p e s m args below meth c s₁ B hml hv
  obtain ⟨rfl, hsz, hP, hK, hD0⟩ := hv
  have hx := B.exec
  have hb := B.bytes
  have hr := B.returns
  have hts := atoms_spec (ws := wq_c_X12_share) B.pre
  have hown : s.vm.findClass RX12 = some m.cls := findClass_of_methodNamed B.named
  have hlocks := B.notSynchronized
  subst hsz
  have hD := hD0.self (sz := s.heap.size)
  obtain ⟨A, hAe⟩ : ∃ A, A = va_A [(h0, .inr (12, [.int 0, .int 0, .ref mr, .ref mt, .ref mw, .ref mu, .ref mp, .ref mi, .ref mk, .ref ms, .int 0, .ref mv, .int 0, .int 0, .int 0, .int 0, .long 0, .int (-1), .int 0, .ref m1w, .ref m2w, .ref m3w, .ref m4w, .int 0, .long 0, .long 0, .long 0])), (mw, .inl (cm3, 906, .inr (.inl fw)))] s.heap.size := ⟨_, rfl⟩
  rw [← hAe] at hD ⊢
  have hA : ∀ q : Nat, s.heap.size ≤ q → A q := fun q h => by rw [hAe]; exact Or.inr h
  have hS : va_S A s.heap s.heap [] := va_S.rf
  have hP : va_P (dC, dI) vwCl [(h0, .inr (12, [.int 0, .int 0, .ref mr, .ref mt, .ref mw, .ref mu, .ref mp, .ref mi, .ref mk, .ref ms, .int 0, .ref mv, .int 0, .int 0, .int 0, .int 0, .long 0, .int (-1), .int 0, .ref m1w, .ref m2w, .ref m3w, .ref m4w, .int 0, .long 0, .long 0, .long 0])), (mw, .inl (cm3, 906, .inr (.inl fw)))] s.heap := hP
  have hl := lv_entry ([.ref h0, .int tk, .int wa, .int wb]) (n := 8) (Nat.le_of_ble_eq_true rfl)
  rw [lg_entry_eq]
  generalize (lg_sl ([.ref h0, .int tk, .int wa, .int wb]) ++ List.replicate (8 - (lg_sl ([.ref h0, .int tk, .int wa, .int wb])).length) Slot.unset).toArray = ls at hl ⊢
  have hl : lv_has ls 8 [(0, .ref h0), (1, .int tk), (2, .int wa), (3, .int wb)] := hl
  refine lv_aload_n hx hb dX12_share_0 rfl (lv_at hl 0 rfl) ?_
  refine lv_iconst (v := 0) hx hb dX12_share_1 (by decide) ?_
  refine va_put (D := (dC, dI)) (ci := 12) (v := .int 0) (ty := .int) (C := RX12) (T := TX12) (N := 27) hx hb hts (fun _ h0_ => List.mem_cons_of_mem _ (List.mem_append_right _ (List.mem_append_left _ h0_))) tyX12 tyX12_ok nmX12 hown hK hP hD hS 0 rfl rfl 0 (by decide) (hts (.fieldLink RX12 67 "DeadlineShareModel" "thrown" "I") (List.mem_cons_of_mem _ (List.mem_append_left _ (List.mem_of_getElem? (i := 0) rfl)))) (fun _ h9 => h9) rfl (by decide +kernel) rfl rfl (Nat.le_of_ble_eq_true rfl) dX12_share_2 (fun H locs hP hD hS => ?_)
  have hP : va_P (dC, dI) vwCl [(h0, .inr (12, [.int 0, .int 0, .ref mr, .ref mt, .ref mw, .ref mu, .ref mp, .ref mi, .ref mk, .ref ms, .int 0, .ref mv, .int 0, .int 0, .int 0, .int 0, .long 0, .int (-1), .int 0, .ref m1w, .ref m2w, .ref m3w, .ref m4w, .int 0, .long 0, .long 0, .long 0])), (mw, .inl (cm3, 906, .inr (.inl fw)))] H := hP
  have hD : va_D A [(h0, .inr (12, [.int 0, .int 0, .ref mr, .ref mt, .ref mw, .ref mu, .ref mp, .ref mi, .ref mk, .ref ms, .int 0, .ref mv, .int 0, .int 0, .int 0, .int 0, .long 0, .int (-1), .int 0, .ref m1w, .ref m2w, .ref m3w, .ref m4w, .int 0, .long 0, .long 0, .long 0])), (mw, .inl (cm3, 906, .inr (.inl fw)))] := hD
  refine lv_aload_n hx hb dX12_share_5 rfl (lv_at hl 0 rfl) ?_
  refine lv_iload_n hx hb dX12_share_6 rfl (lv_at hl 1 rfl) ?_
  have hPc := hP.sub (ws' := [(h0, .inr (12, [.int 0, .int 0, .ref mr, .ref mt, .ref mw, .ref mu, .ref mp, .ref mi, .ref mk, .ref ms, .int 0, .ref mv, .int 0, .int 0, .int 0, .int 0, .long 0, .int (-1), .int 0, .ref m1w, .ref m2w, .ref m3w, .ref m4w, .int 0, .long 0, .long 0, .long 0])), (mw, .inl (cm3, 906, .inr (.inl fw)))]) [0, 1] rfl
  have hDc := hD.sub (ws' := [(h0, .inr (12, [.int 0, .int 0, .ref mr, .ref mt, .ref mw, .ref mu, .ref mp, .ref mi, .ref mk, .ref ms, .int 0, .ref mv, .int 0, .int 0, .int 0, .int 0, .long 0, .int (-1), .int 0, .ref m1w, .ref m2w, .ref m3w, .ref m4w, .int 0, .long 0, .long 0, .long 0])), (mw, .inl (cm3, 906, .inr (.inl fw)))]) [0, 1] (by decide) rfl
  have hKc := hK.sub (tys' := [(cm3, .long)]) [0] rfl
  have hFc := va_free (wc := [(h0, .inr (12, [.int 0, .int 0, .ref mr, .ref mt, .ref mw, .ref mu, .ref mp, .ref mi, .ref mk, .ref ms, .int 0, .ref mv, .int 0, .int 0, .int 0, .int 0, .long 0, .int (-1), .int 0, .ref m1w, .ref m2w, .ref m3w, .ref m4w, .int 0, .long 0, .long 0, .long 0])), (mw, .inl (cm3, 906, .inr (.inl fw)))]) hD hS hA [0, 1] rfl
  refine va_calli (va_runV (As := [.int tk]) (rest := []) ⟨hx, hb, hml, hown, hts⟩ (c_X12_isTask l dC dI h0 tk mr mt mw mu mp mi mk ms mv m1w m2w m3w m4w cm3 fw H.size hw0) (cwV 1 hts (gi_V (fun w_ h0_ => ⟨List.mem_cons_of_mem _ (List.mem_append_right _ (List.mem_append_right _ (List.mem_append_left _ h0_))), (tb_c_X12_isTask w_ h0_).2⟩) (List.mem_cons_of_mem _ (List.mem_append_left _ (List.mem_of_getElem? (i := 1) rfl))) (List.mem_cons_of_mem _ (List.mem_append_left _ (List.mem_of_getElem? (i := 2) rfl))) (List.mem_cons_of_mem _ (List.mem_append_left _ (List.mem_of_getElem? (i := 3) rfl))) (List.mem_cons_of_mem _ (List.mem_append_left _ (List.mem_of_getElem? (i := 4) rfl)))) rfl rfl rfl (by decide +kernel) ⟨Nat.le_of_ble_eq_true rfl, Nat.le_of_ble_eq_true rfl⟩) ⟨fun a U g mk q => by obtain ⟨q0, q1, qP, qK, qD⟩ := q; exact ⟨q0, q1, qP, va_K.moved (u := U) (U := U.calling g mk a) (Vm.Alike.refl U.vm) qK, qD⟩, va_recv hKc hPc (ci := 12) (q0 := 0) rfl rfl, fun U hU hW => ⟨rfl, by rw [hU], by rw [hU]; exact hPc, va_K.moved hW.alike hKc, hDc.weaken (fun _ _ _ _ => trivial)⟩⟩ rfl rfl hl.1 rfl (lv_room (Nat.le_of_ble_eq_true rfl)) dX12_share_7 ⟨Nat.le_of_ble_eq_true rfl, Nat.le_of_ble_eq_true rfl⟩) hS (fun q _ h => hFc q h) hFc (fun r_1 u t H1 locs ht hvm hw hB hz1 hk1 hS => ?_)
  obtain ⟨hP1, hK1, hD1⟩ := hB
  rw [ht] at hP1
  have hK1 := va_K.moved hvm.symm hK1
  obtain ⟨hP, hD⟩ := va_join (wr := []) (w1 := [(h0, .inr (12, [.int 0, .int 0, .ref mr, .ref mt, .ref mw, .ref mu, .ref mp, .ref mi, .ref mk, .ref ms, .int 0, .ref mv, .int 0, .int 0, .int 0, .int 0, .long 0, .int (-1), .int 0, .ref m1w, .ref m2w, .ref m3w, .ref m4w, .int 0, .long 0, .long 0, .long 0])), (mw, .inl (cm3, 906, .inr (.inl fw)))]) hP hD [0, 1] [] rfl rfl (by decide) (by decide) hk1 hFc hP1 hD1
  generalize H1 = H at hP hS ⊢
  have hP : va_P (dC, dI) vwCl [(h0, .inr (12, [.int 0, .int 0, .ref mr, .ref mt, .ref mw, .ref mu, .ref mp, .ref mi, .ref mk, .ref ms, .int 0, .ref mv, .int 0, .int 0, .int 0, .int 0, .long 0, .int (-1), .int 0, .ref m1w, .ref m2w, .ref m3w, .ref m4w, .int 0, .long 0, .long 0, .long 0])), (mw, .inl (cm3, 906, .inr (.inl fw)))] H := hP
  have hD : va_D A [(h0, .inr (12, [.int 0, .int 0, .ref mr, .ref mt, .ref mw, .ref mu, .ref mp, .ref mi, .ref mk, .ref ms, .int 0, .ref mv, .int 0, .int 0, .int 0, .int 0, .long 0, .int (-1), .int 0, .ref m1w, .ref m2w, .ref m3w, .ref m4w, .int 0, .long 0, .long 0, .long 0])), (mw, .inl (cm3, 906, .inr (.inl fw)))] := hD
  refine W.widen (k := 0) (n := 0) (Nat.le_of_ble_eq_true rfl) (Nat.le_of_ble_eq_true rfl) ?_
  have hw : r_1 = 0 := hw
  subst hw
  refine lv_if_eq (tgt := 22) hx hb dX12_share_10 (by decide) (fun _ => ?_) (fun c => absurd (by decide) c)
  refine lv_ldc2 hx hb hown (hts (.constantLong RX12 291 (-9223372036854775808)) (List.mem_cons_of_mem _ (List.mem_append_left _ (List.mem_of_getElem? (i := 5) rfl)))) dX12_share_22 ?_
  have hP9 := hP.sub (ws' := []) [] rfl
  have hD9 := hD.sub (ws' := []) [] (by decide) rfl
  have hK9 := hK.sub (tys' := []) [] rfl
  refine W.widen (k := 0) (n := 0) (Nat.le_of_ble_eq_true rfl) (Nat.le_of_ble_eq_true rfl) ?_
  exact W.lret (v := (-9223372036854775808)) hx hb hr (fun t ht hW => ⟨⟨(-9223372036854775808), (), rfl, rfl, by rw [ht]; exact hP9, va_K.moved hW.alike hK9, hD9⟩, hS.F ht⟩) hS.2.2 dX12_share_25
def ow_c_X12_worst : List Cond := [.fieldLink RX12 67 "DeadlineShareModel" "thrown" "I", .methodLink RX12 142 yX12_isTask, .instanceMethod yX12_isTask, .selects RX12 yX12_isTask yX12_isTask, .initialized RX12, .constantLong RX12 291 (-9223372036854775808)]
def wq_c_X12_worst : List Cond := .code yX12_worst cX12_worst 10 (some .long) :: (ow_c_X12_worst ++ (u_ws RX12 TX12 27 ++ (wq_c_X12_isTask ++ ([] : List Cond))))
theorem tb_c_X12_worst : ∀ w ∈ wq_c_X12_worst, q_g w := by
  unfold wq_c_X12_worst ow_c_X12_worst
  exact q_cons tw_536 (q_app (q_cons tw_488 (q_cons tw_506 (q_cons tw_505 (q_cons tw_504 (q_cons tw_435 (q_cons tw_524 q_nil)))))) (q_app tu_X12 (q_app tb_c_X12_isTask q_nil)))
set_option maxHeartbeats 4000000 in
set_option maxRecDepth 100000 in
theorem c_X12_worst (l : Launch) (dC : Nat → ClassId) (dI : Nat → Nat → Nat) (h0 : Nat) (tk : Int32) (wh : Int32) (mr : Nat) (mt : Nat) (mw : Nat) (mu : Nat) (mp : Nat) (mi : Nat) (mk : Nat) (ms : Nat) (mv : Nat) (m1w : Nat) (m2w : Nat) (m3w : Nat) (m4w : Nat) (cm3 : ClassId) (fw : Nat → Int64) (sz : Nat) (hw0 : fw 0 = 0) (hw1 : fw 1 = 0) (hw2 : fw 2 = 0) (hw3 : fw 3 = (-1)) (hw4 : fw 4 = (-1)) (hw5 : fw 5 = 0) : Met l yX12_worst wq_c_X12_worst ({ frames := 2, cells := 0, slots := 0, locals := 46 } : Room) (va_Pc [.ref h0, .int tk, .int wh] (fun U => U.heap.size = sz ∧ va_P (dC, dI) vwCl [(h0, .inr (12, [.int 0, .int 0, .ref mr, .ref mt, .ref mw, .ref mu, .ref mp, .ref mi, .ref mk, .ref ms, .int 0, .ref mv, .int 0, .int 0, .int 0, .int 0, .long 0, .int (-1), .int 0, .ref m1w, .ref m2w, .ref m3w, .ref m4w, .int 0, .long 0, .long 0, .long 0])), (mw, .inl (cm3, 906, .inr (.inl fw)))] U.heap ∧ va_K (dC, dI) vwCl [(cm3, .long)] U ∧ va_D (fun _ => True) [(h0, .inr (12, [.int 0, .int 0, .ref mr, .ref mt, .ref mw, .ref mu, .ref mp, .ref mi, .ref mk, .ref ms, .int 0, .ref mv, .int 0, .int 0, .int 0, .int 0, .long 0, .int (-1), .int 0, .ref m1w, .ref m2w, .ref m3w, .ref m4w, .int 0, .long 0, .long 0, .long 0])), (mw, .inl (cm3, 906, .inr (.inl fw)))])) (va_Ql (fun (r : Int64) (_ : Unit) => r = (-9223372036854775808)) (fun (_ : Unit) t => va_P (dC, dI) vwCl [] t.heap ∧ va_K (dC, dI) vwCl [] t ∧ va_D (va_A [(h0, .inr (12, [.int 0, .int 0, .ref mr, .ref mt, .ref mw, .ref mu, .ref mp, .ref mi, .ref mk, .ref ms, .int 0, .ref mv, .int 0, .int 0, .int 0, .int 0, .long 0, .int (-1), .int 0, .ref m1w, .ref m2w, .ref m3w, .ref m4w, .int 0, .long 0, .long 0, .long 0])), (mw, .inl (cm3, 906, .inr (.inl fw)))] sz) []) (va_A [(h0, .inr (12, [.int 0, .int 0, .ref mr, .ref mt, .ref mw, .ref mu, .ref mp, .ref mi, .ref mk, .ref ms, .int 0, .ref mv, .int 0, .int 0, .int 0, .int 0, .long 0, .int (-1), .int 0, .ref m1w, .ref m2w, .ref m3w, .ref m4w, .int 0, .long 0, .long 0, .long 0])), (mw, .inl (cm3, 906, .inr (.inl fw)))] sz)) 0 0 (va_A [(h0, .inr (12, [.int 0, .int 0, .ref mr, .ref mt, .ref mw, .ref mu, .ref mp, .ref mi, .ref mk, .ref ms, .int 0, .ref mv, .int 0, .int 0, .int 0, .int 0, .long 0, .int (-1), .int 0, .ref m1w, .ref m2w, .ref m3w, .ref m4w, .int 0, .long 0, .long 0, .long 0])), (mw, .inl (cm3, 906, .inr (.inl fw)))] sz) := by
  refine Met.ofW (cc := cX12_worst) (maxL := 10) (ret := (some .long)) (by decide) rfl ?_
  intro p e s m args below meth c s₁ B hml hv
  obtain ⟨rfl, hsz, hP, hK, hD0⟩ := hv
  have hx := B.exec
  have hb := B.bytes
  have hr := B.returns
  have hts := atoms_spec (ws := wq_c_X12_worst) B.pre
  have hown : s.vm.findClass RX12 = some m.cls := findClass_of_methodNamed B.named
  have hlocks := B.notSynchronized
  subst hsz
  have hD := hD0.self (sz := s.heap.size)
  obtain ⟨A, hAe⟩ : ∃ A, A = va_A [(h0, .inr (12, [.int 0, .int 0, .ref mr, .ref mt, .ref mw, .ref mu, .ref mp, .ref mi, .ref mk, .ref ms, .int 0, .ref mv, .int 0, .int 0, .int 0, .int 0, .long 0, .int (-1), .int 0, .ref m1w, .ref m2w, .ref m3w, .ref m4w, .int 0, .long 0, .long 0, .long 0])), (mw, .inl (cm3, 906, .inr (.inl fw)))] s.heap.size := ⟨_, rfl⟩
  rw [← hAe] at hD ⊢
  have hA : ∀ q : Nat, s.heap.size ≤ q → A q := fun q h => by rw [hAe]; exact Or.inr h
  have hS : va_S A s.heap s.heap [] := va_S.rf
  have hP : va_P (dC, dI) vwCl [(h0, .inr (12, [.int 0, .int 0, .ref mr, .ref mt, .ref mw, .ref mu, .ref mp, .ref mi, .ref mk, .ref ms, .int 0, .ref mv, .int 0, .int 0, .int 0, .int 0, .long 0, .int (-1), .int 0, .ref m1w, .ref m2w, .ref m3w, .ref m4w, .int 0, .long 0, .long 0, .long 0])), (mw, .inl (cm3, 906, .inr (.inl fw)))] s.heap := hP
  have hl := lv_entry ([.ref h0, .int tk, .int wh]) (n := 10) (Nat.le_of_ble_eq_true rfl)
  rw [lg_entry_eq]
  generalize (lg_sl ([.ref h0, .int tk, .int wh]) ++ List.replicate (10 - (lg_sl ([.ref h0, .int tk, .int wh])).length) Slot.unset).toArray = ls at hl ⊢
  have hl : lv_has ls 10 [(0, .ref h0), (1, .int tk), (2, .int wh)] := hl
  refine lv_aload_n hx hb dX12_worst_0 rfl (lv_at hl 0 rfl) ?_
  refine lv_iconst (v := 0) hx hb dX12_worst_1 (by decide) ?_
  refine va_put (D := (dC, dI)) (ci := 12) (v := .int 0) (ty := .int) (C := RX12) (T := TX12) (N := 27) hx hb hts (fun _ h0_ => List.mem_cons_of_mem _ (List.mem_append_right _ (List.mem_append_left _ h0_))) tyX12 tyX12_ok nmX12 hown hK hP hD hS 0 rfl rfl 0 (by decide) (hts (.fieldLink RX12 67 "DeadlineShareModel" "thrown" "I") (List.mem_cons_of_mem _ (List.mem_append_left _ (List.mem_of_getElem? (i := 0) rfl)))) (fun _ h9 => h9) rfl (by decide +kernel) rfl rfl (Nat.le_of_ble_eq_true rfl) dX12_worst_2 (fun H locs hP hD hS => ?_)
  have hP : va_P (dC, dI) vwCl [(h0, .inr (12, [.int 0, .int 0, .ref mr, .ref mt, .ref mw, .ref mu, .ref mp, .ref mi, .ref mk, .ref ms, .int 0, .ref mv, .int 0, .int 0, .int 0, .int 0, .long 0, .int (-1), .int 0, .ref m1w, .ref m2w, .ref m3w, .ref m4w, .int 0, .long 0, .long 0, .long 0])), (mw, .inl (cm3, 906, .inr (.inl fw)))] H := hP
  have hD : va_D A [(h0, .inr (12, [.int 0, .int 0, .ref mr, .ref mt, .ref mw, .ref mu, .ref mp, .ref mi, .ref mk, .ref ms, .int 0, .ref mv, .int 0, .int 0, .int 0, .int 0, .long 0, .int (-1), .int 0, .ref m1w, .ref m2w, .ref m3w, .ref m4w, .int 0, .long 0, .long 0, .long 0])), (mw, .inl (cm3, 906, .inr (.inl fw)))] := hD
  refine lv_aload_n hx hb dX12_worst_5 rfl (lv_at hl 0 rfl) ?_
  refine lv_iload_n hx hb dX12_worst_6 rfl (lv_at hl 1 rfl) ?_
  have hPc := hP.sub (ws' := [(h0, .inr (12, [.int 0, .int 0, .ref mr, .ref mt, .ref mw, .ref mu, .ref mp, .ref mi, .ref mk, .ref ms, .int 0, .ref mv, .int 0, .int 0, .int 0, .int 0, .long 0, .int (-1), .int 0, .ref m1w, .ref m2w, .ref m3w, .ref m4w, .int 0, .long 0, .long 0, .long 0])), (mw, .inl (cm3, 906, .inr (.inl fw)))]) [0, 1] rfl
  have hDc := hD.sub (ws' := [(h0, .inr (12, [.int 0, .int 0, .ref mr, .ref mt, .ref mw, .ref mu, .ref mp, .ref mi, .ref mk, .ref ms, .int 0, .ref mv, .int 0, .int 0, .int 0, .int 0, .long 0, .int (-1), .int 0, .ref m1w, .ref m2w, .ref m3w, .ref m4w, .int 0, .long 0, .long 0, .long 0])), (mw, .inl (cm3, 906, .inr (.inl fw)))]) [0, 1] (by decide) rfl
  have hKc := hK.sub (tys' := [(cm3, .long)]) [0] rfl
  have hFc := va_free (wc := [(h0, .inr (12, [.int 0, .int 0, .ref mr, .ref mt, .ref mw, .ref mu, .ref mp, .ref mi, .ref mk, .ref ms, .int 0, .ref mv, .int 0, .int 0, .int 0, .int 0, .long 0, .int (-1), .int 0, .ref m1w, .ref m2w, .ref m3w, .ref m4w, .int 0, .long 0, .long 0, .long 0])), (mw, .inl (cm3, 906, .inr (.inl fw)))]) hD hS hA [0, 1] rfl
  refine va_calli (va_runV (As := [.int tk]) (rest := []) ⟨hx, hb, hml, hown, hts⟩ (c_X12_isTask l dC dI h0 tk mr mt mw mu mp mi mk ms mv m1w m2w m3w m4w cm3 fw H.size hw0) (cwV 1 hts (gi_V (fun w_ h0_ => ⟨List.mem_cons_of_mem _ (List.mem_append_right _ (List.mem_append_right _ (List.mem_append_left _ h0_))), (tb_c_X12_isTask w_ h0_).2⟩) (List.mem_cons_of_mem _ (List.mem_append_left _ (List.mem_of_getElem? (i := 1) rfl))) (List.mem_cons_of_mem _ (List.mem_append_left _ (List.mem_of_getElem? (i := 2) rfl))) (List.mem_cons_of_mem _ (List.mem_append_left _ (List.mem_of_getElem? (i := 3) rfl))) (List.mem_cons_of_mem _ (List.mem_append_left _ (List.mem_of_getElem? (i := 4) rfl)))) rfl rfl rfl (by decide +kernel) ⟨Nat.le_of_ble_eq_true rfl, Nat.le_of_ble_eq_true rfl⟩) ⟨fun a U g mk q => by obtain ⟨q0, q1, qP, qK, qD⟩ := q; exact ⟨q0, q1, qP, va_K.moved (u := U) (U := U.calling g mk a) (Vm.Alike.refl U.vm) qK, qD⟩, va_recv hKc hPc (ci := 12) (q0 := 0) rfl rfl, fun U hU hW => ⟨rfl, by rw [hU], by rw [hU]; exact hPc, va_K.moved hW.alike hKc, hDc.weaken (fun _ _ _ _ => trivial)⟩⟩ rfl rfl hl.1 rfl (lv_room (Nat.le_of_ble_eq_true rfl)) dX12_worst_7 ⟨Nat.le_of_ble_eq_true rfl, Nat.le_of_ble_eq_true rfl⟩) hS (fun q _ h => hFc q h) hFc (fun r_1 u t H1 locs ht hvm hw hB hz1 hk1 hS => ?_)
  obtain ⟨hP1, hK1, hD1⟩ := hB
  rw [ht] at hP1
  have hK1 := va_K.moved hvm.symm hK1
  obtain ⟨hP, hD⟩ := va_join (wr := []) (w1 := [(h0, .inr (12, [.int 0, .int 0, .ref mr, .ref mt, .ref mw, .ref mu, .ref mp, .ref mi, .ref mk, .ref ms, .int 0, .ref mv, .int 0, .int 0, .int 0, .int 0, .long 0, .int (-1), .int 0, .ref m1w, .ref m2w, .ref m3w, .ref m4w, .int 0, .long 0, .long 0, .long 0])), (mw, .inl (cm3, 906, .inr (.inl fw)))]) hP hD [0, 1] [] rfl rfl (by decide) (by decide) hk1 hFc hP1 hD1
  generalize H1 = H at hP hS ⊢
  have hP : va_P (dC, dI) vwCl [(h0, .inr (12, [.int 0, .int 0, .ref mr, .ref mt, .ref mw, .ref mu, .ref mp, .ref mi, .ref mk, .ref ms, .int 0, .ref mv, .int 0, .int 0, .int 0, .int 0, .long 0, .int (-1), .int 0, .ref m1w, .ref m2w, .ref m3w, .ref m4w, .int 0, .long 0, .long 0, .long 0])), (mw, .inl (cm3, 906, .inr (.inl fw)))] H := hP
  have hD : va_D A [(h0, .inr (12, [.int 0, .int 0, .ref mr, .ref mt, .ref mw, .ref mu, .ref mp, .ref mi, .ref mk, .ref ms, .int 0, .ref mv, .int 0, .int 0, .int 0, .int 0, .long 0, .int (-1), .int 0, .ref m1w, .ref m2w, .ref m3w, .ref m4w, .int 0, .long 0, .long 0, .long 0])), (mw, .inl (cm3, 906, .inr (.inl fw)))] := hD
  refine W.widen (k := 0) (n := 0) (Nat.le_of_ble_eq_true rfl) (Nat.le_of_ble_eq_true rfl) ?_
  have hw : r_1 = 0 := hw
  subst hw
  refine lv_if_eq (tgt := 23) hx hb dX12_worst_10 (by decide) (fun _ => ?_) (fun c => absurd (by decide) c)
  refine lv_ldc2 hx hb hown (hts (.constantLong RX12 291 (-9223372036854775808)) (List.mem_cons_of_mem _ (List.mem_append_left _ (List.mem_of_getElem? (i := 5) rfl)))) dX12_worst_23 ?_
  have hP9 := hP.sub (ws' := []) [] rfl
  have hD9 := hD.sub (ws' := []) [] (by decide) rfl
  have hK9 := hK.sub (tys' := []) [] rfl
  refine W.widen (k := 0) (n := 0) (Nat.le_of_ble_eq_true rfl) (Nat.le_of_ble_eq_true rfl) ?_
  exact W.lret (v := (-9223372036854775808)) hx hb hr (fun t ht hW => ⟨⟨(-9223372036854775808), (), rfl, rfl, by rw [ht]; exact hP9, va_K.moved hW.alike hK9, hD9⟩, hS.F ht⟩) hS.2.2 dX12_worst_26
def ow_c_X12_finish : List Cond := [.fieldLink RX12 67 "DeadlineShareModel" "thrown" "I", .methodLink RX12 142 yX12_isTask, .instanceMethod yX12_isTask, .selects RX12 yX12_isTask yX12_isTask, .initialized RX12]
def wq_c_X12_finish : List Cond := .code yX12_finish cX12_finish 4 (some .int) :: (ow_c_X12_finish ++ (u_ws RX12 TX12 27 ++ (wq_c_X12_isTask ++ ([] : List Cond))))
theorem tb_c_X12_finish : ∀ w ∈ wq_c_X12_finish, q_g w := by
  unfold wq_c_X12_finish ow_c_X12_finish
  exact q_cons tw_537 (q_app (q_cons tw_488 (q_cons tw_506 (q_cons tw_505 (q_cons tw_504 (q_cons tw_435 q_nil))))) (q_app tu_X12 (q_app tb_c_X12_isTask q_nil)))
set_option maxHeartbeats 4000000 in
set_option maxRecDepth 100000 in
theorem c_X12_finish (l : Launch) (dC : Nat → ClassId) (dI : Nat → Nat → Nat) (h0 : Nat) (tk : Int32) (mr : Nat) (mt : Nat) (mw : Nat) (mu : Nat) (mp : Nat) (mi : Nat) (mk : Nat) (ms : Nat) (mv : Nat) (m1w : Nat) (m2w : Nat) (m3w : Nat) (m4w : Nat) (cm3 : ClassId) (fw : Nat → Int64) (sz : Nat) (hw0 : fw 0 = 0) (hw1 : fw 1 = 0) (hw2 : fw 2 = 0) (hw3 : fw 3 = (-1)) (hw4 : fw 4 = (-1)) (hw5 : fw 5 = 0) : Met l yX12_finish wq_c_X12_finish ({ frames := 2, cells := 0, slots := 0, locals := 46 } : Room) (va_Pc [.ref h0, .int tk] (fun U => U.heap.size = sz ∧ va_P (dC, dI) vwCl [(h0, .inr (12, [.int 0, .int 0, .ref mr, .ref mt, .ref mw, .ref mu, .ref mp, .ref mi, .ref mk, .ref ms, .int 0, .ref mv, .int 0, .int 0, .int 0, .int 0, .long 0, .int (-1), .int 0, .ref m1w, .ref m2w, .ref m3w, .ref m4w, .int 0, .long 0, .long 0, .long 0])), (mw, .inl (cm3, 906, .inr (.inl fw)))] U.heap ∧ va_K (dC, dI) vwCl [(cm3, .long)] U ∧ va_D (fun _ => True) [(h0, .inr (12, [.int 0, .int 0, .ref mr, .ref mt, .ref mw, .ref mu, .ref mp, .ref mi, .ref mk, .ref ms, .int 0, .ref mv, .int 0, .int 0, .int 0, .int 0, .long 0, .int (-1), .int 0, .ref m1w, .ref m2w, .ref m3w, .ref m4w, .int 0, .long 0, .long 0, .long 0])), (mw, .inl (cm3, 906, .inr (.inl fw)))])) (va_Qi (fun (r : Int32) (_ : Unit) => r = (-1)) (fun (_ : Unit) t => va_P (dC, dI) vwCl [] t.heap ∧ va_K (dC, dI) vwCl [] t ∧ va_D (va_A [(h0, .inr (12, [.int 0, .int 0, .ref mr, .ref mt, .ref mw, .ref mu, .ref mp, .ref mi, .ref mk, .ref ms, .int 0, .ref mv, .int 0, .int 0, .int 0, .int 0, .long 0, .int (-1), .int 0, .ref m1w, .ref m2w, .ref m3w, .ref m4w, .int 0, .long 0, .long 0, .long 0])), (mw, .inl (cm3, 906, .inr (.inl fw)))] sz) []) (va_A [(h0, .inr (12, [.int 0, .int 0, .ref mr, .ref mt, .ref mw, .ref mu, .ref mp, .ref mi, .ref mk, .ref ms, .int 0, .ref mv, .int 0, .int 0, .int 0, .int 0, .long 0, .int (-1), .int 0, .ref m1w, .ref m2w, .ref m3w, .ref m4w, .int 0, .long 0, .long 0, .long 0])), (mw, .inl (cm3, 906, .inr (.inl fw)))] sz)) 0 0 (va_A [(h0, .inr (12, [.int 0, .int 0, .ref mr, .ref mt, .ref mw, .ref mu, .ref mp, .ref mi, .ref mk, .ref ms, .int 0, .ref mv, .int 0, .int 0, .int 0, .int 0, .long 0, .int (-1), .int 0, .ref m1w, .ref m2w, .ref m3w, .ref m4w, .int 0, .long 0, .long 0, .long 0])), (mw, .inl (cm3, 906, .inr (.inl fw)))] sz) := by
  refine Met.ofW (cc := cX12_finish) (maxL := 4) (ret := (some .int)) (by decide) rfl ?_
  intro p e s m args below meth c s₁ B hml hv
  obtain ⟨rfl, hsz, hP, hK, hD0⟩ := hv
  have hx := B.exec
  have hb := B.bytes
  have hr := B.returns
  have hts := atoms_spec (ws := wq_c_X12_finish) B.pre
  have hown : s.vm.findClass RX12 = some m.cls := findClass_of_methodNamed B.named
  have hlocks := B.notSynchronized
  subst hsz
  have hD := hD0.self (sz := s.heap.size)
  obtain ⟨A, hAe⟩ : ∃ A, A = va_A [(h0, .inr (12, [.int 0, .int 0, .ref mr, .ref mt, .ref mw, .ref mu, .ref mp, .ref mi, .ref mk, .ref ms, .int 0, .ref mv, .int 0, .int 0, .int 0, .int 0, .long 0, .int (-1), .int 0, .ref m1w, .ref m2w, .ref m3w, .ref m4w, .int 0, .long 0, .long 0, .long 0])), (mw, .inl (cm3, 906, .inr (.inl fw)))] s.heap.size := ⟨_, rfl⟩
  rw [← hAe] at hD ⊢
  have hA : ∀ q : Nat, s.heap.size ≤ q → A q := fun q h => by rw [hAe]; exact Or.inr h
  have hS : va_S A s.heap s.heap [] := va_S.rf
  have hP : va_P (dC, dI) vwCl [(h0, .inr (12, [.int 0, .int 0, .ref mr, .ref mt, .ref mw, .ref mu, .ref mp, .ref mi, .ref mk, .ref ms, .int 0, .ref mv, .int 0, .int 0, .int 0, .int 0, .long 0, .int (-1), .int 0, .ref m1w, .ref m2w, .ref m3w, .ref m4w, .int 0, .long 0, .long 0, .long 0])), (mw, .inl (cm3, 906, .inr (.inl fw)))] s.heap := hP
  have hl := lv_entry ([.ref h0, .int tk]) (n := 4) (Nat.le_of_ble_eq_true rfl)
  rw [lg_entry_eq]
  generalize (lg_sl ([.ref h0, .int tk]) ++ List.replicate (4 - (lg_sl ([.ref h0, .int tk])).length) Slot.unset).toArray = ls at hl ⊢
  have hl : lv_has ls 4 [(0, .ref h0), (1, .int tk)] := hl
  refine lv_aload_n hx hb dX12_finish_0 rfl (lv_at hl 0 rfl) ?_
  refine lv_iconst (v := 0) hx hb dX12_finish_1 (by decide) ?_
  refine va_put (D := (dC, dI)) (ci := 12) (v := .int 0) (ty := .int) (C := RX12) (T := TX12) (N := 27) hx hb hts (fun _ h0_ => List.mem_cons_of_mem _ (List.mem_append_right _ (List.mem_append_left _ h0_))) tyX12 tyX12_ok nmX12 hown hK hP hD hS 0 rfl rfl 0 (by decide) (hts (.fieldLink RX12 67 "DeadlineShareModel" "thrown" "I") (List.mem_cons_of_mem _ (List.mem_append_left _ (List.mem_of_getElem? (i := 0) rfl)))) (fun _ h9 => h9) rfl (by decide +kernel) rfl rfl (Nat.le_of_ble_eq_true rfl) dX12_finish_2 (fun H locs hP hD hS => ?_)
  have hP : va_P (dC, dI) vwCl [(h0, .inr (12, [.int 0, .int 0, .ref mr, .ref mt, .ref mw, .ref mu, .ref mp, .ref mi, .ref mk, .ref ms, .int 0, .ref mv, .int 0, .int 0, .int 0, .int 0, .long 0, .int (-1), .int 0, .ref m1w, .ref m2w, .ref m3w, .ref m4w, .int 0, .long 0, .long 0, .long 0])), (mw, .inl (cm3, 906, .inr (.inl fw)))] H := hP
  have hD : va_D A [(h0, .inr (12, [.int 0, .int 0, .ref mr, .ref mt, .ref mw, .ref mu, .ref mp, .ref mi, .ref mk, .ref ms, .int 0, .ref mv, .int 0, .int 0, .int 0, .int 0, .long 0, .int (-1), .int 0, .ref m1w, .ref m2w, .ref m3w, .ref m4w, .int 0, .long 0, .long 0, .long 0])), (mw, .inl (cm3, 906, .inr (.inl fw)))] := hD
  refine lv_aload_n hx hb dX12_finish_5 rfl (lv_at hl 0 rfl) ?_
  refine lv_iload_n hx hb dX12_finish_6 rfl (lv_at hl 1 rfl) ?_
  have hPc := hP.sub (ws' := [(h0, .inr (12, [.int 0, .int 0, .ref mr, .ref mt, .ref mw, .ref mu, .ref mp, .ref mi, .ref mk, .ref ms, .int 0, .ref mv, .int 0, .int 0, .int 0, .int 0, .long 0, .int (-1), .int 0, .ref m1w, .ref m2w, .ref m3w, .ref m4w, .int 0, .long 0, .long 0, .long 0])), (mw, .inl (cm3, 906, .inr (.inl fw)))]) [0, 1] rfl
  have hDc := hD.sub (ws' := [(h0, .inr (12, [.int 0, .int 0, .ref mr, .ref mt, .ref mw, .ref mu, .ref mp, .ref mi, .ref mk, .ref ms, .int 0, .ref mv, .int 0, .int 0, .int 0, .int 0, .long 0, .int (-1), .int 0, .ref m1w, .ref m2w, .ref m3w, .ref m4w, .int 0, .long 0, .long 0, .long 0])), (mw, .inl (cm3, 906, .inr (.inl fw)))]) [0, 1] (by decide) rfl
  have hKc := hK.sub (tys' := [(cm3, .long)]) [0] rfl
  have hFc := va_free (wc := [(h0, .inr (12, [.int 0, .int 0, .ref mr, .ref mt, .ref mw, .ref mu, .ref mp, .ref mi, .ref mk, .ref ms, .int 0, .ref mv, .int 0, .int 0, .int 0, .int 0, .long 0, .int (-1), .int 0, .ref m1w, .ref m2w, .ref m3w, .ref m4w, .int 0, .long 0, .long 0, .long 0])), (mw, .inl (cm3, 906, .inr (.inl fw)))]) hD hS hA [0, 1] rfl
  refine va_calli (va_runV (As := [.int tk]) (rest := []) ⟨hx, hb, hml, hown, hts⟩ (c_X12_isTask l dC dI h0 tk mr mt mw mu mp mi mk ms mv m1w m2w m3w m4w cm3 fw H.size hw0) (cwV 1 hts (gi_V (fun w_ h0_ => ⟨List.mem_cons_of_mem _ (List.mem_append_right _ (List.mem_append_right _ (List.mem_append_left _ h0_))), (tb_c_X12_isTask w_ h0_).2⟩) (List.mem_cons_of_mem _ (List.mem_append_left _ (List.mem_of_getElem? (i := 1) rfl))) (List.mem_cons_of_mem _ (List.mem_append_left _ (List.mem_of_getElem? (i := 2) rfl))) (List.mem_cons_of_mem _ (List.mem_append_left _ (List.mem_of_getElem? (i := 3) rfl))) (List.mem_cons_of_mem _ (List.mem_append_left _ (List.mem_of_getElem? (i := 4) rfl)))) rfl rfl rfl (by decide +kernel) ⟨Nat.le_of_ble_eq_true rfl, Nat.le_of_ble_eq_true rfl⟩) ⟨fun a U g mk q => by obtain ⟨q0, q1, qP, qK, qD⟩ := q; exact ⟨q0, q1, qP, va_K.moved (u := U) (U := U.calling g mk a) (Vm.Alike.refl U.vm) qK, qD⟩, va_recv hKc hPc (ci := 12) (q0 := 0) rfl rfl, fun U hU hW => ⟨rfl, by rw [hU], by rw [hU]; exact hPc, va_K.moved hW.alike hKc, hDc.weaken (fun _ _ _ _ => trivial)⟩⟩ rfl rfl hl.1 rfl (lv_room (Nat.le_of_ble_eq_true rfl)) dX12_finish_7 ⟨Nat.le_of_ble_eq_true rfl, Nat.le_of_ble_eq_true rfl⟩) hS (fun q _ h => hFc q h) hFc (fun r_1 u t H1 locs ht hvm hw hB hz1 hk1 hS => ?_)
  obtain ⟨hP1, hK1, hD1⟩ := hB
  rw [ht] at hP1
  have hK1 := va_K.moved hvm.symm hK1
  obtain ⟨hP, hD⟩ := va_join (wr := []) (w1 := [(h0, .inr (12, [.int 0, .int 0, .ref mr, .ref mt, .ref mw, .ref mu, .ref mp, .ref mi, .ref mk, .ref ms, .int 0, .ref mv, .int 0, .int 0, .int 0, .int 0, .long 0, .int (-1), .int 0, .ref m1w, .ref m2w, .ref m3w, .ref m4w, .int 0, .long 0, .long 0, .long 0])), (mw, .inl (cm3, 906, .inr (.inl fw)))]) hP hD [0, 1] [] rfl rfl (by decide) (by decide) hk1 hFc hP1 hD1
  generalize H1 = H at hP hS ⊢
  have hP : va_P (dC, dI) vwCl [(h0, .inr (12, [.int 0, .int 0, .ref mr, .ref mt, .ref mw, .ref mu, .ref mp, .ref mi, .ref mk, .ref ms, .int 0, .ref mv, .int 0, .int 0, .int 0, .int 0, .long 0, .int (-1), .int 0, .ref m1w, .ref m2w, .ref m3w, .ref m4w, .int 0, .long 0, .long 0, .long 0])), (mw, .inl (cm3, 906, .inr (.inl fw)))] H := hP
  have hD : va_D A [(h0, .inr (12, [.int 0, .int 0, .ref mr, .ref mt, .ref mw, .ref mu, .ref mp, .ref mi, .ref mk, .ref ms, .int 0, .ref mv, .int 0, .int 0, .int 0, .int 0, .long 0, .int (-1), .int 0, .ref m1w, .ref m2w, .ref m3w, .ref m4w, .int 0, .long 0, .long 0, .long 0])), (mw, .inl (cm3, 906, .inr (.inl fw)))] := hD
  refine W.widen (k := 0) (n := 0) (Nat.le_of_ble_eq_true rfl) (Nat.le_of_ble_eq_true rfl) ?_
  have hw : r_1 = 0 := hw
  subst hw
  refine lv_if_eq (tgt := 30) hx hb dX12_finish_10 (by decide) (fun _ => ?_) (fun c => absurd (by decide) c)
  refine lv_iconst (v := (-1)) hx hb dX12_finish_30 (by decide) ?_
  have hP9 := hP.sub (ws' := []) [] rfl
  have hD9 := hD.sub (ws' := []) [] (by decide) rfl
  have hK9 := hK.sub (tys' := []) [] rfl
  refine W.widen (k := 0) (n := 0) (Nat.le_of_ble_eq_true rfl) (Nat.le_of_ble_eq_true rfl) ?_
  exact W.iret (v := (-1)) hx hb hr (fun t ht hW => ⟨⟨(-1), (), rfl, rfl, by rw [ht]; exact hP9, va_K.moved hW.alike hK9, hD9⟩, hS.F ht⟩) hS.2.2 dX12_finish_31
def ow_c_X12_due : List Cond := [.fieldLink RX12 67 "DeadlineShareModel" "thrown" "I", .methodLink RX12 142 yX12_isTask, .instanceMethod yX12_isTask, .selects RX12 yX12_isTask yX12_isTask, .initialized RX12]
def wq_c_X12_due : List Cond := .code yX12_due cX12_due 6 (some .int) :: (ow_c_X12_due ++ (u_ws RX12 TX12 27 ++ (wq_c_X12_isTask ++ ([] : List Cond))))
theorem tb_c_X12_due : ∀ w ∈ wq_c_X12_due, q_g w := by
  unfold wq_c_X12_due ow_c_X12_due
  exact q_cons tw_538 (q_app (q_cons tw_488 (q_cons tw_506 (q_cons tw_505 (q_cons tw_504 (q_cons tw_435 q_nil))))) (q_app tu_X12 (q_app tb_c_X12_isTask q_nil)))
set_option maxHeartbeats 4000000 in
set_option maxRecDepth 100000 in
theorem c_X12_due (l : Launch) (dC : Nat → ClassId) (dI : Nat → Nat → Nat) (h0 : Nat) (tk : Int32) (mr : Nat) (mt : Nat) (mw : Nat) (mu : Nat) (mp : Nat) (mi : Nat) (mk : Nat) (ms : Nat) (mv : Nat) (m1w : Nat) (m2w : Nat) (m3w : Nat) (m4w : Nat) (cm3 : ClassId) (fw : Nat → Int64) (sz : Nat) (hw0 : fw 0 = 0) (hw1 : fw 1 = 0) (hw2 : fw 2 = 0) (hw3 : fw 3 = (-1)) (hw4 : fw 4 = (-1)) (hw5 : fw 5 = 0) : Met l yX12_due wq_c_X12_due ({ frames := 2, cells := 0, slots := 0, locals := 46 } : Room) (va_Pc [.ref h0, .int tk] (fun U => U.heap.size = sz ∧ va_P (dC, dI) vwCl [(h0, .inr (12, [.int 0, .int 0, .ref mr, .ref mt, .ref mw, .ref mu, .ref mp, .ref mi, .ref mk, .ref ms, .int 0, .ref mv, .int 0, .int 0, .int 0, .int 0, .long 0, .int (-1), .int 0, .ref m1w, .ref m2w, .ref m3w, .ref m4w, .int 0, .long 0, .long 0, .long 0])), (mw, .inl (cm3, 906, .inr (.inl fw)))] U.heap ∧ va_K (dC, dI) vwCl [(cm3, .long)] U ∧ va_D (fun _ => True) [(h0, .inr (12, [.int 0, .int 0, .ref mr, .ref mt, .ref mw, .ref mu, .ref mp, .ref mi, .ref mk, .ref ms, .int 0, .ref mv, .int 0, .int 0, .int 0, .int 0, .long 0, .int (-1), .int 0, .ref m1w, .ref m2w, .ref m3w, .ref m4w, .int 0, .long 0, .long 0, .long 0])), (mw, .inl (cm3, 906, .inr (.inl fw)))])) (va_Qi (fun (r : Int32) (_ : Unit) => r = (-1)) (fun (_ : Unit) t => va_P (dC, dI) vwCl [] t.heap ∧ va_K (dC, dI) vwCl [] t ∧ va_D (va_A [(h0, .inr (12, [.int 0, .int 0, .ref mr, .ref mt, .ref mw, .ref mu, .ref mp, .ref mi, .ref mk, .ref ms, .int 0, .ref mv, .int 0, .int 0, .int 0, .int 0, .long 0, .int (-1), .int 0, .ref m1w, .ref m2w, .ref m3w, .ref m4w, .int 0, .long 0, .long 0, .long 0])), (mw, .inl (cm3, 906, .inr (.inl fw)))] sz) []) (va_A [(h0, .inr (12, [.int 0, .int 0, .ref mr, .ref mt, .ref mw, .ref mu, .ref mp, .ref mi, .ref mk, .ref ms, .int 0, .ref mv, .int 0, .int 0, .int 0, .int 0, .long 0, .int (-1), .int 0, .ref m1w, .ref m2w, .ref m3w, .ref m4w, .int 0, .long 0, .long 0, .long 0])), (mw, .inl (cm3, 906, .inr (.inl fw)))] sz)) 0 0 (va_A [(h0, .inr (12, [.int 0, .int 0, .ref mr, .ref mt, .ref mw, .ref mu, .ref mp, .ref mi, .ref mk, .ref ms, .int 0, .ref mv, .int 0, .int 0, .int 0, .int 0, .long 0, .int (-1), .int 0, .ref m1w, .ref m2w, .ref m3w, .ref m4w, .int 0, .long 0, .long 0, .long 0])), (mw, .inl (cm3, 906, .inr (.inl fw)))] sz) := by
  refine Met.ofW (cc := cX12_due) (maxL := 6) (ret := (some .int)) (by decide) rfl ?_
  intro p e s m args below meth c s₁ B hml hv
  obtain ⟨rfl, hsz, hP, hK, hD0⟩ := hv
  have hx := B.exec
  have hb := B.bytes
  have hr := B.returns
  have hts := atoms_spec (ws := wq_c_X12_due) B.pre
  have hown : s.vm.findClass RX12 = some m.cls := findClass_of_methodNamed B.named
  have hlocks := B.notSynchronized
  subst hsz
  have hD := hD0.self (sz := s.heap.size)
  obtain ⟨A, hAe⟩ : ∃ A, A = va_A [(h0, .inr (12, [.int 0, .int 0, .ref mr, .ref mt, .ref mw, .ref mu, .ref mp, .ref mi, .ref mk, .ref ms, .int 0, .ref mv, .int 0, .int 0, .int 0, .int 0, .long 0, .int (-1), .int 0, .ref m1w, .ref m2w, .ref m3w, .ref m4w, .int 0, .long 0, .long 0, .long 0])), (mw, .inl (cm3, 906, .inr (.inl fw)))] s.heap.size := ⟨_, rfl⟩
  rw [← hAe] at hD ⊢
  have hA : ∀ q : Nat, s.heap.size ≤ q → A q := fun q h => by rw [hAe]; exact Or.inr h
  have hS : va_S A s.heap s.heap [] := va_S.rf
  have hP : va_P (dC, dI) vwCl [(h0, .inr (12, [.int 0, .int 0, .ref mr, .ref mt, .ref mw, .ref mu, .ref mp, .ref mi, .ref mk, .ref ms, .int 0, .ref mv, .int 0, .int 0, .int 0, .int 0, .long 0, .int (-1), .int 0, .ref m1w, .ref m2w, .ref m3w, .ref m4w, .int 0, .long 0, .long 0, .long 0])), (mw, .inl (cm3, 906, .inr (.inl fw)))] s.heap := hP
  have hl := lv_entry ([.ref h0, .int tk]) (n := 6) (Nat.le_of_ble_eq_true rfl)
  rw [lg_entry_eq]
  generalize (lg_sl ([.ref h0, .int tk]) ++ List.replicate (6 - (lg_sl ([.ref h0, .int tk])).length) Slot.unset).toArray = ls at hl ⊢
  have hl : lv_has ls 6 [(0, .ref h0), (1, .int tk)] := hl
  refine lv_aload_n hx hb dX12_due_0 rfl (lv_at hl 0 rfl) ?_
  refine lv_iconst (v := 0) hx hb dX12_due_1 (by decide) ?_
  refine va_put (D := (dC, dI)) (ci := 12) (v := .int 0) (ty := .int) (C := RX12) (T := TX12) (N := 27) hx hb hts (fun _ h0_ => List.mem_cons_of_mem _ (List.mem_append_right _ (List.mem_append_left _ h0_))) tyX12 tyX12_ok nmX12 hown hK hP hD hS 0 rfl rfl 0 (by decide) (hts (.fieldLink RX12 67 "DeadlineShareModel" "thrown" "I") (List.mem_cons_of_mem _ (List.mem_append_left _ (List.mem_of_getElem? (i := 0) rfl)))) (fun _ h9 => h9) rfl (by decide +kernel) rfl rfl (Nat.le_of_ble_eq_true rfl) dX12_due_2 (fun H locs hP hD hS => ?_)
  have hP : va_P (dC, dI) vwCl [(h0, .inr (12, [.int 0, .int 0, .ref mr, .ref mt, .ref mw, .ref mu, .ref mp, .ref mi, .ref mk, .ref ms, .int 0, .ref mv, .int 0, .int 0, .int 0, .int 0, .long 0, .int (-1), .int 0, .ref m1w, .ref m2w, .ref m3w, .ref m4w, .int 0, .long 0, .long 0, .long 0])), (mw, .inl (cm3, 906, .inr (.inl fw)))] H := hP
  have hD : va_D A [(h0, .inr (12, [.int 0, .int 0, .ref mr, .ref mt, .ref mw, .ref mu, .ref mp, .ref mi, .ref mk, .ref ms, .int 0, .ref mv, .int 0, .int 0, .int 0, .int 0, .long 0, .int (-1), .int 0, .ref m1w, .ref m2w, .ref m3w, .ref m4w, .int 0, .long 0, .long 0, .long 0])), (mw, .inl (cm3, 906, .inr (.inl fw)))] := hD
  refine lv_aload_n hx hb dX12_due_5 rfl (lv_at hl 0 rfl) ?_
  refine lv_iload_n hx hb dX12_due_6 rfl (lv_at hl 1 rfl) ?_
  have hPc := hP.sub (ws' := [(h0, .inr (12, [.int 0, .int 0, .ref mr, .ref mt, .ref mw, .ref mu, .ref mp, .ref mi, .ref mk, .ref ms, .int 0, .ref mv, .int 0, .int 0, .int 0, .int 0, .long 0, .int (-1), .int 0, .ref m1w, .ref m2w, .ref m3w, .ref m4w, .int 0, .long 0, .long 0, .long 0])), (mw, .inl (cm3, 906, .inr (.inl fw)))]) [0, 1] rfl
  have hDc := hD.sub (ws' := [(h0, .inr (12, [.int 0, .int 0, .ref mr, .ref mt, .ref mw, .ref mu, .ref mp, .ref mi, .ref mk, .ref ms, .int 0, .ref mv, .int 0, .int 0, .int 0, .int 0, .long 0, .int (-1), .int 0, .ref m1w, .ref m2w, .ref m3w, .ref m4w, .int 0, .long 0, .long 0, .long 0])), (mw, .inl (cm3, 906, .inr (.inl fw)))]) [0, 1] (by decide) rfl
  have hKc := hK.sub (tys' := [(cm3, .long)]) [0] rfl
  have hFc := va_free (wc := [(h0, .inr (12, [.int 0, .int 0, .ref mr, .ref mt, .ref mw, .ref mu, .ref mp, .ref mi, .ref mk, .ref ms, .int 0, .ref mv, .int 0, .int 0, .int 0, .int 0, .long 0, .int (-1), .int 0, .ref m1w, .ref m2w, .ref m3w, .ref m4w, .int 0, .long 0, .long 0, .long 0])), (mw, .inl (cm3, 906, .inr (.inl fw)))]) hD hS hA [0, 1] rfl
  refine va_calli (va_runV (As := [.int tk]) (rest := []) ⟨hx, hb, hml, hown, hts⟩ (c_X12_isTask l dC dI h0 tk mr mt mw mu mp mi mk ms mv m1w m2w m3w m4w cm3 fw H.size hw0) (cwV 1 hts (gi_V (fun w_ h0_ => ⟨List.mem_cons_of_mem _ (List.mem_append_right _ (List.mem_append_right _ (List.mem_append_left _ h0_))), (tb_c_X12_isTask w_ h0_).2⟩) (List.mem_cons_of_mem _ (List.mem_append_left _ (List.mem_of_getElem? (i := 1) rfl))) (List.mem_cons_of_mem _ (List.mem_append_left _ (List.mem_of_getElem? (i := 2) rfl))) (List.mem_cons_of_mem _ (List.mem_append_left _ (List.mem_of_getElem? (i := 3) rfl))) (List.mem_cons_of_mem _ (List.mem_append_left _ (List.mem_of_getElem? (i := 4) rfl)))) rfl rfl rfl (by decide +kernel) ⟨Nat.le_of_ble_eq_true rfl, Nat.le_of_ble_eq_true rfl⟩) ⟨fun a U g mk q => by obtain ⟨q0, q1, qP, qK, qD⟩ := q; exact ⟨q0, q1, qP, va_K.moved (u := U) (U := U.calling g mk a) (Vm.Alike.refl U.vm) qK, qD⟩, va_recv hKc hPc (ci := 12) (q0 := 0) rfl rfl, fun U hU hW => ⟨rfl, by rw [hU], by rw [hU]; exact hPc, va_K.moved hW.alike hKc, hDc.weaken (fun _ _ _ _ => trivial)⟩⟩ rfl rfl hl.1 rfl (lv_room (Nat.le_of_ble_eq_true rfl)) dX12_due_7 ⟨Nat.le_of_ble_eq_true rfl, Nat.le_of_ble_eq_true rfl⟩) hS (fun q _ h => hFc q h) hFc (fun r_1 u t H1 locs ht hvm hw hB hz1 hk1 hS => ?_)
  obtain ⟨hP1, hK1, hD1⟩ := hB
  rw [ht] at hP1
  have hK1 := va_K.moved hvm.symm hK1
  obtain ⟨hP, hD⟩ := va_join (wr := []) (w1 := [(h0, .inr (12, [.int 0, .int 0, .ref mr, .ref mt, .ref mw, .ref mu, .ref mp, .ref mi, .ref mk, .ref ms, .int 0, .ref mv, .int 0, .int 0, .int 0, .int 0, .long 0, .int (-1), .int 0, .ref m1w, .ref m2w, .ref m3w, .ref m4w, .int 0, .long 0, .long 0, .long 0])), (mw, .inl (cm3, 906, .inr (.inl fw)))]) hP hD [0, 1] [] rfl rfl (by decide) (by decide) hk1 hFc hP1 hD1
  generalize H1 = H at hP hS ⊢
  have hP : va_P (dC, dI) vwCl [(h0, .inr (12, [.int 0, .int 0, .ref mr, .ref mt, .ref mw, .ref mu, .ref mp, .ref mi, .ref mk, .ref ms, .int 0, .ref mv, .int 0, .int 0, .int 0, .int 0, .long 0, .int (-1), .int 0, .ref m1w, .ref m2w, .ref m3w, .ref m4w, .int 0, .long 0, .long 0, .long 0])), (mw, .inl (cm3, 906, .inr (.inl fw)))] H := hP
  have hD : va_D A [(h0, .inr (12, [.int 0, .int 0, .ref mr, .ref mt, .ref mw, .ref mu, .ref mp, .ref mi, .ref mk, .ref ms, .int 0, .ref mv, .int 0, .int 0, .int 0, .int 0, .long 0, .int (-1), .int 0, .ref m1w, .ref m2w, .ref m3w, .ref m4w, .int 0, .long 0, .long 0, .long 0])), (mw, .inl (cm3, 906, .inr (.inl fw)))] := hD
  refine W.widen (k := 0) (n := 0) (Nat.le_of_ble_eq_true rfl) (Nat.le_of_ble_eq_true rfl) ?_
  have hw : r_1 = 0 := hw
  subst hw
  refine lv_if_ne (tgt := 15) hx hb dX12_due_10 (by decide) (fun c => absurd c (by decide)) (fun _ => ?_)
  refine lv_iconst (v := (-1)) hx hb dX12_due_13 (by decide) ?_
  have hP9 := hP.sub (ws' := []) [] rfl
  have hD9 := hD.sub (ws' := []) [] (by decide) rfl
  have hK9 := hK.sub (tys' := []) [] rfl
  refine W.widen (k := 0) (n := 0) (Nat.le_of_ble_eq_true rfl) (Nat.le_of_ble_eq_true rfl) ?_
  exact W.iret (v := (-1)) hx hb hr (fun t ht hW => ⟨⟨(-1), (), rfl, rfl, by rw [ht]; exact hP9, va_K.moved hW.alike hK9, hD9⟩, hS.F ht⟩) hS.2.2 dX12_due_14
def ow_c_X12_least : List Cond := [.fieldLink RX12 67 "DeadlineShareModel" "thrown" "I", .methodLink RX12 142 yX12_isTask, .instanceMethod yX12_isTask, .selects RX12 yX12_isTask yX12_isTask, .initialized RX12]
def wq_c_X12_least : List Cond := .code yX12_least cX12_least 6 (some .int) :: (ow_c_X12_least ++ (u_ws RX12 TX12 27 ++ (wq_c_X12_isTask ++ ([] : List Cond))))
theorem tb_c_X12_least : ∀ w ∈ wq_c_X12_least, q_g w := by
  unfold wq_c_X12_least ow_c_X12_least
  exact q_cons tw_539 (q_app (q_cons tw_488 (q_cons tw_506 (q_cons tw_505 (q_cons tw_504 (q_cons tw_435 q_nil))))) (q_app tu_X12 (q_app tb_c_X12_isTask q_nil)))
set_option maxHeartbeats 4000000 in
set_option maxRecDepth 100000 in
theorem c_X12_least (l : Launch) (dC : Nat → ClassId) (dI : Nat → Nat → Nat) (h0 : Nat) (tk : Int32) (nw : Int32) (mw_ : Int32) (mr : Nat) (mt : Nat) (mw : Nat) (mu : Nat) (mp : Nat) (mi : Nat) (mk : Nat) (ms : Nat) (mv : Nat) (m1w : Nat) (m2w : Nat) (m3w : Nat) (m4w : Nat) (cm3 : ClassId) (fw : Nat → Int64) (sz : Nat) (hw0 : fw 0 = 0) (hw1 : fw 1 = 0) (hw2 : fw 2 = 0) (hw3 : fw 3 = (-1)) (hw4 : fw 4 = (-1)) (hw5 : fw 5 = 0) : Met l yX12_least wq_c_X12_least ({ frames := 2, cells := 0, slots := 0, locals := 46 } : Room) (va_Pc [.ref h0, .int tk, .int nw, .int mw_] (fun U => U.heap.size = sz ∧ va_P (dC, dI) vwCl [(h0, .inr (12, [.int 0, .int 0, .ref mr, .ref mt, .ref mw, .ref mu, .ref mp, .ref mi, .ref mk, .ref ms, .int 0, .ref mv, .int 0, .int 0, .int 0, .int 0, .long 0, .int (-1), .int 0, .ref m1w, .ref m2w, .ref m3w, .ref m4w, .int 0, .long 0, .long 0, .long 0])), (mw, .inl (cm3, 906, .inr (.inl fw)))] U.heap ∧ va_K (dC, dI) vwCl [(cm3, .long)] U ∧ va_D (fun _ => True) [(h0, .inr (12, [.int 0, .int 0, .ref mr, .ref mt, .ref mw, .ref mu, .ref mp, .ref mi, .ref mk, .ref ms, .int 0, .ref mv, .int 0, .int 0, .int 0, .int 0, .long 0, .int (-1), .int 0, .ref m1w, .ref m2w, .ref m3w, .ref m4w, .int 0, .long 0, .long 0, .long 0])), (mw, .inl (cm3, 906, .inr (.inl fw)))])) (va_Qi (fun (r : Int32) (_ : Unit) => r = (-1)) (fun (_ : Unit) t => va_P (dC, dI) vwCl [] t.heap ∧ va_K (dC, dI) vwCl [] t ∧ va_D (va_A [(h0, .inr (12, [.int 0, .int 0, .ref mr, .ref mt, .ref mw, .ref mu, .ref mp, .ref mi, .ref mk, .ref ms, .int 0, .ref mv, .int 0, .int 0, .int 0, .int 0, .long 0, .int (-1), .int 0, .ref m1w, .ref m2w, .ref m3w, .ref m4w, .int 0, .long 0, .long 0, .long 0])), (mw, .inl (cm3, 906, .inr (.inl fw)))] sz) []) (va_A [(h0, .inr (12, [.int 0, .int 0, .ref mr, .ref mt, .ref mw, .ref mu, .ref mp, .ref mi, .ref mk, .ref ms, .int 0, .ref mv, .int 0, .int 0, .int 0, .int 0, .long 0, .int (-1), .int 0, .ref m1w, .ref m2w, .ref m3w, .ref m4w, .int 0, .long 0, .long 0, .long 0])), (mw, .inl (cm3, 906, .inr (.inl fw)))] sz)) 0 0 (va_A [(h0, .inr (12, [.int 0, .int 0, .ref mr, .ref mt, .ref mw, .ref mu, .ref mp, .ref mi, .ref mk, .ref ms, .int 0, .ref mv, .int 0, .int 0, .int 0, .int 0, .long 0, .int (-1), .int 0, .ref m1w, .ref m2w, .ref m3w, .ref m4w, .int 0, .long 0, .long 0, .long 0])), (mw, .inl (cm3, 906, .inr (.inl fw)))] sz) := by
  refine Met.ofW (cc := cX12_least) (maxL := 6) (ret := (some .int)) (by decide) rfl ?_
  intro p e s m args below meth c s₁ B hml hv
  obtain ⟨rfl, hsz, hP, hK, hD0⟩ := hv
  have hx := B.exec
  have hb := B.bytes
  have hr := B.returns
  have hts := atoms_spec (ws := wq_c_X12_least) B.pre
  have hown : s.vm.findClass RX12 = some m.cls := findClass_of_methodNamed B.named
  have hlocks := B.notSynchronized
  subst hsz
  have hD := hD0.self (sz := s.heap.size)
  obtain ⟨A, hAe⟩ : ∃ A, A = va_A [(h0, .inr (12, [.int 0, .int 0, .ref mr, .ref mt, .ref mw, .ref mu, .ref mp, .ref mi, .ref mk, .ref ms, .int 0, .ref mv, .int 0, .int 0, .int 0, .int 0, .long 0, .int (-1), .int 0, .ref m1w, .ref m2w, .ref m3w, .ref m4w, .int 0, .long 0, .long 0, .long 0])), (mw, .inl (cm3, 906, .inr (.inl fw)))] s.heap.size := ⟨_, rfl⟩
  rw [← hAe] at hD ⊢
  have hA : ∀ q : Nat, s.heap.size ≤ q → A q := fun q h => by rw [hAe]; exact Or.inr h
  have hS : va_S A s.heap s.heap [] := va_S.rf
  have hP : va_P (dC, dI) vwCl [(h0, .inr (12, [.int 0, .int 0, .ref mr, .ref mt, .ref mw, .ref mu, .ref mp, .ref mi, .ref mk, .ref ms, .int 0, .ref mv, .int 0, .int 0, .int 0, .int 0, .long 0, .int (-1), .int 0, .ref m1w, .ref m2w, .ref m3w, .ref m4w, .int 0, .long 0, .long 0, .long 0])), (mw, .inl (cm3, 906, .inr (.inl fw)))] s.heap := hP
  have hl := lv_entry ([.ref h0, .int tk, .int nw, .int mw_]) (n := 6) (Nat.le_of_ble_eq_true rfl)
  rw [lg_entry_eq]
  generalize (lg_sl ([.ref h0, .int tk, .int nw, .int mw_]) ++ List.replicate (6 - (lg_sl ([.ref h0, .int tk, .int nw, .int mw_])).length) Slot.unset).toArray = ls at hl ⊢
  have hl : lv_has ls 6 [(0, .ref h0), (1, .int tk), (2, .int nw), (3, .int mw_)] := hl
  refine lv_aload_n hx hb dX12_least_0 rfl (lv_at hl 0 rfl) ?_
  refine lv_iconst (v := 0) hx hb dX12_least_1 (by decide) ?_
  refine va_put (D := (dC, dI)) (ci := 12) (v := .int 0) (ty := .int) (C := RX12) (T := TX12) (N := 27) hx hb hts (fun _ h0_ => List.mem_cons_of_mem _ (List.mem_append_right _ (List.mem_append_left _ h0_))) tyX12 tyX12_ok nmX12 hown hK hP hD hS 0 rfl rfl 0 (by decide) (hts (.fieldLink RX12 67 "DeadlineShareModel" "thrown" "I") (List.mem_cons_of_mem _ (List.mem_append_left _ (List.mem_of_getElem? (i := 0) rfl)))) (fun _ h9 => h9) rfl (by decide +kernel) rfl rfl (Nat.le_of_ble_eq_true rfl) dX12_least_2 (fun H locs hP hD hS => ?_)
  have hP : va_P (dC, dI) vwCl [(h0, .inr (12, [.int 0, .int 0, .ref mr, .ref mt, .ref mw, .ref mu, .ref mp, .ref mi, .ref mk, .ref ms, .int 0, .ref mv, .int 0, .int 0, .int 0, .int 0, .long 0, .int (-1), .int 0, .ref m1w, .ref m2w, .ref m3w, .ref m4w, .int 0, .long 0, .long 0, .long 0])), (mw, .inl (cm3, 906, .inr (.inl fw)))] H := hP
  have hD : va_D A [(h0, .inr (12, [.int 0, .int 0, .ref mr, .ref mt, .ref mw, .ref mu, .ref mp, .ref mi, .ref mk, .ref ms, .int 0, .ref mv, .int 0, .int 0, .int 0, .int 0, .long 0, .int (-1), .int 0, .ref m1w, .ref m2w, .ref m3w, .ref m4w, .int 0, .long 0, .long 0, .long 0])), (mw, .inl (cm3, 906, .inr (.inl fw)))] := hD
  refine lv_aload_n hx hb dX12_least_5 rfl (lv_at hl 0 rfl) ?_
  refine lv_iload_n hx hb dX12_least_6 rfl (lv_at hl 1 rfl) ?_
  have hPc := hP.sub (ws' := [(h0, .inr (12, [.int 0, .int 0, .ref mr, .ref mt, .ref mw, .ref mu, .ref mp, .ref mi, .ref mk, .ref ms, .int 0, .ref mv, .int 0, .int 0, .int 0, .int 0, .long 0, .int (-1), .int 0, .ref m1w, .ref m2w, .ref m3w, .ref m4w, .int 0, .long 0, .long 0, .long 0])), (mw, .inl (cm3, 906, .inr (.inl fw)))]) [0, 1] rfl
  have hDc := hD.sub (ws' := [(h0, .inr (12, [.int 0, .int 0, .ref mr, .ref mt, .ref mw, .ref mu, .ref mp, .ref mi, .ref mk, .ref ms, .int 0, .ref mv, .int 0, .int 0, .int 0, .int 0, .long 0, .int (-1), .int 0, .ref m1w, .ref m2w, .ref m3w, .ref m4w, .int 0, .long 0, .long 0, .long 0])), (mw, .inl (cm3, 906, .inr (.inl fw)))]) [0, 1] (by decide) rfl
  have hKc := hK.sub (tys' := [(cm3, .long)]) [0] rfl
  have hFc := va_free (wc := [(h0, .inr (12, [.int 0, .int 0, .ref mr, .ref mt, .ref mw, .ref mu, .ref mp, .ref mi, .ref mk, .ref ms, .int 0, .ref mv, .int 0, .int 0, .int 0, .int 0, .long 0, .int (-1), .int 0, .ref m1w, .ref m2w, .ref m3w, .ref m4w, .int 0, .long 0, .long 0, .long 0])), (mw, .inl (cm3, 906, .inr (.inl fw)))]) hD hS hA [0, 1] rfl
  refine va_calli (va_runV (As := [.int tk]) (rest := []) ⟨hx, hb, hml, hown, hts⟩ (c_X12_isTask l dC dI h0 tk mr mt mw mu mp mi mk ms mv m1w m2w m3w m4w cm3 fw H.size hw0) (cwV 1 hts (gi_V (fun w_ h0_ => ⟨List.mem_cons_of_mem _ (List.mem_append_right _ (List.mem_append_right _ (List.mem_append_left _ h0_))), (tb_c_X12_isTask w_ h0_).2⟩) (List.mem_cons_of_mem _ (List.mem_append_left _ (List.mem_of_getElem? (i := 1) rfl))) (List.mem_cons_of_mem _ (List.mem_append_left _ (List.mem_of_getElem? (i := 2) rfl))) (List.mem_cons_of_mem _ (List.mem_append_left _ (List.mem_of_getElem? (i := 3) rfl))) (List.mem_cons_of_mem _ (List.mem_append_left _ (List.mem_of_getElem? (i := 4) rfl)))) rfl rfl rfl (by decide +kernel) ⟨Nat.le_of_ble_eq_true rfl, Nat.le_of_ble_eq_true rfl⟩) ⟨fun a U g mk q => by obtain ⟨q0, q1, qP, qK, qD⟩ := q; exact ⟨q0, q1, qP, va_K.moved (u := U) (U := U.calling g mk a) (Vm.Alike.refl U.vm) qK, qD⟩, va_recv hKc hPc (ci := 12) (q0 := 0) rfl rfl, fun U hU hW => ⟨rfl, by rw [hU], by rw [hU]; exact hPc, va_K.moved hW.alike hKc, hDc.weaken (fun _ _ _ _ => trivial)⟩⟩ rfl rfl hl.1 rfl (lv_room (Nat.le_of_ble_eq_true rfl)) dX12_least_7 ⟨Nat.le_of_ble_eq_true rfl, Nat.le_of_ble_eq_true rfl⟩) hS (fun q _ h => hFc q h) hFc (fun r_1 u t H1 locs ht hvm hw hB hz1 hk1 hS => ?_)
  obtain ⟨hP1, hK1, hD1⟩ := hB
  rw [ht] at hP1
  have hK1 := va_K.moved hvm.symm hK1
  obtain ⟨hP, hD⟩ := va_join (wr := []) (w1 := [(h0, .inr (12, [.int 0, .int 0, .ref mr, .ref mt, .ref mw, .ref mu, .ref mp, .ref mi, .ref mk, .ref ms, .int 0, .ref mv, .int 0, .int 0, .int 0, .int 0, .long 0, .int (-1), .int 0, .ref m1w, .ref m2w, .ref m3w, .ref m4w, .int 0, .long 0, .long 0, .long 0])), (mw, .inl (cm3, 906, .inr (.inl fw)))]) hP hD [0, 1] [] rfl rfl (by decide) (by decide) hk1 hFc hP1 hD1
  generalize H1 = H at hP hS ⊢
  have hP : va_P (dC, dI) vwCl [(h0, .inr (12, [.int 0, .int 0, .ref mr, .ref mt, .ref mw, .ref mu, .ref mp, .ref mi, .ref mk, .ref ms, .int 0, .ref mv, .int 0, .int 0, .int 0, .int 0, .long 0, .int (-1), .int 0, .ref m1w, .ref m2w, .ref m3w, .ref m4w, .int 0, .long 0, .long 0, .long 0])), (mw, .inl (cm3, 906, .inr (.inl fw)))] H := hP
  have hD : va_D A [(h0, .inr (12, [.int 0, .int 0, .ref mr, .ref mt, .ref mw, .ref mu, .ref mp, .ref mi, .ref mk, .ref ms, .int 0, .ref mv, .int 0, .int 0, .int 0, .int 0, .long 0, .int (-1), .int 0, .ref m1w, .ref m2w, .ref m3w, .ref m4w, .int 0, .long 0, .long 0, .long 0])), (mw, .inl (cm3, 906, .inr (.inl fw)))] := hD
  refine W.widen (k := 0) (n := 0) (Nat.le_of_ble_eq_true rfl) (Nat.le_of_ble_eq_true rfl) ?_
  have hw : r_1 = 0 := hw
  subst hw
  refine lv_if_eq (tgt := 52) hx hb dX12_least_10 (by decide) (fun _ => ?_) (fun c => absurd (by decide) c)
  refine lv_iconst (v := (-1)) hx hb dX12_least_52 (by decide) ?_
  have hP9 := hP.sub (ws' := []) [] rfl
  have hD9 := hD.sub (ws' := []) [] (by decide) rfl
  have hK9 := hK.sub (tys' := []) [] rfl
  refine W.widen (k := 0) (n := 0) (Nat.le_of_ble_eq_true rfl) (Nat.le_of_ble_eq_true rfl) ?_
  exact W.iret (v := (-1)) hx hb hr (fun t ht hW => ⟨⟨(-1), (), rfl, rfl, by rw [ht]; exact hP9, va_K.moved hW.alike hK9, hD9⟩, hS.F ht⟩) hS.2.2 dX12_least_53
def ow_c_X12_count : List Cond := [.fieldLink RX12 67 "DeadlineShareModel" "thrown" "I", .fieldLink RX12 16 "DeadlineShareModel" "row" "[J", .methodLink RX12 334 yX12_inState, .instanceMethod yX12_inState, .selects RX12 yX12_inState yX12_inState, .initialized RX12, .methodLink RX12 337 yX12_scripted, .instanceMethod yX12_scripted, .selects RX12 yX12_scripted yX12_scripted, .fieldLink RX12 73 "DeadlineShareModel" "nUndo" "I", .fieldLink RX12 128 "DeadlineShareModel" "taped" "I", .fieldLink RX12 7 "DeadlineShareModel" "refusals" "[I", .constantLong RX12 340 (13), .constantLong RX12 304 (15), .methodLink RX12 83 yX12_in, .static yX12_in, .fieldLink RX12 13 "DeadlineShareModel" "term" "[I"]
def wq_c_X12_count : List Cond := .code yX12_count cX12_count 2 (some .int) :: (ow_c_X12_count ++ (u_ws RX12 TX12 27 ++ (wq_c_X12_inState ++ (wq_c_X12_scripted ++ (wq_c_X12_in ++ ([] : List Cond))))))
theorem tb_c_X12_count : ∀ w ∈ wq_c_X12_count, q_g w := by
  unfold wq_c_X12_count ow_c_X12_count
  exact q_cons tw_548 (q_app (q_cons tw_488 (q_cons tw_425 (q_cons tw_547 (q_cons tw_546 (q_cons tw_545 (q_cons tw_435 (q_cons tw_544 (q_cons tw_543 (q_cons tw_542 (q_cons tw_440 (q_cons tw_444 (q_cons tw_427 (q_cons tw_541 (q_cons tw_540 (q_cons tw_437 (q_cons tw_436 (q_cons tw_426 q_nil))))))))))))))))) (q_app tu_X12 (q_app tb_c_X12_inState (q_app tb_c_X12_scripted (q_app tb_c_X12_in q_nil)))))
set_option maxHeartbeats 4000000 in
set_option maxRecDepth 100000 in
theorem c_X12_count (l : Launch) (dC : Nat → ClassId) (dI : Nat → Nat → Nat) (h0 : Nat) (wh : Int32) (mr : Nat) (mt : Nat) (mw : Nat) (mu : Nat) (mp : Nat) (mi : Nat) (mk : Nat) (ms : Nat) (mv : Nat) (m1w : Nat) (m2w : Nat) (m3w : Nat) (m4w : Nat) (cm1 : ClassId) (cm2 : ClassId) (ft : Nat → Int32) (cm3 : ClassId) (fw : Nat → Int64) (sz : Nat) (ht0 : ft 0 = 0) (ht1 : ft 1 = 1) (ht2 : ft 2 = 1) (hw0 : fw 0 = 0) (hw1 : fw 1 = 0) (hw2 : fw 2 = 0) (hw3 : fw 3 = (-1)) (hw4 : fw 4 = (-1)) (hw5 : fw 5 = 0) : Met l yX12_count wq_c_X12_count ({ frames := 1, cells := 0, slots := 0, locals := 25 } : Room) (va_Pc [.ref h0, .int wh] (fun U => U.heap.size = sz ∧ va_P (dC, dI) vwCl [(h0, .inr (12, [.int 0, .int 0, .ref mr, .ref mt, .ref mw, .ref mu, .ref mp, .ref mi, .ref mk, .ref ms, .int 0, .ref mv, .int 0, .int 0, .int 0, .int 0, .long 0, .int (-1), .int 0, .ref m1w, .ref m2w, .ref m3w, .ref m4w, .int 0, .long 0, .long 0, .long 0])), (mr, .inl (cm1, 7, .inl (fun _ => 0))), (mt, .inl (cm2, 3, .inl ft)), (mw, .inl (cm3, 906, .inr (.inl fw)))] U.heap ∧ va_K (dC, dI) vwCl [(cm1, .int), (cm2, .int), (cm3, .long)] U ∧ va_D (fun _ => True) [(h0, .inr (12, [.int 0, .int 0, .ref mr, .ref mt, .ref mw, .ref mu, .ref mp, .ref mi, .ref mk, .ref ms, .int 0, .ref mv, .int 0, .int 0, .int 0, .int 0, .long 0, .int (-1), .int 0, .ref m1w, .ref m2w, .ref m3w, .ref m4w, .int 0, .long 0, .long 0, .long 0])), (mr, .inl (cm1, 7, .inl (fun _ => 0))), (mt, .inl (cm2, 3, .inl ft)), (mw, .inl (cm3, 906, .inr (.inl fw)))])) (va_Qi (fun (r : Int32) (_ : Unit) => r = sp_count wh) (fun (_ : Unit) t => va_P (dC, dI) vwCl [] t.heap ∧ va_K (dC, dI) vwCl [] t ∧ va_D (va_A [(h0, .inr (12, [.int 0, .int 0, .ref mr, .ref mt, .ref mw, .ref mu, .ref mp, .ref mi, .ref mk, .ref ms, .int 0, .ref mv, .int 0, .int 0, .int 0, .int 0, .long 0, .int (-1), .int 0, .ref m1w, .ref m2w, .ref m3w, .ref m4w, .int 0, .long 0, .long 0, .long 0])), (mr, .inl (cm1, 7, .inl (fun _ => 0))), (mt, .inl (cm2, 3, .inl ft)), (mw, .inl (cm3, 906, .inr (.inl fw)))] sz) []) (va_A [(h0, .inr (12, [.int 0, .int 0, .ref mr, .ref mt, .ref mw, .ref mu, .ref mp, .ref mi, .ref mk, .ref ms, .int 0, .ref mv, .int 0, .int 0, .int 0, .int 0, .long 0, .int (-1), .int 0, .ref m1w, .ref m2w, .ref m3w, .ref m4w, .int 0, .long 0, .long 0, .long 0])), (mr, .inl (cm1, 7, .inl (fun _ => 0))), (mt, .inl (cm2, 3, .inl ft)), (mw, .inl (cm3, 906, .inr (.inl fw)))] sz)) 0 0 (va_A [(h0, .inr (12, [.int 0, .int 0, .ref mr, .ref mt, .ref mw, .ref mu, .ref mp, .ref mi, .ref mk, .ref ms, .int 0, .ref mv, .int 0, .int 0, .int 0, .int 0, .long 0, .int (-1), .int 0, .ref m1w, .ref m2w, .ref m3w, .ref m4w, .int 0, .long 0, .long 0, .long 0])), (mr, .inl (cm1, 7, .inl (fun _ => 0))), (mt, .inl (cm2, 3, .inl ft)), (mw, .inl (cm3, 906, .inr (.inl fw)))] sz) := by
  refine Met.ofW (cc := cX12_count) (maxL := 2) (ret := (some .int)) (by decide) rfl ?_
  intro p e s m args below meth c s₁ B hml hv
  obtain ⟨rfl, hsz, hP, hK, hD0⟩ := hv
  have hx := B.exec
  have hb := B.bytes
  have hr := B.returns
  have hts := atoms_spec (ws := wq_c_X12_count) B.pre
  have hown : s.vm.findClass RX12 = some m.cls := findClass_of_methodNamed B.named
  have hlocks := B.notSynchronized
  subst hsz
  have hD := hD0.self (sz := s.heap.size)
  obtain ⟨A, hAe⟩ : ∃ A, A = va_A [(h0, .inr (12, [.int 0, .int 0, .ref mr, .ref mt, .ref mw, .ref mu, .ref mp, .ref mi, .ref mk, .ref ms, .int 0, .ref mv, .int 0, .int 0, .int 0, .int 0, .long 0, .int (-1), .int 0, .ref m1w, .ref m2w, .ref m3w, .ref m4w, .int 0, .long 0, .long 0, .long 0])), (mr, .inl (cm1, 7, .inl (fun _ => 0))), (mt, .inl (cm2, 3, .inl ft)), (mw, .inl (cm3, 906, .inr (.inl fw)))] s.heap.size := ⟨_, rfl⟩
  rw [← hAe] at hD ⊢
  have hA : ∀ q : Nat, s.heap.size ≤ q → A q := fun q h => by rw [hAe]; exact Or.inr h
  have hS : va_S A s.heap s.heap [] := va_S.rf
  have hP : va_P (dC, dI) vwCl [(h0, .inr (12, [.int 0, .int 0, .ref mr, .ref mt, .ref mw, .ref mu, .ref mp, .ref mi, .ref mk, .ref ms, .int 0, .ref mv, .int 0, .int 0, .int 0, .int 0, .long 0, .int (-1), .int 0, .ref m1w, .ref m2w, .ref m3w, .ref m4w, .int 0, .long 0, .long 0, .long 0])), (mr, .inl (cm1, 7, .inl (fun _ => 0))), (mt, .inl (cm2, 3, .inl ft)), (mw, .inl (cm3, 906, .inr (.inl fw)))] s.heap := hP
  have hl := lv_entry ([.ref h0, .int wh]) (n := 2) (Nat.le_of_ble_eq_true rfl)
  rw [lg_entry_eq]
  generalize (lg_sl ([.ref h0, .int wh]) ++ List.replicate (2 - (lg_sl ([.ref h0, .int wh])).length) Slot.unset).toArray = ls at hl ⊢
  have hl : lv_has ls 2 [(0, .ref h0), (1, .int wh)] := hl
  by_cases h_1 : wh = 0
  · subst h_1
    refine lv_aload_n hx hb dX12_count_0 rfl (lv_at hl 0 rfl) ?_
    refine lv_iconst (v := 0) hx hb dX12_count_1 (by decide) ?_
    refine va_put (D := (dC, dI)) (ci := 12) (v := .int 0) (ty := .int) (C := RX12) (T := TX12) (N := 27) hx hb hts (fun _ h0_ => List.mem_cons_of_mem _ (List.mem_append_right _ (List.mem_append_left _ h0_))) tyX12 tyX12_ok nmX12 hown hK hP hD hS 0 rfl rfl 0 (by decide) (hts (.fieldLink RX12 67 "DeadlineShareModel" "thrown" "I") (List.mem_cons_of_mem _ (List.mem_append_left _ (List.mem_of_getElem? (i := 0) rfl)))) (fun _ h9 => h9) rfl (by decide +kernel) rfl rfl (Nat.le_of_ble_eq_true rfl) dX12_count_2 (fun H locs hP hD hS => ?_)
    have hP : va_P (dC, dI) vwCl [(h0, .inr (12, [.int 0, .int 0, .ref mr, .ref mt, .ref mw, .ref mu, .ref mp, .ref mi, .ref mk, .ref ms, .int 0, .ref mv, .int 0, .int 0, .int 0, .int 0, .long 0, .int (-1), .int 0, .ref m1w, .ref m2w, .ref m3w, .ref m4w, .int 0, .long 0, .long 0, .long 0])), (mr, .inl (cm1, 7, .inl (fun _ => 0))), (mt, .inl (cm2, 3, .inl ft)), (mw, .inl (cm3, 906, .inr (.inl fw)))] H := hP
    have hD : va_D A [(h0, .inr (12, [.int 0, .int 0, .ref mr, .ref mt, .ref mw, .ref mu, .ref mp, .ref mi, .ref mk, .ref ms, .int 0, .ref mv, .int 0, .int 0, .int 0, .int 0, .long 0, .int (-1), .int 0, .ref m1w, .ref m2w, .ref m3w, .ref m4w, .int 0, .long 0, .long 0, .long 0])), (mr, .inl (cm1, 7, .inl (fun _ => 0))), (mt, .inl (cm2, 3, .inl ft)), (mw, .inl (cm3, 906, .inr (.inl fw)))] := hD
    refine lv_iload_n hx hb dX12_count_5 rfl (lv_at hl 1 rfl) ?_
    refine lv_tableIn (tgt := 72) hx hb dX12_count_6 (by decide) (by decide) rfl (by decide) ?_
    refine lv_aload_n hx hb dX12_count_72 rfl (lv_at hl 0 rfl) ?_
    refine va_get (D := (dC, dI)) (ci := 12) (v := .ref mw) (C := RX12) (T := TX12) (N := 27) hx hb hts (fun _ h0_ => List.mem_cons_of_mem _ (List.mem_append_right _ (List.mem_append_left _ h0_))) hown hK hP 0 rfl rfl 4 (by decide) (hts (.fieldLink RX12 16 "DeadlineShareModel" "row" "[J") (List.mem_cons_of_mem _ (List.mem_append_left _ (List.mem_of_getElem? (i := 1) rfl)))) (fun _ h9 => h9) rfl dX12_count_73 ?_
    refine lv_iconst (v := 0) hx hb dX12_count_76 (by decide) ?_
    refine va_lald hx hb hK hP 3 2 rfl rfl (by unfold vp_in; decide) dX12_count_77 ?_
    refine k_topl (y := 0) ((congrArg fw (show Int32.toNatClampNeg 0 = 0 by decide)).trans hw0) ?_
    refine lv_l2i (v := 0) hx hb dX12_count_78 (by decide) ?_
    have hP9 := hP.sub (ws' := []) [] rfl
    have hD9 := hD.sub (ws' := []) [] (by decide) rfl
    have hK9 := hK.sub (tys' := []) [] rfl
    refine W.widen (k := 0) (n := 0) (Nat.le_of_ble_eq_true rfl) (Nat.le_of_ble_eq_true rfl) ?_
    exact W.iret (v := 0) hx hb hr (fun t ht hW => ⟨⟨0, (), rfl, (by decide), by rw [ht]; exact hP9, va_K.moved hW.alike hK9, hD9⟩, hS.F ht⟩) hS.2.2 dX12_count_79
  by_cases h_2 : wh = 1
  · subst h_2
    refine lv_aload_n hx hb dX12_count_0 rfl (lv_at hl 0 rfl) ?_
    refine lv_iconst (v := 0) hx hb dX12_count_1 (by decide) ?_
    refine va_put (D := (dC, dI)) (ci := 12) (v := .int 0) (ty := .int) (C := RX12) (T := TX12) (N := 27) hx hb hts (fun _ h0_ => List.mem_cons_of_mem _ (List.mem_append_right _ (List.mem_append_left _ h0_))) tyX12 tyX12_ok nmX12 hown hK hP hD hS 0 rfl rfl 0 (by decide) (hts (.fieldLink RX12 67 "DeadlineShareModel" "thrown" "I") (List.mem_cons_of_mem _ (List.mem_append_left _ (List.mem_of_getElem? (i := 0) rfl)))) (fun _ h9 => h9) rfl (by decide +kernel) rfl rfl (Nat.le_of_ble_eq_true rfl) dX12_count_2 (fun H locs hP hD hS => ?_)
    have hP : va_P (dC, dI) vwCl [(h0, .inr (12, [.int 0, .int 0, .ref mr, .ref mt, .ref mw, .ref mu, .ref mp, .ref mi, .ref mk, .ref ms, .int 0, .ref mv, .int 0, .int 0, .int 0, .int 0, .long 0, .int (-1), .int 0, .ref m1w, .ref m2w, .ref m3w, .ref m4w, .int 0, .long 0, .long 0, .long 0])), (mr, .inl (cm1, 7, .inl (fun _ => 0))), (mt, .inl (cm2, 3, .inl ft)), (mw, .inl (cm3, 906, .inr (.inl fw)))] H := hP
    have hD : va_D A [(h0, .inr (12, [.int 0, .int 0, .ref mr, .ref mt, .ref mw, .ref mu, .ref mp, .ref mi, .ref mk, .ref ms, .int 0, .ref mv, .int 0, .int 0, .int 0, .int 0, .long 0, .int (-1), .int 0, .ref m1w, .ref m2w, .ref m3w, .ref m4w, .int 0, .long 0, .long 0, .long 0])), (mr, .inl (cm1, 7, .inl (fun _ => 0))), (mt, .inl (cm2, 3, .inl ft)), (mw, .inl (cm3, 906, .inr (.inl fw)))] := hD
    refine lv_iload_n hx hb dX12_count_5 rfl (lv_at hl 1 rfl) ?_
    refine lv_tableIn (tgt := 80) hx hb dX12_count_6 (by decide) (by decide) rfl (by decide) ?_
    refine lv_aload_n hx hb dX12_count_80 rfl (lv_at hl 0 rfl) ?_
    refine lv_iconst (v := 1) hx hb dX12_count_81 (by decide) ?_
    have hPc := hP.sub (ws' := [(h0, .inr (12, [.int 0, .int 0, .ref mr, .ref mt, .ref mw, .ref mu, .ref mp, .ref mi, .ref mk, .ref ms, .int 0, .ref mv, .int 0, .int 0, .int 0, .int 0, .long 0, .int (-1), .int 0, .ref m1w, .ref m2w, .ref m3w, .ref m4w, .int 0, .long 0, .long 0, .long 0])), (mw, .inl (cm3, 906, .inr (.inl fw)))]) [0, 3] rfl
    have hDc := hD.sub (ws' := [(h0, .inr (12, [.int 0, .int 0, .ref mr, .ref mt, .ref mw, .ref mu, .ref mp, .ref mi, .ref mk, .ref ms, .int 0, .ref mv, .int 0, .int 0, .int 0, .int 0, .long 0, .int (-1), .int 0, .ref m1w, .ref m2w, .ref m3w, .ref m4w, .int 0, .long 0, .long 0, .long 0])), (mw, .inl (cm3, 906, .inr (.inl fw)))]) [0, 3] (by decide) rfl
    have hKc := hK.sub (tys' := [(cm3, .long)]) [2] rfl
    have hFc := va_free (wc := [(h0, .inr (12, [.int 0, .int 0, .ref mr, .ref mt, .ref mw, .ref mu, .ref mp, .ref mi, .ref mk, .ref ms, .int 0, .ref mv, .int 0, .int 0, .int 0, .int 0, .long 0, .int (-1), .int 0, .ref m1w, .ref m2w, .ref m3w, .ref m4w, .int 0, .long 0, .long 0, .long 0])), (mw, .inl (cm3, 906, .inr (.inl fw)))]) hD hS hA [0, 3] rfl
    refine va_calli (va_runV (As := [.int 1]) (rest := []) ⟨hx, hb, hml, hown, hts⟩ (c_X12_inState l dC dI h0 1 mr mt mw mu mp mi mk ms mv m1w m2w m3w m4w cm3 fw H.size hw0) (cwV 1 hts (gi_V (fun w_ h0_ => ⟨List.mem_cons_of_mem _ (List.mem_append_right _ (List.mem_append_right _ (List.mem_append_left _ h0_))), (tb_c_X12_inState w_ h0_).2⟩) (List.mem_cons_of_mem _ (List.mem_append_left _ (List.mem_of_getElem? (i := 2) rfl))) (List.mem_cons_of_mem _ (List.mem_append_left _ (List.mem_of_getElem? (i := 3) rfl))) (List.mem_cons_of_mem _ (List.mem_append_left _ (List.mem_of_getElem? (i := 4) rfl))) (List.mem_cons_of_mem _ (List.mem_append_left _ (List.mem_of_getElem? (i := 5) rfl)))) rfl rfl rfl (by decide +kernel) ⟨Nat.le_of_ble_eq_true rfl, Nat.le_of_ble_eq_true rfl⟩) ⟨fun a U g mk q => by obtain ⟨q0, q1, qP, qK, qD⟩ := q; exact ⟨q0, q1, qP, va_K.moved (u := U) (U := U.calling g mk a) (Vm.Alike.refl U.vm) qK, qD⟩, va_recv hKc hPc (ci := 12) (q0 := 0) rfl rfl, fun U hU hW => ⟨rfl, by rw [hU], by rw [hU]; exact hPc, va_K.moved hW.alike hKc, hDc.weaken (fun _ _ _ _ => trivial)⟩⟩ rfl rfl hl.1 rfl (lv_room (Nat.le_of_ble_eq_true rfl)) dX12_count_82 ⟨Nat.le_of_ble_eq_true rfl, Nat.le_of_ble_eq_true rfl⟩) hS (fun q _ h => hFc q h) hFc (fun r_3 u t H1 locs ht hvm hw hB hz1 hk1 hS => ?_)
    obtain ⟨hP1, hK1, hD1⟩ := hB
    rw [ht] at hP1
    have hK1 := va_K.moved hvm.symm hK1
    obtain ⟨hP, hD⟩ := va_join (wr := [(mr, .inl (cm1, 7, .inl (fun _ => 0))), (mt, .inl (cm2, 3, .inl ft))]) (w1 := [(h0, .inr (12, [.int 0, .int 0, .ref mr, .ref mt, .ref mw, .ref mu, .ref mp, .ref mi, .ref mk, .ref ms, .int 0, .ref mv, .int 0, .int 0, .int 0, .int 0, .long 0, .int (-1), .int 0, .ref m1w, .ref m2w, .ref m3w, .ref m4w, .int 0, .long 0, .long 0, .long 0])), (mw, .inl (cm3, 906, .inr (.inl fw)))]) hP hD [0, 3] [1, 2] rfl rfl (by decide) (by decide) hk1 hFc hP1 hD1
    generalize H1 = H at hP hS ⊢
    have hP : va_P (dC, dI) vwCl [(mr, .inl (cm1, 7, .inl (fun _ => 0))), (mt, .inl (cm2, 3, .inl ft)), (h0, .inr (12, [.int 0, .int 0, .ref mr, .ref mt, .ref mw, .ref mu, .ref mp, .ref mi, .ref mk, .ref ms, .int 0, .ref mv, .int 0, .int 0, .int 0, .int 0, .long 0, .int (-1), .int 0, .ref m1w, .ref m2w, .ref m3w, .ref m4w, .int 0, .long 0, .long 0, .long 0])), (mw, .inl (cm3, 906, .inr (.inl fw)))] H := hP
    have hD : va_D A [(mr, .inl (cm1, 7, .inl (fun _ => 0))), (mt, .inl (cm2, 3, .inl ft)), (h0, .inr (12, [.int 0, .int 0, .ref mr, .ref mt, .ref mw, .ref mu, .ref mp, .ref mi, .ref mk, .ref ms, .int 0, .ref mv, .int 0, .int 0, .int 0, .int 0, .long 0, .int (-1), .int 0, .ref m1w, .ref m2w, .ref m3w, .ref m4w, .int 0, .long 0, .long 0, .long 0])), (mw, .inl (cm3, 906, .inr (.inl fw)))] := hD
    refine W.widen (k := 0) (n := 0) (Nat.le_of_ble_eq_true rfl) (Nat.le_of_ble_eq_true rfl) ?_
    have hw : r_3 = 0 := hw
    subst hw
    have hP9 := hP.sub (ws' := []) [] rfl
    have hD9 := hD.sub (ws' := []) [] (by decide) rfl
    have hK9 := hK.sub (tys' := []) [] rfl
    refine W.widen (k := 0) (n := 0) (Nat.le_of_ble_eq_true rfl) (Nat.le_of_ble_eq_true rfl) ?_
    exact W.iret (v := 0) hx hb hr (fun t ht hW => ⟨⟨0, (), rfl, (by decide), by rw [ht]; exact hP9, va_K.moved hW.alike hK9, hD9⟩, hS.F ht⟩) hS.2.2 dX12_count_85
  by_cases h_4 : wh = 2
  · subst h_4
    refine lv_aload_n hx hb dX12_count_0 rfl (lv_at hl 0 rfl) ?_
    refine lv_iconst (v := 0) hx hb dX12_count_1 (by decide) ?_
    refine va_put (D := (dC, dI)) (ci := 12) (v := .int 0) (ty := .int) (C := RX12) (T := TX12) (N := 27) hx hb hts (fun _ h0_ => List.mem_cons_of_mem _ (List.mem_append_right _ (List.mem_append_left _ h0_))) tyX12 tyX12_ok nmX12 hown hK hP hD hS 0 rfl rfl 0 (by decide) (hts (.fieldLink RX12 67 "DeadlineShareModel" "thrown" "I") (List.mem_cons_of_mem _ (List.mem_append_left _ (List.mem_of_getElem? (i := 0) rfl)))) (fun _ h9 => h9) rfl (by decide +kernel) rfl rfl (Nat.le_of_ble_eq_true rfl) dX12_count_2 (fun H locs hP hD hS => ?_)
    have hP : va_P (dC, dI) vwCl [(h0, .inr (12, [.int 0, .int 0, .ref mr, .ref mt, .ref mw, .ref mu, .ref mp, .ref mi, .ref mk, .ref ms, .int 0, .ref mv, .int 0, .int 0, .int 0, .int 0, .long 0, .int (-1), .int 0, .ref m1w, .ref m2w, .ref m3w, .ref m4w, .int 0, .long 0, .long 0, .long 0])), (mr, .inl (cm1, 7, .inl (fun _ => 0))), (mt, .inl (cm2, 3, .inl ft)), (mw, .inl (cm3, 906, .inr (.inl fw)))] H := hP
    have hD : va_D A [(h0, .inr (12, [.int 0, .int 0, .ref mr, .ref mt, .ref mw, .ref mu, .ref mp, .ref mi, .ref mk, .ref ms, .int 0, .ref mv, .int 0, .int 0, .int 0, .int 0, .long 0, .int (-1), .int 0, .ref m1w, .ref m2w, .ref m3w, .ref m4w, .int 0, .long 0, .long 0, .long 0])), (mr, .inl (cm1, 7, .inl (fun _ => 0))), (mt, .inl (cm2, 3, .inl ft)), (mw, .inl (cm3, 906, .inr (.inl fw)))] := hD
    refine lv_iload_n hx hb dX12_count_5 rfl (lv_at hl 1 rfl) ?_
    refine lv_tableIn (tgt := 86) hx hb dX12_count_6 (by decide) (by decide) rfl (by decide) ?_
    refine lv_aload_n hx hb dX12_count_86 rfl (lv_at hl 0 rfl) ?_
    refine lv_iconst (v := 2) hx hb dX12_count_87 (by decide) ?_
    have hPc := hP.sub (ws' := [(h0, .inr (12, [.int 0, .int 0, .ref mr, .ref mt, .ref mw, .ref mu, .ref mp, .ref mi, .ref mk, .ref ms, .int 0, .ref mv, .int 0, .int 0, .int 0, .int 0, .long 0, .int (-1), .int 0, .ref m1w, .ref m2w, .ref m3w, .ref m4w, .int 0, .long 0, .long 0, .long 0])), (mw, .inl (cm3, 906, .inr (.inl fw)))]) [0, 3] rfl
    have hDc := hD.sub (ws' := [(h0, .inr (12, [.int 0, .int 0, .ref mr, .ref mt, .ref mw, .ref mu, .ref mp, .ref mi, .ref mk, .ref ms, .int 0, .ref mv, .int 0, .int 0, .int 0, .int 0, .long 0, .int (-1), .int 0, .ref m1w, .ref m2w, .ref m3w, .ref m4w, .int 0, .long 0, .long 0, .long 0])), (mw, .inl (cm3, 906, .inr (.inl fw)))]) [0, 3] (by decide) rfl
    have hKc := hK.sub (tys' := [(cm3, .long)]) [2] rfl
    have hFc := va_free (wc := [(h0, .inr (12, [.int 0, .int 0, .ref mr, .ref mt, .ref mw, .ref mu, .ref mp, .ref mi, .ref mk, .ref ms, .int 0, .ref mv, .int 0, .int 0, .int 0, .int 0, .long 0, .int (-1), .int 0, .ref m1w, .ref m2w, .ref m3w, .ref m4w, .int 0, .long 0, .long 0, .long 0])), (mw, .inl (cm3, 906, .inr (.inl fw)))]) hD hS hA [0, 3] rfl
    refine va_calli (va_runV (As := [.int 2]) (rest := []) ⟨hx, hb, hml, hown, hts⟩ (c_X12_inState l dC dI h0 2 mr mt mw mu mp mi mk ms mv m1w m2w m3w m4w cm3 fw H.size hw0) (cwV 1 hts (gi_V (fun w_ h0_ => ⟨List.mem_cons_of_mem _ (List.mem_append_right _ (List.mem_append_right _ (List.mem_append_left _ h0_))), (tb_c_X12_inState w_ h0_).2⟩) (List.mem_cons_of_mem _ (List.mem_append_left _ (List.mem_of_getElem? (i := 2) rfl))) (List.mem_cons_of_mem _ (List.mem_append_left _ (List.mem_of_getElem? (i := 3) rfl))) (List.mem_cons_of_mem _ (List.mem_append_left _ (List.mem_of_getElem? (i := 4) rfl))) (List.mem_cons_of_mem _ (List.mem_append_left _ (List.mem_of_getElem? (i := 5) rfl)))) rfl rfl rfl (by decide +kernel) ⟨Nat.le_of_ble_eq_true rfl, Nat.le_of_ble_eq_true rfl⟩) ⟨fun a U g mk q => by obtain ⟨q0, q1, qP, qK, qD⟩ := q; exact ⟨q0, q1, qP, va_K.moved (u := U) (U := U.calling g mk a) (Vm.Alike.refl U.vm) qK, qD⟩, va_recv hKc hPc (ci := 12) (q0 := 0) rfl rfl, fun U hU hW => ⟨rfl, by rw [hU], by rw [hU]; exact hPc, va_K.moved hW.alike hKc, hDc.weaken (fun _ _ _ _ => trivial)⟩⟩ rfl rfl hl.1 rfl (lv_room (Nat.le_of_ble_eq_true rfl)) dX12_count_88 ⟨Nat.le_of_ble_eq_true rfl, Nat.le_of_ble_eq_true rfl⟩) hS (fun q _ h => hFc q h) hFc (fun r_5 u t H1 locs ht hvm hw hB hz1 hk1 hS => ?_)
    obtain ⟨hP1, hK1, hD1⟩ := hB
    rw [ht] at hP1
    have hK1 := va_K.moved hvm.symm hK1
    obtain ⟨hP, hD⟩ := va_join (wr := [(mr, .inl (cm1, 7, .inl (fun _ => 0))), (mt, .inl (cm2, 3, .inl ft))]) (w1 := [(h0, .inr (12, [.int 0, .int 0, .ref mr, .ref mt, .ref mw, .ref mu, .ref mp, .ref mi, .ref mk, .ref ms, .int 0, .ref mv, .int 0, .int 0, .int 0, .int 0, .long 0, .int (-1), .int 0, .ref m1w, .ref m2w, .ref m3w, .ref m4w, .int 0, .long 0, .long 0, .long 0])), (mw, .inl (cm3, 906, .inr (.inl fw)))]) hP hD [0, 3] [1, 2] rfl rfl (by decide) (by decide) hk1 hFc hP1 hD1
    generalize H1 = H at hP hS ⊢
    have hP : va_P (dC, dI) vwCl [(mr, .inl (cm1, 7, .inl (fun _ => 0))), (mt, .inl (cm2, 3, .inl ft)), (h0, .inr (12, [.int 0, .int 0, .ref mr, .ref mt, .ref mw, .ref mu, .ref mp, .ref mi, .ref mk, .ref ms, .int 0, .ref mv, .int 0, .int 0, .int 0, .int 0, .long 0, .int (-1), .int 0, .ref m1w, .ref m2w, .ref m3w, .ref m4w, .int 0, .long 0, .long 0, .long 0])), (mw, .inl (cm3, 906, .inr (.inl fw)))] H := hP
    have hD : va_D A [(mr, .inl (cm1, 7, .inl (fun _ => 0))), (mt, .inl (cm2, 3, .inl ft)), (h0, .inr (12, [.int 0, .int 0, .ref mr, .ref mt, .ref mw, .ref mu, .ref mp, .ref mi, .ref mk, .ref ms, .int 0, .ref mv, .int 0, .int 0, .int 0, .int 0, .long 0, .int (-1), .int 0, .ref m1w, .ref m2w, .ref m3w, .ref m4w, .int 0, .long 0, .long 0, .long 0])), (mw, .inl (cm3, 906, .inr (.inl fw)))] := hD
    refine W.widen (k := 0) (n := 0) (Nat.le_of_ble_eq_true rfl) (Nat.le_of_ble_eq_true rfl) ?_
    have hw : r_5 = 0 := hw
    subst hw
    have hP9 := hP.sub (ws' := []) [] rfl
    have hD9 := hD.sub (ws' := []) [] (by decide) rfl
    have hK9 := hK.sub (tys' := []) [] rfl
    refine W.widen (k := 0) (n := 0) (Nat.le_of_ble_eq_true rfl) (Nat.le_of_ble_eq_true rfl) ?_
    exact W.iret (v := 0) hx hb hr (fun t ht hW => ⟨⟨0, (), rfl, (by decide), by rw [ht]; exact hP9, va_K.moved hW.alike hK9, hD9⟩, hS.F ht⟩) hS.2.2 dX12_count_91
  by_cases h_6 : wh = 3
  · subst h_6
    refine lv_aload_n hx hb dX12_count_0 rfl (lv_at hl 0 rfl) ?_
    refine lv_iconst (v := 0) hx hb dX12_count_1 (by decide) ?_
    refine va_put (D := (dC, dI)) (ci := 12) (v := .int 0) (ty := .int) (C := RX12) (T := TX12) (N := 27) hx hb hts (fun _ h0_ => List.mem_cons_of_mem _ (List.mem_append_right _ (List.mem_append_left _ h0_))) tyX12 tyX12_ok nmX12 hown hK hP hD hS 0 rfl rfl 0 (by decide) (hts (.fieldLink RX12 67 "DeadlineShareModel" "thrown" "I") (List.mem_cons_of_mem _ (List.mem_append_left _ (List.mem_of_getElem? (i := 0) rfl)))) (fun _ h9 => h9) rfl (by decide +kernel) rfl rfl (Nat.le_of_ble_eq_true rfl) dX12_count_2 (fun H locs hP hD hS => ?_)
    have hP : va_P (dC, dI) vwCl [(h0, .inr (12, [.int 0, .int 0, .ref mr, .ref mt, .ref mw, .ref mu, .ref mp, .ref mi, .ref mk, .ref ms, .int 0, .ref mv, .int 0, .int 0, .int 0, .int 0, .long 0, .int (-1), .int 0, .ref m1w, .ref m2w, .ref m3w, .ref m4w, .int 0, .long 0, .long 0, .long 0])), (mr, .inl (cm1, 7, .inl (fun _ => 0))), (mt, .inl (cm2, 3, .inl ft)), (mw, .inl (cm3, 906, .inr (.inl fw)))] H := hP
    have hD : va_D A [(h0, .inr (12, [.int 0, .int 0, .ref mr, .ref mt, .ref mw, .ref mu, .ref mp, .ref mi, .ref mk, .ref ms, .int 0, .ref mv, .int 0, .int 0, .int 0, .int 0, .long 0, .int (-1), .int 0, .ref m1w, .ref m2w, .ref m3w, .ref m4w, .int 0, .long 0, .long 0, .long 0])), (mr, .inl (cm1, 7, .inl (fun _ => 0))), (mt, .inl (cm2, 3, .inl ft)), (mw, .inl (cm3, 906, .inr (.inl fw)))] := hD
    refine lv_iload_n hx hb dX12_count_5 rfl (lv_at hl 1 rfl) ?_
    refine lv_tableIn (tgt := 92) hx hb dX12_count_6 (by decide) (by decide) rfl (by decide) ?_
    refine lv_aload_n hx hb dX12_count_92 rfl (lv_at hl 0 rfl) ?_
    have hPc := hP.sub (ws' := [(h0, .inr (12, [.int 0, .int 0, .ref mr, .ref mt, .ref mw, .ref mu, .ref mp, .ref mi, .ref mk, .ref ms, .int 0, .ref mv, .int 0, .int 0, .int 0, .int 0, .long 0, .int (-1), .int 0, .ref m1w, .ref m2w, .ref m3w, .ref m4w, .int 0, .long 0, .long 0, .long 0])), (mw, .inl (cm3, 906, .inr (.inl fw)))]) [0, 3] rfl
    have hDc := hD.sub (ws' := [(h0, .inr (12, [.int 0, .int 0, .ref mr, .ref mt, .ref mw, .ref mu, .ref mp, .ref mi, .ref mk, .ref ms, .int 0, .ref mv, .int 0, .int 0, .int 0, .int 0, .long 0, .int (-1), .int 0, .ref m1w, .ref m2w, .ref m3w, .ref m4w, .int 0, .long 0, .long 0, .long 0])), (mw, .inl (cm3, 906, .inr (.inl fw)))]) [0, 3] (by decide) rfl
    have hKc := hK.sub (tys' := [(cm3, .long)]) [2] rfl
    have hFc := va_free (wc := [(h0, .inr (12, [.int 0, .int 0, .ref mr, .ref mt, .ref mw, .ref mu, .ref mp, .ref mi, .ref mk, .ref ms, .int 0, .ref mv, .int 0, .int 0, .int 0, .int 0, .long 0, .int (-1), .int 0, .ref m1w, .ref m2w, .ref m3w, .ref m4w, .int 0, .long 0, .long 0, .long 0])), (mw, .inl (cm3, 906, .inr (.inl fw)))]) hD hS hA [0, 3] rfl
    refine va_calli (va_runV (As := []) (rest := []) ⟨hx, hb, hml, hown, hts⟩ (c_X12_scripted l dC dI h0 mr mt mw mu mp mi mk ms mv m1w m2w m3w m4w cm3 fw H.size hw0) (cwV 0 hts (gi_V (fun w_ h0_ => ⟨List.mem_cons_of_mem _ (List.mem_append_right _ (List.mem_append_right _ (List.mem_append_right _ (List.mem_append_left _ h0_)))), (tb_c_X12_scripted w_ h0_).2⟩) (List.mem_cons_of_mem _ (List.mem_append_left _ (List.mem_of_getElem? (i := 6) rfl))) (List.mem_cons_of_mem _ (List.mem_append_left _ (List.mem_of_getElem? (i := 7) rfl))) (List.mem_cons_of_mem _ (List.mem_append_left _ (List.mem_of_getElem? (i := 8) rfl))) (List.mem_cons_of_mem _ (List.mem_append_left _ (List.mem_of_getElem? (i := 5) rfl)))) rfl rfl rfl (by decide +kernel) ⟨Nat.le_of_ble_eq_true rfl, Nat.le_of_ble_eq_true rfl⟩) ⟨fun a U g mk q => by obtain ⟨q0, q1, qP, qK, qD⟩ := q; exact ⟨q0, q1, qP, va_K.moved (u := U) (U := U.calling g mk a) (Vm.Alike.refl U.vm) qK, qD⟩, va_recv hKc hPc (ci := 12) (q0 := 0) rfl rfl, fun U hU hW => ⟨rfl, by rw [hU], by rw [hU]; exact hPc, va_K.moved hW.alike hKc, hDc.weaken (fun _ _ _ _ => trivial)⟩⟩ rfl rfl hl.1 rfl (lv_room (Nat.le_of_ble_eq_true rfl)) dX12_count_93 ⟨Nat.le_of_ble_eq_true rfl, Nat.le_of_ble_eq_true rfl⟩) hS (fun q _ h => hFc q h) hFc (fun r_7 u t H1 locs ht hvm hw hB hz1 hk1 hS => ?_)
    obtain ⟨hP1, hK1, hD1⟩ := hB
    rw [ht] at hP1
    have hK1 := va_K.moved hvm.symm hK1
    obtain ⟨hP, hD⟩ := va_join (wr := [(mr, .inl (cm1, 7, .inl (fun _ => 0))), (mt, .inl (cm2, 3, .inl ft))]) (w1 := [(h0, .inr (12, [.int 0, .int 0, .ref mr, .ref mt, .ref mw, .ref mu, .ref mp, .ref mi, .ref mk, .ref ms, .int 0, .ref mv, .int 0, .int 0, .int 0, .int 0, .long 0, .int (-1), .int 0, .ref m1w, .ref m2w, .ref m3w, .ref m4w, .int 0, .long 0, .long 0, .long 0])), (mw, .inl (cm3, 906, .inr (.inl fw)))]) hP hD [0, 3] [1, 2] rfl rfl (by decide) (by decide) hk1 hFc hP1 hD1
    generalize H1 = H at hP hS ⊢
    have hP : va_P (dC, dI) vwCl [(mr, .inl (cm1, 7, .inl (fun _ => 0))), (mt, .inl (cm2, 3, .inl ft)), (h0, .inr (12, [.int 0, .int 0, .ref mr, .ref mt, .ref mw, .ref mu, .ref mp, .ref mi, .ref mk, .ref ms, .int 0, .ref mv, .int 0, .int 0, .int 0, .int 0, .long 0, .int (-1), .int 0, .ref m1w, .ref m2w, .ref m3w, .ref m4w, .int 0, .long 0, .long 0, .long 0])), (mw, .inl (cm3, 906, .inr (.inl fw)))] H := hP
    have hD : va_D A [(mr, .inl (cm1, 7, .inl (fun _ => 0))), (mt, .inl (cm2, 3, .inl ft)), (h0, .inr (12, [.int 0, .int 0, .ref mr, .ref mt, .ref mw, .ref mu, .ref mp, .ref mi, .ref mk, .ref ms, .int 0, .ref mv, .int 0, .int 0, .int 0, .int 0, .long 0, .int (-1), .int 0, .ref m1w, .ref m2w, .ref m3w, .ref m4w, .int 0, .long 0, .long 0, .long 0])), (mw, .inl (cm3, 906, .inr (.inl fw)))] := hD
    refine W.widen (k := 0) (n := 0) (Nat.le_of_ble_eq_true rfl) (Nat.le_of_ble_eq_true rfl) ?_
    have hw : r_7 = 0 := hw
    subst hw
    have hP9 := hP.sub (ws' := []) [] rfl
    have hD9 := hD.sub (ws' := []) [] (by decide) rfl
    have hK9 := hK.sub (tys' := []) [] rfl
    refine W.widen (k := 0) (n := 0) (Nat.le_of_ble_eq_true rfl) (Nat.le_of_ble_eq_true rfl) ?_
    exact W.iret (v := 0) hx hb hr (fun t ht hW => ⟨⟨0, (), rfl, (by decide), by rw [ht]; exact hP9, va_K.moved hW.alike hK9, hD9⟩, hS.F ht⟩) hS.2.2 dX12_count_96
  by_cases h_8 : wh = 4
  · subst h_8
    refine lv_aload_n hx hb dX12_count_0 rfl (lv_at hl 0 rfl) ?_
    refine lv_iconst (v := 0) hx hb dX12_count_1 (by decide) ?_
    refine va_put (D := (dC, dI)) (ci := 12) (v := .int 0) (ty := .int) (C := RX12) (T := TX12) (N := 27) hx hb hts (fun _ h0_ => List.mem_cons_of_mem _ (List.mem_append_right _ (List.mem_append_left _ h0_))) tyX12 tyX12_ok nmX12 hown hK hP hD hS 0 rfl rfl 0 (by decide) (hts (.fieldLink RX12 67 "DeadlineShareModel" "thrown" "I") (List.mem_cons_of_mem _ (List.mem_append_left _ (List.mem_of_getElem? (i := 0) rfl)))) (fun _ h9 => h9) rfl (by decide +kernel) rfl rfl (Nat.le_of_ble_eq_true rfl) dX12_count_2 (fun H locs hP hD hS => ?_)
    have hP : va_P (dC, dI) vwCl [(h0, .inr (12, [.int 0, .int 0, .ref mr, .ref mt, .ref mw, .ref mu, .ref mp, .ref mi, .ref mk, .ref ms, .int 0, .ref mv, .int 0, .int 0, .int 0, .int 0, .long 0, .int (-1), .int 0, .ref m1w, .ref m2w, .ref m3w, .ref m4w, .int 0, .long 0, .long 0, .long 0])), (mr, .inl (cm1, 7, .inl (fun _ => 0))), (mt, .inl (cm2, 3, .inl ft)), (mw, .inl (cm3, 906, .inr (.inl fw)))] H := hP
    have hD : va_D A [(h0, .inr (12, [.int 0, .int 0, .ref mr, .ref mt, .ref mw, .ref mu, .ref mp, .ref mi, .ref mk, .ref ms, .int 0, .ref mv, .int 0, .int 0, .int 0, .int 0, .long 0, .int (-1), .int 0, .ref m1w, .ref m2w, .ref m3w, .ref m4w, .int 0, .long 0, .long 0, .long 0])), (mr, .inl (cm1, 7, .inl (fun _ => 0))), (mt, .inl (cm2, 3, .inl ft)), (mw, .inl (cm3, 906, .inr (.inl fw)))] := hD
    refine lv_iload_n hx hb dX12_count_5 rfl (lv_at hl 1 rfl) ?_
    refine lv_tableIn (tgt := 97) hx hb dX12_count_6 (by decide) (by decide) rfl (by decide) ?_
    refine lv_aload_n hx hb dX12_count_97 rfl (lv_at hl 0 rfl) ?_
    refine va_get (D := (dC, dI)) (ci := 12) (v := .ref mw) (C := RX12) (T := TX12) (N := 27) hx hb hts (fun _ h0_ => List.mem_cons_of_mem _ (List.mem_append_right _ (List.mem_append_left _ h0_))) hown hK hP 0 rfl rfl 4 (by decide) (hts (.fieldLink RX12 16 "DeadlineShareModel" "row" "[J") (List.mem_cons_of_mem _ (List.mem_append_left _ (List.mem_of_getElem? (i := 1) rfl)))) (fun _ h9 => h9) rfl dX12_count_98 ?_
    refine lv_iconst (v := 3) hx hb dX12_count_101 (by decide) ?_
    refine va_lald hx hb hK hP 3 2 rfl rfl (by unfold vp_in; decide) dX12_count_102 ?_
    refine k_topl (y := (-1)) ((congrArg fw (show Int32.toNatClampNeg 3 = 3 by decide)).trans hw3) ?_
    refine lv_l2i (v := (-1)) hx hb dX12_count_103 (by decide) ?_
    have hP9 := hP.sub (ws' := []) [] rfl
    have hD9 := hD.sub (ws' := []) [] (by decide) rfl
    have hK9 := hK.sub (tys' := []) [] rfl
    refine W.widen (k := 0) (n := 0) (Nat.le_of_ble_eq_true rfl) (Nat.le_of_ble_eq_true rfl) ?_
    exact W.iret (v := (-1)) hx hb hr (fun t ht hW => ⟨⟨(-1), (), rfl, (by decide), by rw [ht]; exact hP9, va_K.moved hW.alike hK9, hD9⟩, hS.F ht⟩) hS.2.2 dX12_count_104
  by_cases h_9 : wh = 5
  · subst h_9
    refine lv_aload_n hx hb dX12_count_0 rfl (lv_at hl 0 rfl) ?_
    refine lv_iconst (v := 0) hx hb dX12_count_1 (by decide) ?_
    refine va_put (D := (dC, dI)) (ci := 12) (v := .int 0) (ty := .int) (C := RX12) (T := TX12) (N := 27) hx hb hts (fun _ h0_ => List.mem_cons_of_mem _ (List.mem_append_right _ (List.mem_append_left _ h0_))) tyX12 tyX12_ok nmX12 hown hK hP hD hS 0 rfl rfl 0 (by decide) (hts (.fieldLink RX12 67 "DeadlineShareModel" "thrown" "I") (List.mem_cons_of_mem _ (List.mem_append_left _ (List.mem_of_getElem? (i := 0) rfl)))) (fun _ h9 => h9) rfl (by decide +kernel) rfl rfl (Nat.le_of_ble_eq_true rfl) dX12_count_2 (fun H locs hP hD hS => ?_)
    have hP : va_P (dC, dI) vwCl [(h0, .inr (12, [.int 0, .int 0, .ref mr, .ref mt, .ref mw, .ref mu, .ref mp, .ref mi, .ref mk, .ref ms, .int 0, .ref mv, .int 0, .int 0, .int 0, .int 0, .long 0, .int (-1), .int 0, .ref m1w, .ref m2w, .ref m3w, .ref m4w, .int 0, .long 0, .long 0, .long 0])), (mr, .inl (cm1, 7, .inl (fun _ => 0))), (mt, .inl (cm2, 3, .inl ft)), (mw, .inl (cm3, 906, .inr (.inl fw)))] H := hP
    have hD : va_D A [(h0, .inr (12, [.int 0, .int 0, .ref mr, .ref mt, .ref mw, .ref mu, .ref mp, .ref mi, .ref mk, .ref ms, .int 0, .ref mv, .int 0, .int 0, .int 0, .int 0, .long 0, .int (-1), .int 0, .ref m1w, .ref m2w, .ref m3w, .ref m4w, .int 0, .long 0, .long 0, .long 0])), (mr, .inl (cm1, 7, .inl (fun _ => 0))), (mt, .inl (cm2, 3, .inl ft)), (mw, .inl (cm3, 906, .inr (.inl fw)))] := hD
    refine lv_iload_n hx hb dX12_count_5 rfl (lv_at hl 1 rfl) ?_
    refine lv_tableIn (tgt := 105) hx hb dX12_count_6 (by decide) (by decide) rfl (by decide) ?_
    refine lv_aload_n hx hb dX12_count_105 rfl (lv_at hl 0 rfl) ?_
    refine va_get (D := (dC, dI)) (ci := 12) (v := .ref mw) (C := RX12) (T := TX12) (N := 27) hx hb hts (fun _ h0_ => List.mem_cons_of_mem _ (List.mem_append_right _ (List.mem_append_left _ h0_))) hown hK hP 0 rfl rfl 4 (by decide) (hts (.fieldLink RX12 16 "DeadlineShareModel" "row" "[J") (List.mem_cons_of_mem _ (List.mem_append_left _ (List.mem_of_getElem? (i := 1) rfl)))) (fun _ h9 => h9) rfl dX12_count_106 ?_
    refine lv_iconst (v := 5) hx hb dX12_count_109 (by decide) ?_
    refine va_lald hx hb hK hP 3 2 rfl rfl (by unfold vp_in; decide) dX12_count_110 ?_
    refine k_topl (y := 0) ((congrArg fw (show Int32.toNatClampNeg 5 = 5 by decide)).trans hw5) ?_
    refine lv_l2i (v := 0) hx hb dX12_count_111 (by decide) ?_
    have hP9 := hP.sub (ws' := []) [] rfl
    have hD9 := hD.sub (ws' := []) [] (by decide) rfl
    have hK9 := hK.sub (tys' := []) [] rfl
    refine W.widen (k := 0) (n := 0) (Nat.le_of_ble_eq_true rfl) (Nat.le_of_ble_eq_true rfl) ?_
    exact W.iret (v := 0) hx hb hr (fun t ht hW => ⟨⟨0, (), rfl, (by decide), by rw [ht]; exact hP9, va_K.moved hW.alike hK9, hD9⟩, hS.F ht⟩) hS.2.2 dX12_count_112
  by_cases h_10 : wh = 6
  · subst h_10
    refine lv_aload_n hx hb dX12_count_0 rfl (lv_at hl 0 rfl) ?_
    refine lv_iconst (v := 0) hx hb dX12_count_1 (by decide) ?_
    refine va_put (D := (dC, dI)) (ci := 12) (v := .int 0) (ty := .int) (C := RX12) (T := TX12) (N := 27) hx hb hts (fun _ h0_ => List.mem_cons_of_mem _ (List.mem_append_right _ (List.mem_append_left _ h0_))) tyX12 tyX12_ok nmX12 hown hK hP hD hS 0 rfl rfl 0 (by decide) (hts (.fieldLink RX12 67 "DeadlineShareModel" "thrown" "I") (List.mem_cons_of_mem _ (List.mem_append_left _ (List.mem_of_getElem? (i := 0) rfl)))) (fun _ h9 => h9) rfl (by decide +kernel) rfl rfl (Nat.le_of_ble_eq_true rfl) dX12_count_2 (fun H locs hP hD hS => ?_)
    have hP : va_P (dC, dI) vwCl [(h0, .inr (12, [.int 0, .int 0, .ref mr, .ref mt, .ref mw, .ref mu, .ref mp, .ref mi, .ref mk, .ref ms, .int 0, .ref mv, .int 0, .int 0, .int 0, .int 0, .long 0, .int (-1), .int 0, .ref m1w, .ref m2w, .ref m3w, .ref m4w, .int 0, .long 0, .long 0, .long 0])), (mr, .inl (cm1, 7, .inl (fun _ => 0))), (mt, .inl (cm2, 3, .inl ft)), (mw, .inl (cm3, 906, .inr (.inl fw)))] H := hP
    have hD : va_D A [(h0, .inr (12, [.int 0, .int 0, .ref mr, .ref mt, .ref mw, .ref mu, .ref mp, .ref mi, .ref mk, .ref ms, .int 0, .ref mv, .int 0, .int 0, .int 0, .int 0, .long 0, .int (-1), .int 0, .ref m1w, .ref m2w, .ref m3w, .ref m4w, .int 0, .long 0, .long 0, .long 0])), (mr, .inl (cm1, 7, .inl (fun _ => 0))), (mt, .inl (cm2, 3, .inl ft)), (mw, .inl (cm3, 906, .inr (.inl fw)))] := hD
    refine lv_iload_n hx hb dX12_count_5 rfl (lv_at hl 1 rfl) ?_
    refine lv_tableIn (tgt := 113) hx hb dX12_count_6 (by decide) (by decide) rfl (by decide) ?_
    refine lv_aload_n hx hb dX12_count_113 rfl (lv_at hl 0 rfl) ?_
    refine va_get (D := (dC, dI)) (ci := 12) (v := .int 0) (C := RX12) (T := TX12) (N := 27) hx hb hts (fun _ h0_ => List.mem_cons_of_mem _ (List.mem_append_right _ (List.mem_append_left _ h0_))) hown hK hP 0 rfl rfl 10 (by decide) (hts (.fieldLink RX12 73 "DeadlineShareModel" "nUndo" "I") (List.mem_cons_of_mem _ (List.mem_append_left _ (List.mem_of_getElem? (i := 9) rfl)))) (fun _ h9 => h9) rfl dX12_count_114 ?_
    have hP9 := hP.sub (ws' := []) [] rfl
    have hD9 := hD.sub (ws' := []) [] (by decide) rfl
    have hK9 := hK.sub (tys' := []) [] rfl
    refine W.widen (k := 0) (n := 0) (Nat.le_of_ble_eq_true rfl) (Nat.le_of_ble_eq_true rfl) ?_
    exact W.iret (v := 0) hx hb hr (fun t ht hW => ⟨⟨0, (), rfl, (by decide), by rw [ht]; exact hP9, va_K.moved hW.alike hK9, hD9⟩, hS.F ht⟩) hS.2.2 dX12_count_117
  by_cases h_11 : wh = 7
  · subst h_11
    refine lv_aload_n hx hb dX12_count_0 rfl (lv_at hl 0 rfl) ?_
    refine lv_iconst (v := 0) hx hb dX12_count_1 (by decide) ?_
    refine va_put (D := (dC, dI)) (ci := 12) (v := .int 0) (ty := .int) (C := RX12) (T := TX12) (N := 27) hx hb hts (fun _ h0_ => List.mem_cons_of_mem _ (List.mem_append_right _ (List.mem_append_left _ h0_))) tyX12 tyX12_ok nmX12 hown hK hP hD hS 0 rfl rfl 0 (by decide) (hts (.fieldLink RX12 67 "DeadlineShareModel" "thrown" "I") (List.mem_cons_of_mem _ (List.mem_append_left _ (List.mem_of_getElem? (i := 0) rfl)))) (fun _ h9 => h9) rfl (by decide +kernel) rfl rfl (Nat.le_of_ble_eq_true rfl) dX12_count_2 (fun H locs hP hD hS => ?_)
    have hP : va_P (dC, dI) vwCl [(h0, .inr (12, [.int 0, .int 0, .ref mr, .ref mt, .ref mw, .ref mu, .ref mp, .ref mi, .ref mk, .ref ms, .int 0, .ref mv, .int 0, .int 0, .int 0, .int 0, .long 0, .int (-1), .int 0, .ref m1w, .ref m2w, .ref m3w, .ref m4w, .int 0, .long 0, .long 0, .long 0])), (mr, .inl (cm1, 7, .inl (fun _ => 0))), (mt, .inl (cm2, 3, .inl ft)), (mw, .inl (cm3, 906, .inr (.inl fw)))] H := hP
    have hD : va_D A [(h0, .inr (12, [.int 0, .int 0, .ref mr, .ref mt, .ref mw, .ref mu, .ref mp, .ref mi, .ref mk, .ref ms, .int 0, .ref mv, .int 0, .int 0, .int 0, .int 0, .long 0, .int (-1), .int 0, .ref m1w, .ref m2w, .ref m3w, .ref m4w, .int 0, .long 0, .long 0, .long 0])), (mr, .inl (cm1, 7, .inl (fun _ => 0))), (mt, .inl (cm2, 3, .inl ft)), (mw, .inl (cm3, 906, .inr (.inl fw)))] := hD
    refine lv_iload_n hx hb dX12_count_5 rfl (lv_at hl 1 rfl) ?_
    refine lv_tableIn (tgt := 118) hx hb dX12_count_6 (by decide) (by decide) rfl (by decide) ?_
    refine lv_aload_n hx hb dX12_count_118 rfl (lv_at hl 0 rfl) ?_
    refine va_get (D := (dC, dI)) (ci := 12) (v := .int 0) (C := RX12) (T := TX12) (N := 27) hx hb hts (fun _ h0_ => List.mem_cons_of_mem _ (List.mem_append_right _ (List.mem_append_left _ h0_))) hown hK hP 0 rfl rfl 12 (by decide) (hts (.fieldLink RX12 128 "DeadlineShareModel" "taped" "I") (List.mem_cons_of_mem _ (List.mem_append_left _ (List.mem_of_getElem? (i := 10) rfl)))) (fun _ h9 => h9) rfl dX12_count_119 ?_
    have hP9 := hP.sub (ws' := []) [] rfl
    have hD9 := hD.sub (ws' := []) [] (by decide) rfl
    have hK9 := hK.sub (tys' := []) [] rfl
    refine W.widen (k := 0) (n := 0) (Nat.le_of_ble_eq_true rfl) (Nat.le_of_ble_eq_true rfl) ?_
    exact W.iret (v := 0) hx hb hr (fun t ht hW => ⟨⟨0, (), rfl, (by decide), by rw [ht]; exact hP9, va_K.moved hW.alike hK9, hD9⟩, hS.F ht⟩) hS.2.2 dX12_count_122
  by_cases h_12 : wh = 8
  · subst h_12
    refine lv_aload_n hx hb dX12_count_0 rfl (lv_at hl 0 rfl) ?_
    refine lv_iconst (v := 0) hx hb dX12_count_1 (by decide) ?_
    refine va_put (D := (dC, dI)) (ci := 12) (v := .int 0) (ty := .int) (C := RX12) (T := TX12) (N := 27) hx hb hts (fun _ h0_ => List.mem_cons_of_mem _ (List.mem_append_right _ (List.mem_append_left _ h0_))) tyX12 tyX12_ok nmX12 hown hK hP hD hS 0 rfl rfl 0 (by decide) (hts (.fieldLink RX12 67 "DeadlineShareModel" "thrown" "I") (List.mem_cons_of_mem _ (List.mem_append_left _ (List.mem_of_getElem? (i := 0) rfl)))) (fun _ h9 => h9) rfl (by decide +kernel) rfl rfl (Nat.le_of_ble_eq_true rfl) dX12_count_2 (fun H locs hP hD hS => ?_)
    have hP : va_P (dC, dI) vwCl [(h0, .inr (12, [.int 0, .int 0, .ref mr, .ref mt, .ref mw, .ref mu, .ref mp, .ref mi, .ref mk, .ref ms, .int 0, .ref mv, .int 0, .int 0, .int 0, .int 0, .long 0, .int (-1), .int 0, .ref m1w, .ref m2w, .ref m3w, .ref m4w, .int 0, .long 0, .long 0, .long 0])), (mr, .inl (cm1, 7, .inl (fun _ => 0))), (mt, .inl (cm2, 3, .inl ft)), (mw, .inl (cm3, 906, .inr (.inl fw)))] H := hP
    have hD : va_D A [(h0, .inr (12, [.int 0, .int 0, .ref mr, .ref mt, .ref mw, .ref mu, .ref mp, .ref mi, .ref mk, .ref ms, .int 0, .ref mv, .int 0, .int 0, .int 0, .int 0, .long 0, .int (-1), .int 0, .ref m1w, .ref m2w, .ref m3w, .ref m4w, .int 0, .long 0, .long 0, .long 0])), (mr, .inl (cm1, 7, .inl (fun _ => 0))), (mt, .inl (cm2, 3, .inl ft)), (mw, .inl (cm3, 906, .inr (.inl fw)))] := hD
    refine lv_iload_n hx hb dX12_count_5 rfl (lv_at hl 1 rfl) ?_
    refine lv_tableIn (tgt := 123) hx hb dX12_count_6 (by decide) (by decide) rfl (by decide) ?_
    refine lv_aload_n hx hb dX12_count_123 rfl (lv_at hl 0 rfl) ?_
    refine va_get (D := (dC, dI)) (ci := 12) (v := .ref mr) (C := RX12) (T := TX12) (N := 27) hx hb hts (fun _ h0_ => List.mem_cons_of_mem _ (List.mem_append_right _ (List.mem_append_left _ h0_))) hown hK hP 0 rfl rfl 2 (by decide) (hts (.fieldLink RX12 7 "DeadlineShareModel" "refusals" "[I") (List.mem_cons_of_mem _ (List.mem_append_left _ (List.mem_of_getElem? (i := 11) rfl)))) (fun _ h9 => h9) rfl dX12_count_124 ?_
    refine lv_iconst (v := 1) hx hb dX12_count_127 (by decide) ?_
    refine va_iald hx hb hK hP 1 0 rfl rfl (by unfold vp_in; decide) dX12_count_128 ?_
    refine k_topi (y := 0) rfl ?_
    have hP9 := hP.sub (ws' := []) [] rfl
    have hD9 := hD.sub (ws' := []) [] (by decide) rfl
    have hK9 := hK.sub (tys' := []) [] rfl
    refine W.widen (k := 0) (n := 0) (Nat.le_of_ble_eq_true rfl) (Nat.le_of_ble_eq_true rfl) ?_
    exact W.iret (v := 0) hx hb hr (fun t ht hW => ⟨⟨0, (), rfl, (by decide), by rw [ht]; exact hP9, va_K.moved hW.alike hK9, hD9⟩, hS.F ht⟩) hS.2.2 dX12_count_129
  by_cases h_13 : wh = 9
  · subst h_13
    refine lv_aload_n hx hb dX12_count_0 rfl (lv_at hl 0 rfl) ?_
    refine lv_iconst (v := 0) hx hb dX12_count_1 (by decide) ?_
    refine va_put (D := (dC, dI)) (ci := 12) (v := .int 0) (ty := .int) (C := RX12) (T := TX12) (N := 27) hx hb hts (fun _ h0_ => List.mem_cons_of_mem _ (List.mem_append_right _ (List.mem_append_left _ h0_))) tyX12 tyX12_ok nmX12 hown hK hP hD hS 0 rfl rfl 0 (by decide) (hts (.fieldLink RX12 67 "DeadlineShareModel" "thrown" "I") (List.mem_cons_of_mem _ (List.mem_append_left _ (List.mem_of_getElem? (i := 0) rfl)))) (fun _ h9 => h9) rfl (by decide +kernel) rfl rfl (Nat.le_of_ble_eq_true rfl) dX12_count_2 (fun H locs hP hD hS => ?_)
    have hP : va_P (dC, dI) vwCl [(h0, .inr (12, [.int 0, .int 0, .ref mr, .ref mt, .ref mw, .ref mu, .ref mp, .ref mi, .ref mk, .ref ms, .int 0, .ref mv, .int 0, .int 0, .int 0, .int 0, .long 0, .int (-1), .int 0, .ref m1w, .ref m2w, .ref m3w, .ref m4w, .int 0, .long 0, .long 0, .long 0])), (mr, .inl (cm1, 7, .inl (fun _ => 0))), (mt, .inl (cm2, 3, .inl ft)), (mw, .inl (cm3, 906, .inr (.inl fw)))] H := hP
    have hD : va_D A [(h0, .inr (12, [.int 0, .int 0, .ref mr, .ref mt, .ref mw, .ref mu, .ref mp, .ref mi, .ref mk, .ref ms, .int 0, .ref mv, .int 0, .int 0, .int 0, .int 0, .long 0, .int (-1), .int 0, .ref m1w, .ref m2w, .ref m3w, .ref m4w, .int 0, .long 0, .long 0, .long 0])), (mr, .inl (cm1, 7, .inl (fun _ => 0))), (mt, .inl (cm2, 3, .inl ft)), (mw, .inl (cm3, 906, .inr (.inl fw)))] := hD
    refine lv_iload_n hx hb dX12_count_5 rfl (lv_at hl 1 rfl) ?_
    refine lv_tableIn (tgt := 130) hx hb dX12_count_6 (by decide) (by decide) rfl (by decide) ?_
    refine lv_aload_n hx hb dX12_count_130 rfl (lv_at hl 0 rfl) ?_
    refine va_get (D := (dC, dI)) (ci := 12) (v := .ref mr) (C := RX12) (T := TX12) (N := 27) hx hb hts (fun _ h0_ => List.mem_cons_of_mem _ (List.mem_append_right _ (List.mem_append_left _ h0_))) hown hK hP 0 rfl rfl 2 (by decide) (hts (.fieldLink RX12 7 "DeadlineShareModel" "refusals" "[I") (List.mem_cons_of_mem _ (List.mem_append_left _ (List.mem_of_getElem? (i := 11) rfl)))) (fun _ h9 => h9) rfl dX12_count_131 ?_
    refine lv_iconst (v := 2) hx hb dX12_count_134 (by decide) ?_
    refine va_iald hx hb hK hP 1 0 rfl rfl (by unfold vp_in; decide) dX12_count_135 ?_
    refine k_topi (y := 0) rfl ?_
    have hP9 := hP.sub (ws' := []) [] rfl
    have hD9 := hD.sub (ws' := []) [] (by decide) rfl
    have hK9 := hK.sub (tys' := []) [] rfl
    refine W.widen (k := 0) (n := 0) (Nat.le_of_ble_eq_true rfl) (Nat.le_of_ble_eq_true rfl) ?_
    exact W.iret (v := 0) hx hb hr (fun t ht hW => ⟨⟨0, (), rfl, (by decide), by rw [ht]; exact hP9, va_K.moved hW.alike hK9, hD9⟩, hS.F ht⟩) hS.2.2 dX12_count_136
  by_cases h_14 : wh = 10
  · subst h_14
    refine lv_aload_n hx hb dX12_count_0 rfl (lv_at hl 0 rfl) ?_
    refine lv_iconst (v := 0) hx hb dX12_count_1 (by decide) ?_
    refine va_put (D := (dC, dI)) (ci := 12) (v := .int 0) (ty := .int) (C := RX12) (T := TX12) (N := 27) hx hb hts (fun _ h0_ => List.mem_cons_of_mem _ (List.mem_append_right _ (List.mem_append_left _ h0_))) tyX12 tyX12_ok nmX12 hown hK hP hD hS 0 rfl rfl 0 (by decide) (hts (.fieldLink RX12 67 "DeadlineShareModel" "thrown" "I") (List.mem_cons_of_mem _ (List.mem_append_left _ (List.mem_of_getElem? (i := 0) rfl)))) (fun _ h9 => h9) rfl (by decide +kernel) rfl rfl (Nat.le_of_ble_eq_true rfl) dX12_count_2 (fun H locs hP hD hS => ?_)
    have hP : va_P (dC, dI) vwCl [(h0, .inr (12, [.int 0, .int 0, .ref mr, .ref mt, .ref mw, .ref mu, .ref mp, .ref mi, .ref mk, .ref ms, .int 0, .ref mv, .int 0, .int 0, .int 0, .int 0, .long 0, .int (-1), .int 0, .ref m1w, .ref m2w, .ref m3w, .ref m4w, .int 0, .long 0, .long 0, .long 0])), (mr, .inl (cm1, 7, .inl (fun _ => 0))), (mt, .inl (cm2, 3, .inl ft)), (mw, .inl (cm3, 906, .inr (.inl fw)))] H := hP
    have hD : va_D A [(h0, .inr (12, [.int 0, .int 0, .ref mr, .ref mt, .ref mw, .ref mu, .ref mp, .ref mi, .ref mk, .ref ms, .int 0, .ref mv, .int 0, .int 0, .int 0, .int 0, .long 0, .int (-1), .int 0, .ref m1w, .ref m2w, .ref m3w, .ref m4w, .int 0, .long 0, .long 0, .long 0])), (mr, .inl (cm1, 7, .inl (fun _ => 0))), (mt, .inl (cm2, 3, .inl ft)), (mw, .inl (cm3, 906, .inr (.inl fw)))] := hD
    refine lv_iload_n hx hb dX12_count_5 rfl (lv_at hl 1 rfl) ?_
    refine lv_tableIn (tgt := 137) hx hb dX12_count_6 (by decide) (by decide) rfl (by decide) ?_
    refine lv_aload_n hx hb dX12_count_137 rfl (lv_at hl 0 rfl) ?_
    refine va_get (D := (dC, dI)) (ci := 12) (v := .ref mr) (C := RX12) (T := TX12) (N := 27) hx hb hts (fun _ h0_ => List.mem_cons_of_mem _ (List.mem_append_right _ (List.mem_append_left _ h0_))) hown hK hP 0 rfl rfl 2 (by decide) (hts (.fieldLink RX12 7 "DeadlineShareModel" "refusals" "[I") (List.mem_cons_of_mem _ (List.mem_append_left _ (List.mem_of_getElem? (i := 11) rfl)))) (fun _ h9 => h9) rfl dX12_count_138 ?_
    refine lv_iconst (v := 4) hx hb dX12_count_141 (by decide) ?_
    refine va_iald hx hb hK hP 1 0 rfl rfl (by unfold vp_in; decide) dX12_count_142 ?_
    refine k_topi (y := 0) rfl ?_
    have hP9 := hP.sub (ws' := []) [] rfl
    have hD9 := hD.sub (ws' := []) [] (by decide) rfl
    have hK9 := hK.sub (tys' := []) [] rfl
    refine W.widen (k := 0) (n := 0) (Nat.le_of_ble_eq_true rfl) (Nat.le_of_ble_eq_true rfl) ?_
    exact W.iret (v := 0) hx hb hr (fun t ht hW => ⟨⟨0, (), rfl, (by decide), by rw [ht]; exact hP9, va_K.moved hW.alike hK9, hD9⟩, hS.F ht⟩) hS.2.2 dX12_count_143
  by_cases h_15 : wh = 11
  · subst h_15
    refine lv_aload_n hx hb dX12_count_0 rfl (lv_at hl 0 rfl) ?_
    refine lv_iconst (v := 0) hx hb dX12_count_1 (by decide) ?_
    refine va_put (D := (dC, dI)) (ci := 12) (v := .int 0) (ty := .int) (C := RX12) (T := TX12) (N := 27) hx hb hts (fun _ h0_ => List.mem_cons_of_mem _ (List.mem_append_right _ (List.mem_append_left _ h0_))) tyX12 tyX12_ok nmX12 hown hK hP hD hS 0 rfl rfl 0 (by decide) (hts (.fieldLink RX12 67 "DeadlineShareModel" "thrown" "I") (List.mem_cons_of_mem _ (List.mem_append_left _ (List.mem_of_getElem? (i := 0) rfl)))) (fun _ h9 => h9) rfl (by decide +kernel) rfl rfl (Nat.le_of_ble_eq_true rfl) dX12_count_2 (fun H locs hP hD hS => ?_)
    have hP : va_P (dC, dI) vwCl [(h0, .inr (12, [.int 0, .int 0, .ref mr, .ref mt, .ref mw, .ref mu, .ref mp, .ref mi, .ref mk, .ref ms, .int 0, .ref mv, .int 0, .int 0, .int 0, .int 0, .long 0, .int (-1), .int 0, .ref m1w, .ref m2w, .ref m3w, .ref m4w, .int 0, .long 0, .long 0, .long 0])), (mr, .inl (cm1, 7, .inl (fun _ => 0))), (mt, .inl (cm2, 3, .inl ft)), (mw, .inl (cm3, 906, .inr (.inl fw)))] H := hP
    have hD : va_D A [(h0, .inr (12, [.int 0, .int 0, .ref mr, .ref mt, .ref mw, .ref mu, .ref mp, .ref mi, .ref mk, .ref ms, .int 0, .ref mv, .int 0, .int 0, .int 0, .int 0, .long 0, .int (-1), .int 0, .ref m1w, .ref m2w, .ref m3w, .ref m4w, .int 0, .long 0, .long 0, .long 0])), (mr, .inl (cm1, 7, .inl (fun _ => 0))), (mt, .inl (cm2, 3, .inl ft)), (mw, .inl (cm3, 906, .inr (.inl fw)))] := hD
    refine lv_iload_n hx hb dX12_count_5 rfl (lv_at hl 1 rfl) ?_
    refine lv_tableIn (tgt := 144) hx hb dX12_count_6 (by decide) (by decide) rfl (by decide) ?_
    refine lv_aload_n hx hb dX12_count_144 rfl (lv_at hl 0 rfl) ?_
    refine va_get (D := (dC, dI)) (ci := 12) (v := .ref mr) (C := RX12) (T := TX12) (N := 27) hx hb hts (fun _ h0_ => List.mem_cons_of_mem _ (List.mem_append_right _ (List.mem_append_left _ h0_))) hown hK hP 0 rfl rfl 2 (by decide) (hts (.fieldLink RX12 7 "DeadlineShareModel" "refusals" "[I") (List.mem_cons_of_mem _ (List.mem_append_left _ (List.mem_of_getElem? (i := 11) rfl)))) (fun _ h9 => h9) rfl dX12_count_145 ?_
    refine lv_iconst (v := 5) hx hb dX12_count_148 (by decide) ?_
    refine va_iald hx hb hK hP 1 0 rfl rfl (by unfold vp_in; decide) dX12_count_149 ?_
    refine k_topi (y := 0) rfl ?_
    have hP9 := hP.sub (ws' := []) [] rfl
    have hD9 := hD.sub (ws' := []) [] (by decide) rfl
    have hK9 := hK.sub (tys' := []) [] rfl
    refine W.widen (k := 0) (n := 0) (Nat.le_of_ble_eq_true rfl) (Nat.le_of_ble_eq_true rfl) ?_
    exact W.iret (v := 0) hx hb hr (fun t ht hW => ⟨⟨0, (), rfl, (by decide), by rw [ht]; exact hP9, va_K.moved hW.alike hK9, hD9⟩, hS.F ht⟩) hS.2.2 dX12_count_150
  by_cases h_16 : wh = 12
  · subst h_16
    refine lv_aload_n hx hb dX12_count_0 rfl (lv_at hl 0 rfl) ?_
    refine lv_iconst (v := 0) hx hb dX12_count_1 (by decide) ?_
    refine va_put (D := (dC, dI)) (ci := 12) (v := .int 0) (ty := .int) (C := RX12) (T := TX12) (N := 27) hx hb hts (fun _ h0_ => List.mem_cons_of_mem _ (List.mem_append_right _ (List.mem_append_left _ h0_))) tyX12 tyX12_ok nmX12 hown hK hP hD hS 0 rfl rfl 0 (by decide) (hts (.fieldLink RX12 67 "DeadlineShareModel" "thrown" "I") (List.mem_cons_of_mem _ (List.mem_append_left _ (List.mem_of_getElem? (i := 0) rfl)))) (fun _ h9 => h9) rfl (by decide +kernel) rfl rfl (Nat.le_of_ble_eq_true rfl) dX12_count_2 (fun H locs hP hD hS => ?_)
    have hP : va_P (dC, dI) vwCl [(h0, .inr (12, [.int 0, .int 0, .ref mr, .ref mt, .ref mw, .ref mu, .ref mp, .ref mi, .ref mk, .ref ms, .int 0, .ref mv, .int 0, .int 0, .int 0, .int 0, .long 0, .int (-1), .int 0, .ref m1w, .ref m2w, .ref m3w, .ref m4w, .int 0, .long 0, .long 0, .long 0])), (mr, .inl (cm1, 7, .inl (fun _ => 0))), (mt, .inl (cm2, 3, .inl ft)), (mw, .inl (cm3, 906, .inr (.inl fw)))] H := hP
    have hD : va_D A [(h0, .inr (12, [.int 0, .int 0, .ref mr, .ref mt, .ref mw, .ref mu, .ref mp, .ref mi, .ref mk, .ref ms, .int 0, .ref mv, .int 0, .int 0, .int 0, .int 0, .long 0, .int (-1), .int 0, .ref m1w, .ref m2w, .ref m3w, .ref m4w, .int 0, .long 0, .long 0, .long 0])), (mr, .inl (cm1, 7, .inl (fun _ => 0))), (mt, .inl (cm2, 3, .inl ft)), (mw, .inl (cm3, 906, .inr (.inl fw)))] := hD
    refine lv_iload_n hx hb dX12_count_5 rfl (lv_at hl 1 rfl) ?_
    refine lv_tableIn (tgt := 151) hx hb dX12_count_6 (by decide) (by decide) rfl (by decide) ?_
    refine lv_aload_n hx hb dX12_count_151 rfl (lv_at hl 0 rfl) ?_
    refine va_get (D := (dC, dI)) (ci := 12) (v := .ref mr) (C := RX12) (T := TX12) (N := 27) hx hb hts (fun _ h0_ => List.mem_cons_of_mem _ (List.mem_append_right _ (List.mem_append_left _ h0_))) hown hK hP 0 rfl rfl 2 (by decide) (hts (.fieldLink RX12 7 "DeadlineShareModel" "refusals" "[I") (List.mem_cons_of_mem _ (List.mem_append_left _ (List.mem_of_getElem? (i := 11) rfl)))) (fun _ h9 => h9) rfl dX12_count_152 ?_
    refine lv_bipush (v := 6) hx hb dX12_count_155 (by decide) ?_
    refine va_iald hx hb hK hP 1 0 rfl rfl (by unfold vp_in; decide) dX12_count_157 ?_
    refine k_topi (y := 0) rfl ?_
    have hP9 := hP.sub (ws' := []) [] rfl
    have hD9 := hD.sub (ws' := []) [] (by decide) rfl
    have hK9 := hK.sub (tys' := []) [] rfl
    refine W.widen (k := 0) (n := 0) (Nat.le_of_ble_eq_true rfl) (Nat.le_of_ble_eq_true rfl) ?_
    exact W.iret (v := 0) hx hb hr (fun t ht hW => ⟨⟨0, (), rfl, (by decide), by rw [ht]; exact hP9, va_K.moved hW.alike hK9, hD9⟩, hS.F ht⟩) hS.2.2 dX12_count_158
  by_cases h_17 : wh = 13
  · subst h_17
    refine lv_aload_n hx hb dX12_count_0 rfl (lv_at hl 0 rfl) ?_
    refine lv_iconst (v := 0) hx hb dX12_count_1 (by decide) ?_
    refine va_put (D := (dC, dI)) (ci := 12) (v := .int 0) (ty := .int) (C := RX12) (T := TX12) (N := 27) hx hb hts (fun _ h0_ => List.mem_cons_of_mem _ (List.mem_append_right _ (List.mem_append_left _ h0_))) tyX12 tyX12_ok nmX12 hown hK hP hD hS 0 rfl rfl 0 (by decide) (hts (.fieldLink RX12 67 "DeadlineShareModel" "thrown" "I") (List.mem_cons_of_mem _ (List.mem_append_left _ (List.mem_of_getElem? (i := 0) rfl)))) (fun _ h9 => h9) rfl (by decide +kernel) rfl rfl (Nat.le_of_ble_eq_true rfl) dX12_count_2 (fun H locs hP hD hS => ?_)
    have hP : va_P (dC, dI) vwCl [(h0, .inr (12, [.int 0, .int 0, .ref mr, .ref mt, .ref mw, .ref mu, .ref mp, .ref mi, .ref mk, .ref ms, .int 0, .ref mv, .int 0, .int 0, .int 0, .int 0, .long 0, .int (-1), .int 0, .ref m1w, .ref m2w, .ref m3w, .ref m4w, .int 0, .long 0, .long 0, .long 0])), (mr, .inl (cm1, 7, .inl (fun _ => 0))), (mt, .inl (cm2, 3, .inl ft)), (mw, .inl (cm3, 906, .inr (.inl fw)))] H := hP
    have hD : va_D A [(h0, .inr (12, [.int 0, .int 0, .ref mr, .ref mt, .ref mw, .ref mu, .ref mp, .ref mi, .ref mk, .ref ms, .int 0, .ref mv, .int 0, .int 0, .int 0, .int 0, .long 0, .int (-1), .int 0, .ref m1w, .ref m2w, .ref m3w, .ref m4w, .int 0, .long 0, .long 0, .long 0])), (mr, .inl (cm1, 7, .inl (fun _ => 0))), (mt, .inl (cm2, 3, .inl ft)), (mw, .inl (cm3, 906, .inr (.inl fw)))] := hD
    refine lv_iload_n hx hb dX12_count_5 rfl (lv_at hl 1 rfl) ?_
    refine lv_tableOut (tgt := 159) hx hb dX12_count_6 (by decide) (by decide) ?_
    refine lv_iload_n hx hb dX12_count_159 rfl (lv_at hl 1 rfl) ?_
    refine lv_i2l (v := 13) hx hb dX12_count_160 (by decide) ?_
    refine lv_ldc2 hx hb hown (hts (.constantLong RX12 340 (13)) (List.mem_cons_of_mem _ (List.mem_append_left _ (List.mem_of_getElem? (i := 12) rfl)))) dX12_count_161 ?_
    refine lv_ldc2 hx hb hown (hts (.constantLong RX12 304 (15)) (List.mem_cons_of_mem _ (List.mem_append_left _ (List.mem_of_getElem? (i := 13) rfl)))) dX12_count_164 ?_
    have hPc := hP.sub (ws' := []) [] rfl
    have hDc := hD.sub (ws' := []) [] (by decide) rfl
    have hKc := hK.sub (tys' := []) [] rfl
    have hFc := va_free (wc := []) hD hS hA [] rfl
    refine va_calli (va_runS (As := [.long 13, .long 13, .long 15]) (rest := []) ⟨hx, hb, hml, hown, hts⟩ (c_X12_in l dC dI 13 13 15 H.size) (va_cwS 3 hts (gi_S (fun w_ h0_ => ⟨List.mem_cons_of_mem _ (List.mem_append_right _ (List.mem_append_right _ (List.mem_append_right _ (List.mem_append_right _ (List.mem_append_left _ h0_))))), (tb_c_X12_in w_ h0_).2⟩) (List.mem_cons_of_mem _ (List.mem_append_left _ (List.mem_of_getElem? (i := 14) rfl))) (List.mem_cons_of_mem _ (List.mem_append_left _ (List.mem_of_getElem? (i := 15) rfl))) (List.mem_cons_of_mem _ (List.mem_append_left _ (List.mem_of_getElem? (i := 5) rfl)))) rfl rfl rfl (by decide +kernel) ⟨Nat.le_of_ble_eq_true rfl, Nat.le_of_ble_eq_true rfl⟩) ⟨fun a U g mk q => by obtain ⟨q0, q1, qP, qK, qD⟩ := q; exact ⟨q0, q1, qP, va_K.moved (u := U) (U := U.calling g mk a) (Vm.Alike.refl U.vm) qK, qD⟩, fun U hU hW => ⟨rfl, by rw [hU], by rw [hU]; exact hPc, va_K.moved hW.alike hKc, hDc.weaken (fun _ _ _ _ => trivial)⟩⟩ rfl rfl hl.1 rfl (lv_room (Nat.le_of_ble_eq_true rfl)) dX12_count_167 ⟨Nat.le_of_ble_eq_true rfl, Nat.le_of_ble_eq_true rfl⟩) hS (fun q _ h => hFc q h) hFc (fun r_18 u t H1 locs ht hvm hw hB hz1 hk1 hS => ?_)
    obtain ⟨hP1, hK1, hD1⟩ := hB
    rw [ht] at hP1
    have hK1 := va_K.moved hvm.symm hK1
    obtain ⟨hP, hD⟩ := va_join (wr := [(h0, .inr (12, [.int 0, .int 0, .ref mr, .ref mt, .ref mw, .ref mu, .ref mp, .ref mi, .ref mk, .ref ms, .int 0, .ref mv, .int 0, .int 0, .int 0, .int 0, .long 0, .int (-1), .int 0, .ref m1w, .ref m2w, .ref m3w, .ref m4w, .int 0, .long 0, .long 0, .long 0])), (mr, .inl (cm1, 7, .inl (fun _ => 0))), (mt, .inl (cm2, 3, .inl ft)), (mw, .inl (cm3, 906, .inr (.inl fw)))]) (w1 := []) hP hD [] [0, 1, 2, 3] rfl rfl (by decide) (by decide) hk1 hFc hP1 hD1
    generalize H1 = H at hP hS ⊢
    have hP : va_P (dC, dI) vwCl [(h0, .inr (12, [.int 0, .int 0, .ref mr, .ref mt, .ref mw, .ref mu, .ref mp, .ref mi, .ref mk, .ref ms, .int 0, .ref mv, .int 0, .int 0, .int 0, .int 0, .long 0, .int (-1), .int 0, .ref m1w, .ref m2w, .ref m3w, .ref m4w, .int 0, .long 0, .long 0, .long 0])), (mr, .inl (cm1, 7, .inl (fun _ => 0))), (mt, .inl (cm2, 3, .inl ft)), (mw, .inl (cm3, 906, .inr (.inl fw)))] H := hP
    have hD : va_D A [(h0, .inr (12, [.int 0, .int 0, .ref mr, .ref mt, .ref mw, .ref mu, .ref mp, .ref mi, .ref mk, .ref ms, .int 0, .ref mv, .int 0, .int 0, .int 0, .int 0, .long 0, .int (-1), .int 0, .ref m1w, .ref m2w, .ref m3w, .ref m4w, .int 0, .long 0, .long 0, .long 0])), (mr, .inl (cm1, 7, .inl (fun _ => 0))), (mt, .inl (cm2, 3, .inl ft)), (mw, .inl (cm3, 906, .inr (.inl fw)))] := hD
    refine W.widen (k := 0) (n := 0) (Nat.le_of_ble_eq_true rfl) (Nat.le_of_ble_eq_true rfl) ?_
    have hw : r_18 = sp_in 13 13 15 := hw
    subst hw
    refine k_topi (y := 1) (by decide) ?_
    refine lv_if_eq (tgt := 185) hx hb dX12_count_170 (by decide) (fun c => absurd c (by decide)) (fun _ => ?_)
    refine lv_aload_n hx hb dX12_count_173 rfl (lv_at hl 0 rfl) ?_
    refine va_get (D := (dC, dI)) (ci := 12) (v := .ref mt) (C := RX12) (T := TX12) (N := 27) hx hb hts (fun _ h0_ => List.mem_cons_of_mem _ (List.mem_append_right _ (List.mem_append_left _ h0_))) hown hK hP 0 rfl rfl 3 (by decide) (hts (.fieldLink RX12 13 "DeadlineShareModel" "term" "[I") (List.mem_cons_of_mem _ (List.mem_append_left _ (List.mem_of_getElem? (i := 16) rfl)))) (fun _ h9 => h9) rfl dX12_count_174 ?_
    refine lv_iload_n hx hb dX12_count_177 rfl (lv_at hl 1 rfl) ?_
    refine lv_bipush (v := 13) hx hb dX12_count_178 (by decide) ?_
    refine lv_isub hx hb dX12_count_180 ?_
    refine k_topi (y := 0) (by decide) ?_
    refine va_iald hx hb hK hP 2 1 rfl rfl (by unfold vp_in; decide) dX12_count_181 ?_
    refine k_topi (y := 0) ((congrArg ft (show Int32.toNatClampNeg 0 = 0 by decide)).trans ht0) ?_
    refine lv_goto (tgt := 200) hx hb dX12_count_182 (by decide) ?_
    have hP9 := hP.sub (ws' := []) [] rfl
    have hD9 := hD.sub (ws' := []) [] (by decide) rfl
    have hK9 := hK.sub (tys' := []) [] rfl
    refine W.widen (k := 0) (n := 0) (Nat.le_of_ble_eq_true rfl) (Nat.le_of_ble_eq_true rfl) ?_
    exact W.iret (v := 0) hx hb hr (fun t ht hW => ⟨⟨0, (), rfl, (by decide), by rw [ht]; exact hP9, va_K.moved hW.alike hK9, hD9⟩, hS.F ht⟩) hS.2.2 dX12_count_200
  by_cases h_19 : wh = 14
  · subst h_19
    refine lv_aload_n hx hb dX12_count_0 rfl (lv_at hl 0 rfl) ?_
    refine lv_iconst (v := 0) hx hb dX12_count_1 (by decide) ?_
    refine va_put (D := (dC, dI)) (ci := 12) (v := .int 0) (ty := .int) (C := RX12) (T := TX12) (N := 27) hx hb hts (fun _ h0_ => List.mem_cons_of_mem _ (List.mem_append_right _ (List.mem_append_left _ h0_))) tyX12 tyX12_ok nmX12 hown hK hP hD hS 0 rfl rfl 0 (by decide) (hts (.fieldLink RX12 67 "DeadlineShareModel" "thrown" "I") (List.mem_cons_of_mem _ (List.mem_append_left _ (List.mem_of_getElem? (i := 0) rfl)))) (fun _ h9 => h9) rfl (by decide +kernel) rfl rfl (Nat.le_of_ble_eq_true rfl) dX12_count_2 (fun H locs hP hD hS => ?_)
    have hP : va_P (dC, dI) vwCl [(h0, .inr (12, [.int 0, .int 0, .ref mr, .ref mt, .ref mw, .ref mu, .ref mp, .ref mi, .ref mk, .ref ms, .int 0, .ref mv, .int 0, .int 0, .int 0, .int 0, .long 0, .int (-1), .int 0, .ref m1w, .ref m2w, .ref m3w, .ref m4w, .int 0, .long 0, .long 0, .long 0])), (mr, .inl (cm1, 7, .inl (fun _ => 0))), (mt, .inl (cm2, 3, .inl ft)), (mw, .inl (cm3, 906, .inr (.inl fw)))] H := hP
    have hD : va_D A [(h0, .inr (12, [.int 0, .int 0, .ref mr, .ref mt, .ref mw, .ref mu, .ref mp, .ref mi, .ref mk, .ref ms, .int 0, .ref mv, .int 0, .int 0, .int 0, .int 0, .long 0, .int (-1), .int 0, .ref m1w, .ref m2w, .ref m3w, .ref m4w, .int 0, .long 0, .long 0, .long 0])), (mr, .inl (cm1, 7, .inl (fun _ => 0))), (mt, .inl (cm2, 3, .inl ft)), (mw, .inl (cm3, 906, .inr (.inl fw)))] := hD
    refine lv_iload_n hx hb dX12_count_5 rfl (lv_at hl 1 rfl) ?_
    refine lv_tableOut (tgt := 159) hx hb dX12_count_6 (by decide) (by decide) ?_
    refine lv_iload_n hx hb dX12_count_159 rfl (lv_at hl 1 rfl) ?_
    refine lv_i2l (v := 14) hx hb dX12_count_160 (by decide) ?_
    refine lv_ldc2 hx hb hown (hts (.constantLong RX12 340 (13)) (List.mem_cons_of_mem _ (List.mem_append_left _ (List.mem_of_getElem? (i := 12) rfl)))) dX12_count_161 ?_
    refine lv_ldc2 hx hb hown (hts (.constantLong RX12 304 (15)) (List.mem_cons_of_mem _ (List.mem_append_left _ (List.mem_of_getElem? (i := 13) rfl)))) dX12_count_164 ?_
    have hPc := hP.sub (ws' := []) [] rfl
    have hDc := hD.sub (ws' := []) [] (by decide) rfl
    have hKc := hK.sub (tys' := []) [] rfl
    have hFc := va_free (wc := []) hD hS hA [] rfl
    refine va_calli (va_runS (As := [.long 14, .long 13, .long 15]) (rest := []) ⟨hx, hb, hml, hown, hts⟩ (c_X12_in l dC dI 14 13 15 H.size) (va_cwS 3 hts (gi_S (fun w_ h0_ => ⟨List.mem_cons_of_mem _ (List.mem_append_right _ (List.mem_append_right _ (List.mem_append_right _ (List.mem_append_right _ (List.mem_append_left _ h0_))))), (tb_c_X12_in w_ h0_).2⟩) (List.mem_cons_of_mem _ (List.mem_append_left _ (List.mem_of_getElem? (i := 14) rfl))) (List.mem_cons_of_mem _ (List.mem_append_left _ (List.mem_of_getElem? (i := 15) rfl))) (List.mem_cons_of_mem _ (List.mem_append_left _ (List.mem_of_getElem? (i := 5) rfl)))) rfl rfl rfl (by decide +kernel) ⟨Nat.le_of_ble_eq_true rfl, Nat.le_of_ble_eq_true rfl⟩) ⟨fun a U g mk q => by obtain ⟨q0, q1, qP, qK, qD⟩ := q; exact ⟨q0, q1, qP, va_K.moved (u := U) (U := U.calling g mk a) (Vm.Alike.refl U.vm) qK, qD⟩, fun U hU hW => ⟨rfl, by rw [hU], by rw [hU]; exact hPc, va_K.moved hW.alike hKc, hDc.weaken (fun _ _ _ _ => trivial)⟩⟩ rfl rfl hl.1 rfl (lv_room (Nat.le_of_ble_eq_true rfl)) dX12_count_167 ⟨Nat.le_of_ble_eq_true rfl, Nat.le_of_ble_eq_true rfl⟩) hS (fun q _ h => hFc q h) hFc (fun r_20 u t H1 locs ht hvm hw hB hz1 hk1 hS => ?_)
    obtain ⟨hP1, hK1, hD1⟩ := hB
    rw [ht] at hP1
    have hK1 := va_K.moved hvm.symm hK1
    obtain ⟨hP, hD⟩ := va_join (wr := [(h0, .inr (12, [.int 0, .int 0, .ref mr, .ref mt, .ref mw, .ref mu, .ref mp, .ref mi, .ref mk, .ref ms, .int 0, .ref mv, .int 0, .int 0, .int 0, .int 0, .long 0, .int (-1), .int 0, .ref m1w, .ref m2w, .ref m3w, .ref m4w, .int 0, .long 0, .long 0, .long 0])), (mr, .inl (cm1, 7, .inl (fun _ => 0))), (mt, .inl (cm2, 3, .inl ft)), (mw, .inl (cm3, 906, .inr (.inl fw)))]) (w1 := []) hP hD [] [0, 1, 2, 3] rfl rfl (by decide) (by decide) hk1 hFc hP1 hD1
    generalize H1 = H at hP hS ⊢
    have hP : va_P (dC, dI) vwCl [(h0, .inr (12, [.int 0, .int 0, .ref mr, .ref mt, .ref mw, .ref mu, .ref mp, .ref mi, .ref mk, .ref ms, .int 0, .ref mv, .int 0, .int 0, .int 0, .int 0, .long 0, .int (-1), .int 0, .ref m1w, .ref m2w, .ref m3w, .ref m4w, .int 0, .long 0, .long 0, .long 0])), (mr, .inl (cm1, 7, .inl (fun _ => 0))), (mt, .inl (cm2, 3, .inl ft)), (mw, .inl (cm3, 906, .inr (.inl fw)))] H := hP
    have hD : va_D A [(h0, .inr (12, [.int 0, .int 0, .ref mr, .ref mt, .ref mw, .ref mu, .ref mp, .ref mi, .ref mk, .ref ms, .int 0, .ref mv, .int 0, .int 0, .int 0, .int 0, .long 0, .int (-1), .int 0, .ref m1w, .ref m2w, .ref m3w, .ref m4w, .int 0, .long 0, .long 0, .long 0])), (mr, .inl (cm1, 7, .inl (fun _ => 0))), (mt, .inl (cm2, 3, .inl ft)), (mw, .inl (cm3, 906, .inr (.inl fw)))] := hD
    refine W.widen (k := 0) (n := 0) (Nat.le_of_ble_eq_true rfl) (Nat.le_of_ble_eq_true rfl) ?_
    have hw : r_20 = sp_in 14 13 15 := hw
    subst hw
    refine k_topi (y := 1) (by decide) ?_
    refine lv_if_eq (tgt := 185) hx hb dX12_count_170 (by decide) (fun c => absurd c (by decide)) (fun _ => ?_)
    refine lv_aload_n hx hb dX12_count_173 rfl (lv_at hl 0 rfl) ?_
    refine va_get (D := (dC, dI)) (ci := 12) (v := .ref mt) (C := RX12) (T := TX12) (N := 27) hx hb hts (fun _ h0_ => List.mem_cons_of_mem _ (List.mem_append_right _ (List.mem_append_left _ h0_))) hown hK hP 0 rfl rfl 3 (by decide) (hts (.fieldLink RX12 13 "DeadlineShareModel" "term" "[I") (List.mem_cons_of_mem _ (List.mem_append_left _ (List.mem_of_getElem? (i := 16) rfl)))) (fun _ h9 => h9) rfl dX12_count_174 ?_
    refine lv_iload_n hx hb dX12_count_177 rfl (lv_at hl 1 rfl) ?_
    refine lv_bipush (v := 13) hx hb dX12_count_178 (by decide) ?_
    refine lv_isub hx hb dX12_count_180 ?_
    refine k_topi (y := 1) (by decide) ?_
    refine va_iald hx hb hK hP 2 1 rfl rfl (by unfold vp_in; decide) dX12_count_181 ?_
    refine k_topi (y := 1) ((congrArg ft (show Int32.toNatClampNeg 1 = 1 by decide)).trans ht1) ?_
    refine lv_goto (tgt := 200) hx hb dX12_count_182 (by decide) ?_
    have hP9 := hP.sub (ws' := []) [] rfl
    have hD9 := hD.sub (ws' := []) [] (by decide) rfl
    have hK9 := hK.sub (tys' := []) [] rfl
    refine W.widen (k := 0) (n := 0) (Nat.le_of_ble_eq_true rfl) (Nat.le_of_ble_eq_true rfl) ?_
    exact W.iret (v := 1) hx hb hr (fun t ht hW => ⟨⟨1, (), rfl, (by decide), by rw [ht]; exact hP9, va_K.moved hW.alike hK9, hD9⟩, hS.F ht⟩) hS.2.2 dX12_count_200
  by_cases h_21 : wh = 15
  · subst h_21
    refine lv_aload_n hx hb dX12_count_0 rfl (lv_at hl 0 rfl) ?_
    refine lv_iconst (v := 0) hx hb dX12_count_1 (by decide) ?_
    refine va_put (D := (dC, dI)) (ci := 12) (v := .int 0) (ty := .int) (C := RX12) (T := TX12) (N := 27) hx hb hts (fun _ h0_ => List.mem_cons_of_mem _ (List.mem_append_right _ (List.mem_append_left _ h0_))) tyX12 tyX12_ok nmX12 hown hK hP hD hS 0 rfl rfl 0 (by decide) (hts (.fieldLink RX12 67 "DeadlineShareModel" "thrown" "I") (List.mem_cons_of_mem _ (List.mem_append_left _ (List.mem_of_getElem? (i := 0) rfl)))) (fun _ h9 => h9) rfl (by decide +kernel) rfl rfl (Nat.le_of_ble_eq_true rfl) dX12_count_2 (fun H locs hP hD hS => ?_)
    have hP : va_P (dC, dI) vwCl [(h0, .inr (12, [.int 0, .int 0, .ref mr, .ref mt, .ref mw, .ref mu, .ref mp, .ref mi, .ref mk, .ref ms, .int 0, .ref mv, .int 0, .int 0, .int 0, .int 0, .long 0, .int (-1), .int 0, .ref m1w, .ref m2w, .ref m3w, .ref m4w, .int 0, .long 0, .long 0, .long 0])), (mr, .inl (cm1, 7, .inl (fun _ => 0))), (mt, .inl (cm2, 3, .inl ft)), (mw, .inl (cm3, 906, .inr (.inl fw)))] H := hP
    have hD : va_D A [(h0, .inr (12, [.int 0, .int 0, .ref mr, .ref mt, .ref mw, .ref mu, .ref mp, .ref mi, .ref mk, .ref ms, .int 0, .ref mv, .int 0, .int 0, .int 0, .int 0, .long 0, .int (-1), .int 0, .ref m1w, .ref m2w, .ref m3w, .ref m4w, .int 0, .long 0, .long 0, .long 0])), (mr, .inl (cm1, 7, .inl (fun _ => 0))), (mt, .inl (cm2, 3, .inl ft)), (mw, .inl (cm3, 906, .inr (.inl fw)))] := hD
    refine lv_iload_n hx hb dX12_count_5 rfl (lv_at hl 1 rfl) ?_
    refine lv_tableOut (tgt := 159) hx hb dX12_count_6 (by decide) (by decide) ?_
    refine lv_iload_n hx hb dX12_count_159 rfl (lv_at hl 1 rfl) ?_
    refine lv_i2l (v := 15) hx hb dX12_count_160 (by decide) ?_
    refine lv_ldc2 hx hb hown (hts (.constantLong RX12 340 (13)) (List.mem_cons_of_mem _ (List.mem_append_left _ (List.mem_of_getElem? (i := 12) rfl)))) dX12_count_161 ?_
    refine lv_ldc2 hx hb hown (hts (.constantLong RX12 304 (15)) (List.mem_cons_of_mem _ (List.mem_append_left _ (List.mem_of_getElem? (i := 13) rfl)))) dX12_count_164 ?_
    have hPc := hP.sub (ws' := []) [] rfl
    have hDc := hD.sub (ws' := []) [] (by decide) rfl
    have hKc := hK.sub (tys' := []) [] rfl
    have hFc := va_free (wc := []) hD hS hA [] rfl
    refine va_calli (va_runS (As := [.long 15, .long 13, .long 15]) (rest := []) ⟨hx, hb, hml, hown, hts⟩ (c_X12_in l dC dI 15 13 15 H.size) (va_cwS 3 hts (gi_S (fun w_ h0_ => ⟨List.mem_cons_of_mem _ (List.mem_append_right _ (List.mem_append_right _ (List.mem_append_right _ (List.mem_append_right _ (List.mem_append_left _ h0_))))), (tb_c_X12_in w_ h0_).2⟩) (List.mem_cons_of_mem _ (List.mem_append_left _ (List.mem_of_getElem? (i := 14) rfl))) (List.mem_cons_of_mem _ (List.mem_append_left _ (List.mem_of_getElem? (i := 15) rfl))) (List.mem_cons_of_mem _ (List.mem_append_left _ (List.mem_of_getElem? (i := 5) rfl)))) rfl rfl rfl (by decide +kernel) ⟨Nat.le_of_ble_eq_true rfl, Nat.le_of_ble_eq_true rfl⟩) ⟨fun a U g mk q => by obtain ⟨q0, q1, qP, qK, qD⟩ := q; exact ⟨q0, q1, qP, va_K.moved (u := U) (U := U.calling g mk a) (Vm.Alike.refl U.vm) qK, qD⟩, fun U hU hW => ⟨rfl, by rw [hU], by rw [hU]; exact hPc, va_K.moved hW.alike hKc, hDc.weaken (fun _ _ _ _ => trivial)⟩⟩ rfl rfl hl.1 rfl (lv_room (Nat.le_of_ble_eq_true rfl)) dX12_count_167 ⟨Nat.le_of_ble_eq_true rfl, Nat.le_of_ble_eq_true rfl⟩) hS (fun q _ h => hFc q h) hFc (fun r_22 u t H1 locs ht hvm hw hB hz1 hk1 hS => ?_)
    obtain ⟨hP1, hK1, hD1⟩ := hB
    rw [ht] at hP1
    have hK1 := va_K.moved hvm.symm hK1
    obtain ⟨hP, hD⟩ := va_join (wr := [(h0, .inr (12, [.int 0, .int 0, .ref mr, .ref mt, .ref mw, .ref mu, .ref mp, .ref mi, .ref mk, .ref ms, .int 0, .ref mv, .int 0, .int 0, .int 0, .int 0, .long 0, .int (-1), .int 0, .ref m1w, .ref m2w, .ref m3w, .ref m4w, .int 0, .long 0, .long 0, .long 0])), (mr, .inl (cm1, 7, .inl (fun _ => 0))), (mt, .inl (cm2, 3, .inl ft)), (mw, .inl (cm3, 906, .inr (.inl fw)))]) (w1 := []) hP hD [] [0, 1, 2, 3] rfl rfl (by decide) (by decide) hk1 hFc hP1 hD1
    generalize H1 = H at hP hS ⊢
    have hP : va_P (dC, dI) vwCl [(h0, .inr (12, [.int 0, .int 0, .ref mr, .ref mt, .ref mw, .ref mu, .ref mp, .ref mi, .ref mk, .ref ms, .int 0, .ref mv, .int 0, .int 0, .int 0, .int 0, .long 0, .int (-1), .int 0, .ref m1w, .ref m2w, .ref m3w, .ref m4w, .int 0, .long 0, .long 0, .long 0])), (mr, .inl (cm1, 7, .inl (fun _ => 0))), (mt, .inl (cm2, 3, .inl ft)), (mw, .inl (cm3, 906, .inr (.inl fw)))] H := hP
    have hD : va_D A [(h0, .inr (12, [.int 0, .int 0, .ref mr, .ref mt, .ref mw, .ref mu, .ref mp, .ref mi, .ref mk, .ref ms, .int 0, .ref mv, .int 0, .int 0, .int 0, .int 0, .long 0, .int (-1), .int 0, .ref m1w, .ref m2w, .ref m3w, .ref m4w, .int 0, .long 0, .long 0, .long 0])), (mr, .inl (cm1, 7, .inl (fun _ => 0))), (mt, .inl (cm2, 3, .inl ft)), (mw, .inl (cm3, 906, .inr (.inl fw)))] := hD
    refine W.widen (k := 0) (n := 0) (Nat.le_of_ble_eq_true rfl) (Nat.le_of_ble_eq_true rfl) ?_
    have hw : r_22 = sp_in 15 13 15 := hw
    subst hw
    refine k_topi (y := 1) (by decide) ?_
    refine lv_if_eq (tgt := 185) hx hb dX12_count_170 (by decide) (fun c => absurd c (by decide)) (fun _ => ?_)
    refine lv_aload_n hx hb dX12_count_173 rfl (lv_at hl 0 rfl) ?_
    refine va_get (D := (dC, dI)) (ci := 12) (v := .ref mt) (C := RX12) (T := TX12) (N := 27) hx hb hts (fun _ h0_ => List.mem_cons_of_mem _ (List.mem_append_right _ (List.mem_append_left _ h0_))) hown hK hP 0 rfl rfl 3 (by decide) (hts (.fieldLink RX12 13 "DeadlineShareModel" "term" "[I") (List.mem_cons_of_mem _ (List.mem_append_left _ (List.mem_of_getElem? (i := 16) rfl)))) (fun _ h9 => h9) rfl dX12_count_174 ?_
    refine lv_iload_n hx hb dX12_count_177 rfl (lv_at hl 1 rfl) ?_
    refine lv_bipush (v := 13) hx hb dX12_count_178 (by decide) ?_
    refine lv_isub hx hb dX12_count_180 ?_
    refine k_topi (y := 2) (by decide) ?_
    refine va_iald hx hb hK hP 2 1 rfl rfl (by unfold vp_in; decide) dX12_count_181 ?_
    refine k_topi (y := 1) ((congrArg ft (show Int32.toNatClampNeg 2 = 2 by decide)).trans ht2) ?_
    refine lv_goto (tgt := 200) hx hb dX12_count_182 (by decide) ?_
    have hP9 := hP.sub (ws' := []) [] rfl
    have hD9 := hD.sub (ws' := []) [] (by decide) rfl
    have hK9 := hK.sub (tys' := []) [] rfl
    refine W.widen (k := 0) (n := 0) (Nat.le_of_ble_eq_true rfl) (Nat.le_of_ble_eq_true rfl) ?_
    exact W.iret (v := 1) hx hb hr (fun t ht hW => ⟨⟨1, (), rfl, (by decide), by rw [ht]; exact hP9, va_K.moved hW.alike hK9, hD9⟩, hS.F ht⟩) hS.2.2 dX12_count_200
  by_cases h_23 : wh = 16
  · subst h_23
    refine lv_aload_n hx hb dX12_count_0 rfl (lv_at hl 0 rfl) ?_
    refine lv_iconst (v := 0) hx hb dX12_count_1 (by decide) ?_
    refine va_put (D := (dC, dI)) (ci := 12) (v := .int 0) (ty := .int) (C := RX12) (T := TX12) (N := 27) hx hb hts (fun _ h0_ => List.mem_cons_of_mem _ (List.mem_append_right _ (List.mem_append_left _ h0_))) tyX12 tyX12_ok nmX12 hown hK hP hD hS 0 rfl rfl 0 (by decide) (hts (.fieldLink RX12 67 "DeadlineShareModel" "thrown" "I") (List.mem_cons_of_mem _ (List.mem_append_left _ (List.mem_of_getElem? (i := 0) rfl)))) (fun _ h9 => h9) rfl (by decide +kernel) rfl rfl (Nat.le_of_ble_eq_true rfl) dX12_count_2 (fun H locs hP hD hS => ?_)
    have hP : va_P (dC, dI) vwCl [(h0, .inr (12, [.int 0, .int 0, .ref mr, .ref mt, .ref mw, .ref mu, .ref mp, .ref mi, .ref mk, .ref ms, .int 0, .ref mv, .int 0, .int 0, .int 0, .int 0, .long 0, .int (-1), .int 0, .ref m1w, .ref m2w, .ref m3w, .ref m4w, .int 0, .long 0, .long 0, .long 0])), (mr, .inl (cm1, 7, .inl (fun _ => 0))), (mt, .inl (cm2, 3, .inl ft)), (mw, .inl (cm3, 906, .inr (.inl fw)))] H := hP
    have hD : va_D A [(h0, .inr (12, [.int 0, .int 0, .ref mr, .ref mt, .ref mw, .ref mu, .ref mp, .ref mi, .ref mk, .ref ms, .int 0, .ref mv, .int 0, .int 0, .int 0, .int 0, .long 0, .int (-1), .int 0, .ref m1w, .ref m2w, .ref m3w, .ref m4w, .int 0, .long 0, .long 0, .long 0])), (mr, .inl (cm1, 7, .inl (fun _ => 0))), (mt, .inl (cm2, 3, .inl ft)), (mw, .inl (cm3, 906, .inr (.inl fw)))] := hD
    refine lv_iload_n hx hb dX12_count_5 rfl (lv_at hl 1 rfl) ?_
    refine lv_tableOut (tgt := 159) hx hb dX12_count_6 (by decide) (by decide) ?_
    refine lv_iload_n hx hb dX12_count_159 rfl (lv_at hl 1 rfl) ?_
    refine lv_i2l (v := 16) hx hb dX12_count_160 (by decide) ?_
    refine lv_ldc2 hx hb hown (hts (.constantLong RX12 340 (13)) (List.mem_cons_of_mem _ (List.mem_append_left _ (List.mem_of_getElem? (i := 12) rfl)))) dX12_count_161 ?_
    refine lv_ldc2 hx hb hown (hts (.constantLong RX12 304 (15)) (List.mem_cons_of_mem _ (List.mem_append_left _ (List.mem_of_getElem? (i := 13) rfl)))) dX12_count_164 ?_
    have hPc := hP.sub (ws' := []) [] rfl
    have hDc := hD.sub (ws' := []) [] (by decide) rfl
    have hKc := hK.sub (tys' := []) [] rfl
    have hFc := va_free (wc := []) hD hS hA [] rfl
    refine va_calli (va_runS (As := [.long 16, .long 13, .long 15]) (rest := []) ⟨hx, hb, hml, hown, hts⟩ (c_X12_in l dC dI 16 13 15 H.size) (va_cwS 3 hts (gi_S (fun w_ h0_ => ⟨List.mem_cons_of_mem _ (List.mem_append_right _ (List.mem_append_right _ (List.mem_append_right _ (List.mem_append_right _ (List.mem_append_left _ h0_))))), (tb_c_X12_in w_ h0_).2⟩) (List.mem_cons_of_mem _ (List.mem_append_left _ (List.mem_of_getElem? (i := 14) rfl))) (List.mem_cons_of_mem _ (List.mem_append_left _ (List.mem_of_getElem? (i := 15) rfl))) (List.mem_cons_of_mem _ (List.mem_append_left _ (List.mem_of_getElem? (i := 5) rfl)))) rfl rfl rfl (by decide +kernel) ⟨Nat.le_of_ble_eq_true rfl, Nat.le_of_ble_eq_true rfl⟩) ⟨fun a U g mk q => by obtain ⟨q0, q1, qP, qK, qD⟩ := q; exact ⟨q0, q1, qP, va_K.moved (u := U) (U := U.calling g mk a) (Vm.Alike.refl U.vm) qK, qD⟩, fun U hU hW => ⟨rfl, by rw [hU], by rw [hU]; exact hPc, va_K.moved hW.alike hKc, hDc.weaken (fun _ _ _ _ => trivial)⟩⟩ rfl rfl hl.1 rfl (lv_room (Nat.le_of_ble_eq_true rfl)) dX12_count_167 ⟨Nat.le_of_ble_eq_true rfl, Nat.le_of_ble_eq_true rfl⟩) hS (fun q _ h => hFc q h) hFc (fun r_24 u t H1 locs ht hvm hw hB hz1 hk1 hS => ?_)
    obtain ⟨hP1, hK1, hD1⟩ := hB
    rw [ht] at hP1
    have hK1 := va_K.moved hvm.symm hK1
    obtain ⟨hP, hD⟩ := va_join (wr := [(h0, .inr (12, [.int 0, .int 0, .ref mr, .ref mt, .ref mw, .ref mu, .ref mp, .ref mi, .ref mk, .ref ms, .int 0, .ref mv, .int 0, .int 0, .int 0, .int 0, .long 0, .int (-1), .int 0, .ref m1w, .ref m2w, .ref m3w, .ref m4w, .int 0, .long 0, .long 0, .long 0])), (mr, .inl (cm1, 7, .inl (fun _ => 0))), (mt, .inl (cm2, 3, .inl ft)), (mw, .inl (cm3, 906, .inr (.inl fw)))]) (w1 := []) hP hD [] [0, 1, 2, 3] rfl rfl (by decide) (by decide) hk1 hFc hP1 hD1
    generalize H1 = H at hP hS ⊢
    have hP : va_P (dC, dI) vwCl [(h0, .inr (12, [.int 0, .int 0, .ref mr, .ref mt, .ref mw, .ref mu, .ref mp, .ref mi, .ref mk, .ref ms, .int 0, .ref mv, .int 0, .int 0, .int 0, .int 0, .long 0, .int (-1), .int 0, .ref m1w, .ref m2w, .ref m3w, .ref m4w, .int 0, .long 0, .long 0, .long 0])), (mr, .inl (cm1, 7, .inl (fun _ => 0))), (mt, .inl (cm2, 3, .inl ft)), (mw, .inl (cm3, 906, .inr (.inl fw)))] H := hP
    have hD : va_D A [(h0, .inr (12, [.int 0, .int 0, .ref mr, .ref mt, .ref mw, .ref mu, .ref mp, .ref mi, .ref mk, .ref ms, .int 0, .ref mv, .int 0, .int 0, .int 0, .int 0, .long 0, .int (-1), .int 0, .ref m1w, .ref m2w, .ref m3w, .ref m4w, .int 0, .long 0, .long 0, .long 0])), (mr, .inl (cm1, 7, .inl (fun _ => 0))), (mt, .inl (cm2, 3, .inl ft)), (mw, .inl (cm3, 906, .inr (.inl fw)))] := hD
    refine W.widen (k := 0) (n := 0) (Nat.le_of_ble_eq_true rfl) (Nat.le_of_ble_eq_true rfl) ?_
    have hw : r_24 = sp_in 16 13 15 := hw
    subst hw
    refine k_topi (y := 0) (by decide) ?_
    refine lv_if_eq (tgt := 185) hx hb dX12_count_170 (by decide) (fun _ => ?_) (fun c => absurd (by decide) c)
    refine lv_iload_n hx hb dX12_count_185 rfl (lv_at hl 1 rfl) ?_
    refine lv_bipush (v := 16) hx hb dX12_count_186 (by decide) ?_
    refine lv_icmp_ne (tgt := 199) hx hb dX12_count_188 (by decide) (fun c => absurd c (by decide)) (fun _ => ?_)
    refine lv_aload_n hx hb dX12_count_191 rfl (lv_at hl 0 rfl) ?_
    refine lv_iconst (v := 3) hx hb dX12_count_192 (by decide) ?_
    have hPc := hP.sub (ws' := [(h0, .inr (12, [.int 0, .int 0, .ref mr, .ref mt, .ref mw, .ref mu, .ref mp, .ref mi, .ref mk, .ref ms, .int 0, .ref mv, .int 0, .int 0, .int 0, .int 0, .long 0, .int (-1), .int 0, .ref m1w, .ref m2w, .ref m3w, .ref m4w, .int 0, .long 0, .long 0, .long 0])), (mw, .inl (cm3, 906, .inr (.inl fw)))]) [0, 3] rfl
    have hDc := hD.sub (ws' := [(h0, .inr (12, [.int 0, .int 0, .ref mr, .ref mt, .ref mw, .ref mu, .ref mp, .ref mi, .ref mk, .ref ms, .int 0, .ref mv, .int 0, .int 0, .int 0, .int 0, .long 0, .int (-1), .int 0, .ref m1w, .ref m2w, .ref m3w, .ref m4w, .int 0, .long 0, .long 0, .long 0])), (mw, .inl (cm3, 906, .inr (.inl fw)))]) [0, 3] (by decide) rfl
    have hKc := hK.sub (tys' := [(cm3, .long)]) [2] rfl
    have hFc := va_free (wc := [(h0, .inr (12, [.int 0, .int 0, .ref mr, .ref mt, .ref mw, .ref mu, .ref mp, .ref mi, .ref mk, .ref ms, .int 0, .ref mv, .int 0, .int 0, .int 0, .int 0, .long 0, .int (-1), .int 0, .ref m1w, .ref m2w, .ref m3w, .ref m4w, .int 0, .long 0, .long 0, .long 0])), (mw, .inl (cm3, 906, .inr (.inl fw)))]) hD hS hA [0, 3] rfl
    refine va_calli (va_runV (As := [.int 3]) (rest := []) ⟨hx, hb, hml, hown, hts⟩ (c_X12_inState l dC dI h0 3 mr mt mw mu mp mi mk ms mv m1w m2w m3w m4w cm3 fw H.size hw0) (cwV 1 hts (gi_V (fun w_ h0_ => ⟨List.mem_cons_of_mem _ (List.mem_append_right _ (List.mem_append_right _ (List.mem_append_left _ h0_))), (tb_c_X12_inState w_ h0_).2⟩) (List.mem_cons_of_mem _ (List.mem_append_left _ (List.mem_of_getElem? (i := 2) rfl))) (List.mem_cons_of_mem _ (List.mem_append_left _ (List.mem_of_getElem? (i := 3) rfl))) (List.mem_cons_of_mem _ (List.mem_append_left _ (List.mem_of_getElem? (i := 4) rfl))) (List.mem_cons_of_mem _ (List.mem_append_left _ (List.mem_of_getElem? (i := 5) rfl)))) rfl rfl rfl (by decide +kernel) ⟨Nat.le_of_ble_eq_true rfl, Nat.le_of_ble_eq_true rfl⟩) ⟨fun a U g mk q => by obtain ⟨q0, q1, qP, qK, qD⟩ := q; exact ⟨q0, q1, qP, va_K.moved (u := U) (U := U.calling g mk a) (Vm.Alike.refl U.vm) qK, qD⟩, va_recv hKc hPc (ci := 12) (q0 := 0) rfl rfl, fun U hU hW => ⟨rfl, by rw [hU], by rw [hU]; exact hPc, va_K.moved hW.alike hKc, hDc.weaken (fun _ _ _ _ => trivial)⟩⟩ rfl rfl hl.1 rfl (lv_room (Nat.le_of_ble_eq_true rfl)) dX12_count_193 ⟨Nat.le_of_ble_eq_true rfl, Nat.le_of_ble_eq_true rfl⟩) hS (fun q _ h => hFc q h) hFc (fun r_25 u t H1 locs ht hvm hw hB hz1 hk1 hS => ?_)
    obtain ⟨hP1, hK1, hD1⟩ := hB
    rw [ht] at hP1
    have hK1 := va_K.moved hvm.symm hK1
    obtain ⟨hP, hD⟩ := va_join (wr := [(mr, .inl (cm1, 7, .inl (fun _ => 0))), (mt, .inl (cm2, 3, .inl ft))]) (w1 := [(h0, .inr (12, [.int 0, .int 0, .ref mr, .ref mt, .ref mw, .ref mu, .ref mp, .ref mi, .ref mk, .ref ms, .int 0, .ref mv, .int 0, .int 0, .int 0, .int 0, .long 0, .int (-1), .int 0, .ref m1w, .ref m2w, .ref m3w, .ref m4w, .int 0, .long 0, .long 0, .long 0])), (mw, .inl (cm3, 906, .inr (.inl fw)))]) hP hD [0, 3] [1, 2] rfl rfl (by decide) (by decide) hk1 hFc hP1 hD1
    generalize H1 = H at hP hS ⊢
    have hP : va_P (dC, dI) vwCl [(mr, .inl (cm1, 7, .inl (fun _ => 0))), (mt, .inl (cm2, 3, .inl ft)), (h0, .inr (12, [.int 0, .int 0, .ref mr, .ref mt, .ref mw, .ref mu, .ref mp, .ref mi, .ref mk, .ref ms, .int 0, .ref mv, .int 0, .int 0, .int 0, .int 0, .long 0, .int (-1), .int 0, .ref m1w, .ref m2w, .ref m3w, .ref m4w, .int 0, .long 0, .long 0, .long 0])), (mw, .inl (cm3, 906, .inr (.inl fw)))] H := hP
    have hD : va_D A [(mr, .inl (cm1, 7, .inl (fun _ => 0))), (mt, .inl (cm2, 3, .inl ft)), (h0, .inr (12, [.int 0, .int 0, .ref mr, .ref mt, .ref mw, .ref mu, .ref mp, .ref mi, .ref mk, .ref ms, .int 0, .ref mv, .int 0, .int 0, .int 0, .int 0, .long 0, .int (-1), .int 0, .ref m1w, .ref m2w, .ref m3w, .ref m4w, .int 0, .long 0, .long 0, .long 0])), (mw, .inl (cm3, 906, .inr (.inl fw)))] := hD
    refine W.widen (k := 0) (n := 0) (Nat.le_of_ble_eq_true rfl) (Nat.le_of_ble_eq_true rfl) ?_
    have hw : r_25 = 0 := hw
    subst hw
    refine lv_goto (tgt := 200) hx hb dX12_count_196 (by decide) ?_
    have hP9 := hP.sub (ws' := []) [] rfl
    have hD9 := hD.sub (ws' := []) [] (by decide) rfl
    have hK9 := hK.sub (tys' := []) [] rfl
    refine W.widen (k := 0) (n := 0) (Nat.le_of_ble_eq_true rfl) (Nat.le_of_ble_eq_true rfl) ?_
    exact W.iret (v := 0) hx hb hr (fun t ht hW => ⟨⟨0, (), rfl, (by decide), by rw [ht]; exact hP9, va_K.moved hW.alike hK9, hD9⟩, hS.F ht⟩) hS.2.2 dX12_count_200
  refine lv_aload_n hx hb dX12_count_0 rfl (lv_at hl 0 rfl) ?_
  refine lv_iconst (v := 0) hx hb dX12_count_1 (by decide) ?_
  refine va_put (D := (dC, dI)) (ci := 12) (v := .int 0) (ty := .int) (C := RX12) (T := TX12) (N := 27) hx hb hts (fun _ h0_ => List.mem_cons_of_mem _ (List.mem_append_right _ (List.mem_append_left _ h0_))) tyX12 tyX12_ok nmX12 hown hK hP hD hS 0 rfl rfl 0 (by decide) (hts (.fieldLink RX12 67 "DeadlineShareModel" "thrown" "I") (List.mem_cons_of_mem _ (List.mem_append_left _ (List.mem_of_getElem? (i := 0) rfl)))) (fun _ h9 => h9) rfl (by decide +kernel) rfl rfl (Nat.le_of_ble_eq_true rfl) dX12_count_2 (fun H locs hP hD hS => ?_)
  have hP : va_P (dC, dI) vwCl [(h0, .inr (12, [.int 0, .int 0, .ref mr, .ref mt, .ref mw, .ref mu, .ref mp, .ref mi, .ref mk, .ref ms, .int 0, .ref mv, .int 0, .int 0, .int 0, .int 0, .long 0, .int (-1), .int 0, .ref m1w, .ref m2w, .ref m3w, .ref m4w, .int 0, .long 0, .long 0, .long 0])), (mr, .inl (cm1, 7, .inl (fun _ => 0))), (mt, .inl (cm2, 3, .inl ft)), (mw, .inl (cm3, 906, .inr (.inl fw)))] H := hP
  have hD : va_D A [(h0, .inr (12, [.int 0, .int 0, .ref mr, .ref mt, .ref mw, .ref mu, .ref mp, .ref mi, .ref mk, .ref ms, .int 0, .ref mv, .int 0, .int 0, .int 0, .int 0, .long 0, .int (-1), .int 0, .ref m1w, .ref m2w, .ref m3w, .ref m4w, .int 0, .long 0, .long 0, .long 0])), (mr, .inl (cm1, 7, .inl (fun _ => 0))), (mt, .inl (cm2, 3, .inl ft)), (mw, .inl (cm3, 906, .inr (.inl fw)))] := hD
  refine lv_iload_n hx hb dX12_count_5 rfl (lv_at hl 1 rfl) ?_
  by_cases h_26 : wh = 0
  · subst h_26
    refine lv_tableIn (tgt := 72) hx hb dX12_count_6 (by decide) (by decide) rfl (by decide) ?_
    refine lv_aload_n hx hb dX12_count_72 rfl (lv_at hl 0 rfl) ?_
    refine va_get (D := (dC, dI)) (ci := 12) (v := .ref mw) (C := RX12) (T := TX12) (N := 27) hx hb hts (fun _ h0_ => List.mem_cons_of_mem _ (List.mem_append_right _ (List.mem_append_left _ h0_))) hown hK hP 0 rfl rfl 4 (by decide) (hts (.fieldLink RX12 16 "DeadlineShareModel" "row" "[J") (List.mem_cons_of_mem _ (List.mem_append_left _ (List.mem_of_getElem? (i := 1) rfl)))) (fun _ h9 => h9) rfl dX12_count_73 ?_
    refine lv_iconst (v := 0) hx hb dX12_count_76 (by decide) ?_
    refine va_lald hx hb hK hP 3 2 rfl rfl (by unfold vp_in; decide) dX12_count_77 ?_
    refine k_topl (y := 0) ((congrArg fw (show Int32.toNatClampNeg 0 = 0 by decide)).trans hw0) ?_
    refine lv_l2i (v := 0) hx hb dX12_count_78 (by decide) ?_
    have hP9 := hP.sub (ws' := []) [] rfl
    have hD9 := hD.sub (ws' := []) [] (by decide) rfl
    have hK9 := hK.sub (tys' := []) [] rfl
    refine W.widen (k := 0) (n := 0) (Nat.le_of_ble_eq_true rfl) (Nat.le_of_ble_eq_true rfl) ?_
    exact W.iret (v := 0) hx hb hr (fun t ht hW => ⟨⟨0, (), rfl, (by decide), by rw [ht]; exact hP9, va_K.moved hW.alike hK9, hD9⟩, hS.F ht⟩) hS.2.2 dX12_count_79
  by_cases h_27 : wh = 1
  · subst h_27
    refine lv_tableIn (tgt := 80) hx hb dX12_count_6 (by decide) (by decide) rfl (by decide) ?_
    refine lv_aload_n hx hb dX12_count_80 rfl (lv_at hl 0 rfl) ?_
    refine lv_iconst (v := 1) hx hb dX12_count_81 (by decide) ?_
    have hPc := hP.sub (ws' := [(h0, .inr (12, [.int 0, .int 0, .ref mr, .ref mt, .ref mw, .ref mu, .ref mp, .ref mi, .ref mk, .ref ms, .int 0, .ref mv, .int 0, .int 0, .int 0, .int 0, .long 0, .int (-1), .int 0, .ref m1w, .ref m2w, .ref m3w, .ref m4w, .int 0, .long 0, .long 0, .long 0])), (mw, .inl (cm3, 906, .inr (.inl fw)))]) [0, 3] rfl
    have hDc := hD.sub (ws' := [(h0, .inr (12, [.int 0, .int 0, .ref mr, .ref mt, .ref mw, .ref mu, .ref mp, .ref mi, .ref mk, .ref ms, .int 0, .ref mv, .int 0, .int 0, .int 0, .int 0, .long 0, .int (-1), .int 0, .ref m1w, .ref m2w, .ref m3w, .ref m4w, .int 0, .long 0, .long 0, .long 0])), (mw, .inl (cm3, 906, .inr (.inl fw)))]) [0, 3] (by decide) rfl
    have hKc := hK.sub (tys' := [(cm3, .long)]) [2] rfl
    have hFc := va_free (wc := [(h0, .inr (12, [.int 0, .int 0, .ref mr, .ref mt, .ref mw, .ref mu, .ref mp, .ref mi, .ref mk, .ref ms, .int 0, .ref mv, .int 0, .int 0, .int 0, .int 0, .long 0, .int (-1), .int 0, .ref m1w, .ref m2w, .ref m3w, .ref m4w, .int 0, .long 0, .long 0, .long 0])), (mw, .inl (cm3, 906, .inr (.inl fw)))]) hD hS hA [0, 3] rfl
    refine va_calli (va_runV (As := [.int 1]) (rest := []) ⟨hx, hb, hml, hown, hts⟩ (c_X12_inState l dC dI h0 1 mr mt mw mu mp mi mk ms mv m1w m2w m3w m4w cm3 fw H.size hw0) (cwV 1 hts (gi_V (fun w_ h0_ => ⟨List.mem_cons_of_mem _ (List.mem_append_right _ (List.mem_append_right _ (List.mem_append_left _ h0_))), (tb_c_X12_inState w_ h0_).2⟩) (List.mem_cons_of_mem _ (List.mem_append_left _ (List.mem_of_getElem? (i := 2) rfl))) (List.mem_cons_of_mem _ (List.mem_append_left _ (List.mem_of_getElem? (i := 3) rfl))) (List.mem_cons_of_mem _ (List.mem_append_left _ (List.mem_of_getElem? (i := 4) rfl))) (List.mem_cons_of_mem _ (List.mem_append_left _ (List.mem_of_getElem? (i := 5) rfl)))) rfl rfl rfl (by decide +kernel) ⟨Nat.le_of_ble_eq_true rfl, Nat.le_of_ble_eq_true rfl⟩) ⟨fun a U g mk q => by obtain ⟨q0, q1, qP, qK, qD⟩ := q; exact ⟨q0, q1, qP, va_K.moved (u := U) (U := U.calling g mk a) (Vm.Alike.refl U.vm) qK, qD⟩, va_recv hKc hPc (ci := 12) (q0 := 0) rfl rfl, fun U hU hW => ⟨rfl, by rw [hU], by rw [hU]; exact hPc, va_K.moved hW.alike hKc, hDc.weaken (fun _ _ _ _ => trivial)⟩⟩ rfl rfl hl.1 rfl (lv_room (Nat.le_of_ble_eq_true rfl)) dX12_count_82 ⟨Nat.le_of_ble_eq_true rfl, Nat.le_of_ble_eq_true rfl⟩) hS (fun q _ h => hFc q h) hFc (fun r_28 u t H1 locs ht hvm hw hB hz1 hk1 hS => ?_)
    obtain ⟨hP1, hK1, hD1⟩ := hB
    rw [ht] at hP1
    have hK1 := va_K.moved hvm.symm hK1
    obtain ⟨hP, hD⟩ := va_join (wr := [(mr, .inl (cm1, 7, .inl (fun _ => 0))), (mt, .inl (cm2, 3, .inl ft))]) (w1 := [(h0, .inr (12, [.int 0, .int 0, .ref mr, .ref mt, .ref mw, .ref mu, .ref mp, .ref mi, .ref mk, .ref ms, .int 0, .ref mv, .int 0, .int 0, .int 0, .int 0, .long 0, .int (-1), .int 0, .ref m1w, .ref m2w, .ref m3w, .ref m4w, .int 0, .long 0, .long 0, .long 0])), (mw, .inl (cm3, 906, .inr (.inl fw)))]) hP hD [0, 3] [1, 2] rfl rfl (by decide) (by decide) hk1 hFc hP1 hD1
    generalize H1 = H at hP hS ⊢
    have hP : va_P (dC, dI) vwCl [(mr, .inl (cm1, 7, .inl (fun _ => 0))), (mt, .inl (cm2, 3, .inl ft)), (h0, .inr (12, [.int 0, .int 0, .ref mr, .ref mt, .ref mw, .ref mu, .ref mp, .ref mi, .ref mk, .ref ms, .int 0, .ref mv, .int 0, .int 0, .int 0, .int 0, .long 0, .int (-1), .int 0, .ref m1w, .ref m2w, .ref m3w, .ref m4w, .int 0, .long 0, .long 0, .long 0])), (mw, .inl (cm3, 906, .inr (.inl fw)))] H := hP
    have hD : va_D A [(mr, .inl (cm1, 7, .inl (fun _ => 0))), (mt, .inl (cm2, 3, .inl ft)), (h0, .inr (12, [.int 0, .int 0, .ref mr, .ref mt, .ref mw, .ref mu, .ref mp, .ref mi, .ref mk, .ref ms, .int 0, .ref mv, .int 0, .int 0, .int 0, .int 0, .long 0, .int (-1), .int 0, .ref m1w, .ref m2w, .ref m3w, .ref m4w, .int 0, .long 0, .long 0, .long 0])), (mw, .inl (cm3, 906, .inr (.inl fw)))] := hD
    refine W.widen (k := 0) (n := 0) (Nat.le_of_ble_eq_true rfl) (Nat.le_of_ble_eq_true rfl) ?_
    have hw : r_28 = 0 := hw
    subst hw
    have hP9 := hP.sub (ws' := []) [] rfl
    have hD9 := hD.sub (ws' := []) [] (by decide) rfl
    have hK9 := hK.sub (tys' := []) [] rfl
    refine W.widen (k := 0) (n := 0) (Nat.le_of_ble_eq_true rfl) (Nat.le_of_ble_eq_true rfl) ?_
    exact W.iret (v := 0) hx hb hr (fun t ht hW => ⟨⟨0, (), rfl, (by decide), by rw [ht]; exact hP9, va_K.moved hW.alike hK9, hD9⟩, hS.F ht⟩) hS.2.2 dX12_count_85
  by_cases h_29 : wh = 2
  · subst h_29
    refine lv_tableIn (tgt := 86) hx hb dX12_count_6 (by decide) (by decide) rfl (by decide) ?_
    refine lv_aload_n hx hb dX12_count_86 rfl (lv_at hl 0 rfl) ?_
    refine lv_iconst (v := 2) hx hb dX12_count_87 (by decide) ?_
    have hPc := hP.sub (ws' := [(h0, .inr (12, [.int 0, .int 0, .ref mr, .ref mt, .ref mw, .ref mu, .ref mp, .ref mi, .ref mk, .ref ms, .int 0, .ref mv, .int 0, .int 0, .int 0, .int 0, .long 0, .int (-1), .int 0, .ref m1w, .ref m2w, .ref m3w, .ref m4w, .int 0, .long 0, .long 0, .long 0])), (mw, .inl (cm3, 906, .inr (.inl fw)))]) [0, 3] rfl
    have hDc := hD.sub (ws' := [(h0, .inr (12, [.int 0, .int 0, .ref mr, .ref mt, .ref mw, .ref mu, .ref mp, .ref mi, .ref mk, .ref ms, .int 0, .ref mv, .int 0, .int 0, .int 0, .int 0, .long 0, .int (-1), .int 0, .ref m1w, .ref m2w, .ref m3w, .ref m4w, .int 0, .long 0, .long 0, .long 0])), (mw, .inl (cm3, 906, .inr (.inl fw)))]) [0, 3] (by decide) rfl
    have hKc := hK.sub (tys' := [(cm3, .long)]) [2] rfl
    have hFc := va_free (wc := [(h0, .inr (12, [.int 0, .int 0, .ref mr, .ref mt, .ref mw, .ref mu, .ref mp, .ref mi, .ref mk, .ref ms, .int 0, .ref mv, .int 0, .int 0, .int 0, .int 0, .long 0, .int (-1), .int 0, .ref m1w, .ref m2w, .ref m3w, .ref m4w, .int 0, .long 0, .long 0, .long 0])), (mw, .inl (cm3, 906, .inr (.inl fw)))]) hD hS hA [0, 3] rfl
    refine va_calli (va_runV (As := [.int 2]) (rest := []) ⟨hx, hb, hml, hown, hts⟩ (c_X12_inState l dC dI h0 2 mr mt mw mu mp mi mk ms mv m1w m2w m3w m4w cm3 fw H.size hw0) (cwV 1 hts (gi_V (fun w_ h0_ => ⟨List.mem_cons_of_mem _ (List.mem_append_right _ (List.mem_append_right _ (List.mem_append_left _ h0_))), (tb_c_X12_inState w_ h0_).2⟩) (List.mem_cons_of_mem _ (List.mem_append_left _ (List.mem_of_getElem? (i := 2) rfl))) (List.mem_cons_of_mem _ (List.mem_append_left _ (List.mem_of_getElem? (i := 3) rfl))) (List.mem_cons_of_mem _ (List.mem_append_left _ (List.mem_of_getElem? (i := 4) rfl))) (List.mem_cons_of_mem _ (List.mem_append_left _ (List.mem_of_getElem? (i := 5) rfl)))) rfl rfl rfl (by decide +kernel) ⟨Nat.le_of_ble_eq_true rfl, Nat.le_of_ble_eq_true rfl⟩) ⟨fun a U g mk q => by obtain ⟨q0, q1, qP, qK, qD⟩ := q; exact ⟨q0, q1, qP, va_K.moved (u := U) (U := U.calling g mk a) (Vm.Alike.refl U.vm) qK, qD⟩, va_recv hKc hPc (ci := 12) (q0 := 0) rfl rfl, fun U hU hW => ⟨rfl, by rw [hU], by rw [hU]; exact hPc, va_K.moved hW.alike hKc, hDc.weaken (fun _ _ _ _ => trivial)⟩⟩ rfl rfl hl.1 rfl (lv_room (Nat.le_of_ble_eq_true rfl)) dX12_count_88 ⟨Nat.le_of_ble_eq_true rfl, Nat.le_of_ble_eq_true rfl⟩) hS (fun q _ h => hFc q h) hFc (fun r_30 u t H1 locs ht hvm hw hB hz1 hk1 hS => ?_)
    obtain ⟨hP1, hK1, hD1⟩ := hB
    rw [ht] at hP1
    have hK1 := va_K.moved hvm.symm hK1
    obtain ⟨hP, hD⟩ := va_join (wr := [(mr, .inl (cm1, 7, .inl (fun _ => 0))), (mt, .inl (cm2, 3, .inl ft))]) (w1 := [(h0, .inr (12, [.int 0, .int 0, .ref mr, .ref mt, .ref mw, .ref mu, .ref mp, .ref mi, .ref mk, .ref ms, .int 0, .ref mv, .int 0, .int 0, .int 0, .int 0, .long 0, .int (-1), .int 0, .ref m1w, .ref m2w, .ref m3w, .ref m4w, .int 0, .long 0, .long 0, .long 0])), (mw, .inl (cm3, 906, .inr (.inl fw)))]) hP hD [0, 3] [1, 2] rfl rfl (by decide) (by decide) hk1 hFc hP1 hD1
    generalize H1 = H at hP hS ⊢
    have hP : va_P (dC, dI) vwCl [(mr, .inl (cm1, 7, .inl (fun _ => 0))), (mt, .inl (cm2, 3, .inl ft)), (h0, .inr (12, [.int 0, .int 0, .ref mr, .ref mt, .ref mw, .ref mu, .ref mp, .ref mi, .ref mk, .ref ms, .int 0, .ref mv, .int 0, .int 0, .int 0, .int 0, .long 0, .int (-1), .int 0, .ref m1w, .ref m2w, .ref m3w, .ref m4w, .int 0, .long 0, .long 0, .long 0])), (mw, .inl (cm3, 906, .inr (.inl fw)))] H := hP
    have hD : va_D A [(mr, .inl (cm1, 7, .inl (fun _ => 0))), (mt, .inl (cm2, 3, .inl ft)), (h0, .inr (12, [.int 0, .int 0, .ref mr, .ref mt, .ref mw, .ref mu, .ref mp, .ref mi, .ref mk, .ref ms, .int 0, .ref mv, .int 0, .int 0, .int 0, .int 0, .long 0, .int (-1), .int 0, .ref m1w, .ref m2w, .ref m3w, .ref m4w, .int 0, .long 0, .long 0, .long 0])), (mw, .inl (cm3, 906, .inr (.inl fw)))] := hD
    refine W.widen (k := 0) (n := 0) (Nat.le_of_ble_eq_true rfl) (Nat.le_of_ble_eq_true rfl) ?_
    have hw : r_30 = 0 := hw
    subst hw
    have hP9 := hP.sub (ws' := []) [] rfl
    have hD9 := hD.sub (ws' := []) [] (by decide) rfl
    have hK9 := hK.sub (tys' := []) [] rfl
    refine W.widen (k := 0) (n := 0) (Nat.le_of_ble_eq_true rfl) (Nat.le_of_ble_eq_true rfl) ?_
    exact W.iret (v := 0) hx hb hr (fun t ht hW => ⟨⟨0, (), rfl, (by decide), by rw [ht]; exact hP9, va_K.moved hW.alike hK9, hD9⟩, hS.F ht⟩) hS.2.2 dX12_count_91
  by_cases h_31 : wh = 3
  · subst h_31
    refine lv_tableIn (tgt := 92) hx hb dX12_count_6 (by decide) (by decide) rfl (by decide) ?_
    refine lv_aload_n hx hb dX12_count_92 rfl (lv_at hl 0 rfl) ?_
    have hPc := hP.sub (ws' := [(h0, .inr (12, [.int 0, .int 0, .ref mr, .ref mt, .ref mw, .ref mu, .ref mp, .ref mi, .ref mk, .ref ms, .int 0, .ref mv, .int 0, .int 0, .int 0, .int 0, .long 0, .int (-1), .int 0, .ref m1w, .ref m2w, .ref m3w, .ref m4w, .int 0, .long 0, .long 0, .long 0])), (mw, .inl (cm3, 906, .inr (.inl fw)))]) [0, 3] rfl
    have hDc := hD.sub (ws' := [(h0, .inr (12, [.int 0, .int 0, .ref mr, .ref mt, .ref mw, .ref mu, .ref mp, .ref mi, .ref mk, .ref ms, .int 0, .ref mv, .int 0, .int 0, .int 0, .int 0, .long 0, .int (-1), .int 0, .ref m1w, .ref m2w, .ref m3w, .ref m4w, .int 0, .long 0, .long 0, .long 0])), (mw, .inl (cm3, 906, .inr (.inl fw)))]) [0, 3] (by decide) rfl
    have hKc := hK.sub (tys' := [(cm3, .long)]) [2] rfl
    have hFc := va_free (wc := [(h0, .inr (12, [.int 0, .int 0, .ref mr, .ref mt, .ref mw, .ref mu, .ref mp, .ref mi, .ref mk, .ref ms, .int 0, .ref mv, .int 0, .int 0, .int 0, .int 0, .long 0, .int (-1), .int 0, .ref m1w, .ref m2w, .ref m3w, .ref m4w, .int 0, .long 0, .long 0, .long 0])), (mw, .inl (cm3, 906, .inr (.inl fw)))]) hD hS hA [0, 3] rfl
    refine va_calli (va_runV (As := []) (rest := []) ⟨hx, hb, hml, hown, hts⟩ (c_X12_scripted l dC dI h0 mr mt mw mu mp mi mk ms mv m1w m2w m3w m4w cm3 fw H.size hw0) (cwV 0 hts (gi_V (fun w_ h0_ => ⟨List.mem_cons_of_mem _ (List.mem_append_right _ (List.mem_append_right _ (List.mem_append_right _ (List.mem_append_left _ h0_)))), (tb_c_X12_scripted w_ h0_).2⟩) (List.mem_cons_of_mem _ (List.mem_append_left _ (List.mem_of_getElem? (i := 6) rfl))) (List.mem_cons_of_mem _ (List.mem_append_left _ (List.mem_of_getElem? (i := 7) rfl))) (List.mem_cons_of_mem _ (List.mem_append_left _ (List.mem_of_getElem? (i := 8) rfl))) (List.mem_cons_of_mem _ (List.mem_append_left _ (List.mem_of_getElem? (i := 5) rfl)))) rfl rfl rfl (by decide +kernel) ⟨Nat.le_of_ble_eq_true rfl, Nat.le_of_ble_eq_true rfl⟩) ⟨fun a U g mk q => by obtain ⟨q0, q1, qP, qK, qD⟩ := q; exact ⟨q0, q1, qP, va_K.moved (u := U) (U := U.calling g mk a) (Vm.Alike.refl U.vm) qK, qD⟩, va_recv hKc hPc (ci := 12) (q0 := 0) rfl rfl, fun U hU hW => ⟨rfl, by rw [hU], by rw [hU]; exact hPc, va_K.moved hW.alike hKc, hDc.weaken (fun _ _ _ _ => trivial)⟩⟩ rfl rfl hl.1 rfl (lv_room (Nat.le_of_ble_eq_true rfl)) dX12_count_93 ⟨Nat.le_of_ble_eq_true rfl, Nat.le_of_ble_eq_true rfl⟩) hS (fun q _ h => hFc q h) hFc (fun r_32 u t H1 locs ht hvm hw hB hz1 hk1 hS => ?_)
    obtain ⟨hP1, hK1, hD1⟩ := hB
    rw [ht] at hP1
    have hK1 := va_K.moved hvm.symm hK1
    obtain ⟨hP, hD⟩ := va_join (wr := [(mr, .inl (cm1, 7, .inl (fun _ => 0))), (mt, .inl (cm2, 3, .inl ft))]) (w1 := [(h0, .inr (12, [.int 0, .int 0, .ref mr, .ref mt, .ref mw, .ref mu, .ref mp, .ref mi, .ref mk, .ref ms, .int 0, .ref mv, .int 0, .int 0, .int 0, .int 0, .long 0, .int (-1), .int 0, .ref m1w, .ref m2w, .ref m3w, .ref m4w, .int 0, .long 0, .long 0, .long 0])), (mw, .inl (cm3, 906, .inr (.inl fw)))]) hP hD [0, 3] [1, 2] rfl rfl (by decide) (by decide) hk1 hFc hP1 hD1
    generalize H1 = H at hP hS ⊢
    have hP : va_P (dC, dI) vwCl [(mr, .inl (cm1, 7, .inl (fun _ => 0))), (mt, .inl (cm2, 3, .inl ft)), (h0, .inr (12, [.int 0, .int 0, .ref mr, .ref mt, .ref mw, .ref mu, .ref mp, .ref mi, .ref mk, .ref ms, .int 0, .ref mv, .int 0, .int 0, .int 0, .int 0, .long 0, .int (-1), .int 0, .ref m1w, .ref m2w, .ref m3w, .ref m4w, .int 0, .long 0, .long 0, .long 0])), (mw, .inl (cm3, 906, .inr (.inl fw)))] H := hP
    have hD : va_D A [(mr, .inl (cm1, 7, .inl (fun _ => 0))), (mt, .inl (cm2, 3, .inl ft)), (h0, .inr (12, [.int 0, .int 0, .ref mr, .ref mt, .ref mw, .ref mu, .ref mp, .ref mi, .ref mk, .ref ms, .int 0, .ref mv, .int 0, .int 0, .int 0, .int 0, .long 0, .int (-1), .int 0, .ref m1w, .ref m2w, .ref m3w, .ref m4w, .int 0, .long 0, .long 0, .long 0])), (mw, .inl (cm3, 906, .inr (.inl fw)))] := hD
    refine W.widen (k := 0) (n := 0) (Nat.le_of_ble_eq_true rfl) (Nat.le_of_ble_eq_true rfl) ?_
    have hw : r_32 = 0 := hw
    subst hw
    have hP9 := hP.sub (ws' := []) [] rfl
    have hD9 := hD.sub (ws' := []) [] (by decide) rfl
    have hK9 := hK.sub (tys' := []) [] rfl
    refine W.widen (k := 0) (n := 0) (Nat.le_of_ble_eq_true rfl) (Nat.le_of_ble_eq_true rfl) ?_
    exact W.iret (v := 0) hx hb hr (fun t ht hW => ⟨⟨0, (), rfl, (by decide), by rw [ht]; exact hP9, va_K.moved hW.alike hK9, hD9⟩, hS.F ht⟩) hS.2.2 dX12_count_96
  by_cases h_33 : wh = 4
  · subst h_33
    refine lv_tableIn (tgt := 97) hx hb dX12_count_6 (by decide) (by decide) rfl (by decide) ?_
    refine lv_aload_n hx hb dX12_count_97 rfl (lv_at hl 0 rfl) ?_
    refine va_get (D := (dC, dI)) (ci := 12) (v := .ref mw) (C := RX12) (T := TX12) (N := 27) hx hb hts (fun _ h0_ => List.mem_cons_of_mem _ (List.mem_append_right _ (List.mem_append_left _ h0_))) hown hK hP 0 rfl rfl 4 (by decide) (hts (.fieldLink RX12 16 "DeadlineShareModel" "row" "[J") (List.mem_cons_of_mem _ (List.mem_append_left _ (List.mem_of_getElem? (i := 1) rfl)))) (fun _ h9 => h9) rfl dX12_count_98 ?_
    refine lv_iconst (v := 3) hx hb dX12_count_101 (by decide) ?_
    refine va_lald hx hb hK hP 3 2 rfl rfl (by unfold vp_in; decide) dX12_count_102 ?_
    refine k_topl (y := (-1)) ((congrArg fw (show Int32.toNatClampNeg 3 = 3 by decide)).trans hw3) ?_
    refine lv_l2i (v := (-1)) hx hb dX12_count_103 (by decide) ?_
    have hP9 := hP.sub (ws' := []) [] rfl
    have hD9 := hD.sub (ws' := []) [] (by decide) rfl
    have hK9 := hK.sub (tys' := []) [] rfl
    refine W.widen (k := 0) (n := 0) (Nat.le_of_ble_eq_true rfl) (Nat.le_of_ble_eq_true rfl) ?_
    exact W.iret (v := (-1)) hx hb hr (fun t ht hW => ⟨⟨(-1), (), rfl, (by decide), by rw [ht]; exact hP9, va_K.moved hW.alike hK9, hD9⟩, hS.F ht⟩) hS.2.2 dX12_count_104
  by_cases h_34 : wh = 5
  · subst h_34
    refine lv_tableIn (tgt := 105) hx hb dX12_count_6 (by decide) (by decide) rfl (by decide) ?_
    refine lv_aload_n hx hb dX12_count_105 rfl (lv_at hl 0 rfl) ?_
    refine va_get (D := (dC, dI)) (ci := 12) (v := .ref mw) (C := RX12) (T := TX12) (N := 27) hx hb hts (fun _ h0_ => List.mem_cons_of_mem _ (List.mem_append_right _ (List.mem_append_left _ h0_))) hown hK hP 0 rfl rfl 4 (by decide) (hts (.fieldLink RX12 16 "DeadlineShareModel" "row" "[J") (List.mem_cons_of_mem _ (List.mem_append_left _ (List.mem_of_getElem? (i := 1) rfl)))) (fun _ h9 => h9) rfl dX12_count_106 ?_
    refine lv_iconst (v := 5) hx hb dX12_count_109 (by decide) ?_
    refine va_lald hx hb hK hP 3 2 rfl rfl (by unfold vp_in; decide) dX12_count_110 ?_
    refine k_topl (y := 0) ((congrArg fw (show Int32.toNatClampNeg 5 = 5 by decide)).trans hw5) ?_
    refine lv_l2i (v := 0) hx hb dX12_count_111 (by decide) ?_
    have hP9 := hP.sub (ws' := []) [] rfl
    have hD9 := hD.sub (ws' := []) [] (by decide) rfl
    have hK9 := hK.sub (tys' := []) [] rfl
    refine W.widen (k := 0) (n := 0) (Nat.le_of_ble_eq_true rfl) (Nat.le_of_ble_eq_true rfl) ?_
    exact W.iret (v := 0) hx hb hr (fun t ht hW => ⟨⟨0, (), rfl, (by decide), by rw [ht]; exact hP9, va_K.moved hW.alike hK9, hD9⟩, hS.F ht⟩) hS.2.2 dX12_count_112
  by_cases h_35 : wh = 6
  · subst h_35
    refine lv_tableIn (tgt := 113) hx hb dX12_count_6 (by decide) (by decide) rfl (by decide) ?_
    refine lv_aload_n hx hb dX12_count_113 rfl (lv_at hl 0 rfl) ?_
    refine va_get (D := (dC, dI)) (ci := 12) (v := .int 0) (C := RX12) (T := TX12) (N := 27) hx hb hts (fun _ h0_ => List.mem_cons_of_mem _ (List.mem_append_right _ (List.mem_append_left _ h0_))) hown hK hP 0 rfl rfl 10 (by decide) (hts (.fieldLink RX12 73 "DeadlineShareModel" "nUndo" "I") (List.mem_cons_of_mem _ (List.mem_append_left _ (List.mem_of_getElem? (i := 9) rfl)))) (fun _ h9 => h9) rfl dX12_count_114 ?_
    have hP9 := hP.sub (ws' := []) [] rfl
    have hD9 := hD.sub (ws' := []) [] (by decide) rfl
    have hK9 := hK.sub (tys' := []) [] rfl
    refine W.widen (k := 0) (n := 0) (Nat.le_of_ble_eq_true rfl) (Nat.le_of_ble_eq_true rfl) ?_
    exact W.iret (v := 0) hx hb hr (fun t ht hW => ⟨⟨0, (), rfl, (by decide), by rw [ht]; exact hP9, va_K.moved hW.alike hK9, hD9⟩, hS.F ht⟩) hS.2.2 dX12_count_117
  by_cases h_36 : wh = 7
  · subst h_36
    refine lv_tableIn (tgt := 118) hx hb dX12_count_6 (by decide) (by decide) rfl (by decide) ?_
    refine lv_aload_n hx hb dX12_count_118 rfl (lv_at hl 0 rfl) ?_
    refine va_get (D := (dC, dI)) (ci := 12) (v := .int 0) (C := RX12) (T := TX12) (N := 27) hx hb hts (fun _ h0_ => List.mem_cons_of_mem _ (List.mem_append_right _ (List.mem_append_left _ h0_))) hown hK hP 0 rfl rfl 12 (by decide) (hts (.fieldLink RX12 128 "DeadlineShareModel" "taped" "I") (List.mem_cons_of_mem _ (List.mem_append_left _ (List.mem_of_getElem? (i := 10) rfl)))) (fun _ h9 => h9) rfl dX12_count_119 ?_
    have hP9 := hP.sub (ws' := []) [] rfl
    have hD9 := hD.sub (ws' := []) [] (by decide) rfl
    have hK9 := hK.sub (tys' := []) [] rfl
    refine W.widen (k := 0) (n := 0) (Nat.le_of_ble_eq_true rfl) (Nat.le_of_ble_eq_true rfl) ?_
    exact W.iret (v := 0) hx hb hr (fun t ht hW => ⟨⟨0, (), rfl, (by decide), by rw [ht]; exact hP9, va_K.moved hW.alike hK9, hD9⟩, hS.F ht⟩) hS.2.2 dX12_count_122
  by_cases h_37 : wh = 8
  · subst h_37
    refine lv_tableIn (tgt := 123) hx hb dX12_count_6 (by decide) (by decide) rfl (by decide) ?_
    refine lv_aload_n hx hb dX12_count_123 rfl (lv_at hl 0 rfl) ?_
    refine va_get (D := (dC, dI)) (ci := 12) (v := .ref mr) (C := RX12) (T := TX12) (N := 27) hx hb hts (fun _ h0_ => List.mem_cons_of_mem _ (List.mem_append_right _ (List.mem_append_left _ h0_))) hown hK hP 0 rfl rfl 2 (by decide) (hts (.fieldLink RX12 7 "DeadlineShareModel" "refusals" "[I") (List.mem_cons_of_mem _ (List.mem_append_left _ (List.mem_of_getElem? (i := 11) rfl)))) (fun _ h9 => h9) rfl dX12_count_124 ?_
    refine lv_iconst (v := 1) hx hb dX12_count_127 (by decide) ?_
    refine va_iald hx hb hK hP 1 0 rfl rfl (by unfold vp_in; decide) dX12_count_128 ?_
    refine k_topi (y := 0) rfl ?_
    have hP9 := hP.sub (ws' := []) [] rfl
    have hD9 := hD.sub (ws' := []) [] (by decide) rfl
    have hK9 := hK.sub (tys' := []) [] rfl
    refine W.widen (k := 0) (n := 0) (Nat.le_of_ble_eq_true rfl) (Nat.le_of_ble_eq_true rfl) ?_
    exact W.iret (v := 0) hx hb hr (fun t ht hW => ⟨⟨0, (), rfl, (by decide), by rw [ht]; exact hP9, va_K.moved hW.alike hK9, hD9⟩, hS.F ht⟩) hS.2.2 dX12_count_129
  by_cases h_38 : wh = 9
  · subst h_38
    refine lv_tableIn (tgt := 130) hx hb dX12_count_6 (by decide) (by decide) rfl (by decide) ?_
    refine lv_aload_n hx hb dX12_count_130 rfl (lv_at hl 0 rfl) ?_
    refine va_get (D := (dC, dI)) (ci := 12) (v := .ref mr) (C := RX12) (T := TX12) (N := 27) hx hb hts (fun _ h0_ => List.mem_cons_of_mem _ (List.mem_append_right _ (List.mem_append_left _ h0_))) hown hK hP 0 rfl rfl 2 (by decide) (hts (.fieldLink RX12 7 "DeadlineShareModel" "refusals" "[I") (List.mem_cons_of_mem _ (List.mem_append_left _ (List.mem_of_getElem? (i := 11) rfl)))) (fun _ h9 => h9) rfl dX12_count_131 ?_
    refine lv_iconst (v := 2) hx hb dX12_count_134 (by decide) ?_
    refine va_iald hx hb hK hP 1 0 rfl rfl (by unfold vp_in; decide) dX12_count_135 ?_
    refine k_topi (y := 0) rfl ?_
    have hP9 := hP.sub (ws' := []) [] rfl
    have hD9 := hD.sub (ws' := []) [] (by decide) rfl
    have hK9 := hK.sub (tys' := []) [] rfl
    refine W.widen (k := 0) (n := 0) (Nat.le_of_ble_eq_true rfl) (Nat.le_of_ble_eq_true rfl) ?_
    exact W.iret (v := 0) hx hb hr (fun t ht hW => ⟨⟨0, (), rfl, (by decide), by rw [ht]; exact hP9, va_K.moved hW.alike hK9, hD9⟩, hS.F ht⟩) hS.2.2 dX12_count_136
  by_cases h_39 : wh = 10
  · subst h_39
    refine lv_tableIn (tgt := 137) hx hb dX12_count_6 (by decide) (by decide) rfl (by decide) ?_
    refine lv_aload_n hx hb dX12_count_137 rfl (lv_at hl 0 rfl) ?_
    refine va_get (D := (dC, dI)) (ci := 12) (v := .ref mr) (C := RX12) (T := TX12) (N := 27) hx hb hts (fun _ h0_ => List.mem_cons_of_mem _ (List.mem_append_right _ (List.mem_append_left _ h0_))) hown hK hP 0 rfl rfl 2 (by decide) (hts (.fieldLink RX12 7 "DeadlineShareModel" "refusals" "[I") (List.mem_cons_of_mem _ (List.mem_append_left _ (List.mem_of_getElem? (i := 11) rfl)))) (fun _ h9 => h9) rfl dX12_count_138 ?_
    refine lv_iconst (v := 4) hx hb dX12_count_141 (by decide) ?_
    refine va_iald hx hb hK hP 1 0 rfl rfl (by unfold vp_in; decide) dX12_count_142 ?_
    refine k_topi (y := 0) rfl ?_
    have hP9 := hP.sub (ws' := []) [] rfl
    have hD9 := hD.sub (ws' := []) [] (by decide) rfl
    have hK9 := hK.sub (tys' := []) [] rfl
    refine W.widen (k := 0) (n := 0) (Nat.le_of_ble_eq_true rfl) (Nat.le_of_ble_eq_true rfl) ?_
    exact W.iret (v := 0) hx hb hr (fun t ht hW => ⟨⟨0, (), rfl, (by decide), by rw [ht]; exact hP9, va_K.moved hW.alike hK9, hD9⟩, hS.F ht⟩) hS.2.2 dX12_count_143
  by_cases h_40 : wh = 11
  · subst h_40
    refine lv_tableIn (tgt := 144) hx hb dX12_count_6 (by decide) (by decide) rfl (by decide) ?_
    refine lv_aload_n hx hb dX12_count_144 rfl (lv_at hl 0 rfl) ?_
    refine va_get (D := (dC, dI)) (ci := 12) (v := .ref mr) (C := RX12) (T := TX12) (N := 27) hx hb hts (fun _ h0_ => List.mem_cons_of_mem _ (List.mem_append_right _ (List.mem_append_left _ h0_))) hown hK hP 0 rfl rfl 2 (by decide) (hts (.fieldLink RX12 7 "DeadlineShareModel" "refusals" "[I") (List.mem_cons_of_mem _ (List.mem_append_left _ (List.mem_of_getElem? (i := 11) rfl)))) (fun _ h9 => h9) rfl dX12_count_145 ?_
    refine lv_iconst (v := 5) hx hb dX12_count_148 (by decide) ?_
    refine va_iald hx hb hK hP 1 0 rfl rfl (by unfold vp_in; decide) dX12_count_149 ?_
    refine k_topi (y := 0) rfl ?_
    have hP9 := hP.sub (ws' := []) [] rfl
    have hD9 := hD.sub (ws' := []) [] (by decide) rfl
    have hK9 := hK.sub (tys' := []) [] rfl
    refine W.widen (k := 0) (n := 0) (Nat.le_of_ble_eq_true rfl) (Nat.le_of_ble_eq_true rfl) ?_
    exact W.iret (v := 0) hx hb hr (fun t ht hW => ⟨⟨0, (), rfl, (by decide), by rw [ht]; exact hP9, va_K.moved hW.alike hK9, hD9⟩, hS.F ht⟩) hS.2.2 dX12_count_150
  by_cases h_41 : wh = 12
  · subst h_41
    refine lv_tableIn (tgt := 151) hx hb dX12_count_6 (by decide) (by decide) rfl (by decide) ?_
    refine lv_aload_n hx hb dX12_count_151 rfl (lv_at hl 0 rfl) ?_
    refine va_get (D := (dC, dI)) (ci := 12) (v := .ref mr) (C := RX12) (T := TX12) (N := 27) hx hb hts (fun _ h0_ => List.mem_cons_of_mem _ (List.mem_append_right _ (List.mem_append_left _ h0_))) hown hK hP 0 rfl rfl 2 (by decide) (hts (.fieldLink RX12 7 "DeadlineShareModel" "refusals" "[I") (List.mem_cons_of_mem _ (List.mem_append_left _ (List.mem_of_getElem? (i := 11) rfl)))) (fun _ h9 => h9) rfl dX12_count_152 ?_
    refine lv_bipush (v := 6) hx hb dX12_count_155 (by decide) ?_
    refine va_iald hx hb hK hP 1 0 rfl rfl (by unfold vp_in; decide) dX12_count_157 ?_
    refine k_topi (y := 0) rfl ?_
    have hP9 := hP.sub (ws' := []) [] rfl
    have hD9 := hD.sub (ws' := []) [] (by decide) rfl
    have hK9 := hK.sub (tys' := []) [] rfl
    refine W.widen (k := 0) (n := 0) (Nat.le_of_ble_eq_true rfl) (Nat.le_of_ble_eq_true rfl) ?_
    exact W.iret (v := 0) hx hb hr (fun t ht hW => ⟨⟨0, (), rfl, (by decide), by rw [ht]; exact hP9, va_K.moved hW.alike hK9, hD9⟩, hS.F ht⟩) hS.2.2 dX12_count_158
  have z_42 := lv_neT (a := 0) h_26 (by decide)
  have z_43 := lv_neT (a := 1) h_27 (by decide)
  have z_44 := lv_neT (a := 2) h_29 (by decide)
  have z_45 := lv_neT (a := 3) h_31 (by decide)
  have z_46 := lv_neT (a := 4) h_33 (by decide)
  have z_47 := lv_neT (a := 5) h_34 (by decide)
  have z_48 := lv_neT (a := 6) h_35 (by decide)
  have z_49 := lv_neT (a := 7) h_36 (by decide)
  have z_50 := lv_neT (a := 8) h_37 (by decide)
  have z_51 := lv_neT (a := 9) h_38 (by decide)
  have z_52 := lv_neT (a := 10) h_39 (by decide)
  have z_53 := lv_neT (a := 11) h_40 (by decide)
  have z_54 := lv_neT (a := 12) h_41 (by decide)
  refine lv_tableOut (tgt := 159) hx hb dX12_count_6 (by omega) (by decide) ?_
  refine lv_iload_n hx hb dX12_count_159 rfl (lv_at hl 1 rfl) ?_
  refine lv_i2l (v := wh.toInt64) hx hb dX12_count_160 rfl ?_
  refine lv_ldc2 hx hb hown (hts (.constantLong RX12 340 (13)) (List.mem_cons_of_mem _ (List.mem_append_left _ (List.mem_of_getElem? (i := 12) rfl)))) dX12_count_161 ?_
  refine lv_ldc2 hx hb hown (hts (.constantLong RX12 304 (15)) (List.mem_cons_of_mem _ (List.mem_append_left _ (List.mem_of_getElem? (i := 13) rfl)))) dX12_count_164 ?_
  have hPc := hP.sub (ws' := []) [] rfl
  have hDc := hD.sub (ws' := []) [] (by decide) rfl
  have hKc := hK.sub (tys' := []) [] rfl
  have hFc := va_free (wc := []) hD hS hA [] rfl
  refine va_calli (va_runS (As := [.long wh.toInt64, .long 13, .long 15]) (rest := []) ⟨hx, hb, hml, hown, hts⟩ (c_X12_in l dC dI wh.toInt64 13 15 H.size) (va_cwS 3 hts (gi_S (fun w_ h0_ => ⟨List.mem_cons_of_mem _ (List.mem_append_right _ (List.mem_append_right _ (List.mem_append_right _ (List.mem_append_right _ (List.mem_append_left _ h0_))))), (tb_c_X12_in w_ h0_).2⟩) (List.mem_cons_of_mem _ (List.mem_append_left _ (List.mem_of_getElem? (i := 14) rfl))) (List.mem_cons_of_mem _ (List.mem_append_left _ (List.mem_of_getElem? (i := 15) rfl))) (List.mem_cons_of_mem _ (List.mem_append_left _ (List.mem_of_getElem? (i := 5) rfl)))) rfl rfl rfl (by decide +kernel) ⟨Nat.le_of_ble_eq_true rfl, Nat.le_of_ble_eq_true rfl⟩) ⟨fun a U g mk q => by obtain ⟨q0, q1, qP, qK, qD⟩ := q; exact ⟨q0, q1, qP, va_K.moved (u := U) (U := U.calling g mk a) (Vm.Alike.refl U.vm) qK, qD⟩, fun U hU hW => ⟨rfl, by rw [hU], by rw [hU]; exact hPc, va_K.moved hW.alike hKc, hDc.weaken (fun _ _ _ _ => trivial)⟩⟩ rfl rfl hl.1 rfl (lv_room (Nat.le_of_ble_eq_true rfl)) dX12_count_167 ⟨Nat.le_of_ble_eq_true rfl, Nat.le_of_ble_eq_true rfl⟩) hS (fun q _ h => hFc q h) hFc (fun r_55 u t H1 locs ht hvm hw hB hz1 hk1 hS => ?_)
  obtain ⟨hP1, hK1, hD1⟩ := hB
  rw [ht] at hP1
  have hK1 := va_K.moved hvm.symm hK1
  obtain ⟨hP, hD⟩ := va_join (wr := [(h0, .inr (12, [.int 0, .int 0, .ref mr, .ref mt, .ref mw, .ref mu, .ref mp, .ref mi, .ref mk, .ref ms, .int 0, .ref mv, .int 0, .int 0, .int 0, .int 0, .long 0, .int (-1), .int 0, .ref m1w, .ref m2w, .ref m3w, .ref m4w, .int 0, .long 0, .long 0, .long 0])), (mr, .inl (cm1, 7, .inl (fun _ => 0))), (mt, .inl (cm2, 3, .inl ft)), (mw, .inl (cm3, 906, .inr (.inl fw)))]) (w1 := []) hP hD [] [0, 1, 2, 3] rfl rfl (by decide) (by decide) hk1 hFc hP1 hD1
  generalize H1 = H at hP hS ⊢
  have hP : va_P (dC, dI) vwCl [(h0, .inr (12, [.int 0, .int 0, .ref mr, .ref mt, .ref mw, .ref mu, .ref mp, .ref mi, .ref mk, .ref ms, .int 0, .ref mv, .int 0, .int 0, .int 0, .int 0, .long 0, .int (-1), .int 0, .ref m1w, .ref m2w, .ref m3w, .ref m4w, .int 0, .long 0, .long 0, .long 0])), (mr, .inl (cm1, 7, .inl (fun _ => 0))), (mt, .inl (cm2, 3, .inl ft)), (mw, .inl (cm3, 906, .inr (.inl fw)))] H := hP
  have hD : va_D A [(h0, .inr (12, [.int 0, .int 0, .ref mr, .ref mt, .ref mw, .ref mu, .ref mp, .ref mi, .ref mk, .ref ms, .int 0, .ref mv, .int 0, .int 0, .int 0, .int 0, .long 0, .int (-1), .int 0, .ref m1w, .ref m2w, .ref m3w, .ref m4w, .int 0, .long 0, .long 0, .long 0])), (mr, .inl (cm1, 7, .inl (fun _ => 0))), (mt, .inl (cm2, 3, .inl ft)), (mw, .inl (cm3, 906, .inr (.inl fw)))] := hD
  refine W.widen (k := 0) (n := 0) (Nat.le_of_ble_eq_true rfl) (Nat.le_of_ble_eq_true rfl) ?_
  have hw : r_55 = sp_in wh.toInt64 13 15 := hw
  subst hw
  refine k_topi (y := sp_r wh 13 15) (sp_in_r _ _ _ (by decide) (by decide)) ?_
  refine lv_if_eq (tgt := 185) hx hb dX12_count_170 (by decide) (fun _ => ?_) (fun c => absurd ((sp_r0 _ _ _).mpr (by have nh_1 := lv_neT (a := 0) h_1 (by decide); have nh_2 := lv_neT (a := 1) h_2 (by decide); have nh_4 := lv_neT (a := 2) h_4 (by decide); have nh_6 := lv_neT (a := 3) h_6 (by decide); have nh_8 := lv_neT (a := 4) h_8 (by decide); have nh_9 := lv_neT (a := 5) h_9 (by decide); have nh_10 := lv_neT (a := 6) h_10 (by decide); have nh_11 := lv_neT (a := 7) h_11 (by decide); have nh_12 := lv_neT (a := 8) h_12 (by decide); have nh_13 := lv_neT (a := 9) h_13 (by decide); have nh_14 := lv_neT (a := 10) h_14 (by decide); have nh_15 := lv_neT (a := 11) h_15 (by decide); have nh_16 := lv_neT (a := 12) h_16 (by decide); have nh_17 := lv_neT (a := 13) h_17 (by decide); have nh_19 := lv_neT (a := 14) h_19 (by decide); have nh_21 := lv_neT (a := 15) h_21 (by decide); have nh_23 := lv_neT (a := 16) h_23 (by decide); have nh_26 := lv_neT (a := 0) h_26 (by decide); have nh_27 := lv_neT (a := 1) h_27 (by decide); have nh_29 := lv_neT (a := 2) h_29 (by decide); have nh_31 := lv_neT (a := 3) h_31 (by decide); have nh_33 := lv_neT (a := 4) h_33 (by decide); have nh_34 := lv_neT (a := 5) h_34 (by decide); have nh_35 := lv_neT (a := 6) h_35 (by decide); have nh_36 := lv_neT (a := 7) h_36 (by decide); have nh_37 := lv_neT (a := 8) h_37 (by decide); have nh_38 := lv_neT (a := 9) h_38 (by decide); have nh_39 := lv_neT (a := 10) h_39 (by decide); have nh_40 := lv_neT (a := 11) h_40 (by decide); have nh_41 := lv_neT (a := 12) h_41 (by decide); skip; omega)) c)
  refine lv_iload_n hx hb dX12_count_185 rfl (lv_at hl 1 rfl) ?_
  refine lv_bipush (v := 16) hx hb dX12_count_186 (by decide) ?_
  refine lv_icmp_ne (tgt := 199) hx hb dX12_count_188 (by decide) (fun _ => ?_) (fun c => (fun c9 => absurd c9 (fun h8 => by have h7 := (fa_eq _ _).mp h8; have nh_1 := lv_neT (a := 0) h_1 (by decide); have nh_2 := lv_neT (a := 1) h_2 (by decide); have nh_4 := lv_neT (a := 2) h_4 (by decide); have nh_6 := lv_neT (a := 3) h_6 (by decide); have nh_8 := lv_neT (a := 4) h_8 (by decide); have nh_9 := lv_neT (a := 5) h_9 (by decide); have nh_10 := lv_neT (a := 6) h_10 (by decide); have nh_11 := lv_neT (a := 7) h_11 (by decide); have nh_12 := lv_neT (a := 8) h_12 (by decide); have nh_13 := lv_neT (a := 9) h_13 (by decide); have nh_14 := lv_neT (a := 10) h_14 (by decide); have nh_15 := lv_neT (a := 11) h_15 (by decide); have nh_16 := lv_neT (a := 12) h_16 (by decide); have nh_17 := lv_neT (a := 13) h_17 (by decide); have nh_19 := lv_neT (a := 14) h_19 (by decide); have nh_21 := lv_neT (a := 15) h_21 (by decide); have nh_23 := lv_neT (a := 16) h_23 (by decide); have nh_26 := lv_neT (a := 0) h_26 (by decide); have nh_27 := lv_neT (a := 1) h_27 (by decide); have nh_29 := lv_neT (a := 2) h_29 (by decide); have nh_31 := lv_neT (a := 3) h_31 (by decide); have nh_33 := lv_neT (a := 4) h_33 (by decide); have nh_34 := lv_neT (a := 5) h_34 (by decide); have nh_35 := lv_neT (a := 6) h_35 (by decide); have nh_36 := lv_neT (a := 7) h_36 (by decide); have nh_37 := lv_neT (a := 8) h_37 (by decide); have nh_38 := lv_neT (a := 9) h_38 (by decide); have nh_39 := lv_neT (a := 10) h_39 (by decide); have nh_40 := lv_neT (a := 11) h_40 (by decide); have nh_41 := lv_neT (a := 12) h_41 (by decide); have li16 : Int32.toInt 16 = 16 := (by decide); skip; omega)) c)
  refine lv_iconst (v := (-1)) hx hb dX12_count_199 (by decide) ?_
  have hP9 := hP.sub (ws' := []) [] rfl
  have hD9 := hD.sub (ws' := []) [] (by decide) rfl
  have hK9 := hK.sub (tys' := []) [] rfl
  refine W.widen (k := 0) (n := 0) (Nat.le_of_ble_eq_true rfl) (Nat.le_of_ble_eq_true rfl) ?_
  exact W.iret (v := (-1)) hx hb hr (fun t ht hW => ⟨⟨(-1), (), rfl, (by have nh_1 := lv_neT (a := 0) h_1 (by decide); have nh_2 := lv_neT (a := 1) h_2 (by decide); have nh_4 := lv_neT (a := 2) h_4 (by decide); have nh_6 := lv_neT (a := 3) h_6 (by decide); have nh_8 := lv_neT (a := 4) h_8 (by decide); have nh_9 := lv_neT (a := 5) h_9 (by decide); have nh_10 := lv_neT (a := 6) h_10 (by decide); have nh_11 := lv_neT (a := 7) h_11 (by decide); have nh_12 := lv_neT (a := 8) h_12 (by decide); have nh_13 := lv_neT (a := 9) h_13 (by decide); have nh_14 := lv_neT (a := 10) h_14 (by decide); have nh_15 := lv_neT (a := 11) h_15 (by decide); have nh_16 := lv_neT (a := 12) h_16 (by decide); have nh_17 := lv_neT (a := 13) h_17 (by decide); have nh_19 := lv_neT (a := 14) h_19 (by decide); have nh_21 := lv_neT (a := 15) h_21 (by decide); have nh_23 := lv_neT (a := 16) h_23 (by decide); have nh_26 := lv_neT (a := 0) h_26 (by decide); have nh_27 := lv_neT (a := 1) h_27 (by decide); have nh_29 := lv_neT (a := 2) h_29 (by decide); have nh_31 := lv_neT (a := 3) h_31 (by decide); have nh_33 := lv_neT (a := 4) h_33 (by decide); have nh_34 := lv_neT (a := 5) h_34 (by decide); have nh_35 := lv_neT (a := 6) h_35 (by decide); have nh_36 := lv_neT (a := 7) h_36 (by decide); have nh_37 := lv_neT (a := 8) h_37 (by decide); have nh_38 := lv_neT (a := 9) h_38 (by decide); have nh_39 := lv_neT (a := 10) h_39 (by decide); have nh_40 := lv_neT (a := 11) h_40 (by decide); have nh_41 := lv_neT (a := 12) h_41 (by decide); unfold sp_count; (repeat' split) <;> first | rfl | omega | (refine Int32.toInt_inj.mp ?_; omega)), by rw [ht]; exact hP9, va_K.moved hW.alike hK9, hD9⟩, hS.F ht⟩) hS.2.2 dX12_count_200
def ow_c_X12_status : List Cond := [.fieldLink RX12 67 "DeadlineShareModel" "thrown" "I", .fieldLink RX12 70 "DeadlineShareModel" "status" "I"]
def wq_c_X12_status : List Cond := .code yX12_status cX12_status 1 (some .int) :: (ow_c_X12_status ++ (u_ws RX12 TX12 27 ++ ([] : List Cond)))
theorem tb_c_X12_status : ∀ w ∈ wq_c_X12_status, q_g w := by
  unfold wq_c_X12_status ow_c_X12_status
  exact q_cons tw_549 (q_app (q_cons tw_488 (q_cons tw_431 q_nil)) (q_app tu_X12 q_nil))
set_option maxHeartbeats 4000000 in
set_option maxRecDepth 100000 in
theorem c_X12_status (l : Launch) (dC : Nat → ClassId) (dI : Nat → Nat → Nat) (h0 : Nat) (mr : Nat) (mt : Nat) (mw : Nat) (mu : Nat) (mp : Nat) (mi : Nat) (mk : Nat) (ms : Nat) (mv : Nat) (m1w : Nat) (m2w : Nat) (m3w : Nat) (m4w : Nat) (sz : Nat) : Met l yX12_status wq_c_X12_status ({ frames := 0, cells := 0, slots := 0, locals := 0 } : Room) (va_Pc [.ref h0] (fun U => U.heap.size = sz ∧ va_P (dC, dI) vwCl [(h0, .inr (12, [.int 0, .int 0, .ref mr, .ref mt, .ref mw, .ref mu, .ref mp, .ref mi, .ref mk, .ref ms, .int 0, .ref mv, .int 0, .int 0, .int 0, .int 0, .long 0, .int (-1), .int 0, .ref m1w, .ref m2w, .ref m3w, .ref m4w, .int 0, .long 0, .long 0, .long 0]))] U.heap ∧ va_K (dC, dI) vwCl [] U ∧ va_D (fun _ => True) [(h0, .inr (12, [.int 0, .int 0, .ref mr, .ref mt, .ref mw, .ref mu, .ref mp, .ref mi, .ref mk, .ref ms, .int 0, .ref mv, .int 0, .int 0, .int 0, .int 0, .long 0, .int (-1), .int 0, .ref m1w, .ref m2w, .ref m3w, .ref m4w, .int 0, .long 0, .long 0, .long 0]))])) (va_Qi (fun (r : Int32) (_ : Unit) => r = 0) (fun (_ : Unit) t => va_P (dC, dI) vwCl [] t.heap ∧ va_K (dC, dI) vwCl [] t ∧ va_D (va_A [(h0, .inr (12, [.int 0, .int 0, .ref mr, .ref mt, .ref mw, .ref mu, .ref mp, .ref mi, .ref mk, .ref ms, .int 0, .ref mv, .int 0, .int 0, .int 0, .int 0, .long 0, .int (-1), .int 0, .ref m1w, .ref m2w, .ref m3w, .ref m4w, .int 0, .long 0, .long 0, .long 0]))] sz) []) (va_A [(h0, .inr (12, [.int 0, .int 0, .ref mr, .ref mt, .ref mw, .ref mu, .ref mp, .ref mi, .ref mk, .ref ms, .int 0, .ref mv, .int 0, .int 0, .int 0, .int 0, .long 0, .int (-1), .int 0, .ref m1w, .ref m2w, .ref m3w, .ref m4w, .int 0, .long 0, .long 0, .long 0]))] sz)) 0 0 (va_A [(h0, .inr (12, [.int 0, .int 0, .ref mr, .ref mt, .ref mw, .ref mu, .ref mp, .ref mi, .ref mk, .ref ms, .int 0, .ref mv, .int 0, .int 0, .int 0, .int 0, .long 0, .int (-1), .int 0, .ref m1w, .ref m2w, .ref m3w, .ref m4w, .int 0, .long 0, .long 0, .long 0]))] sz) := by
  refine Met.ofW (cc := cX12_status) (maxL := 1) (ret := (some .int)) (by decide) rfl ?_
  intro p e s m args below meth c s₁ B hml hv
  obtain ⟨rfl, hsz, hP, hK, hD0⟩ := hv
  have hx := B.exec
  have hb := B.bytes
  have hr := B.returns
  have hts := atoms_spec (ws := wq_c_X12_status) B.pre
  have hown : s.vm.findClass RX12 = some m.cls := findClass_of_methodNamed B.named
  have hlocks := B.notSynchronized
  subst hsz
  have hD := hD0.self (sz := s.heap.size)
  obtain ⟨A, hAe⟩ : ∃ A, A = va_A [(h0, .inr (12, [.int 0, .int 0, .ref mr, .ref mt, .ref mw, .ref mu, .ref mp, .ref mi, .ref mk, .ref ms, .int 0, .ref mv, .int 0, .int 0, .int 0, .int 0, .long 0, .int (-1), .int 0, .ref m1w, .ref m2w, .ref m3w, .ref m4w, .int 0, .long 0, .long 0, .long 0]))] s.heap.size := ⟨_, rfl⟩
  rw [← hAe] at hD ⊢
  have hA : ∀ q : Nat, s.heap.size ≤ q → A q := fun q h => by rw [hAe]; exact Or.inr h
  have hS : va_S A s.heap s.heap [] := va_S.rf
  have hP : va_P (dC, dI) vwCl [(h0, .inr (12, [.int 0, .int 0, .ref mr, .ref mt, .ref mw, .ref mu, .ref mp, .ref mi, .ref mk, .ref ms, .int 0, .ref mv, .int 0, .int 0, .int 0, .int 0, .long 0, .int (-1), .int 0, .ref m1w, .ref m2w, .ref m3w, .ref m4w, .int 0, .long 0, .long 0, .long 0]))] s.heap := hP
  have hl := lv_entry ([.ref h0]) (n := 1) (Nat.le_of_ble_eq_true rfl)
  rw [lg_entry_eq]
  generalize (lg_sl ([.ref h0]) ++ List.replicate (1 - (lg_sl ([.ref h0])).length) Slot.unset).toArray = ls at hl ⊢
  have hl : lv_has ls 1 [(0, .ref h0)] := hl
  refine lv_aload_n hx hb dX12_status_0 rfl (lv_at hl 0 rfl) ?_
  refine lv_iconst (v := 0) hx hb dX12_status_1 (by decide) ?_
  refine va_put (D := (dC, dI)) (ci := 12) (v := .int 0) (ty := .int) (C := RX12) (T := TX12) (N := 27) hx hb hts (fun _ h0_ => List.mem_cons_of_mem _ (List.mem_append_right _ (List.mem_append_left _ h0_))) tyX12 tyX12_ok nmX12 hown hK hP hD hS 0 rfl rfl 0 (by decide) (hts (.fieldLink RX12 67 "DeadlineShareModel" "thrown" "I") (List.mem_cons_of_mem _ (List.mem_append_left _ (List.mem_of_getElem? (i := 0) rfl)))) (fun _ h9 => h9) rfl (by decide +kernel) rfl rfl (Nat.le_of_ble_eq_true rfl) dX12_status_2 (fun H locs hP hD hS => ?_)
  have hP : va_P (dC, dI) vwCl [(h0, .inr (12, [.int 0, .int 0, .ref mr, .ref mt, .ref mw, .ref mu, .ref mp, .ref mi, .ref mk, .ref ms, .int 0, .ref mv, .int 0, .int 0, .int 0, .int 0, .long 0, .int (-1), .int 0, .ref m1w, .ref m2w, .ref m3w, .ref m4w, .int 0, .long 0, .long 0, .long 0]))] H := hP
  have hD : va_D A [(h0, .inr (12, [.int 0, .int 0, .ref mr, .ref mt, .ref mw, .ref mu, .ref mp, .ref mi, .ref mk, .ref ms, .int 0, .ref mv, .int 0, .int 0, .int 0, .int 0, .long 0, .int (-1), .int 0, .ref m1w, .ref m2w, .ref m3w, .ref m4w, .int 0, .long 0, .long 0, .long 0]))] := hD
  refine lv_aload_n hx hb dX12_status_5 rfl (lv_at hl 0 rfl) ?_
  refine va_get (D := (dC, dI)) (ci := 12) (v := .int 0) (C := RX12) (T := TX12) (N := 27) hx hb hts (fun _ h0_ => List.mem_cons_of_mem _ (List.mem_append_right _ (List.mem_append_left _ h0_))) hown hK hP 0 rfl rfl 1 (by decide) (hts (.fieldLink RX12 70 "DeadlineShareModel" "status" "I") (List.mem_cons_of_mem _ (List.mem_append_left _ (List.mem_of_getElem? (i := 1) rfl)))) (fun _ h9 => h9) rfl dX12_status_6 ?_
  have hP9 := hP.sub (ws' := []) [] rfl
  have hD9 := hD.sub (ws' := []) [] (by decide) rfl
  have hK9 := hK.sub (tys' := []) [] rfl
  refine W.widen (k := 0) (n := 0) (Nat.le_of_ble_eq_true rfl) (Nat.le_of_ble_eq_true rfl) ?_
  exact W.iret (v := 0) hx hb hr (fun t ht hW => ⟨⟨0, (), rfl, rfl, by rw [ht]; exact hP9, va_K.moved hW.alike hK9, hD9⟩, hS.F ht⟩) hS.2.2 dX12_status_9
def ow_c_X12_ticks : List Cond := [.fieldLink RX12 67 "DeadlineShareModel" "thrown" "I", .constantLong RX12 172 (60), .methodLink RX12 83 yX12_in, .static yX12_in, .initialized RX12, .fieldLink RX12 16 "DeadlineShareModel" "row" "[J", .constantLong RX12 286 (9999), .methodLink RX12 139 yX12_remember, .instanceMethod yX12_remember, .selects RX12 yX12_remember yX12_remember, .methodLink RX12 80 yX12_tell, .instanceMethod yX12_tell, .selects RX12 yX12_tell yX12_tell, .methodLink RX12 288 yX12_tick, .instanceMethod yX12_tick, .selects RX12 yX12_tick yX12_tick, .methodLink RX12 76 yX12_refuse, .instanceMethod yX12_refuse, .selects RX12 yX12_refuse yX12_refuse]
def wq_c_X12_ticks : List Cond := .code yX12_ticks cX12_ticks 4 (some .int) :: (ow_c_X12_ticks ++ (u_ws RX12 TX12 27 ++ (wq_c_X12_in ++ (wq_c_X12_remember ++ (wq_c_X12_tell ++ (wq_c_X12_tick ++ (wq_c_X12_refuse_1 ++ ([] : List Cond))))))))
theorem tb_c_X12_ticks : ∀ w ∈ wq_c_X12_ticks, q_g w := by
  unfold wq_c_X12_ticks ow_c_X12_ticks
  exact q_cons tw_554 (q_app (q_cons tw_488 (q_cons tw_516 (q_cons tw_437 (q_cons tw_436 (q_cons tw_435 (q_cons tw_425 (q_cons tw_553 (q_cons tw_500 (q_cons tw_499 (q_cons tw_498 (q_cons tw_486 (q_cons tw_485 (q_cons tw_484 (q_cons tw_552 (q_cons tw_551 (q_cons tw_550 (q_cons tw_483 (q_cons tw_482 (q_cons tw_481 q_nil))))))))))))))))))) (q_app tu_X12 (q_app tb_c_X12_in (q_app tb_c_X12_remember (q_app tb_c_X12_tell (q_app tb_c_X12_tick (q_app tb_c_X12_refuse_1 q_nil)))))))
set_option maxHeartbeats 4000000 in
set_option maxRecDepth 100000 in
theorem c_X12_ticks (l : Launch) (dC : Nat → ClassId) (dI : Nat → Nat → Nat) (h0 : Nat) (nq : Int32) (mr : Nat) (mt : Nat) (mw : Nat) (mu : Nat) (mp : Nat) (mi : Nat) (mk : Nat) (ms : Nat) (mv : Nat) (m1w : Nat) (m2w : Nat) (m3w : Nat) (m4w : Nat) (cm1 : ClassId) (cm2 : ClassId) (ft : Nat → Int32) (cm3 : ClassId) (fw : Nat → Int64) (cm4 : ClassId) (cm8 : ClassId) (sz : Nat) (ht0 : ft 0 = 0) (ht1 : ft 1 = 1) (ht2 : ft 2 = 1) (hw0 : fw 0 = 0) (hw1 : fw 1 = 0) (hw2 : fw 2 = 0) (hw3 : fw 3 = (-1)) (hw4 : fw 4 = (-1)) (hw5 : fw 5 = 0) : Met l yX12_ticks wq_c_X12_ticks ({ frames := 4, cells := 0, slots := 0, locals := 94 } : Room) (va_Pc [.ref h0, .int nq] (fun U => U.heap.size = sz ∧ va_P (dC, dI) vwCl [(h0, .inr (12, [.int 0, .int 0, .ref mr, .ref mt, .ref mw, .ref mu, .ref mp, .ref mi, .ref mk, .ref ms, .int 0, .ref mv, .int 0, .int 0, .int 0, .int 0, .long 0, .int (-1), .int 0, .ref m1w, .ref m2w, .ref m3w, .ref m4w, .int 0, .long 0, .long 0, .long 0])), (mr, .inl (cm1, 7, .inl (fun _ => 0))), (mt, .inl (cm2, 3, .inl ft)), (mw, .inl (cm3, 906, .inr (.inl fw))), (mu, .inl (cm4, 9060, .inr (.inl (fun _ => 0)))), (ms, .inl (cm8, 10, .inl (fun _ => 0)))] U.heap ∧ va_K (dC, dI) vwCl [(cm1, .int), (cm2, .int), (cm3, .long), (cm4, .long), (cm8, .int)] U ∧ va_D (fun _ => True) [(h0, .inr (12, [.int 0, .int 0, .ref mr, .ref mt, .ref mw, .ref mu, .ref mp, .ref mi, .ref mk, .ref ms, .int 0, .ref mv, .int 0, .int 0, .int 0, .int 0, .long 0, .int (-1), .int 0, .ref m1w, .ref m2w, .ref m3w, .ref m4w, .int 0, .long 0, .long 0, .long 0])), (mr, .inl (cm1, 7, .inl (fun _ => 0))), (mt, .inl (cm2, 3, .inl ft)), (mw, .inl (cm3, 906, .inr (.inl fw))), (mu, .inl (cm4, 9060, .inr (.inl (fun _ => 0)))), (ms, .inl (cm8, 10, .inl (fun _ => 0)))])) (va_Qi (fun (r : Int32) (_ : Unit) => r = sp_one nq 1 60 0) (fun (_ : Unit) t => va_P (dC, dI) vwCl [] t.heap ∧ va_K (dC, dI) vwCl [] t ∧ va_D (va_A [(h0, .inr (12, [.int 0, .int 0, .ref mr, .ref mt, .ref mw, .ref mu, .ref mp, .ref mi, .ref mk, .ref ms, .int 0, .ref mv, .int 0, .int 0, .int 0, .int 0, .long 0, .int (-1), .int 0, .ref m1w, .ref m2w, .ref m3w, .ref m4w, .int 0, .long 0, .long 0, .long 0])), (mr, .inl (cm1, 7, .inl (fun _ => 0))), (mt, .inl (cm2, 3, .inl ft)), (mw, .inl (cm3, 906, .inr (.inl fw))), (mu, .inl (cm4, 9060, .inr (.inl (fun _ => 0)))), (ms, .inl (cm8, 10, .inl (fun _ => 0)))] sz) []) (va_A [(h0, .inr (12, [.int 0, .int 0, .ref mr, .ref mt, .ref mw, .ref mu, .ref mp, .ref mi, .ref mk, .ref ms, .int 0, .ref mv, .int 0, .int 0, .int 0, .int 0, .long 0, .int (-1), .int 0, .ref m1w, .ref m2w, .ref m3w, .ref m4w, .int 0, .long 0, .long 0, .long 0])), (mr, .inl (cm1, 7, .inl (fun _ => 0))), (mt, .inl (cm2, 3, .inl ft)), (mw, .inl (cm3, 906, .inr (.inl fw))), (mu, .inl (cm4, 9060, .inr (.inl (fun _ => 0)))), (ms, .inl (cm8, 10, .inl (fun _ => 0)))] sz)) 0 0 (va_A [(h0, .inr (12, [.int 0, .int 0, .ref mr, .ref mt, .ref mw, .ref mu, .ref mp, .ref mi, .ref mk, .ref ms, .int 0, .ref mv, .int 0, .int 0, .int 0, .int 0, .long 0, .int (-1), .int 0, .ref m1w, .ref m2w, .ref m3w, .ref m4w, .int 0, .long 0, .long 0, .long 0])), (mr, .inl (cm1, 7, .inl (fun _ => 0))), (mt, .inl (cm2, 3, .inl ft)), (mw, .inl (cm3, 906, .inr (.inl fw))), (mu, .inl (cm4, 9060, .inr (.inl (fun _ => 0)))), (ms, .inl (cm8, 10, .inl (fun _ => 0)))] sz) := by
  refine Met.ofW (cc := cX12_ticks) (maxL := 4) (ret := (some .int)) (by decide) rfl ?_
  intro p e s m args below meth c s₁ B hml hv
  obtain ⟨rfl, hsz, hP, hK, hD0⟩ := hv
  have hx := B.exec
  have hb := B.bytes
  have hr := B.returns
  have hts := atoms_spec (ws := wq_c_X12_ticks) B.pre
  have hown : s.vm.findClass RX12 = some m.cls := findClass_of_methodNamed B.named
  have hlocks := B.notSynchronized
  subst hsz
  have hD := hD0.self (sz := s.heap.size)
  obtain ⟨A, hAe⟩ : ∃ A, A = va_A [(h0, .inr (12, [.int 0, .int 0, .ref mr, .ref mt, .ref mw, .ref mu, .ref mp, .ref mi, .ref mk, .ref ms, .int 0, .ref mv, .int 0, .int 0, .int 0, .int 0, .long 0, .int (-1), .int 0, .ref m1w, .ref m2w, .ref m3w, .ref m4w, .int 0, .long 0, .long 0, .long 0])), (mr, .inl (cm1, 7, .inl (fun _ => 0))), (mt, .inl (cm2, 3, .inl ft)), (mw, .inl (cm3, 906, .inr (.inl fw))), (mu, .inl (cm4, 9060, .inr (.inl (fun _ => 0)))), (ms, .inl (cm8, 10, .inl (fun _ => 0)))] s.heap.size := ⟨_, rfl⟩
  rw [← hAe] at hD ⊢
  have hA : ∀ q : Nat, s.heap.size ≤ q → A q := fun q h => by rw [hAe]; exact Or.inr h
  have hS : va_S A s.heap s.heap [] := va_S.rf
  have hP : va_P (dC, dI) vwCl [(h0, .inr (12, [.int 0, .int 0, .ref mr, .ref mt, .ref mw, .ref mu, .ref mp, .ref mi, .ref mk, .ref ms, .int 0, .ref mv, .int 0, .int 0, .int 0, .int 0, .long 0, .int (-1), .int 0, .ref m1w, .ref m2w, .ref m3w, .ref m4w, .int 0, .long 0, .long 0, .long 0])), (mr, .inl (cm1, 7, .inl (fun _ => 0))), (mt, .inl (cm2, 3, .inl ft)), (mw, .inl (cm3, 906, .inr (.inl fw))), (mu, .inl (cm4, 9060, .inr (.inl (fun _ => 0)))), (ms, .inl (cm8, 10, .inl (fun _ => 0)))] s.heap := hP
  have hl := lv_entry ([.ref h0, .int nq]) (n := 4) (Nat.le_of_ble_eq_true rfl)
  rw [lg_entry_eq]
  generalize (lg_sl ([.ref h0, .int nq]) ++ List.replicate (4 - (lg_sl ([.ref h0, .int nq])).length) Slot.unset).toArray = ls at hl ⊢
  have hl : lv_has ls 4 [(0, .ref h0), (1, .int nq)] := hl
  refine lv_aload_n hx hb dX12_ticks_0 rfl (lv_at hl 0 rfl) ?_
  refine lv_iconst (v := 0) hx hb dX12_ticks_1 (by decide) ?_
  refine va_put (D := (dC, dI)) (ci := 12) (v := .int 0) (ty := .int) (C := RX12) (T := TX12) (N := 27) hx hb hts (fun _ h0_ => List.mem_cons_of_mem _ (List.mem_append_right _ (List.mem_append_left _ h0_))) tyX12 tyX12_ok nmX12 hown hK hP hD hS 0 rfl rfl 0 (by decide) (hts (.fieldLink RX12 67 "DeadlineShareModel" "thrown" "I") (List.mem_cons_of_mem _ (List.mem_append_left _ (List.mem_of_getElem? (i := 0) rfl)))) (fun _ h9 => h9) rfl (by decide +kernel) rfl rfl (Nat.le_of_ble_eq_true rfl) dX12_ticks_2 (fun H locs hP hD hS => ?_)
  have hP : va_P (dC, dI) vwCl [(h0, .inr (12, [.int 0, .int 0, .ref mr, .ref mt, .ref mw, .ref mu, .ref mp, .ref mi, .ref mk, .ref ms, .int 0, .ref mv, .int 0, .int 0, .int 0, .int 0, .long 0, .int (-1), .int 0, .ref m1w, .ref m2w, .ref m3w, .ref m4w, .int 0, .long 0, .long 0, .long 0])), (mr, .inl (cm1, 7, .inl (fun _ => 0))), (mt, .inl (cm2, 3, .inl ft)), (mw, .inl (cm3, 906, .inr (.inl fw))), (mu, .inl (cm4, 9060, .inr (.inl (fun _ => 0)))), (ms, .inl (cm8, 10, .inl (fun _ => 0)))] H := hP
  have hD : va_D A [(h0, .inr (12, [.int 0, .int 0, .ref mr, .ref mt, .ref mw, .ref mu, .ref mp, .ref mi, .ref mk, .ref ms, .int 0, .ref mv, .int 0, .int 0, .int 0, .int 0, .long 0, .int (-1), .int 0, .ref m1w, .ref m2w, .ref m3w, .ref m4w, .int 0, .long 0, .long 0, .long 0])), (mr, .inl (cm1, 7, .inl (fun _ => 0))), (mt, .inl (cm2, 3, .inl ft)), (mw, .inl (cm3, 906, .inr (.inl fw))), (mu, .inl (cm4, 9060, .inr (.inl (fun _ => 0)))), (ms, .inl (cm8, 10, .inl (fun _ => 0)))] := hD
  refine lv_iload_n hx hb dX12_ticks_5 rfl (lv_at hl 1 rfl) ?_
  refine lv_i2l (v := nq.toInt64) hx hb dX12_ticks_6 rfl ?_
  refine lv_lconst (v := 1) hx hb dX12_ticks_7 (by decide) ?_
  refine lv_ldc2 hx hb hown (hts (.constantLong RX12 172 (60)) (List.mem_cons_of_mem _ (List.mem_append_left _ (List.mem_of_getElem? (i := 1) rfl)))) dX12_ticks_8 ?_
  have hPc := hP.sub (ws' := []) [] rfl
  have hDc := hD.sub (ws' := []) [] (by decide) rfl
  have hKc := hK.sub (tys' := []) [] rfl
  have hFc := va_free (wc := []) hD hS hA [] rfl
  refine va_calli (va_runS (As := [.long nq.toInt64, .long 1, .long 60]) (rest := []) ⟨hx, hb, hml, hown, hts⟩ (c_X12_in l dC dI nq.toInt64 1 60 H.size) (va_cwS 3 hts (gi_S (fun w_ h0_ => ⟨List.mem_cons_of_mem _ (List.mem_append_right _ (List.mem_append_right _ (List.mem_append_left _ h0_))), (tb_c_X12_in w_ h0_).2⟩) (List.mem_cons_of_mem _ (List.mem_append_left _ (List.mem_of_getElem? (i := 2) rfl))) (List.mem_cons_of_mem _ (List.mem_append_left _ (List.mem_of_getElem? (i := 3) rfl))) (List.mem_cons_of_mem _ (List.mem_append_left _ (List.mem_of_getElem? (i := 4) rfl)))) rfl rfl rfl (by decide +kernel) ⟨Nat.le_of_ble_eq_true rfl, Nat.le_of_ble_eq_true rfl⟩) ⟨fun a U g mk q => by obtain ⟨q0, q1, qP, qK, qD⟩ := q; exact ⟨q0, q1, qP, va_K.moved (u := U) (U := U.calling g mk a) (Vm.Alike.refl U.vm) qK, qD⟩, fun U hU hW => ⟨rfl, by rw [hU], by rw [hU]; exact hPc, va_K.moved hW.alike hKc, hDc.weaken (fun _ _ _ _ => trivial)⟩⟩ rfl rfl hl.1 rfl (lv_room (Nat.le_of_ble_eq_true rfl)) dX12_ticks_11 ⟨Nat.le_of_ble_eq_true rfl, Nat.le_of_ble_eq_true rfl⟩) hS (fun q _ h => hFc q h) hFc (fun r_1 u t H1 locs ht hvm hw hB hz1 hk1 hS => ?_)
  obtain ⟨hP1, hK1, hD1⟩ := hB
  rw [ht] at hP1
  have hK1 := va_K.moved hvm.symm hK1
  obtain ⟨hP, hD⟩ := va_join (wr := [(h0, .inr (12, [.int 0, .int 0, .ref mr, .ref mt, .ref mw, .ref mu, .ref mp, .ref mi, .ref mk, .ref ms, .int 0, .ref mv, .int 0, .int 0, .int 0, .int 0, .long 0, .int (-1), .int 0, .ref m1w, .ref m2w, .ref m3w, .ref m4w, .int 0, .long 0, .long 0, .long 0])), (mr, .inl (cm1, 7, .inl (fun _ => 0))), (mt, .inl (cm2, 3, .inl ft)), (mw, .inl (cm3, 906, .inr (.inl fw))), (mu, .inl (cm4, 9060, .inr (.inl (fun _ => 0)))), (ms, .inl (cm8, 10, .inl (fun _ => 0)))]) (w1 := []) hP hD [] [0, 1, 2, 3, 4, 5] rfl rfl (by decide) (by decide) hk1 hFc hP1 hD1
  generalize H1 = H at hP hS ⊢
  have hP : va_P (dC, dI) vwCl [(h0, .inr (12, [.int 0, .int 0, .ref mr, .ref mt, .ref mw, .ref mu, .ref mp, .ref mi, .ref mk, .ref ms, .int 0, .ref mv, .int 0, .int 0, .int 0, .int 0, .long 0, .int (-1), .int 0, .ref m1w, .ref m2w, .ref m3w, .ref m4w, .int 0, .long 0, .long 0, .long 0])), (mr, .inl (cm1, 7, .inl (fun _ => 0))), (mt, .inl (cm2, 3, .inl ft)), (mw, .inl (cm3, 906, .inr (.inl fw))), (mu, .inl (cm4, 9060, .inr (.inl (fun _ => 0)))), (ms, .inl (cm8, 10, .inl (fun _ => 0)))] H := hP
  have hD : va_D A [(h0, .inr (12, [.int 0, .int 0, .ref mr, .ref mt, .ref mw, .ref mu, .ref mp, .ref mi, .ref mk, .ref ms, .int 0, .ref mv, .int 0, .int 0, .int 0, .int 0, .long 0, .int (-1), .int 0, .ref m1w, .ref m2w, .ref m3w, .ref m4w, .int 0, .long 0, .long 0, .long 0])), (mr, .inl (cm1, 7, .inl (fun _ => 0))), (mt, .inl (cm2, 3, .inl ft)), (mw, .inl (cm3, 906, .inr (.inl fw))), (mu, .inl (cm4, 9060, .inr (.inl (fun _ => 0)))), (ms, .inl (cm8, 10, .inl (fun _ => 0)))] := hD
  refine W.widen (k := 0) (n := 0) (Nat.le_of_ble_eq_true rfl) (Nat.le_of_ble_eq_true rfl) ?_
  have hw : r_1 = sp_in nq.toInt64 1 60 := hw
  subst hw
  refine k_topi (y := sp_r nq 1 60) (sp_in_r _ _ _ (by decide) (by decide)) ?_
  refine lv_if_ne (tgt := 23) hx hb dX12_ticks_14 (by decide) (fun c_2 => ?_) (fun c_2 => ?_)
  · refine lv_aload_n hx hb dX12_ticks_23 rfl (lv_at hl 0 rfl) ?_
    refine va_get (D := (dC, dI)) (ci := 12) (v := .ref mw) (C := RX12) (T := TX12) (N := 27) hx hb hts (fun _ h0_ => List.mem_cons_of_mem _ (List.mem_append_right _ (List.mem_append_left _ h0_))) hown hK hP 0 rfl rfl 4 (by decide) (hts (.fieldLink RX12 16 "DeadlineShareModel" "row" "[J") (List.mem_cons_of_mem _ (List.mem_append_left _ (List.mem_of_getElem? (i := 5) rfl)))) (fun _ h9 => h9) rfl dX12_ticks_24 ?_
    refine lv_iconst (v := 1) hx hb dX12_ticks_27 (by decide) ?_
    refine va_lald hx hb hK hP 3 2 rfl rfl (by unfold vp_in; decide) dX12_ticks_28 ?_
    refine k_topl (y := 0) ((congrArg fw (show Int32.toNatClampNeg 1 = 1 by decide)).trans hw1) ?_
    refine lv_iload_n hx hb dX12_ticks_29 rfl (lv_at hl 1 rfl) ?_
    refine lv_i2l (v := nq.toInt64) hx hb dX12_ticks_30 rfl ?_
    refine lv_ladd hx hb dX12_ticks_31 ?_
    refine k_topl (y := nq.toInt64) (Int64.zero_add _) ?_
    refine lv_ldc2 hx hb hown (hts (.constantLong RX12 286 (9999)) (List.mem_cons_of_mem _ (List.mem_append_left _ (List.mem_of_getElem? (i := 6) rfl)))) dX12_ticks_32 ?_
    refine W.lcmp hx hb dX12_ticks_35 ?_
    refine lv_if_le (tgt := 46) hx hb dX12_ticks_36 (by decide) (fun _ => ?_) (fun c => absurd ((lg_cmp_le _ _).mpr ((fa_le64 _ _).mpr (by have z0 := (sp_r1 _ _ _).mp c_2; have ll9999 : Int64.toInt 9999 = 9999 := (by decide); have w0 := Int32.toInt_toInt64 nq; skip; omega))) c)
    refine lv_aload_n hx hb dX12_ticks_46 rfl (lv_at hl 0 rfl) ?_
    refine lv_bipush (v := 6) hx hb dX12_ticks_47 (by decide) ?_
    have hPc := hP.sub (ws' := [(h0, .inr (12, [.int 0, .int 0, .ref mr, .ref mt, .ref mw, .ref mu, .ref mp, .ref mi, .ref mk, .ref ms, .int 0, .ref mv, .int 0, .int 0, .int 0, .int 0, .long 0, .int (-1), .int 0, .ref m1w, .ref m2w, .ref m3w, .ref m4w, .int 0, .long 0, .long 0, .long 0])), (mw, .inl (cm3, 906, .inr (.inl fw))), (mu, .inl (cm4, 9060, .inr (.inl (fun _ => 0)))), (ms, .inl (cm8, 10, .inl (fun _ => 0)))]) [0, 3, 4, 5] rfl
    have hDc := hD.sub (ws' := [(h0, .inr (12, [.int 0, .int 0, .ref mr, .ref mt, .ref mw, .ref mu, .ref mp, .ref mi, .ref mk, .ref ms, .int 0, .ref mv, .int 0, .int 0, .int 0, .int 0, .long 0, .int (-1), .int 0, .ref m1w, .ref m2w, .ref m3w, .ref m4w, .int 0, .long 0, .long 0, .long 0])), (mw, .inl (cm3, 906, .inr (.inl fw))), (mu, .inl (cm4, 9060, .inr (.inl (fun _ => 0)))), (ms, .inl (cm8, 10, .inl (fun _ => 0)))]) [0, 3, 4, 5] (by decide) rfl
    have hKc := hK.sub (tys' := [(cm3, .long), (cm4, .long), (cm8, .int)]) [2, 3, 4] rfl
    have hFc := va_free (wc := [(h0, .inr (12, [.int 0, .int 0, .ref mr, .ref mt, .ref mw, .ref mu, .ref mp, .ref mi, .ref mk, .ref ms, .int 0, .ref mv, .int 0, .int 0, .int 0, .int 0, .long 0, .int (-1), .int 0, .ref m1w, .ref m2w, .ref m3w, .ref m4w, .int 0, .long 0, .long 0, .long 0])), (mw, .inl (cm3, 906, .inr (.inl fw))), (mu, .inl (cm4, 9060, .inr (.inl (fun _ => 0)))), (ms, .inl (cm8, 10, .inl (fun _ => 0)))]) hD hS hA [0, 3, 4, 5] rfl
    refine va_callv (va_runV (As := [.int 6]) (rest := []) ⟨hx, hb, hml, hown, hts⟩ (c_X12_remember l dC dI h0 6 mr mt mw mu mp mi mk ms mv m1w m2w m3w m4w cm3 fw cm4 cm8 H.size) (cwV 1 hts (gi_V (fun w_ h0_ => ⟨List.mem_cons_of_mem _ (List.mem_append_right _ (List.mem_append_right _ (List.mem_append_right _ (List.mem_append_left _ h0_)))), (tb_c_X12_remember w_ h0_).2⟩) (List.mem_cons_of_mem _ (List.mem_append_left _ (List.mem_of_getElem? (i := 7) rfl))) (List.mem_cons_of_mem _ (List.mem_append_left _ (List.mem_of_getElem? (i := 8) rfl))) (List.mem_cons_of_mem _ (List.mem_append_left _ (List.mem_of_getElem? (i := 9) rfl))) (List.mem_cons_of_mem _ (List.mem_append_left _ (List.mem_of_getElem? (i := 4) rfl)))) rfl rfl rfl (by decide +kernel) ⟨Nat.le_of_ble_eq_true rfl, Nat.le_of_ble_eq_true rfl⟩) ⟨fun a U g mk q => by obtain ⟨q0, q1, qP, qK, qD⟩ := q; exact ⟨q0, q1, qP, va_K.moved (u := U) (U := U.calling g mk a) (Vm.Alike.refl U.vm) qK, qD⟩, va_recv hKc hPc (ci := 12) (q0 := 0) rfl rfl, fun U hU hW => ⟨rfl, by rw [hU], by rw [hU]; exact hPc, va_K.moved hW.alike hKc, hDc.weaken (fun _ _ _ _ => trivial)⟩⟩ rfl rfl hl.1 rfl (lv_room (Nat.le_of_ble_eq_true rfl)) dX12_ticks_49 ⟨Nat.le_of_ble_eq_true rfl, Nat.le_of_ble_eq_true rfl⟩) hS (fun q _ h => hFc q h) hFc (fun u t H1 locs ht hvm hw hB hz1 hk1 hS => ?_)
    obtain ⟨hP1, hK1, hD1⟩ := hB
    rw [ht] at hP1
    have hK1 := va_K.moved hvm.symm hK1
    obtain ⟨hP, hD⟩ := va_join (wr := [(mr, .inl (cm1, 7, .inl (fun _ => 0))), (mt, .inl (cm2, 3, .inl ft))]) (w1 := [(h0, .inr (12, [.int 0, .int 0, .ref mr, .ref mt, .ref mw, .ref mu, .ref mp, .ref mi, .ref mk, .ref ms, .int 1, .ref mv, .int 0, .int 0, .int 0, .int 0, .long 0, .int (-1), .int 0, .ref m1w, .ref m2w, .ref m3w, .ref m4w, .int 0, .long 0, .long 0, .long 0])), (mw, .inl (cm3, 906, .inr (.inl fw)))]) hP hD [0, 3, 4, 5] [1, 2] rfl rfl (by decide) (by decide) hk1 hFc hP1 hD1
    generalize H1 = H at hP hS ⊢
    have hP : va_P (dC, dI) vwCl [(mr, .inl (cm1, 7, .inl (fun _ => 0))), (mt, .inl (cm2, 3, .inl ft)), (h0, .inr (12, [.int 0, .int 0, .ref mr, .ref mt, .ref mw, .ref mu, .ref mp, .ref mi, .ref mk, .ref ms, .int 1, .ref mv, .int 0, .int 0, .int 0, .int 0, .long 0, .int (-1), .int 0, .ref m1w, .ref m2w, .ref m3w, .ref m4w, .int 0, .long 0, .long 0, .long 0])), (mw, .inl (cm3, 906, .inr (.inl fw)))] H := hP
    have hD : va_D A [(mr, .inl (cm1, 7, .inl (fun _ => 0))), (mt, .inl (cm2, 3, .inl ft)), (h0, .inr (12, [.int 0, .int 0, .ref mr, .ref mt, .ref mw, .ref mu, .ref mp, .ref mi, .ref mk, .ref ms, .int 1, .ref mv, .int 0, .int 0, .int 0, .int 0, .long 0, .int (-1), .int 0, .ref m1w, .ref m2w, .ref m3w, .ref m4w, .int 0, .long 0, .long 0, .long 0])), (mw, .inl (cm3, 906, .inr (.inl fw)))] := hD
    refine W.widen (k := 0) (n := 0) (Nat.le_of_ble_eq_true rfl) (Nat.le_of_ble_eq_true rfl) ?_
    refine lv_iconst (v := 0) hx hb dX12_ticks_52 (by decide) ?_
    refine lv_istore_n (lv' := [(2, .int 0), (0, .ref h0), (1, .int nq)]) hx hb dX12_ticks_53 rfl hl (by decide) rfl (fun ls hl => ?_)
    refine lv_iconst (v := 0) hx hb dX12_ticks_54 (by decide) ?_
    refine lv_istore_n (lv' := [(3, .int 0), (2, .int 0), (0, .ref h0), (1, .int nq)]) hx hb dX12_ticks_55 rfl hl (by decide) rfl (fun ls hl => ?_)
    obtain ⟨N9, hN9, eN9⟩ : ∃ N : Nat, N ≤ 60 ∧ nq = nI N := nI_of2 (M := 60) (by decide) (fun h8 => by have h7 := (fa_lt _ _).mp h8; have z0 := (sp_r1 _ _ _).mp c_2; have li0 : Int32.toInt 0 = 0 := (by decide); have li1 : Int32.toInt 1 = 1 := (by decide); have li60 : Int32.toInt 60 = 60 := (by decide); skip; omega) ((fa_le _ _).mpr (by have z0 := (sp_r1 _ _ _).mp c_2; have li0 : Int32.toInt 0 = 0 := (by decide); have li1 : Int32.toInt 1 = 1 := (by decide); have li60 : Int32.toInt 60 = 60 := (by decide); skip; omega))
    subst eN9
    have key : ∀ (nn ii : Nat) (fq : Nat → Int64) (H : Heap) (locs : List Loc) (ls : Array Slot), ii + nn = N9 → fq 0 = 0 → fq 1 = lN ii → fq 3 = (-1) → fq 4 = (-1) → fq 5 = lN ii → va_P (dC, dI) vwCl [(mr, .inl (cm1, 7, .inl (fun _ => 0))), (mt, .inl (cm2, 3, .inl ft)), (h0, .inr (12, [.int 0, .int 0, .ref mr, .ref mt, .ref mw, .ref mu, .ref mp, .ref mi, .ref mk, .ref ms, .int 1, .ref mv, .int 0, .int 0, .int 0, .int 0, .long 0, .int (-1), .int 0, .ref m1w, .ref m2w, .ref m3w, .ref m4w, .int 0, .long 0, .long 0, .long 0])), (mw, .inl (cm3, 906, .inr (.inl fq)))] H → va_D A [(mr, .inl (cm1, 7, .inl (fun _ => 0))), (mt, .inl (cm2, 3, .inl ft)), (h0, .inr (12, [.int 0, .int 0, .ref mr, .ref mt, .ref mw, .ref mu, .ref mp, .ref mi, .ref mk, .ref ms, .int 1, .ref mv, .int 0, .int 0, .int 0, .int 0, .long 0, .int (-1), .int 0, .ref m1w, .ref m2w, .ref m3w, .ref m4w, .int 0, .long 0, .long 0, .long 0])), (mw, .inl (cm3, 906, .inr (.inl fq)))] → va_S A s.heap H locs → lv_has ls 4 [(3, .int (nI ii)), (2, .int 0), (0, .ref h0), (1, .int (nI N9))] → W p l e (headSpec wq_c_X12_ticks ({ frames := 4, cells := 0, slots := 0, locals := 94 } : Room)).room s m ([.ref h0, .int (nI N9)].toArray) below meth c H locs 0 0 (MQ below (va_Qi (fun (r : Int32) (_ : Unit) => r = sp_one (nI N9) 1 60 0) (fun (_ : Unit) t => va_P (dC, dI) vwCl [] t.heap ∧ va_K (dC, dI) vwCl [] t ∧ va_D A []) A) ([.ref h0, .int (nI N9)].toArray) s 0 0 A) (F0 m 56 ls []) := by
      intro nn
      induction nn with
      | zero =>
        intro ii fq H locs ls hin hf56_0 hf56_1 hf56_2 hf56_3 hf56_4 hP hD hS hl
        have hiB : ii = N9 := by omega
        refine lv_iload_n hx hb dX12_ticks_56 rfl (lv_at hl 0 rfl) ?_
        refine lv_iload_n hx hb dX12_ticks_57 rfl (lv_at hl 3 rfl) ?_
        refine lv_icmp_ge (tgt := 84) hx hb dX12_ticks_58 (by decide) (fun _ => ?_) (fun c => absurd (nI_le (a := N9) (b := ii) (by omega) (by omega)) c)
        refine lv_aload_n hx hb dX12_ticks_84 rfl (lv_at hl 2 rfl) ?_
        refine lv_iload_n hx hb dX12_ticks_85 rfl (lv_at hl 1 rfl) ?_
        have hPc := hP.sub (ws' := [(h0, .inr (12, [.int 0, .int 0, .ref mr, .ref mt, .ref mw, .ref mu, .ref mp, .ref mi, .ref mk, .ref ms, .int 1, .ref mv, .int 0, .int 0, .int 0, .int 0, .long 0, .int (-1), .int 0, .ref m1w, .ref m2w, .ref m3w, .ref m4w, .int 0, .long 0, .long 0, .long 0]))]) [2] rfl
        have hDc := hD.sub (ws' := [(h0, .inr (12, [.int 0, .int 0, .ref mr, .ref mt, .ref mw, .ref mu, .ref mp, .ref mi, .ref mk, .ref ms, .int 1, .ref mv, .int 0, .int 0, .int 0, .int 0, .long 0, .int (-1), .int 0, .ref m1w, .ref m2w, .ref m3w, .ref m4w, .int 0, .long 0, .long 0, .long 0]))]) [2] (by decide) rfl
        have hKc := hK.sub (tys' := []) [] rfl
        have hFc := va_free (wc := [(h0, .inr (12, [.int 0, .int 0, .ref mr, .ref mt, .ref mw, .ref mu, .ref mp, .ref mi, .ref mk, .ref ms, .int 1, .ref mv, .int 0, .int 0, .int 0, .int 0, .long 0, .int (-1), .int 0, .ref m1w, .ref m2w, .ref m3w, .ref m4w, .int 0, .long 0, .long 0, .long 0]))]) hD hS hA [2] rfl
        refine va_calli (va_runV (As := [.int 0]) (rest := []) ⟨hx, hb, hml, hown, hts⟩ (c_X12_tell l dC dI h0 0 0 0 mr mt mw mu mp mi mk ms 1 mv 0 0 0 0 0 (-1) 0 m1w m2w m3w m4w 0 0 0 0 H.size) (cwV 1 hts (gi_V (fun w_ h0_ => ⟨List.mem_cons_of_mem _ (List.mem_append_right _ (List.mem_append_right _ (List.mem_append_right _ (List.mem_append_right _ (List.mem_append_left _ h0_))))), (tb_c_X12_tell w_ h0_).2⟩) (List.mem_cons_of_mem _ (List.mem_append_left _ (List.mem_of_getElem? (i := 10) rfl))) (List.mem_cons_of_mem _ (List.mem_append_left _ (List.mem_of_getElem? (i := 11) rfl))) (List.mem_cons_of_mem _ (List.mem_append_left _ (List.mem_of_getElem? (i := 12) rfl))) (List.mem_cons_of_mem _ (List.mem_append_left _ (List.mem_of_getElem? (i := 4) rfl)))) rfl rfl rfl (by decide +kernel) ⟨Nat.le_of_ble_eq_true rfl, Nat.le_of_ble_eq_true rfl⟩) ⟨fun a U g mk q => by obtain ⟨q0, q1, qP, qK, qD⟩ := q; exact ⟨q0, q1, qP, va_K.moved (u := U) (U := U.calling g mk a) (Vm.Alike.refl U.vm) qK, qD⟩, va_recv hKc hPc (ci := 12) (q0 := 0) rfl rfl, fun U hU hW => ⟨rfl, by rw [hU], by rw [hU]; exact hPc, va_K.moved hW.alike hKc, hDc.weaken (fun _ _ _ _ => trivial)⟩⟩ rfl rfl hl.1 rfl (lv_room (Nat.le_of_ble_eq_true rfl)) dX12_ticks_86 ⟨Nat.le_of_ble_eq_true rfl, Nat.le_of_ble_eq_true rfl⟩) hS (fun q _ h => hFc q h) hFc (fun r_3 u t H1 locs ht hvm hw hB hz1 hk1 hS => ?_)
        obtain ⟨hP1, hK1, hD1⟩ := hB
        rw [ht] at hP1
        have hK1 := va_K.moved hvm.symm hK1
        obtain ⟨hP, hD⟩ := va_join (wr := [(mr, .inl (cm1, 7, .inl (fun _ => 0))), (mt, .inl (cm2, 3, .inl ft)), (mw, .inl (cm3, 906, .inr (.inl fq)))]) (w1 := []) hP hD [2] [0, 1, 3] rfl rfl (by decide) (by decide) hk1 hFc hP1 hD1
        generalize H1 = H at hP hS ⊢
        have hP : va_P (dC, dI) vwCl [(mr, .inl (cm1, 7, .inl (fun _ => 0))), (mt, .inl (cm2, 3, .inl ft)), (mw, .inl (cm3, 906, .inr (.inl fq)))] H := hP
        have hD : va_D A [(mr, .inl (cm1, 7, .inl (fun _ => 0))), (mt, .inl (cm2, 3, .inl ft)), (mw, .inl (cm3, 906, .inr (.inl fq)))] := hD
        refine W.widen (k := 0) (n := 0) (Nat.le_of_ble_eq_true rfl) (Nat.le_of_ble_eq_true rfl) ?_
        have hw : r_3 = 0 := hw
        subst hw
        have hP9 := hP.sub (ws' := []) [] rfl
        have hD9 := hD.sub (ws' := []) [] (by decide) rfl
        have hK9 := hK.sub (tys' := []) [] rfl
        refine W.widen (k := 0) (n := 0) (Nat.le_of_ble_eq_true rfl) (Nat.le_of_ble_eq_true rfl) ?_
        exact W.iret (v := 0) hx hb hr (fun t ht hW => ⟨⟨0, (), rfl, (by have z0 := (sp_r1 _ _ _).mp c_2; unfold sp_one; (repeat' split) <;> first | rfl | omega | (refine Int32.toInt_inj.mp ?_; omega)), by rw [ht]; exact hP9, va_K.moved hW.alike hK9, hD9⟩, hS.F ht⟩) hS.2.2 dX12_ticks_89
      | succ nn ih =>
        intro ii fq H locs ls hin hf56_0 hf56_1 hf56_2 hf56_3 hf56_4 hP hD hS hl
        refine lv_iload_n hx hb dX12_ticks_56 rfl (lv_at hl 0 rfl) ?_
        refine lv_iload_n hx hb dX12_ticks_57 rfl (lv_at hl 3 rfl) ?_
        refine lv_icmp_ge (tgt := 84) hx hb dX12_ticks_58 (by decide) (fun c => absurd c (nI_ge (a := ii) (b := N9) (by omega) (by omega))) (fun _ => ?_)
        refine lv_iload_n hx hb dX12_ticks_61 rfl (lv_at hl 1 rfl) ?_
        refine lv_aload_n hx hb dX12_ticks_62 rfl (lv_at hl 2 rfl) ?_
        refine lv_iconst (v := 0) hx hb dX12_ticks_63 (by decide) ?_
        have hPc := hP.sub (ws' := [(h0, .inr (12, [.int 0, .int 0, .ref mr, .ref mt, .ref mw, .ref mu, .ref mp, .ref mi, .ref mk, .ref ms, .int 1, .ref mv, .int 0, .int 0, .int 0, .int 0, .long 0, .int (-1), .int 0, .ref m1w, .ref m2w, .ref m3w, .ref m4w, .int 0, .long 0, .long 0, .long 0])), (mw, .inl (cm3, 906, .inr (.inl fq))), (mt, .inl (cm2, 3, .inl ft))]) [2, 3, 1] rfl
        have hDc := hD.sub (ws' := [(h0, .inr (12, [.int 0, .int 0, .ref mr, .ref mt, .ref mw, .ref mu, .ref mp, .ref mi, .ref mk, .ref ms, .int 1, .ref mv, .int 0, .int 0, .int 0, .int 0, .long 0, .int (-1), .int 0, .ref m1w, .ref m2w, .ref m3w, .ref m4w, .int 0, .long 0, .long 0, .long 0])), (mw, .inl (cm3, 906, .inr (.inl fq))), (mt, .inl (cm2, 3, .inl ft))]) [2, 3, 1] (by decide) rfl
        have hKc := hK.sub (tys' := [(cm3, .long), (cm2, .int)]) [2, 1] rfl
        have hFc := va_free (wc := [(h0, .inr (12, [.int 0, .int 0, .ref mr, .ref mt, .ref mw, .ref mu, .ref mp, .ref mi, .ref mk, .ref ms, .int 1, .ref mv, .int 0, .int 0, .int 0, .int 0, .long 0, .int (-1), .int 0, .ref m1w, .ref m2w, .ref m3w, .ref m4w, .int 0, .long 0, .long 0, .long 0])), (mw, .inl (cm3, 906, .inr (.inl fq))), (mt, .inl (cm2, 3, .inl ft))]) hD hS hA [2, 3, 1] rfl
        refine va_calli (va_runV (As := [.int 0]) (rest := [.int 0]) ⟨hx, hb, hml, hown, hts⟩ (c_X12_tick l dC dI h0 0 0 0 mr mt mw mu mp mi mk ms 1 mv 0 0 0 0 0 (-1) 0 m1w m2w m3w m4w 0 0 0 0 cm3 fq cm2 ft ii ii H.size hf56_0 hf56_1 hf56_2 hf56_3 hf56_4 ht0 (by omega)) (cwV 1 hts (gi_V (fun w_ h0_ => ⟨List.mem_cons_of_mem _ (List.mem_append_right _ (List.mem_append_right _ (List.mem_append_right _ (List.mem_append_right _ (List.mem_append_right _ (List.mem_append_left _ h0_)))))), (tb_c_X12_tick w_ h0_).2⟩) (List.mem_cons_of_mem _ (List.mem_append_left _ (List.mem_of_getElem? (i := 13) rfl))) (List.mem_cons_of_mem _ (List.mem_append_left _ (List.mem_of_getElem? (i := 14) rfl))) (List.mem_cons_of_mem _ (List.mem_append_left _ (List.mem_of_getElem? (i := 15) rfl))) (List.mem_cons_of_mem _ (List.mem_append_left _ (List.mem_of_getElem? (i := 4) rfl)))) rfl rfl rfl (by decide +kernel) ⟨Nat.le_of_ble_eq_true rfl, Nat.le_of_ble_eq_true rfl⟩) ⟨fun a U g mk q => by obtain ⟨q0, q1, qP, qK, qD⟩ := q; exact ⟨q0, q1, qP, va_K.moved (u := U) (U := U.calling g mk a) (Vm.Alike.refl U.vm) qK, qD⟩, va_recv hKc hPc (ci := 12) (q0 := 0) rfl rfl, fun U hU hW => ⟨rfl, by rw [hU], by rw [hU]; exact hPc, va_K.moved hW.alike hKc, hDc.weaken (fun _ _ _ _ => trivial)⟩⟩ rfl rfl hl.1 rfl (lv_room (Nat.le_of_ble_eq_true rfl)) dX12_ticks_64 ⟨Nat.le_of_ble_eq_true rfl, Nat.le_of_ble_eq_true rfl⟩) hS (fun q _ h => hFc q h) hFc (fun r_4 u t H1 locs ht hvm hw hB hz1 hk1 hS => ?_)
        obtain ⟨f_5, k_6, k_7, k_8, k_9, k_10, hP1, hK1, hD1⟩ := hB
        rw [ht] at hP1
        have hK1 := va_K.moved hvm.symm hK1
        obtain ⟨hP, hD⟩ := va_join (wr := [(mr, .inl (cm1, 7, .inl (fun _ => 0)))]) (w1 := [(h0, .inr (12, [.int 0, .int 0, .ref mr, .ref mt, .ref mw, .ref mu, .ref mp, .ref mi, .ref mk, .ref ms, .int 1, .ref mv, .int 0, .int 0, .int 0, .int 0, .long 0, .int (-1), .int 0, .ref m1w, .ref m2w, .ref m3w, .ref m4w, .int 0, .long 0, .long 0, .long 0])), (mw, .inl (cm3, 906, .inr (.inl f_5))), (mt, .inl (cm2, 3, .inl ft))]) hP hD [2, 3, 1] [0] rfl rfl (by decide) (by decide) hk1 hFc hP1 hD1
        generalize H1 = H at hP hS ⊢
        have hP : va_P (dC, dI) vwCl [(mr, .inl (cm1, 7, .inl (fun _ => 0))), (h0, .inr (12, [.int 0, .int 0, .ref mr, .ref mt, .ref mw, .ref mu, .ref mp, .ref mi, .ref mk, .ref ms, .int 1, .ref mv, .int 0, .int 0, .int 0, .int 0, .long 0, .int (-1), .int 0, .ref m1w, .ref m2w, .ref m3w, .ref m4w, .int 0, .long 0, .long 0, .long 0])), (mw, .inl (cm3, 906, .inr (.inl f_5))), (mt, .inl (cm2, 3, .inl ft))] H := hP
        have hD : va_D A [(mr, .inl (cm1, 7, .inl (fun _ => 0))), (h0, .inr (12, [.int 0, .int 0, .ref mr, .ref mt, .ref mw, .ref mu, .ref mp, .ref mi, .ref mk, .ref ms, .int 1, .ref mv, .int 0, .int 0, .int 0, .int 0, .long 0, .int (-1), .int 0, .ref m1w, .ref m2w, .ref m3w, .ref m4w, .int 0, .long 0, .long 0, .long 0])), (mw, .inl (cm3, 906, .inr (.inl f_5))), (mt, .inl (cm2, 3, .inl ft))] := hD
        refine W.widen (k := 0) (n := 0) (Nat.le_of_ble_eq_true rfl) (Nat.le_of_ble_eq_true rfl) ?_
        have hw : r_4 = (-1) := hw
        subst hw
        refine lv_iconst (v := (-1)) hx hb dX12_ticks_67 (by decide) ?_
        refine lv_icmp_ne (tgt := 75) hx hb dX12_ticks_68 (by decide) (fun c => absurd c (by decide)) (fun _ => ?_)
        refine lv_iconst (v := 0) hx hb dX12_ticks_71 (by decide) ?_
        refine lv_goto (tgt := 76) hx hb dX12_ticks_72 (by decide) ?_
        refine lv_iadd hx hb dX12_ticks_76 ?_
        refine k_topi (y := 0) (by decide) ?_
        refine lv_istore_n (lv' := [(2, .int 0), (3, .int (nI ii)), (0, .ref h0), (1, .int (nI N9))]) hx hb dX12_ticks_77 rfl hl (by decide) rfl (fun ls hl => ?_)
        refine lv_iinc (v := nI (ii + 1)) (lv' := [(3, .int (nI (ii + 1))), (2, .int 0), (0, .ref h0), (1, .int (nI N9))]) hx hb dX12_ticks_78 hl (k := 1) rfl (nI_1 _) (by decide) rfl (fun ls hl => ?_)
        refine lv_goto (tgt := 56) hx hb dX12_ticks_81 (by decide) ?_
        exact ih (ii + 1) f_5 _ _ _ (by omega) k_6 k_7 k_8 k_9 k_10 (hP.sub [0, 3, 1, 2] rfl) (hD.sub [0, 3, 1, 2] (by decide) rfl) hS (lv_sub hl [0, 1, 2, 3] rfl)
    exact key N9 0 fw _ _ _ (by omega) hw0 hw1 hw3 hw4 hw5 hP hD hS (lv_sub hl [0, 1, 2, 3] rfl)
  · have c_2 := not_not_intro c_2
    refine lv_aload_n hx hb dX12_ticks_17 rfl (lv_at hl 0 rfl) ?_
    refine lv_iconst (v := (-1)) hx hb dX12_ticks_18 (by decide) ?_
    have hPc := hP.sub (ws' := [(h0, .inr (12, [.int 0, .int 0, .ref mr, .ref mt, .ref mw, .ref mu, .ref mp, .ref mi, .ref mk, .ref ms, .int 0, .ref mv, .int 0, .int 0, .int 0, .int 0, .long 0, .int (-1), .int 0, .ref m1w, .ref m2w, .ref m3w, .ref m4w, .int 0, .long 0, .long 0, .long 0])), (mr, .inl (cm1, 7, .inl (fun _ => 0)))]) [0, 1] rfl
    have hDc := hD.sub (ws' := [(h0, .inr (12, [.int 0, .int 0, .ref mr, .ref mt, .ref mw, .ref mu, .ref mp, .ref mi, .ref mk, .ref ms, .int 0, .ref mv, .int 0, .int 0, .int 0, .int 0, .long 0, .int (-1), .int 0, .ref m1w, .ref m2w, .ref m3w, .ref m4w, .int 0, .long 0, .long 0, .long 0])), (mr, .inl (cm1, 7, .inl (fun _ => 0)))]) [0, 1] (by decide) rfl
    have hKc := hK.sub (tys' := [(cm1, .int)]) [0] rfl
    have hFc := va_free (wc := [(h0, .inr (12, [.int 0, .int 0, .ref mr, .ref mt, .ref mw, .ref mu, .ref mp, .ref mi, .ref mk, .ref ms, .int 0, .ref mv, .int 0, .int 0, .int 0, .int 0, .long 0, .int (-1), .int 0, .ref m1w, .ref m2w, .ref m3w, .ref m4w, .int 0, .long 0, .long 0, .long 0])), (mr, .inl (cm1, 7, .inl (fun _ => 0)))]) hD hS hA [0, 1] rfl
    refine va_calli (va_runV (As := [.int (-1)]) (rest := []) ⟨hx, hb, hml, hown, hts⟩ (c_X12_refuse_1 l dC dI h0 mr mt mw mu mp mi mk ms mv m1w m2w m3w m4w cm1 H.size) (cwV 1 hts (gi_V (fun w_ h0_ => ⟨List.mem_cons_of_mem _ (List.mem_append_right _ (List.mem_append_right _ (List.mem_append_right _ (List.mem_append_right _ (List.mem_append_right _ (List.mem_append_right _ (List.mem_append_left _ h0_))))))), (tb_c_X12_refuse_1 w_ h0_).2⟩) (List.mem_cons_of_mem _ (List.mem_append_left _ (List.mem_of_getElem? (i := 16) rfl))) (List.mem_cons_of_mem _ (List.mem_append_left _ (List.mem_of_getElem? (i := 17) rfl))) (List.mem_cons_of_mem _ (List.mem_append_left _ (List.mem_of_getElem? (i := 18) rfl))) (List.mem_cons_of_mem _ (List.mem_append_left _ (List.mem_of_getElem? (i := 4) rfl)))) rfl rfl rfl (by decide +kernel) ⟨Nat.le_of_ble_eq_true rfl, Nat.le_of_ble_eq_true rfl⟩) ⟨fun a U g mk q => by obtain ⟨q0, q1, qP, qK, qD⟩ := q; exact ⟨q0, q1, qP, va_K.moved (u := U) (U := U.calling g mk a) (Vm.Alike.refl U.vm) qK, qD⟩, va_recv hKc hPc (ci := 12) (q0 := 0) rfl rfl, fun U hU hW => ⟨rfl, by rw [hU], by rw [hU]; exact hPc, va_K.moved hW.alike hKc, hDc.weaken (fun _ _ _ _ => trivial)⟩⟩ rfl rfl hl.1 rfl (lv_room (Nat.le_of_ble_eq_true rfl)) dX12_ticks_19 ⟨Nat.le_of_ble_eq_true rfl, Nat.le_of_ble_eq_true rfl⟩) hS (fun q _ h => hFc q h) hFc (fun r_11 u t H1 locs ht hvm hw hB hz1 hk1 hS => ?_)
    obtain ⟨hP1, hK1, hD1⟩ := hB
    rw [ht] at hP1
    have hK1 := va_K.moved hvm.symm hK1
    obtain ⟨hP, hD⟩ := va_join (wr := [(mt, .inl (cm2, 3, .inl ft)), (mw, .inl (cm3, 906, .inr (.inl fw))), (mu, .inl (cm4, 9060, .inr (.inl (fun _ => 0)))), (ms, .inl (cm8, 10, .inl (fun _ => 0)))]) (w1 := []) hP hD [0, 1] [2, 3, 4, 5] rfl rfl (by decide) (by decide) hk1 hFc hP1 hD1
    generalize H1 = H at hP hS ⊢
    have hP : va_P (dC, dI) vwCl [(mt, .inl (cm2, 3, .inl ft)), (mw, .inl (cm3, 906, .inr (.inl fw))), (mu, .inl (cm4, 9060, .inr (.inl (fun _ => 0)))), (ms, .inl (cm8, 10, .inl (fun _ => 0)))] H := hP
    have hD : va_D A [(mt, .inl (cm2, 3, .inl ft)), (mw, .inl (cm3, 906, .inr (.inl fw))), (mu, .inl (cm4, 9060, .inr (.inl (fun _ => 0)))), (ms, .inl (cm8, 10, .inl (fun _ => 0)))] := hD
    refine W.widen (k := 0) (n := 0) (Nat.le_of_ble_eq_true rfl) (Nat.le_of_ble_eq_true rfl) ?_
    have hw : r_11 = (-1) := hw
    subst hw
    have hP9 := hP.sub (ws' := []) [] rfl
    have hD9 := hD.sub (ws' := []) [] (by decide) rfl
    have hK9 := hK.sub (tys' := []) [] rfl
    refine W.widen (k := 0) (n := 0) (Nat.le_of_ble_eq_true rfl) (Nat.le_of_ble_eq_true rfl) ?_
    exact W.iret (v := (-1)) hx hb hr (fun t ht hW => ⟨⟨(-1), (), rfl, (by have z0 := (sp_r0 _ _ _).mp (Classical.not_not.mp c_2); unfold sp_one; (repeat' split) <;> first | rfl | omega | (refine Int32.toInt_inj.mp ?_; omega)), by rw [ht]; exact hP9, va_K.moved hW.alike hK9, hD9⟩, hS.F ht⟩) hS.2.2 dX12_ticks_22
def ow_c_X12_ahead : List Cond := [.fieldLink RX12 67 "DeadlineShareModel" "thrown" "I", .constantLong RX12 172 (60), .methodLink RX12 83 yX12_in, .static yX12_in, .initialized RX12, .fieldLink RX12 16 "DeadlineShareModel" "row" "[J", .constantLong RX12 286 (9999), .methodLink RX12 310 yX12_begin, .instanceMethod yX12_begin, .selects RX12 yX12_begin yX12_begin, .methodLink RX12 313 yX12_over, .instanceMethod yX12_over, .selects RX12 yX12_over yX12_over, .methodLink RX12 288 yX12_tick, .instanceMethod yX12_tick, .selects RX12 yX12_tick yX12_tick]
def wq_c_X12_ahead : List Cond := .code yX12_ahead cX12_ahead 4 (some .int) :: (ow_c_X12_ahead ++ (u_ws RX12 TX12 27 ++ (wq_c_X12_in ++ (wq_c_X12_begin ++ (wq_c_X12_over ++ (wq_c_X12_tick ++ ([] : List Cond)))))))
theorem tb_c_X12_ahead : ∀ w ∈ wq_c_X12_ahead, q_g w := by
  unfold wq_c_X12_ahead ow_c_X12_ahead
  exact q_cons tw_561 (q_app (q_cons tw_488 (q_cons tw_516 (q_cons tw_437 (q_cons tw_436 (q_cons tw_435 (q_cons tw_425 (q_cons tw_553 (q_cons tw_560 (q_cons tw_559 (q_cons tw_558 (q_cons tw_557 (q_cons tw_556 (q_cons tw_555 (q_cons tw_552 (q_cons tw_551 (q_cons tw_550 q_nil)))))))))))))))) (q_app tu_X12 (q_app tb_c_X12_in (q_app tb_c_X12_begin (q_app tb_c_X12_over (q_app tb_c_X12_tick q_nil))))))
set_option maxHeartbeats 4000000 in
set_option maxRecDepth 100000 in
theorem c_X12_ahead (l : Launch) (dC : Nat → ClassId) (dI : Nat → Nat → Nat) (h0 : Nat) (nq : Int32) (mr : Nat) (mt : Nat) (mw : Nat) (mu : Nat) (mp : Nat) (mi : Nat) (mk : Nat) (ms : Nat) (mv : Nat) (m1w : Nat) (m2w : Nat) (m3w : Nat) (m4w : Nat) (cm2 : ClassId) (ft : Nat → Int32) (cm3 : ClassId) (fw : Nat → Int64) (cm5 : ClassId) (sz : Nat) (ht0 : ft 0 = 0) (ht1 : ft 1 = 1) (ht2 : ft 2 = 1) (hw0 : fw 0 = 0) (hw1 : fw 1 = 0) (hw2 : fw 2 = 0) (hw3 : fw 3 = (-1)) (hw4 : fw 4 = (-1)) (hw5 : fw 5 = 0) : Met l yX12_ahead wq_c_X12_ahead ({ frames := 4, cells := 0, slots := 0, locals := 94 } : Room) (va_Pc [.ref h0, .int nq] (fun U => U.heap.size = sz ∧ va_P (dC, dI) vwCl [(h0, .inr (12, [.int 0, .int 0, .ref mr, .ref mt, .ref mw, .ref mu, .ref mp, .ref mi, .ref mk, .ref ms, .int 0, .ref mv, .int 0, .int 0, .int 0, .int 0, .long 0, .int (-1), .int 0, .ref m1w, .ref m2w, .ref m3w, .ref m4w, .int 0, .long 0, .long 0, .long 0])), (mt, .inl (cm2, 3, .inl ft)), (mw, .inl (cm3, 906, .inr (.inl fw))), (mp, .inl (cm5, 906, .inr (.inl (fun _ => 0))))] U.heap ∧ va_K (dC, dI) vwCl [(cm2, .int), (cm3, .long), (cm5, .long)] U ∧ va_D (fun _ => True) [(h0, .inr (12, [.int 0, .int 0, .ref mr, .ref mt, .ref mw, .ref mu, .ref mp, .ref mi, .ref mk, .ref ms, .int 0, .ref mv, .int 0, .int 0, .int 0, .int 0, .long 0, .int (-1), .int 0, .ref m1w, .ref m2w, .ref m3w, .ref m4w, .int 0, .long 0, .long 0, .long 0])), (mt, .inl (cm2, 3, .inl ft)), (mw, .inl (cm3, 906, .inr (.inl fw))), (mp, .inl (cm5, 906, .inr (.inl (fun _ => 0))))])) (va_Qi (fun (r : Int32) (_ : Unit) => r = (-1)) (fun (_ : Unit) t => va_P (dC, dI) vwCl [] t.heap ∧ va_K (dC, dI) vwCl [] t ∧ va_D (va_A [(h0, .inr (12, [.int 0, .int 0, .ref mr, .ref mt, .ref mw, .ref mu, .ref mp, .ref mi, .ref mk, .ref ms, .int 0, .ref mv, .int 0, .int 0, .int 0, .int 0, .long 0, .int (-1), .int 0, .ref m1w, .ref m2w, .ref m3w, .ref m4w, .int 0, .long 0, .long 0, .long 0])), (mt, .inl (cm2, 3, .inl ft)), (mw, .inl (cm3, 906, .inr (.inl fw))), (mp, .inl (cm5, 906, .inr (.inl (fun _ => 0))))] sz) []) (va_A [(h0, .inr (12, [.int 0, .int 0, .ref mr, .ref mt, .ref mw, .ref mu, .ref mp, .ref mi, .ref mk, .ref ms, .int 0, .ref mv, .int 0, .int 0, .int 0, .int 0, .long 0, .int (-1), .int 0, .ref m1w, .ref m2w, .ref m3w, .ref m4w, .int 0, .long 0, .long 0, .long 0])), (mt, .inl (cm2, 3, .inl ft)), (mw, .inl (cm3, 906, .inr (.inl fw))), (mp, .inl (cm5, 906, .inr (.inl (fun _ => 0))))] sz)) 0 0 (va_A [(h0, .inr (12, [.int 0, .int 0, .ref mr, .ref mt, .ref mw, .ref mu, .ref mp, .ref mi, .ref mk, .ref ms, .int 0, .ref mv, .int 0, .int 0, .int 0, .int 0, .long 0, .int (-1), .int 0, .ref m1w, .ref m2w, .ref m3w, .ref m4w, .int 0, .long 0, .long 0, .long 0])), (mt, .inl (cm2, 3, .inl ft)), (mw, .inl (cm3, 906, .inr (.inl fw))), (mp, .inl (cm5, 906, .inr (.inl (fun _ => 0))))] sz) := by
  refine Met.ofW (cc := cX12_ahead) (maxL := 4) (ret := (some .int)) (by decide) rfl ?_
  intro p e s m args below meth c s₁ B hml hv
  obtain ⟨rfl, hsz, hP, hK, hD0⟩ := hv
  have hx := B.exec
  have hb := B.bytes
  have hr := B.returns
  have hts := atoms_spec (ws := wq_c_X12_ahead) B.pre
  have hown : s.vm.findClass RX12 = some m.cls := findClass_of_methodNamed B.named
  have hlocks := B.notSynchronized
  subst hsz
  have hD := hD0.self (sz := s.heap.size)
  obtain ⟨A, hAe⟩ : ∃ A, A = va_A [(h0, .inr (12, [.int 0, .int 0, .ref mr, .ref mt, .ref mw, .ref mu, .ref mp, .ref mi, .ref mk, .ref ms, .int 0, .ref mv, .int 0, .int 0, .int 0, .int 0, .long 0, .int (-1), .int 0, .ref m1w, .ref m2w, .ref m3w, .ref m4w, .int 0, .long 0, .long 0, .long 0])), (mt, .inl (cm2, 3, .inl ft)), (mw, .inl (cm3, 906, .inr (.inl fw))), (mp, .inl (cm5, 906, .inr (.inl (fun _ => 0))))] s.heap.size := ⟨_, rfl⟩
  rw [← hAe] at hD ⊢
  have hA : ∀ q : Nat, s.heap.size ≤ q → A q := fun q h => by rw [hAe]; exact Or.inr h
  have hS : va_S A s.heap s.heap [] := va_S.rf
  have hP : va_P (dC, dI) vwCl [(h0, .inr (12, [.int 0, .int 0, .ref mr, .ref mt, .ref mw, .ref mu, .ref mp, .ref mi, .ref mk, .ref ms, .int 0, .ref mv, .int 0, .int 0, .int 0, .int 0, .long 0, .int (-1), .int 0, .ref m1w, .ref m2w, .ref m3w, .ref m4w, .int 0, .long 0, .long 0, .long 0])), (mt, .inl (cm2, 3, .inl ft)), (mw, .inl (cm3, 906, .inr (.inl fw))), (mp, .inl (cm5, 906, .inr (.inl (fun _ => 0))))] s.heap := hP
  have hl := lv_entry ([.ref h0, .int nq]) (n := 4) (Nat.le_of_ble_eq_true rfl)
  rw [lg_entry_eq]
  generalize (lg_sl ([.ref h0, .int nq]) ++ List.replicate (4 - (lg_sl ([.ref h0, .int nq])).length) Slot.unset).toArray = ls at hl ⊢
  have hl : lv_has ls 4 [(0, .ref h0), (1, .int nq)] := hl
  refine lv_aload_n hx hb dX12_ahead_0 rfl (lv_at hl 0 rfl) ?_
  refine lv_iconst (v := 0) hx hb dX12_ahead_1 (by decide) ?_
  refine va_put (D := (dC, dI)) (ci := 12) (v := .int 0) (ty := .int) (C := RX12) (T := TX12) (N := 27) hx hb hts (fun _ h0_ => List.mem_cons_of_mem _ (List.mem_append_right _ (List.mem_append_left _ h0_))) tyX12 tyX12_ok nmX12 hown hK hP hD hS 0 rfl rfl 0 (by decide) (hts (.fieldLink RX12 67 "DeadlineShareModel" "thrown" "I") (List.mem_cons_of_mem _ (List.mem_append_left _ (List.mem_of_getElem? (i := 0) rfl)))) (fun _ h9 => h9) rfl (by decide +kernel) rfl rfl (Nat.le_of_ble_eq_true rfl) dX12_ahead_2 (fun H locs hP hD hS => ?_)
  have hP : va_P (dC, dI) vwCl [(h0, .inr (12, [.int 0, .int 0, .ref mr, .ref mt, .ref mw, .ref mu, .ref mp, .ref mi, .ref mk, .ref ms, .int 0, .ref mv, .int 0, .int 0, .int 0, .int 0, .long 0, .int (-1), .int 0, .ref m1w, .ref m2w, .ref m3w, .ref m4w, .int 0, .long 0, .long 0, .long 0])), (mt, .inl (cm2, 3, .inl ft)), (mw, .inl (cm3, 906, .inr (.inl fw))), (mp, .inl (cm5, 906, .inr (.inl (fun _ => 0))))] H := hP
  have hD : va_D A [(h0, .inr (12, [.int 0, .int 0, .ref mr, .ref mt, .ref mw, .ref mu, .ref mp, .ref mi, .ref mk, .ref ms, .int 0, .ref mv, .int 0, .int 0, .int 0, .int 0, .long 0, .int (-1), .int 0, .ref m1w, .ref m2w, .ref m3w, .ref m4w, .int 0, .long 0, .long 0, .long 0])), (mt, .inl (cm2, 3, .inl ft)), (mw, .inl (cm3, 906, .inr (.inl fw))), (mp, .inl (cm5, 906, .inr (.inl (fun _ => 0))))] := hD
  refine lv_iload_n hx hb dX12_ahead_5 rfl (lv_at hl 1 rfl) ?_
  refine lv_i2l (v := nq.toInt64) hx hb dX12_ahead_6 rfl ?_
  refine lv_lconst (v := 1) hx hb dX12_ahead_7 (by decide) ?_
  refine lv_ldc2 hx hb hown (hts (.constantLong RX12 172 (60)) (List.mem_cons_of_mem _ (List.mem_append_left _ (List.mem_of_getElem? (i := 1) rfl)))) dX12_ahead_8 ?_
  have hPc := hP.sub (ws' := []) [] rfl
  have hDc := hD.sub (ws' := []) [] (by decide) rfl
  have hKc := hK.sub (tys' := []) [] rfl
  have hFc := va_free (wc := []) hD hS hA [] rfl
  refine va_calli (va_runS (As := [.long nq.toInt64, .long 1, .long 60]) (rest := []) ⟨hx, hb, hml, hown, hts⟩ (c_X12_in l dC dI nq.toInt64 1 60 H.size) (va_cwS 3 hts (gi_S (fun w_ h0_ => ⟨List.mem_cons_of_mem _ (List.mem_append_right _ (List.mem_append_right _ (List.mem_append_left _ h0_))), (tb_c_X12_in w_ h0_).2⟩) (List.mem_cons_of_mem _ (List.mem_append_left _ (List.mem_of_getElem? (i := 2) rfl))) (List.mem_cons_of_mem _ (List.mem_append_left _ (List.mem_of_getElem? (i := 3) rfl))) (List.mem_cons_of_mem _ (List.mem_append_left _ (List.mem_of_getElem? (i := 4) rfl)))) rfl rfl rfl (by decide +kernel) ⟨Nat.le_of_ble_eq_true rfl, Nat.le_of_ble_eq_true rfl⟩) ⟨fun a U g mk q => by obtain ⟨q0, q1, qP, qK, qD⟩ := q; exact ⟨q0, q1, qP, va_K.moved (u := U) (U := U.calling g mk a) (Vm.Alike.refl U.vm) qK, qD⟩, fun U hU hW => ⟨rfl, by rw [hU], by rw [hU]; exact hPc, va_K.moved hW.alike hKc, hDc.weaken (fun _ _ _ _ => trivial)⟩⟩ rfl rfl hl.1 rfl (lv_room (Nat.le_of_ble_eq_true rfl)) dX12_ahead_11 ⟨Nat.le_of_ble_eq_true rfl, Nat.le_of_ble_eq_true rfl⟩) hS (fun q _ h => hFc q h) hFc (fun r_1 u t H1 locs ht hvm hw hB hz1 hk1 hS => ?_)
  obtain ⟨hP1, hK1, hD1⟩ := hB
  rw [ht] at hP1
  have hK1 := va_K.moved hvm.symm hK1
  obtain ⟨hP, hD⟩ := va_join (wr := [(h0, .inr (12, [.int 0, .int 0, .ref mr, .ref mt, .ref mw, .ref mu, .ref mp, .ref mi, .ref mk, .ref ms, .int 0, .ref mv, .int 0, .int 0, .int 0, .int 0, .long 0, .int (-1), .int 0, .ref m1w, .ref m2w, .ref m3w, .ref m4w, .int 0, .long 0, .long 0, .long 0])), (mt, .inl (cm2, 3, .inl ft)), (mw, .inl (cm3, 906, .inr (.inl fw))), (mp, .inl (cm5, 906, .inr (.inl (fun _ => 0))))]) (w1 := []) hP hD [] [0, 1, 2, 3] rfl rfl (by decide) (by decide) hk1 hFc hP1 hD1
  generalize H1 = H at hP hS ⊢
  have hP : va_P (dC, dI) vwCl [(h0, .inr (12, [.int 0, .int 0, .ref mr, .ref mt, .ref mw, .ref mu, .ref mp, .ref mi, .ref mk, .ref ms, .int 0, .ref mv, .int 0, .int 0, .int 0, .int 0, .long 0, .int (-1), .int 0, .ref m1w, .ref m2w, .ref m3w, .ref m4w, .int 0, .long 0, .long 0, .long 0])), (mt, .inl (cm2, 3, .inl ft)), (mw, .inl (cm3, 906, .inr (.inl fw))), (mp, .inl (cm5, 906, .inr (.inl (fun _ => 0))))] H := hP
  have hD : va_D A [(h0, .inr (12, [.int 0, .int 0, .ref mr, .ref mt, .ref mw, .ref mu, .ref mp, .ref mi, .ref mk, .ref ms, .int 0, .ref mv, .int 0, .int 0, .int 0, .int 0, .long 0, .int (-1), .int 0, .ref m1w, .ref m2w, .ref m3w, .ref m4w, .int 0, .long 0, .long 0, .long 0])), (mt, .inl (cm2, 3, .inl ft)), (mw, .inl (cm3, 906, .inr (.inl fw))), (mp, .inl (cm5, 906, .inr (.inl (fun _ => 0))))] := hD
  refine W.widen (k := 0) (n := 0) (Nat.le_of_ble_eq_true rfl) (Nat.le_of_ble_eq_true rfl) ?_
  have hw : r_1 = sp_in nq.toInt64 1 60 := hw
  subst hw
  refine k_topi (y := sp_r nq 1 60) (sp_in_r _ _ _ (by decide) (by decide)) ?_
  refine lv_if_eq (tgt := 33) hx hb dX12_ahead_14 (by decide) (fun c_2 => ?_) (fun c_2 => ?_)
  · refine lv_iconst (v := (-1)) hx hb dX12_ahead_33 (by decide) ?_
    have hP9 := hP.sub (ws' := []) [] rfl
    have hD9 := hD.sub (ws' := []) [] (by decide) rfl
    have hK9 := hK.sub (tys' := []) [] rfl
    refine W.widen (k := 0) (n := 0) (Nat.le_of_ble_eq_true rfl) (Nat.le_of_ble_eq_true rfl) ?_
    exact W.iret (v := (-1)) hx hb hr (fun t ht hW => ⟨⟨(-1), (), rfl, rfl, by rw [ht]; exact hP9, va_K.moved hW.alike hK9, hD9⟩, hS.F ht⟩) hS.2.2 dX12_ahead_34
  · refine lv_aload_n hx hb dX12_ahead_17 rfl (lv_at hl 0 rfl) ?_
    refine va_get (D := (dC, dI)) (ci := 12) (v := .ref mw) (C := RX12) (T := TX12) (N := 27) hx hb hts (fun _ h0_ => List.mem_cons_of_mem _ (List.mem_append_right _ (List.mem_append_left _ h0_))) hown hK hP 0 rfl rfl 4 (by decide) (hts (.fieldLink RX12 16 "DeadlineShareModel" "row" "[J") (List.mem_cons_of_mem _ (List.mem_append_left _ (List.mem_of_getElem? (i := 5) rfl)))) (fun _ h9 => h9) rfl dX12_ahead_18 ?_
    refine lv_iconst (v := 1) hx hb dX12_ahead_21 (by decide) ?_
    refine va_lald hx hb hK hP 2 1 rfl rfl (by unfold vp_in; decide) dX12_ahead_22 ?_
    refine k_topl (y := 0) ((congrArg fw (show Int32.toNatClampNeg 1 = 1 by decide)).trans hw1) ?_
    refine lv_iload_n hx hb dX12_ahead_23 rfl (lv_at hl 1 rfl) ?_
    refine lv_i2l (v := nq.toInt64) hx hb dX12_ahead_24 rfl ?_
    refine lv_ladd hx hb dX12_ahead_25 ?_
    refine k_topl (y := nq.toInt64) (Int64.zero_add _) ?_
    refine lv_ldc2 hx hb hown (hts (.constantLong RX12 286 (9999)) (List.mem_cons_of_mem _ (List.mem_append_left _ (List.mem_of_getElem? (i := 6) rfl)))) dX12_ahead_26 ?_
    refine W.lcmp hx hb dX12_ahead_29 ?_
    refine lv_if_le (tgt := 35) hx hb dX12_ahead_30 (by decide) (fun _ => ?_) (fun c => absurd ((lg_cmp_le _ _).mpr ((fa_le64 _ _).mpr (by have z0 := (sp_r1 _ _ _).mp c_2; have ll9999 : Int64.toInt 9999 = 9999 := (by decide); have w0 := Int32.toInt_toInt64 nq; skip; omega))) c)
    refine lv_aload_n hx hb dX12_ahead_35 rfl (lv_at hl 0 rfl) ?_
    have hPc := hP.sub (ws' := [(h0, .inr (12, [.int 0, .int 0, .ref mr, .ref mt, .ref mw, .ref mu, .ref mp, .ref mi, .ref mk, .ref ms, .int 0, .ref mv, .int 0, .int 0, .int 0, .int 0, .long 0, .int (-1), .int 0, .ref m1w, .ref m2w, .ref m3w, .ref m4w, .int 0, .long 0, .long 0, .long 0])), (mw, .inl (cm3, 906, .inr (.inl fw))), (mp, .inl (cm5, 906, .inr (.inl (fun _ => 0))))]) [0, 2, 3] rfl
    have hDc := hD.sub (ws' := [(h0, .inr (12, [.int 0, .int 0, .ref mr, .ref mt, .ref mw, .ref mu, .ref mp, .ref mi, .ref mk, .ref ms, .int 0, .ref mv, .int 0, .int 0, .int 0, .int 0, .long 0, .int (-1), .int 0, .ref m1w, .ref m2w, .ref m3w, .ref m4w, .int 0, .long 0, .long 0, .long 0])), (mw, .inl (cm3, 906, .inr (.inl fw))), (mp, .inl (cm5, 906, .inr (.inl (fun _ => 0))))]) [0, 2, 3] (by decide) rfl
    have hKc := hK.sub (tys' := [(cm3, .long), (cm5, .long)]) [1, 2] rfl
    have hFc := va_free (wc := [(h0, .inr (12, [.int 0, .int 0, .ref mr, .ref mt, .ref mw, .ref mu, .ref mp, .ref mi, .ref mk, .ref ms, .int 0, .ref mv, .int 0, .int 0, .int 0, .int 0, .long 0, .int (-1), .int 0, .ref m1w, .ref m2w, .ref m3w, .ref m4w, .int 0, .long 0, .long 0, .long 0])), (mw, .inl (cm3, 906, .inr (.inl fw))), (mp, .inl (cm5, 906, .inr (.inl (fun _ => 0))))]) hD hS hA [0, 2, 3] rfl
    refine va_callv (va_runV (As := []) (rest := []) ⟨hx, hb, hml, hown, hts⟩ (c_X12_begin l dC dI h0 0 0 mr mt mw mu mp mi mk ms 0 mv 0 0 0 0 0 (-1) 0 m1w m2w m3w m4w 0 0 0 0 cm3 fw cm5 H.size) (cwV 0 hts (gi_V (fun w_ h0_ => ⟨List.mem_cons_of_mem _ (List.mem_append_right _ (List.mem_append_right _ (List.mem_append_right _ (List.mem_append_left _ h0_)))), (tb_c_X12_begin w_ h0_).2⟩) (List.mem_cons_of_mem _ (List.mem_append_left _ (List.mem_of_getElem? (i := 7) rfl))) (List.mem_cons_of_mem _ (List.mem_append_left _ (List.mem_of_getElem? (i := 8) rfl))) (List.mem_cons_of_mem _ (List.mem_append_left _ (List.mem_of_getElem? (i := 9) rfl))) (List.mem_cons_of_mem _ (List.mem_append_left _ (List.mem_of_getElem? (i := 4) rfl)))) rfl rfl rfl (by decide +kernel) ⟨Nat.le_of_ble_eq_true rfl, Nat.le_of_ble_eq_true rfl⟩) ⟨fun a U g mk q => by obtain ⟨q0, q1, qP, qK, qD⟩ := q; exact ⟨q0, q1, qP, va_K.moved (u := U) (U := U.calling g mk a) (Vm.Alike.refl U.vm) qK, qD⟩, va_recv hKc hPc (ci := 12) (q0 := 0) rfl rfl, fun U hU hW => ⟨rfl, by rw [hU], by rw [hU]; exact hPc, va_K.moved hW.alike hKc, hDc.weaken (fun _ _ _ _ => trivial)⟩⟩ rfl rfl hl.1 rfl (lv_room (Nat.le_of_ble_eq_true rfl)) dX12_ahead_36 ⟨Nat.le_of_ble_eq_true rfl, Nat.le_of_ble_eq_true rfl⟩) hS (fun q _ h => hFc q h) hFc (fun u t H1 locs ht hvm hw hB hz1 hk1 hS => ?_)
    obtain ⟨f_3, hP1, hK1, hD1⟩ := hB
    rw [ht] at hP1
    have hK1 := va_K.moved hvm.symm hK1
    obtain ⟨hP, hD⟩ := va_join (wr := [(mt, .inl (cm2, 3, .inl ft))]) (w1 := [(h0, .inr (12, [.int 0, .int 0, .ref mr, .ref mt, .ref mw, .ref mu, .ref mp, .ref mi, .ref mk, .ref ms, .int 0, .ref mv, .int 0, .int 0, .int 0, .int 0, .long 0, .int (-1), .int 0, .ref m1w, .ref m2w, .ref m3w, .ref m4w, .int 0, .long 0, .long 0, .long 0])), (mw, .inl (cm3, 906, .inr (.inl fw))), (mp, .inl (cm5, 906, .inr (.inl f_3)))]) hP hD [0, 2, 3] [1] rfl rfl (by decide) (by decide) hk1 hFc hP1 hD1
    generalize H1 = H at hP hS ⊢
    have hP : va_P (dC, dI) vwCl [(mt, .inl (cm2, 3, .inl ft)), (h0, .inr (12, [.int 0, .int 0, .ref mr, .ref mt, .ref mw, .ref mu, .ref mp, .ref mi, .ref mk, .ref ms, .int 0, .ref mv, .int 0, .int 0, .int 0, .int 0, .long 0, .int (-1), .int 0, .ref m1w, .ref m2w, .ref m3w, .ref m4w, .int 0, .long 0, .long 0, .long 0])), (mw, .inl (cm3, 906, .inr (.inl fw))), (mp, .inl (cm5, 906, .inr (.inl f_3)))] H := hP
    have hD : va_D A [(mt, .inl (cm2, 3, .inl ft)), (h0, .inr (12, [.int 0, .int 0, .ref mr, .ref mt, .ref mw, .ref mu, .ref mp, .ref mi, .ref mk, .ref ms, .int 0, .ref mv, .int 0, .int 0, .int 0, .int 0, .long 0, .int (-1), .int 0, .ref m1w, .ref m2w, .ref m3w, .ref m4w, .int 0, .long 0, .long 0, .long 0])), (mw, .inl (cm3, 906, .inr (.inl fw))), (mp, .inl (cm5, 906, .inr (.inl f_3)))] := hD
    refine W.widen (k := 0) (n := 0) (Nat.le_of_ble_eq_true rfl) (Nat.le_of_ble_eq_true rfl) ?_
    refine lv_iconst (v := (-1)) hx hb dX12_ahead_39 (by decide) ?_
    refine lv_istore_n (lv' := [(2, .int (-1)), (0, .ref h0), (1, .int nq)]) hx hb dX12_ahead_40 rfl hl (by decide) rfl (fun ls hl => ?_)
    refine lv_iconst (v := 0) hx hb dX12_ahead_41 (by decide) ?_
    refine lv_istore_n (lv' := [(3, .int 0), (2, .int (-1)), (0, .ref h0), (1, .int nq)]) hx hb dX12_ahead_42 rfl hl (by decide) rfl (fun ls hl => ?_)
    obtain ⟨N9, hN9, eN9⟩ : ∃ N : Nat, N ≤ 60 ∧ nq = nI N := nI_of2 (M := 60) (by decide) (fun h8 => by have h7 := (fa_lt _ _).mp h8; have z0 := (sp_r1 _ _ _).mp c_2; have li0 : Int32.toInt 0 = 0 := (by decide); have li1 : Int32.toInt 1 = 1 := (by decide); have li60 : Int32.toInt 60 = 60 := (by decide); skip; omega) ((fa_le _ _).mpr (by have z0 := (sp_r1 _ _ _).mp c_2; have li0 : Int32.toInt 0 = 0 := (by decide); have li1 : Int32.toInt 1 = 1 := (by decide); have li60 : Int32.toInt 60 = 60 := (by decide); skip; omega))
    subst eN9
    have key : ∀ (nn ii : Nat) (fq : Nat → Int64) (H : Heap) (locs : List Loc) (ls : Array Slot), ii + nn = N9 → fq 0 = 0 → fq 1 = lN ii → fq 3 = (-1) → fq 4 = (-1) → fq 5 = lN ii → va_P (dC, dI) vwCl [(mt, .inl (cm2, 3, .inl ft)), (h0, .inr (12, [.int 0, .int 0, .ref mr, .ref mt, .ref mw, .ref mu, .ref mp, .ref mi, .ref mk, .ref ms, .int 0, .ref mv, .int 0, .int 0, .int 0, .int 0, .long 0, .int (-1), .int 0, .ref m1w, .ref m2w, .ref m3w, .ref m4w, .int 0, .long 0, .long 0, .long 0])), (mw, .inl (cm3, 906, .inr (.inl fq))), (mp, .inl (cm5, 906, .inr (.inl f_3)))] H → va_D A [(mt, .inl (cm2, 3, .inl ft)), (h0, .inr (12, [.int 0, .int 0, .ref mr, .ref mt, .ref mw, .ref mu, .ref mp, .ref mi, .ref mk, .ref ms, .int 0, .ref mv, .int 0, .int 0, .int 0, .int 0, .long 0, .int (-1), .int 0, .ref m1w, .ref m2w, .ref m3w, .ref m4w, .int 0, .long 0, .long 0, .long 0])), (mw, .inl (cm3, 906, .inr (.inl fq))), (mp, .inl (cm5, 906, .inr (.inl f_3)))] → va_S A s.heap H locs → lv_has ls 4 [(3, .int (nI ii)), (2, .int (-1)), (0, .ref h0), (1, .int (nI N9))] → W p l e (headSpec wq_c_X12_ahead ({ frames := 4, cells := 0, slots := 0, locals := 94 } : Room)).room s m ([.ref h0, .int (nI N9)].toArray) below meth c H locs 0 0 (MQ below (va_Qi (fun (r : Int32) (_ : Unit) => r = (-1)) (fun (_ : Unit) t => va_P (dC, dI) vwCl [] t.heap ∧ va_K (dC, dI) vwCl [] t ∧ va_D A []) A) ([.ref h0, .int (nI N9)].toArray) s 0 0 A) (F0 m 43 ls []) := by
      intro nn
      induction nn with
      | zero =>
        intro ii fq H locs ls hin hf43_0 hf43_1 hf43_2 hf43_3 hf43_4 hP hD hS hl
        have hiB : ii = N9 := by omega
        refine lv_iload_n hx hb dX12_ahead_43 rfl (lv_at hl 0 rfl) ?_
        refine lv_iload_n hx hb dX12_ahead_44 rfl (lv_at hl 3 rfl) ?_
        refine lv_icmp_ge (tgt := 60) hx hb dX12_ahead_45 (by decide) (fun _ => ?_) (fun c => absurd (nI_le (a := N9) (b := ii) (by omega) (by omega)) c)
        refine lv_aload_n hx hb dX12_ahead_60 rfl (lv_at hl 2 rfl) ?_
        have hPc := hP.sub (ws' := [(h0, .inr (12, [.int 0, .int 0, .ref mr, .ref mt, .ref mw, .ref mu, .ref mp, .ref mi, .ref mk, .ref ms, .int 0, .ref mv, .int 0, .int 0, .int 0, .int 0, .long 0, .int (-1), .int 0, .ref m1w, .ref m2w, .ref m3w, .ref m4w, .int 0, .long 0, .long 0, .long 0])), (mw, .inl (cm3, 906, .inr (.inl fq))), (mp, .inl (cm5, 906, .inr (.inl f_3)))]) [1, 2, 3] rfl
        have hDc := hD.sub (ws' := [(h0, .inr (12, [.int 0, .int 0, .ref mr, .ref mt, .ref mw, .ref mu, .ref mp, .ref mi, .ref mk, .ref ms, .int 0, .ref mv, .int 0, .int 0, .int 0, .int 0, .long 0, .int (-1), .int 0, .ref m1w, .ref m2w, .ref m3w, .ref m4w, .int 0, .long 0, .long 0, .long 0])), (mw, .inl (cm3, 906, .inr (.inl fq))), (mp, .inl (cm5, 906, .inr (.inl f_3)))]) [1, 2, 3] (by decide) rfl
        have hKc := hK.sub (tys' := [(cm3, .long), (cm5, .long)]) [1, 2] rfl
        have hFc := va_free (wc := [(h0, .inr (12, [.int 0, .int 0, .ref mr, .ref mt, .ref mw, .ref mu, .ref mp, .ref mi, .ref mk, .ref ms, .int 0, .ref mv, .int 0, .int 0, .int 0, .int 0, .long 0, .int (-1), .int 0, .ref m1w, .ref m2w, .ref m3w, .ref m4w, .int 0, .long 0, .long 0, .long 0])), (mw, .inl (cm3, 906, .inr (.inl fq))), (mp, .inl (cm5, 906, .inr (.inl f_3)))]) hD hS hA [1, 2, 3] rfl
        refine va_callv (va_runV (As := []) (rest := []) ⟨hx, hb, hml, hown, hts⟩ (c_X12_over l dC dI h0 0 0 mr mt mw mu mp mi mk ms 0 mv 0 0 0 0 0 (-1) 0 m1w m2w m3w m4w 0 0 0 0 cm3 fq cm5 f_3 H.size) (cwV 0 hts (gi_V (fun w_ h0_ => ⟨List.mem_cons_of_mem _ (List.mem_append_right _ (List.mem_append_right _ (List.mem_append_right _ (List.mem_append_right _ (List.mem_append_left _ h0_))))), (tb_c_X12_over w_ h0_).2⟩) (List.mem_cons_of_mem _ (List.mem_append_left _ (List.mem_of_getElem? (i := 10) rfl))) (List.mem_cons_of_mem _ (List.mem_append_left _ (List.mem_of_getElem? (i := 11) rfl))) (List.mem_cons_of_mem _ (List.mem_append_left _ (List.mem_of_getElem? (i := 12) rfl))) (List.mem_cons_of_mem _ (List.mem_append_left _ (List.mem_of_getElem? (i := 4) rfl)))) rfl rfl rfl (by decide +kernel) ⟨Nat.le_of_ble_eq_true rfl, Nat.le_of_ble_eq_true rfl⟩) ⟨fun a U g mk q => by obtain ⟨q0, q1, qP, qK, qD⟩ := q; exact ⟨q0, q1, qP, va_K.moved (u := U) (U := U.calling g mk a) (Vm.Alike.refl U.vm) qK, qD⟩, va_recv hKc hPc (ci := 12) (q0 := 0) rfl rfl, fun U hU hW => ⟨rfl, by rw [hU], by rw [hU]; exact hPc, va_K.moved hW.alike hKc, hDc.weaken (fun _ _ _ _ => trivial)⟩⟩ rfl rfl hl.1 rfl (lv_room (Nat.le_of_ble_eq_true rfl)) dX12_ahead_61 ⟨Nat.le_of_ble_eq_true rfl, Nat.le_of_ble_eq_true rfl⟩) hS (fun q _ h => hFc q h) hFc (fun u t H1 locs ht hvm hw hB hz1 hk1 hS => ?_)
        obtain ⟨f_4, hP1, hK1, hD1⟩ := hB
        rw [ht] at hP1
        have hK1 := va_K.moved hvm.symm hK1
        obtain ⟨hP, hD⟩ := va_join (wr := [(mt, .inl (cm2, 3, .inl ft))]) (w1 := [(h0, .inr (12, [.int 0, .int 0, .ref mr, .ref mt, .ref mw, .ref mu, .ref mp, .ref mi, .ref mk, .ref ms, .int 0, .ref mv, .int 0, .int 0, .int 0, .int 0, .long 0, .int (-1), .int 0, .ref m1w, .ref m2w, .ref m3w, .ref m4w, .int 0, .long 0, .long 0, .long 0])), (mw, .inl (cm3, 906, .inr (.inl f_4))), (mp, .inl (cm5, 906, .inr (.inl f_3)))]) hP hD [1, 2, 3] [0] rfl rfl (by decide) (by decide) hk1 hFc hP1 hD1
        generalize H1 = H at hP hS ⊢
        have hP : va_P (dC, dI) vwCl [(mt, .inl (cm2, 3, .inl ft)), (h0, .inr (12, [.int 0, .int 0, .ref mr, .ref mt, .ref mw, .ref mu, .ref mp, .ref mi, .ref mk, .ref ms, .int 0, .ref mv, .int 0, .int 0, .int 0, .int 0, .long 0, .int (-1), .int 0, .ref m1w, .ref m2w, .ref m3w, .ref m4w, .int 0, .long 0, .long 0, .long 0])), (mw, .inl (cm3, 906, .inr (.inl f_4))), (mp, .inl (cm5, 906, .inr (.inl f_3)))] H := hP
        have hD : va_D A [(mt, .inl (cm2, 3, .inl ft)), (h0, .inr (12, [.int 0, .int 0, .ref mr, .ref mt, .ref mw, .ref mu, .ref mp, .ref mi, .ref mk, .ref ms, .int 0, .ref mv, .int 0, .int 0, .int 0, .int 0, .long 0, .int (-1), .int 0, .ref m1w, .ref m2w, .ref m3w, .ref m4w, .int 0, .long 0, .long 0, .long 0])), (mw, .inl (cm3, 906, .inr (.inl f_4))), (mp, .inl (cm5, 906, .inr (.inl f_3)))] := hD
        refine W.widen (k := 0) (n := 0) (Nat.le_of_ble_eq_true rfl) (Nat.le_of_ble_eq_true rfl) ?_
        refine lv_iload_n hx hb dX12_ahead_64 rfl (lv_at hl 1 rfl) ?_
        have hP9 := hP.sub (ws' := []) [] rfl
        have hD9 := hD.sub (ws' := []) [] (by decide) rfl
        have hK9 := hK.sub (tys' := []) [] rfl
        refine W.widen (k := 0) (n := 0) (Nat.le_of_ble_eq_true rfl) (Nat.le_of_ble_eq_true rfl) ?_
        exact W.iret (v := (-1)) hx hb hr (fun t ht hW => ⟨⟨(-1), (), rfl, rfl, by rw [ht]; exact hP9, va_K.moved hW.alike hK9, hD9⟩, hS.F ht⟩) hS.2.2 dX12_ahead_65
      | succ nn ih =>
        intro ii fq H locs ls hin hf43_0 hf43_1 hf43_2 hf43_3 hf43_4 hP hD hS hl
        refine lv_iload_n hx hb dX12_ahead_43 rfl (lv_at hl 0 rfl) ?_
        refine lv_iload_n hx hb dX12_ahead_44 rfl (lv_at hl 3 rfl) ?_
        refine lv_icmp_ge (tgt := 60) hx hb dX12_ahead_45 (by decide) (fun c => absurd c (nI_ge (a := ii) (b := N9) (by omega) (by omega))) (fun _ => ?_)
        refine lv_aload_n hx hb dX12_ahead_48 rfl (lv_at hl 2 rfl) ?_
        refine lv_iconst (v := 0) hx hb dX12_ahead_49 (by decide) ?_
        have hPc := hP.sub (ws' := [(h0, .inr (12, [.int 0, .int 0, .ref mr, .ref mt, .ref mw, .ref mu, .ref mp, .ref mi, .ref mk, .ref ms, .int 0, .ref mv, .int 0, .int 0, .int 0, .int 0, .long 0, .int (-1), .int 0, .ref m1w, .ref m2w, .ref m3w, .ref m4w, .int 0, .long 0, .long 0, .long 0])), (mw, .inl (cm3, 906, .inr (.inl fq))), (mt, .inl (cm2, 3, .inl ft))]) [1, 2, 0] rfl
        have hDc := hD.sub (ws' := [(h0, .inr (12, [.int 0, .int 0, .ref mr, .ref mt, .ref mw, .ref mu, .ref mp, .ref mi, .ref mk, .ref ms, .int 0, .ref mv, .int 0, .int 0, .int 0, .int 0, .long 0, .int (-1), .int 0, .ref m1w, .ref m2w, .ref m3w, .ref m4w, .int 0, .long 0, .long 0, .long 0])), (mw, .inl (cm3, 906, .inr (.inl fq))), (mt, .inl (cm2, 3, .inl ft))]) [1, 2, 0] (by decide) rfl
        have hKc := hK.sub (tys' := [(cm3, .long), (cm2, .int)]) [1, 0] rfl
        have hFc := va_free (wc := [(h0, .inr (12, [.int 0, .int 0, .ref mr, .ref mt, .ref mw, .ref mu, .ref mp, .ref mi, .ref mk, .ref ms, .int 0, .ref mv, .int 0, .int 0, .int 0, .int 0, .long 0, .int (-1), .int 0, .ref m1w, .ref m2w, .ref m3w, .ref m4w, .int 0, .long 0, .long 0, .long 0])), (mw, .inl (cm3, 906, .inr (.inl fq))), (mt, .inl (cm2, 3, .inl ft))]) hD hS hA [1, 2, 0] rfl
        refine va_calli (va_runV (As := [.int 0]) (rest := []) ⟨hx, hb, hml, hown, hts⟩ (c_X12_tick l dC dI h0 0 0 0 mr mt mw mu mp mi mk ms 0 mv 0 0 0 0 0 (-1) 0 m1w m2w m3w m4w 0 0 0 0 cm3 fq cm2 ft ii ii H.size hf43_0 hf43_1 hf43_2 hf43_3 hf43_4 ht0 (by omega)) (cwV 1 hts (gi_V (fun w_ h0_ => ⟨List.mem_cons_of_mem _ (List.mem_append_right _ (List.mem_append_right _ (List.mem_append_right _ (List.mem_append_right _ (List.mem_append_right _ (List.mem_append_left _ h0_)))))), (tb_c_X12_tick w_ h0_).2⟩) (List.mem_cons_of_mem _ (List.mem_append_left _ (List.mem_of_getElem? (i := 13) rfl))) (List.mem_cons_of_mem _ (List.mem_append_left _ (List.mem_of_getElem? (i := 14) rfl))) (List.mem_cons_of_mem _ (List.mem_append_left _ (List.mem_of_getElem? (i := 15) rfl))) (List.mem_cons_of_mem _ (List.mem_append_left _ (List.mem_of_getElem? (i := 4) rfl)))) rfl rfl rfl (by decide +kernel) ⟨Nat.le_of_ble_eq_true rfl, Nat.le_of_ble_eq_true rfl⟩) ⟨fun a U g mk q => by obtain ⟨q0, q1, qP, qK, qD⟩ := q; exact ⟨q0, q1, qP, va_K.moved (u := U) (U := U.calling g mk a) (Vm.Alike.refl U.vm) qK, qD⟩, va_recv hKc hPc (ci := 12) (q0 := 0) rfl rfl, fun U hU hW => ⟨rfl, by rw [hU], by rw [hU]; exact hPc, va_K.moved hW.alike hKc, hDc.weaken (fun _ _ _ _ => trivial)⟩⟩ rfl rfl hl.1 rfl (lv_room (Nat.le_of_ble_eq_true rfl)) dX12_ahead_50 ⟨Nat.le_of_ble_eq_true rfl, Nat.le_of_ble_eq_true rfl⟩) hS (fun q _ h => hFc q h) hFc (fun r_5 u t H1 locs ht hvm hw hB hz1 hk1 hS => ?_)
        obtain ⟨f_6, k_7, k_8, k_9, k_10, k_11, hP1, hK1, hD1⟩ := hB
        rw [ht] at hP1
        have hK1 := va_K.moved hvm.symm hK1
        obtain ⟨hP, hD⟩ := va_join (wr := [(mp, .inl (cm5, 906, .inr (.inl f_3)))]) (w1 := [(h0, .inr (12, [.int 0, .int 0, .ref mr, .ref mt, .ref mw, .ref mu, .ref mp, .ref mi, .ref mk, .ref ms, .int 0, .ref mv, .int 0, .int 0, .int 0, .int 0, .long 0, .int (-1), .int 0, .ref m1w, .ref m2w, .ref m3w, .ref m4w, .int 0, .long 0, .long 0, .long 0])), (mw, .inl (cm3, 906, .inr (.inl f_6))), (mt, .inl (cm2, 3, .inl ft))]) hP hD [1, 2, 0] [3] rfl rfl (by decide) (by decide) hk1 hFc hP1 hD1
        generalize H1 = H at hP hS ⊢
        have hP : va_P (dC, dI) vwCl [(mp, .inl (cm5, 906, .inr (.inl f_3))), (h0, .inr (12, [.int 0, .int 0, .ref mr, .ref mt, .ref mw, .ref mu, .ref mp, .ref mi, .ref mk, .ref ms, .int 0, .ref mv, .int 0, .int 0, .int 0, .int 0, .long 0, .int (-1), .int 0, .ref m1w, .ref m2w, .ref m3w, .ref m4w, .int 0, .long 0, .long 0, .long 0])), (mw, .inl (cm3, 906, .inr (.inl f_6))), (mt, .inl (cm2, 3, .inl ft))] H := hP
        have hD : va_D A [(mp, .inl (cm5, 906, .inr (.inl f_3))), (h0, .inr (12, [.int 0, .int 0, .ref mr, .ref mt, .ref mw, .ref mu, .ref mp, .ref mi, .ref mk, .ref ms, .int 0, .ref mv, .int 0, .int 0, .int 0, .int 0, .long 0, .int (-1), .int 0, .ref m1w, .ref m2w, .ref m3w, .ref m4w, .int 0, .long 0, .long 0, .long 0])), (mw, .inl (cm3, 906, .inr (.inl f_6))), (mt, .inl (cm2, 3, .inl ft))] := hD
        refine W.widen (k := 0) (n := 0) (Nat.le_of_ble_eq_true rfl) (Nat.le_of_ble_eq_true rfl) ?_
        have hw : r_5 = (-1) := hw
        subst hw
        refine lv_istore_n (lv' := [(2, .int (-1)), (3, .int (nI ii)), (0, .ref h0), (1, .int (nI N9))]) hx hb dX12_ahead_53 rfl hl (by decide) rfl (fun ls hl => ?_)
        refine lv_iinc (v := nI (ii + 1)) (lv' := [(3, .int (nI (ii + 1))), (2, .int (-1)), (0, .ref h0), (1, .int (nI N9))]) hx hb dX12_ahead_54 hl (k := 1) rfl (nI_1 _) (by decide) rfl (fun ls hl => ?_)
        refine lv_goto (tgt := 43) hx hb dX12_ahead_57 (by decide) ?_
        exact ih (ii + 1) f_6 _ _ _ (by omega) k_7 k_8 k_9 k_10 k_11 (hP.sub [3, 1, 2, 0] rfl) (hD.sub [3, 1, 2, 0] (by decide) rfl) hS (lv_sub hl [0, 1, 2, 3] rfl)
    exact key N9 0 fw _ _ _ (by omega) hw0 hw1 hw3 hw4 hw5 hP hD hS (lv_sub hl [0, 1, 2, 3] rfl)
def ow_c_X12_would : List Cond := [.fieldLink RX12 67 "DeadlineShareModel" "thrown" "I", .constantLong RX12 227 (4), .methodLink RX12 83 yX12_in, .static yX12_in, .initialized RX12, .constant RX12 330 (-2147483648), .constantLong RX12 172 (60), .constantLong RX12 124 (3), .fieldLink RX12 16 "DeadlineShareModel" "row" "[J", .constantLong RX12 286 (9999), .methodLink RX12 310 yX12_begin, .instanceMethod yX12_begin, .selects RX12 yX12_begin yX12_begin, .fieldLink RX12 13 "DeadlineShareModel" "term" "[I", .fieldLink RX12 249 "DeadlineShareModel" "state" "J", .fieldLink RX12 322 "DeadlineShareModel" "most1" "J", .fieldLink RX12 325 "DeadlineShareModel" "least1" "J", .methodLink RX12 313 yX12_over, .instanceMethod yX12_over, .selects RX12 yX12_over yX12_over, .methodLink RX12 288 yX12_tick, .instanceMethod yX12_tick, .selects RX12 yX12_tick yX12_tick, .methodLink RX12 331 yX12_lookAtLags, .instanceMethod yX12_lookAtLags, .selects RX12 yX12_lookAtLags yX12_lookAtLags]
def wq_c_X12_would : List Cond := .code yX12_would cX12_would 10 (some .int) :: (ow_c_X12_would ++ (u_ws RX12 TX12 27 ++ (wq_c_X12_in ++ (wq_c_X12_begin ++ (wq_c_X12_over ++ (wq_c_X12_tick ++ (wq_c_X12_lookAtLags ++ ([] : List Cond))))))))
theorem tb_c_X12_would : ∀ w ∈ wq_c_X12_would, q_g w := by
  unfold wq_c_X12_would ow_c_X12_would
  exact q_cons tw_570 (q_app (q_cons tw_488 (q_cons tw_569 (q_cons tw_437 (q_cons tw_436 (q_cons tw_435 (q_cons tw_568 (q_cons tw_516 (q_cons tw_480 (q_cons tw_425 (q_cons tw_553 (q_cons tw_560 (q_cons tw_559 (q_cons tw_558 (q_cons tw_426 (q_cons tw_567 (q_cons tw_566 (q_cons tw_565 (q_cons tw_557 (q_cons tw_556 (q_cons tw_555 (q_cons tw_552 (q_cons tw_551 (q_cons tw_550 (q_cons tw_564 (q_cons tw_563 (q_cons tw_562 q_nil)))))))))))))))))))))))))) (q_app tu_X12 (q_app tb_c_X12_in (q_app tb_c_X12_begin (q_app tb_c_X12_over (q_app tb_c_X12_tick (q_app tb_c_X12_lookAtLags q_nil)))))))
set_option maxHeartbeats 4000000 in
set_option maxRecDepth 100000 in
theorem c_X12_would (l : Launch) (dC : Nat → ClassId) (dI : Nat → Nat → Nat) (h0 : Nat) (wy : Int32) (nq : Int32) (wh : Int32) (mr : Nat) (mt : Nat) (mw : Nat) (mu : Nat) (mp : Nat) (mi : Nat) (mk : Nat) (ms : Nat) (mv : Nat) (m1w : Nat) (m2w : Nat) (m3w : Nat) (m4w : Nat) (cm2 : ClassId) (ft : Nat → Int32) (cm3 : ClassId) (fw : Nat → Int64) (cm5 : ClassId) (sz : Nat) (ht0 : ft 0 = 0) (ht1 : ft 1 = 1) (ht2 : ft 2 = 1) (hw0 : fw 0 = 0) (hw1 : fw 1 = 0) (hw2 : fw 2 = 0) (hw3 : fw 3 = (-1)) (hw4 : fw 4 = (-1)) (hw5 : fw 5 = 0) : Met l yX12_would wq_c_X12_would ({ frames := 4, cells := 0, slots := 0, locals := 94 } : Room) (va_Pc [.ref h0, .int wy, .int nq, .int wh] (fun U => U.heap.size = sz ∧ va_P (dC, dI) vwCl [(h0, .inr (12, [.int 0, .int 0, .ref mr, .ref mt, .ref mw, .ref mu, .ref mp, .ref mi, .ref mk, .ref ms, .int 0, .ref mv, .int 0, .int 0, .int 0, .int 0, .long 0, .int (-1), .int 0, .ref m1w, .ref m2w, .ref m3w, .ref m4w, .int 0, .long 0, .long 0, .long 0])), (mt, .inl (cm2, 3, .inl ft)), (mw, .inl (cm3, 906, .inr (.inl fw))), (mp, .inl (cm5, 906, .inr (.inl (fun _ => 0))))] U.heap ∧ va_K (dC, dI) vwCl [(cm2, .int), (cm3, .long), (cm5, .long)] U ∧ va_D (fun _ => True) [(h0, .inr (12, [.int 0, .int 0, .ref mr, .ref mt, .ref mw, .ref mu, .ref mp, .ref mi, .ref mk, .ref ms, .int 0, .ref mv, .int 0, .int 0, .int 0, .int 0, .long 0, .int (-1), .int 0, .ref m1w, .ref m2w, .ref m3w, .ref m4w, .int 0, .long 0, .long 0, .long 0])), (mt, .inl (cm2, 3, .inl ft)), (mw, .inl (cm3, 906, .inr (.inl fw))), (mp, .inl (cm5, 906, .inr (.inl (fun _ => 0))))])) (va_Qi (fun (r : Int32) (_ : Unit) => r = sp_would wy nq wh) (fun (_ : Unit) t => va_P (dC, dI) vwCl [] t.heap ∧ va_K (dC, dI) vwCl [] t ∧ va_D (va_A [(h0, .inr (12, [.int 0, .int 0, .ref mr, .ref mt, .ref mw, .ref mu, .ref mp, .ref mi, .ref mk, .ref ms, .int 0, .ref mv, .int 0, .int 0, .int 0, .int 0, .long 0, .int (-1), .int 0, .ref m1w, .ref m2w, .ref m3w, .ref m4w, .int 0, .long 0, .long 0, .long 0])), (mt, .inl (cm2, 3, .inl ft)), (mw, .inl (cm3, 906, .inr (.inl fw))), (mp, .inl (cm5, 906, .inr (.inl (fun _ => 0))))] sz) []) (va_A [(h0, .inr (12, [.int 0, .int 0, .ref mr, .ref mt, .ref mw, .ref mu, .ref mp, .ref mi, .ref mk, .ref ms, .int 0, .ref mv, .int 0, .int 0, .int 0, .int 0, .long 0, .int (-1), .int 0, .ref m1w, .ref m2w, .ref m3w, .ref m4w, .int 0, .long 0, .long 0, .long 0])), (mt, .inl (cm2, 3, .inl ft)), (mw, .inl (cm3, 906, .inr (.inl fw))), (mp, .inl (cm5, 906, .inr (.inl (fun _ => 0))))] sz)) 0 0 (va_A [(h0, .inr (12, [.int 0, .int 0, .ref mr, .ref mt, .ref mw, .ref mu, .ref mp, .ref mi, .ref mk, .ref ms, .int 0, .ref mv, .int 0, .int 0, .int 0, .int 0, .long 0, .int (-1), .int 0, .ref m1w, .ref m2w, .ref m3w, .ref m4w, .int 0, .long 0, .long 0, .long 0])), (mt, .inl (cm2, 3, .inl ft)), (mw, .inl (cm3, 906, .inr (.inl fw))), (mp, .inl (cm5, 906, .inr (.inl (fun _ => 0))))] sz) := by
  refine Met.ofW (cc := cX12_would) (maxL := 10) (ret := (some .int)) (by decide) rfl ?_
  intro p e s m args below meth c s₁ B hml hv
  obtain ⟨rfl, hsz, hP, hK, hD0⟩ := hv
  have hx := B.exec
  have hb := B.bytes
  have hr := B.returns
  have hts := atoms_spec (ws := wq_c_X12_would) B.pre
  have hown : s.vm.findClass RX12 = some m.cls := findClass_of_methodNamed B.named
  have hlocks := B.notSynchronized
  subst hsz
  have hD := hD0.self (sz := s.heap.size)
  obtain ⟨A, hAe⟩ : ∃ A, A = va_A [(h0, .inr (12, [.int 0, .int 0, .ref mr, .ref mt, .ref mw, .ref mu, .ref mp, .ref mi, .ref mk, .ref ms, .int 0, .ref mv, .int 0, .int 0, .int 0, .int 0, .long 0, .int (-1), .int 0, .ref m1w, .ref m2w, .ref m3w, .ref m4w, .int 0, .long 0, .long 0, .long 0])), (mt, .inl (cm2, 3, .inl ft)), (mw, .inl (cm3, 906, .inr (.inl fw))), (mp, .inl (cm5, 906, .inr (.inl (fun _ => 0))))] s.heap.size := ⟨_, rfl⟩
  rw [← hAe] at hD ⊢
  have hA : ∀ q : Nat, s.heap.size ≤ q → A q := fun q h => by rw [hAe]; exact Or.inr h
  have hS : va_S A s.heap s.heap [] := va_S.rf
  have hP : va_P (dC, dI) vwCl [(h0, .inr (12, [.int 0, .int 0, .ref mr, .ref mt, .ref mw, .ref mu, .ref mp, .ref mi, .ref mk, .ref ms, .int 0, .ref mv, .int 0, .int 0, .int 0, .int 0, .long 0, .int (-1), .int 0, .ref m1w, .ref m2w, .ref m3w, .ref m4w, .int 0, .long 0, .long 0, .long 0])), (mt, .inl (cm2, 3, .inl ft)), (mw, .inl (cm3, 906, .inr (.inl fw))), (mp, .inl (cm5, 906, .inr (.inl (fun _ => 0))))] s.heap := hP
  have hl := lv_entry ([.ref h0, .int wy, .int nq, .int wh]) (n := 10) (Nat.le_of_ble_eq_true rfl)
  rw [lg_entry_eq]
  generalize (lg_sl ([.ref h0, .int wy, .int nq, .int wh]) ++ List.replicate (10 - (lg_sl ([.ref h0, .int wy, .int nq, .int wh])).length) Slot.unset).toArray = ls at hl ⊢
  have hl : lv_has ls 10 [(0, .ref h0), (1, .int wy), (2, .int nq), (3, .int wh)] := hl
  refine lv_aload_n hx hb dX12_would_0 rfl (lv_at hl 0 rfl) ?_
  refine lv_iconst (v := 0) hx hb dX12_would_1 (by decide) ?_
  refine va_put (D := (dC, dI)) (ci := 12) (v := .int 0) (ty := .int) (C := RX12) (T := TX12) (N := 27) hx hb hts (fun _ h0_ => List.mem_cons_of_mem _ (List.mem_append_right _ (List.mem_append_left _ h0_))) tyX12 tyX12_ok nmX12 hown hK hP hD hS 0 rfl rfl 0 (by decide) (hts (.fieldLink RX12 67 "DeadlineShareModel" "thrown" "I") (List.mem_cons_of_mem _ (List.mem_append_left _ (List.mem_of_getElem? (i := 0) rfl)))) (fun _ h9 => h9) rfl (by decide +kernel) rfl rfl (Nat.le_of_ble_eq_true rfl) dX12_would_2 (fun H locs hP hD hS => ?_)
  have hP : va_P (dC, dI) vwCl [(h0, .inr (12, [.int 0, .int 0, .ref mr, .ref mt, .ref mw, .ref mu, .ref mp, .ref mi, .ref mk, .ref ms, .int 0, .ref mv, .int 0, .int 0, .int 0, .int 0, .long 0, .int (-1), .int 0, .ref m1w, .ref m2w, .ref m3w, .ref m4w, .int 0, .long 0, .long 0, .long 0])), (mt, .inl (cm2, 3, .inl ft)), (mw, .inl (cm3, 906, .inr (.inl fw))), (mp, .inl (cm5, 906, .inr (.inl (fun _ => 0))))] H := hP
  have hD : va_D A [(h0, .inr (12, [.int 0, .int 0, .ref mr, .ref mt, .ref mw, .ref mu, .ref mp, .ref mi, .ref mk, .ref ms, .int 0, .ref mv, .int 0, .int 0, .int 0, .int 0, .long 0, .int (-1), .int 0, .ref m1w, .ref m2w, .ref m3w, .ref m4w, .int 0, .long 0, .long 0, .long 0])), (mt, .inl (cm2, 3, .inl ft)), (mw, .inl (cm3, 906, .inr (.inl fw))), (mp, .inl (cm5, 906, .inr (.inl (fun _ => 0))))] := hD
  refine lv_iload_n hx hb dX12_would_5 rfl (lv_at hl 1 rfl) ?_
  refine lv_i2l (v := wy.toInt64) hx hb dX12_would_6 rfl ?_
  refine lv_lconst (v := 0) hx hb dX12_would_7 (by decide) ?_
  refine lv_ldc2 hx hb hown (hts (.constantLong RX12 227 (4)) (List.mem_cons_of_mem _ (List.mem_append_left _ (List.mem_of_getElem? (i := 1) rfl)))) dX12_would_8 ?_
  have hPc := hP.sub (ws' := []) [] rfl
  have hDc := hD.sub (ws' := []) [] (by decide) rfl
  have hKc := hK.sub (tys' := []) [] rfl
  have hFc := va_free (wc := []) hD hS hA [] rfl
  refine va_calli (va_runS (As := [.long wy.toInt64, .long 0, .long 4]) (rest := []) ⟨hx, hb, hml, hown, hts⟩ (c_X12_in l dC dI wy.toInt64 0 4 H.size) (va_cwS 3 hts (gi_S (fun w_ h0_ => ⟨List.mem_cons_of_mem _ (List.mem_append_right _ (List.mem_append_right _ (List.mem_append_left _ h0_))), (tb_c_X12_in w_ h0_).2⟩) (List.mem_cons_of_mem _ (List.mem_append_left _ (List.mem_of_getElem? (i := 2) rfl))) (List.mem_cons_of_mem _ (List.mem_append_left _ (List.mem_of_getElem? (i := 3) rfl))) (List.mem_cons_of_mem _ (List.mem_append_left _ (List.mem_of_getElem? (i := 4) rfl)))) rfl rfl rfl (by decide +kernel) ⟨Nat.le_of_ble_eq_true rfl, Nat.le_of_ble_eq_true rfl⟩) ⟨fun a U g mk q => by obtain ⟨q0, q1, qP, qK, qD⟩ := q; exact ⟨q0, q1, qP, va_K.moved (u := U) (U := U.calling g mk a) (Vm.Alike.refl U.vm) qK, qD⟩, fun U hU hW => ⟨rfl, by rw [hU], by rw [hU]; exact hPc, va_K.moved hW.alike hKc, hDc.weaken (fun _ _ _ _ => trivial)⟩⟩ rfl rfl hl.1 rfl (lv_room (Nat.le_of_ble_eq_true rfl)) dX12_would_11 ⟨Nat.le_of_ble_eq_true rfl, Nat.le_of_ble_eq_true rfl⟩) hS (fun q _ h => hFc q h) hFc (fun r_1 u t H1 locs ht hvm hw hB hz1 hk1 hS => ?_)
  obtain ⟨hP1, hK1, hD1⟩ := hB
  rw [ht] at hP1
  have hK1 := va_K.moved hvm.symm hK1
  obtain ⟨hP, hD⟩ := va_join (wr := [(h0, .inr (12, [.int 0, .int 0, .ref mr, .ref mt, .ref mw, .ref mu, .ref mp, .ref mi, .ref mk, .ref ms, .int 0, .ref mv, .int 0, .int 0, .int 0, .int 0, .long 0, .int (-1), .int 0, .ref m1w, .ref m2w, .ref m3w, .ref m4w, .int 0, .long 0, .long 0, .long 0])), (mt, .inl (cm2, 3, .inl ft)), (mw, .inl (cm3, 906, .inr (.inl fw))), (mp, .inl (cm5, 906, .inr (.inl (fun _ => 0))))]) (w1 := []) hP hD [] [0, 1, 2, 3] rfl rfl (by decide) (by decide) hk1 hFc hP1 hD1
  generalize H1 = H at hP hS ⊢
  have hP : va_P (dC, dI) vwCl [(h0, .inr (12, [.int 0, .int 0, .ref mr, .ref mt, .ref mw, .ref mu, .ref mp, .ref mi, .ref mk, .ref ms, .int 0, .ref mv, .int 0, .int 0, .int 0, .int 0, .long 0, .int (-1), .int 0, .ref m1w, .ref m2w, .ref m3w, .ref m4w, .int 0, .long 0, .long 0, .long 0])), (mt, .inl (cm2, 3, .inl ft)), (mw, .inl (cm3, 906, .inr (.inl fw))), (mp, .inl (cm5, 906, .inr (.inl (fun _ => 0))))] H := hP
  have hD : va_D A [(h0, .inr (12, [.int 0, .int 0, .ref mr, .ref mt, .ref mw, .ref mu, .ref mp, .ref mi, .ref mk, .ref ms, .int 0, .ref mv, .int 0, .int 0, .int 0, .int 0, .long 0, .int (-1), .int 0, .ref m1w, .ref m2w, .ref m3w, .ref m4w, .int 0, .long 0, .long 0, .long 0])), (mt, .inl (cm2, 3, .inl ft)), (mw, .inl (cm3, 906, .inr (.inl fw))), (mp, .inl (cm5, 906, .inr (.inl (fun _ => 0))))] := hD
  refine W.widen (k := 0) (n := 0) (Nat.le_of_ble_eq_true rfl) (Nat.le_of_ble_eq_true rfl) ?_
  have hw : r_1 = sp_in wy.toInt64 0 4 := hw
  subst hw
  refine k_topi (y := sp_r wy 0 4) (sp_in_r _ _ _ (by decide) (by decide)) ?_
  refine lv_if_eq (tgt := 57) hx hb dX12_would_14 (by decide) (fun c_2 => ?_) (fun c_2 => ?_)
  · refine lv_ldcw hx hb hown (hts (.constant RX12 330 (-2147483648)) (List.mem_cons_of_mem _ (List.mem_append_left _ (List.mem_of_getElem? (i := 5) rfl)))) dX12_would_57 ?_
    have hP9 := hP.sub (ws' := []) [] rfl
    have hD9 := hD.sub (ws' := []) [] (by decide) rfl
    have hK9 := hK.sub (tys' := []) [] rfl
    refine W.widen (k := 0) (n := 0) (Nat.le_of_ble_eq_true rfl) (Nat.le_of_ble_eq_true rfl) ?_
    exact W.iret (v := (-2147483648)) hx hb hr (fun t ht hW => ⟨⟨(-2147483648), (), rfl, (by have z0 := (sp_r0 _ _ _).mp c_2; unfold sp_would; (repeat' split) <;> first | rfl | omega | (refine Int32.toInt_inj.mp ?_; omega)), by rw [ht]; exact hP9, va_K.moved hW.alike hK9, hD9⟩, hS.F ht⟩) hS.2.2 dX12_would_60
  · refine lv_iload_n hx hb dX12_would_17 rfl (lv_at hl 2 rfl) ?_
    refine lv_i2l (v := nq.toInt64) hx hb dX12_would_18 rfl ?_
    refine lv_lconst (v := 1) hx hb dX12_would_19 (by decide) ?_
    refine lv_ldc2 hx hb hown (hts (.constantLong RX12 172 (60)) (List.mem_cons_of_mem _ (List.mem_append_left _ (List.mem_of_getElem? (i := 6) rfl)))) dX12_would_20 ?_
    have hPc := hP.sub (ws' := []) [] rfl
    have hDc := hD.sub (ws' := []) [] (by decide) rfl
    have hKc := hK.sub (tys' := []) [] rfl
    have hFc := va_free (wc := []) hD hS hA [] rfl
    refine va_calli (va_runS (As := [.long nq.toInt64, .long 1, .long 60]) (rest := []) ⟨hx, hb, hml, hown, hts⟩ (c_X12_in l dC dI nq.toInt64 1 60 H.size) (va_cwS 3 hts (gi_S (fun w_ h0_ => ⟨List.mem_cons_of_mem _ (List.mem_append_right _ (List.mem_append_right _ (List.mem_append_left _ h0_))), (tb_c_X12_in w_ h0_).2⟩) (List.mem_cons_of_mem _ (List.mem_append_left _ (List.mem_of_getElem? (i := 2) rfl))) (List.mem_cons_of_mem _ (List.mem_append_left _ (List.mem_of_getElem? (i := 3) rfl))) (List.mem_cons_of_mem _ (List.mem_append_left _ (List.mem_of_getElem? (i := 4) rfl)))) rfl rfl rfl (by decide +kernel) ⟨Nat.le_of_ble_eq_true rfl, Nat.le_of_ble_eq_true rfl⟩) ⟨fun a U g mk q => by obtain ⟨q0, q1, qP, qK, qD⟩ := q; exact ⟨q0, q1, qP, va_K.moved (u := U) (U := U.calling g mk a) (Vm.Alike.refl U.vm) qK, qD⟩, fun U hU hW => ⟨rfl, by rw [hU], by rw [hU]; exact hPc, va_K.moved hW.alike hKc, hDc.weaken (fun _ _ _ _ => trivial)⟩⟩ rfl rfl hl.1 rfl (lv_room (Nat.le_of_ble_eq_true rfl)) dX12_would_23 ⟨Nat.le_of_ble_eq_true rfl, Nat.le_of_ble_eq_true rfl⟩) hS (fun q _ h => hFc q h) hFc (fun r_3 u t H1 locs ht hvm hw hB hz1 hk1 hS => ?_)
    obtain ⟨hP1, hK1, hD1⟩ := hB
    rw [ht] at hP1
    have hK1 := va_K.moved hvm.symm hK1
    obtain ⟨hP, hD⟩ := va_join (wr := [(h0, .inr (12, [.int 0, .int 0, .ref mr, .ref mt, .ref mw, .ref mu, .ref mp, .ref mi, .ref mk, .ref ms, .int 0, .ref mv, .int 0, .int 0, .int 0, .int 0, .long 0, .int (-1), .int 0, .ref m1w, .ref m2w, .ref m3w, .ref m4w, .int 0, .long 0, .long 0, .long 0])), (mt, .inl (cm2, 3, .inl ft)), (mw, .inl (cm3, 906, .inr (.inl fw))), (mp, .inl (cm5, 906, .inr (.inl (fun _ => 0))))]) (w1 := []) hP hD [] [0, 1, 2, 3] rfl rfl (by decide) (by decide) hk1 hFc hP1 hD1
    generalize H1 = H at hP hS ⊢
    have hP : va_P (dC, dI) vwCl [(h0, .inr (12, [.int 0, .int 0, .ref mr, .ref mt, .ref mw, .ref mu, .ref mp, .ref mi, .ref mk, .ref ms, .int 0, .ref mv, .int 0, .int 0, .int 0, .int 0, .long 0, .int (-1), .int 0, .ref m1w, .ref m2w, .ref m3w, .ref m4w, .int 0, .long 0, .long 0, .long 0])), (mt, .inl (cm2, 3, .inl ft)), (mw, .inl (cm3, 906, .inr (.inl fw))), (mp, .inl (cm5, 906, .inr (.inl (fun _ => 0))))] H := hP
    have hD : va_D A [(h0, .inr (12, [.int 0, .int 0, .ref mr, .ref mt, .ref mw, .ref mu, .ref mp, .ref mi, .ref mk, .ref ms, .int 0, .ref mv, .int 0, .int 0, .int 0, .int 0, .long 0, .int (-1), .int 0, .ref m1w, .ref m2w, .ref m3w, .ref m4w, .int 0, .long 0, .long 0, .long 0])), (mt, .inl (cm2, 3, .inl ft)), (mw, .inl (cm3, 906, .inr (.inl fw))), (mp, .inl (cm5, 906, .inr (.inl (fun _ => 0))))] := hD
    refine W.widen (k := 0) (n := 0) (Nat.le_of_ble_eq_true rfl) (Nat.le_of_ble_eq_true rfl) ?_
    have hw : r_3 = sp_in nq.toInt64 1 60 := hw
    subst hw
    refine k_topi (y := sp_r nq 1 60) (sp_in_r _ _ _ (by decide) (by decide)) ?_
    refine lv_if_eq (tgt := 57) hx hb dX12_would_26 (by decide) (fun c_4 => ?_) (fun c_4 => ?_)
    · refine lv_ldcw hx hb hown (hts (.constant RX12 330 (-2147483648)) (List.mem_cons_of_mem _ (List.mem_append_left _ (List.mem_of_getElem? (i := 5) rfl)))) dX12_would_57 ?_
      have hP9 := hP.sub (ws' := []) [] rfl
      have hD9 := hD.sub (ws' := []) [] (by decide) rfl
      have hK9 := hK.sub (tys' := []) [] rfl
      refine W.widen (k := 0) (n := 0) (Nat.le_of_ble_eq_true rfl) (Nat.le_of_ble_eq_true rfl) ?_
      exact W.iret (v := (-2147483648)) hx hb hr (fun t ht hW => ⟨⟨(-2147483648), (), rfl, (by have z0 := (sp_r1 _ _ _).mp c_2; have z1 := (sp_r0 _ _ _).mp c_4; unfold sp_would; (repeat' split) <;> first | rfl | omega | (refine Int32.toInt_inj.mp ?_; omega)), by rw [ht]; exact hP9, va_K.moved hW.alike hK9, hD9⟩, hS.F ht⟩) hS.2.2 dX12_would_60
    · refine lv_iload_n hx hb dX12_would_29 rfl (lv_at hl 3 rfl) ?_
      refine lv_i2l (v := wh.toInt64) hx hb dX12_would_30 rfl ?_
      refine lv_lconst (v := 0) hx hb dX12_would_31 (by decide) ?_
      refine lv_ldc2 hx hb hown (hts (.constantLong RX12 124 (3)) (List.mem_cons_of_mem _ (List.mem_append_left _ (List.mem_of_getElem? (i := 7) rfl)))) dX12_would_32 ?_
      have hPc := hP.sub (ws' := []) [] rfl
      have hDc := hD.sub (ws' := []) [] (by decide) rfl
      have hKc := hK.sub (tys' := []) [] rfl
      have hFc := va_free (wc := []) hD hS hA [] rfl
      refine va_calli (va_runS (As := [.long wh.toInt64, .long 0, .long 3]) (rest := []) ⟨hx, hb, hml, hown, hts⟩ (c_X12_in l dC dI wh.toInt64 0 3 H.size) (va_cwS 3 hts (gi_S (fun w_ h0_ => ⟨List.mem_cons_of_mem _ (List.mem_append_right _ (List.mem_append_right _ (List.mem_append_left _ h0_))), (tb_c_X12_in w_ h0_).2⟩) (List.mem_cons_of_mem _ (List.mem_append_left _ (List.mem_of_getElem? (i := 2) rfl))) (List.mem_cons_of_mem _ (List.mem_append_left _ (List.mem_of_getElem? (i := 3) rfl))) (List.mem_cons_of_mem _ (List.mem_append_left _ (List.mem_of_getElem? (i := 4) rfl)))) rfl rfl rfl (by decide +kernel) ⟨Nat.le_of_ble_eq_true rfl, Nat.le_of_ble_eq_true rfl⟩) ⟨fun a U g mk q => by obtain ⟨q0, q1, qP, qK, qD⟩ := q; exact ⟨q0, q1, qP, va_K.moved (u := U) (U := U.calling g mk a) (Vm.Alike.refl U.vm) qK, qD⟩, fun U hU hW => ⟨rfl, by rw [hU], by rw [hU]; exact hPc, va_K.moved hW.alike hKc, hDc.weaken (fun _ _ _ _ => trivial)⟩⟩ rfl rfl hl.1 rfl (lv_room (Nat.le_of_ble_eq_true rfl)) dX12_would_35 ⟨Nat.le_of_ble_eq_true rfl, Nat.le_of_ble_eq_true rfl⟩) hS (fun q _ h => hFc q h) hFc (fun r_5 u t H1 locs ht hvm hw hB hz1 hk1 hS => ?_)
      obtain ⟨hP1, hK1, hD1⟩ := hB
      rw [ht] at hP1
      have hK1 := va_K.moved hvm.symm hK1
      obtain ⟨hP, hD⟩ := va_join (wr := [(h0, .inr (12, [.int 0, .int 0, .ref mr, .ref mt, .ref mw, .ref mu, .ref mp, .ref mi, .ref mk, .ref ms, .int 0, .ref mv, .int 0, .int 0, .int 0, .int 0, .long 0, .int (-1), .int 0, .ref m1w, .ref m2w, .ref m3w, .ref m4w, .int 0, .long 0, .long 0, .long 0])), (mt, .inl (cm2, 3, .inl ft)), (mw, .inl (cm3, 906, .inr (.inl fw))), (mp, .inl (cm5, 906, .inr (.inl (fun _ => 0))))]) (w1 := []) hP hD [] [0, 1, 2, 3] rfl rfl (by decide) (by decide) hk1 hFc hP1 hD1
      generalize H1 = H at hP hS ⊢
      have hP : va_P (dC, dI) vwCl [(h0, .inr (12, [.int 0, .int 0, .ref mr, .ref mt, .ref mw, .ref mu, .ref mp, .ref mi, .ref mk, .ref ms, .int 0, .ref mv, .int 0, .int 0, .int 0, .int 0, .long 0, .int (-1), .int 0, .ref m1w, .ref m2w, .ref m3w, .ref m4w, .int 0, .long 0, .long 0, .long 0])), (mt, .inl (cm2, 3, .inl ft)), (mw, .inl (cm3, 906, .inr (.inl fw))), (mp, .inl (cm5, 906, .inr (.inl (fun _ => 0))))] H := hP
      have hD : va_D A [(h0, .inr (12, [.int 0, .int 0, .ref mr, .ref mt, .ref mw, .ref mu, .ref mp, .ref mi, .ref mk, .ref ms, .int 0, .ref mv, .int 0, .int 0, .int 0, .int 0, .long 0, .int (-1), .int 0, .ref m1w, .ref m2w, .ref m3w, .ref m4w, .int 0, .long 0, .long 0, .long 0])), (mt, .inl (cm2, 3, .inl ft)), (mw, .inl (cm3, 906, .inr (.inl fw))), (mp, .inl (cm5, 906, .inr (.inl (fun _ => 0))))] := hD
      refine W.widen (k := 0) (n := 0) (Nat.le_of_ble_eq_true rfl) (Nat.le_of_ble_eq_true rfl) ?_
      have hw : r_5 = sp_in wh.toInt64 0 3 := hw
      subst hw
      refine k_topi (y := sp_r wh 0 3) (sp_in_r _ _ _ (by decide) (by decide)) ?_
      refine lv_if_eq (tgt := 57) hx hb dX12_would_38 (by decide) (fun c_6 => ?_) (fun c_6 => ?_)
      · refine lv_ldcw hx hb hown (hts (.constant RX12 330 (-2147483648)) (List.mem_cons_of_mem _ (List.mem_append_left _ (List.mem_of_getElem? (i := 5) rfl)))) dX12_would_57 ?_
        have hP9 := hP.sub (ws' := []) [] rfl
        have hD9 := hD.sub (ws' := []) [] (by decide) rfl
        have hK9 := hK.sub (tys' := []) [] rfl
        refine W.widen (k := 0) (n := 0) (Nat.le_of_ble_eq_true rfl) (Nat.le_of_ble_eq_true rfl) ?_
        exact W.iret (v := (-2147483648)) hx hb hr (fun t ht hW => ⟨⟨(-2147483648), (), rfl, (by have z0 := (sp_r1 _ _ _).mp c_2; have z1 := (sp_r1 _ _ _).mp c_4; have z2 := (sp_r0 _ _ _).mp c_6; unfold sp_would; (repeat' split) <;> first | rfl | omega | (refine Int32.toInt_inj.mp ?_; omega)), by rw [ht]; exact hP9, va_K.moved hW.alike hK9, hD9⟩, hS.F ht⟩) hS.2.2 dX12_would_60
      · refine lv_aload_n hx hb dX12_would_41 rfl (lv_at hl 0 rfl) ?_
        refine va_get (D := (dC, dI)) (ci := 12) (v := .ref mw) (C := RX12) (T := TX12) (N := 27) hx hb hts (fun _ h0_ => List.mem_cons_of_mem _ (List.mem_append_right _ (List.mem_append_left _ h0_))) hown hK hP 0 rfl rfl 4 (by decide) (hts (.fieldLink RX12 16 "DeadlineShareModel" "row" "[J") (List.mem_cons_of_mem _ (List.mem_append_left _ (List.mem_of_getElem? (i := 8) rfl)))) (fun _ h9 => h9) rfl dX12_would_42 ?_
        refine lv_iconst (v := 1) hx hb dX12_would_45 (by decide) ?_
        refine va_lald hx hb hK hP 2 1 rfl rfl (by unfold vp_in; decide) dX12_would_46 ?_
        refine k_topl (y := 0) ((congrArg fw (show Int32.toNatClampNeg 1 = 1 by decide)).trans hw1) ?_
        refine lv_iload_n hx hb dX12_would_47 rfl (lv_at hl 2 rfl) ?_
        refine lv_i2l (v := nq.toInt64) hx hb dX12_would_48 rfl ?_
        refine lv_ladd hx hb dX12_would_49 ?_
        refine k_topl (y := nq.toInt64) (Int64.zero_add _) ?_
        refine lv_ldc2 hx hb hown (hts (.constantLong RX12 286 (9999)) (List.mem_cons_of_mem _ (List.mem_append_left _ (List.mem_of_getElem? (i := 9) rfl)))) dX12_would_50 ?_
        refine W.lcmp hx hb dX12_would_53 ?_
        refine lv_if_le (tgt := 61) hx hb dX12_would_54 (by decide) (fun _ => ?_) (fun c => absurd ((lg_cmp_le _ _).mpr ((fa_le64 _ _).mpr (by have z0 := (sp_r1 _ _ _).mp c_2; have z1 := (sp_r1 _ _ _).mp c_4; have z2 := (sp_r1 _ _ _).mp c_6; have ll9999 : Int64.toInt 9999 = 9999 := (by decide); have w0 := Int32.toInt_toInt64 nq; skip; omega))) c)
        refine lv_aload_n hx hb dX12_would_61 rfl (lv_at hl 0 rfl) ?_
        have hPc := hP.sub (ws' := [(h0, .inr (12, [.int 0, .int 0, .ref mr, .ref mt, .ref mw, .ref mu, .ref mp, .ref mi, .ref mk, .ref ms, .int 0, .ref mv, .int 0, .int 0, .int 0, .int 0, .long 0, .int (-1), .int 0, .ref m1w, .ref m2w, .ref m3w, .ref m4w, .int 0, .long 0, .long 0, .long 0])), (mw, .inl (cm3, 906, .inr (.inl fw))), (mp, .inl (cm5, 906, .inr (.inl (fun _ => 0))))]) [0, 2, 3] rfl
        have hDc := hD.sub (ws' := [(h0, .inr (12, [.int 0, .int 0, .ref mr, .ref mt, .ref mw, .ref mu, .ref mp, .ref mi, .ref mk, .ref ms, .int 0, .ref mv, .int 0, .int 0, .int 0, .int 0, .long 0, .int (-1), .int 0, .ref m1w, .ref m2w, .ref m3w, .ref m4w, .int 0, .long 0, .long 0, .long 0])), (mw, .inl (cm3, 906, .inr (.inl fw))), (mp, .inl (cm5, 906, .inr (.inl (fun _ => 0))))]) [0, 2, 3] (by decide) rfl
        have hKc := hK.sub (tys' := [(cm3, .long), (cm5, .long)]) [1, 2] rfl
        have hFc := va_free (wc := [(h0, .inr (12, [.int 0, .int 0, .ref mr, .ref mt, .ref mw, .ref mu, .ref mp, .ref mi, .ref mk, .ref ms, .int 0, .ref mv, .int 0, .int 0, .int 0, .int 0, .long 0, .int (-1), .int 0, .ref m1w, .ref m2w, .ref m3w, .ref m4w, .int 0, .long 0, .long 0, .long 0])), (mw, .inl (cm3, 906, .inr (.inl fw))), (mp, .inl (cm5, 906, .inr (.inl (fun _ => 0))))]) hD hS hA [0, 2, 3] rfl
        refine va_callv (va_runV (As := []) (rest := []) ⟨hx, hb, hml, hown, hts⟩ (c_X12_begin l dC dI h0 0 0 mr mt mw mu mp mi mk ms 0 mv 0 0 0 0 0 (-1) 0 m1w m2w m3w m4w 0 0 0 0 cm3 fw cm5 H.size) (cwV 0 hts (gi_V (fun w_ h0_ => ⟨List.mem_cons_of_mem _ (List.mem_append_right _ (List.mem_append_right _ (List.mem_append_right _ (List.mem_append_left _ h0_)))), (tb_c_X12_begin w_ h0_).2⟩) (List.mem_cons_of_mem _ (List.mem_append_left _ (List.mem_of_getElem? (i := 10) rfl))) (List.mem_cons_of_mem _ (List.mem_append_left _ (List.mem_of_getElem? (i := 11) rfl))) (List.mem_cons_of_mem _ (List.mem_append_left _ (List.mem_of_getElem? (i := 12) rfl))) (List.mem_cons_of_mem _ (List.mem_append_left _ (List.mem_of_getElem? (i := 4) rfl)))) rfl rfl rfl (by decide +kernel) ⟨Nat.le_of_ble_eq_true rfl, Nat.le_of_ble_eq_true rfl⟩) ⟨fun a U g mk q => by obtain ⟨q0, q1, qP, qK, qD⟩ := q; exact ⟨q0, q1, qP, va_K.moved (u := U) (U := U.calling g mk a) (Vm.Alike.refl U.vm) qK, qD⟩, va_recv hKc hPc (ci := 12) (q0 := 0) rfl rfl, fun U hU hW => ⟨rfl, by rw [hU], by rw [hU]; exact hPc, va_K.moved hW.alike hKc, hDc.weaken (fun _ _ _ _ => trivial)⟩⟩ rfl rfl hl.1 rfl (lv_room (Nat.le_of_ble_eq_true rfl)) dX12_would_62 ⟨Nat.le_of_ble_eq_true rfl, Nat.le_of_ble_eq_true rfl⟩) hS (fun q _ h => hFc q h) hFc (fun u t H1 locs ht hvm hw hB hz1 hk1 hS => ?_)
        obtain ⟨f_7, hP1, hK1, hD1⟩ := hB
        rw [ht] at hP1
        have hK1 := va_K.moved hvm.symm hK1
        obtain ⟨hP, hD⟩ := va_join (wr := [(mt, .inl (cm2, 3, .inl ft))]) (w1 := [(h0, .inr (12, [.int 0, .int 0, .ref mr, .ref mt, .ref mw, .ref mu, .ref mp, .ref mi, .ref mk, .ref ms, .int 0, .ref mv, .int 0, .int 0, .int 0, .int 0, .long 0, .int (-1), .int 0, .ref m1w, .ref m2w, .ref m3w, .ref m4w, .int 0, .long 0, .long 0, .long 0])), (mw, .inl (cm3, 906, .inr (.inl fw))), (mp, .inl (cm5, 906, .inr (.inl f_7)))]) hP hD [0, 2, 3] [1] rfl rfl (by decide) (by decide) hk1 hFc hP1 hD1
        generalize H1 = H at hP hS ⊢
        have hP : va_P (dC, dI) vwCl [(mt, .inl (cm2, 3, .inl ft)), (h0, .inr (12, [.int 0, .int 0, .ref mr, .ref mt, .ref mw, .ref mu, .ref mp, .ref mi, .ref mk, .ref ms, .int 0, .ref mv, .int 0, .int 0, .int 0, .int 0, .long 0, .int (-1), .int 0, .ref m1w, .ref m2w, .ref m3w, .ref m4w, .int 0, .long 0, .long 0, .long 0])), (mw, .inl (cm3, 906, .inr (.inl fw))), (mp, .inl (cm5, 906, .inr (.inl f_7)))] H := hP
        have hD : va_D A [(mt, .inl (cm2, 3, .inl ft)), (h0, .inr (12, [.int 0, .int 0, .ref mr, .ref mt, .ref mw, .ref mu, .ref mp, .ref mi, .ref mk, .ref ms, .int 0, .ref mv, .int 0, .int 0, .int 0, .int 0, .long 0, .int (-1), .int 0, .ref m1w, .ref m2w, .ref m3w, .ref m4w, .int 0, .long 0, .long 0, .long 0])), (mw, .inl (cm3, 906, .inr (.inl fw))), (mp, .inl (cm5, 906, .inr (.inl f_7)))] := hD
        refine W.widen (k := 0) (n := 0) (Nat.le_of_ble_eq_true rfl) (Nat.le_of_ble_eq_true rfl) ?_
        refine lv_aload_n hx hb dX12_would_65 rfl (lv_at hl 0 rfl) ?_
        refine lv_aload_n hx hb dX12_would_66 rfl (lv_at hl 0 rfl) ?_
        refine va_get (D := (dC, dI)) (ci := 12) (v := .ref mt) (C := RX12) (T := TX12) (N := 27) hx hb hts (fun _ h0_ => List.mem_cons_of_mem _ (List.mem_append_right _ (List.mem_append_left _ h0_))) hown hK hP 1 rfl rfl 3 (by decide) (hts (.fieldLink RX12 13 "DeadlineShareModel" "term" "[I") (List.mem_cons_of_mem _ (List.mem_append_left _ (List.mem_of_getElem? (i := 13) rfl)))) (fun _ h9 => h9) rfl dX12_would_67 ?_
        refine lv_iconst (v := 2) hx hb dX12_would_70 (by decide) ?_
        refine va_iald hx hb hK hP 0 0 rfl rfl (by unfold vp_in; decide) dX12_would_71 ?_
        refine k_topi (y := 1) ((congrArg ft (show Int32.toNatClampNeg 2 = 2 by decide)).trans ht2) ?_
        refine lv_i2l (v := 1) hx hb dX12_would_72 (by decide) ?_
        refine va_put (D := (dC, dI)) (ci := 12) (v := .long 1) (ty := .long) (C := RX12) (T := TX12) (N := 27) hx hb hts (fun _ h0_ => List.mem_cons_of_mem _ (List.mem_append_right _ (List.mem_append_left _ h0_))) tyX12 tyX12_ok nmX12 hown hK hP hD hS 1 rfl rfl 24 (by decide) (hts (.fieldLink RX12 249 "DeadlineShareModel" "state" "J") (List.mem_cons_of_mem _ (List.mem_append_left _ (List.mem_of_getElem? (i := 14) rfl)))) (fun _ h9 => h9) rfl (by decide +kernel) rfl rfl (Nat.le_of_ble_eq_true rfl) dX12_would_73 (fun H locs hP hD hS => ?_)
        have hP : va_P (dC, dI) vwCl [(mt, .inl (cm2, 3, .inl ft)), (h0, .inr (12, [.int 0, .int 0, .ref mr, .ref mt, .ref mw, .ref mu, .ref mp, .ref mi, .ref mk, .ref ms, .int 0, .ref mv, .int 0, .int 0, .int 0, .int 0, .long 0, .int (-1), .int 0, .ref m1w, .ref m2w, .ref m3w, .ref m4w, .int 0, .long 1, .long 0, .long 0])), (mw, .inl (cm3, 906, .inr (.inl fw))), (mp, .inl (cm5, 906, .inr (.inl f_7)))] H := hP
        have hD : va_D A [(mt, .inl (cm2, 3, .inl ft)), (h0, .inr (12, [.int 0, .int 0, .ref mr, .ref mt, .ref mw, .ref mu, .ref mp, .ref mi, .ref mk, .ref ms, .int 0, .ref mv, .int 0, .int 0, .int 0, .int 0, .long 0, .int (-1), .int 0, .ref m1w, .ref m2w, .ref m3w, .ref m4w, .int 0, .long 1, .long 0, .long 0])), (mw, .inl (cm3, 906, .inr (.inl fw))), (mp, .inl (cm5, 906, .inr (.inl f_7)))] := hD
        refine lv_aload_n hx hb dX12_would_76 rfl (lv_at hl 0 rfl) ?_
        refine lv_lconst (v := 0) hx hb dX12_would_77 (by decide) ?_
        refine va_put (D := (dC, dI)) (ci := 12) (v := .long 0) (ty := .long) (C := RX12) (T := TX12) (N := 27) hx hb hts (fun _ h0_ => List.mem_cons_of_mem _ (List.mem_append_right _ (List.mem_append_left _ h0_))) tyX12 tyX12_ok nmX12 hown hK hP hD hS 1 rfl rfl 25 (by decide) (hts (.fieldLink RX12 322 "DeadlineShareModel" "most1" "J") (List.mem_cons_of_mem _ (List.mem_append_left _ (List.mem_of_getElem? (i := 15) rfl)))) (fun _ h9 => h9) rfl (by decide +kernel) rfl rfl (Nat.le_of_ble_eq_true rfl) dX12_would_78 (fun H locs hP hD hS => ?_)
        have hP : va_P (dC, dI) vwCl [(mt, .inl (cm2, 3, .inl ft)), (h0, .inr (12, [.int 0, .int 0, .ref mr, .ref mt, .ref mw, .ref mu, .ref mp, .ref mi, .ref mk, .ref ms, .int 0, .ref mv, .int 0, .int 0, .int 0, .int 0, .long 0, .int (-1), .int 0, .ref m1w, .ref m2w, .ref m3w, .ref m4w, .int 0, .long 1, .long 0, .long 0])), (mw, .inl (cm3, 906, .inr (.inl fw))), (mp, .inl (cm5, 906, .inr (.inl f_7)))] H := hP
        have hD : va_D A [(mt, .inl (cm2, 3, .inl ft)), (h0, .inr (12, [.int 0, .int 0, .ref mr, .ref mt, .ref mw, .ref mu, .ref mp, .ref mi, .ref mk, .ref ms, .int 0, .ref mv, .int 0, .int 0, .int 0, .int 0, .long 0, .int (-1), .int 0, .ref m1w, .ref m2w, .ref m3w, .ref m4w, .int 0, .long 1, .long 0, .long 0])), (mw, .inl (cm3, 906, .inr (.inl fw))), (mp, .inl (cm5, 906, .inr (.inl f_7)))] := hD
        refine lv_aload_n hx hb dX12_would_81 rfl (lv_at hl 0 rfl) ?_
        refine lv_lconst (v := 0) hx hb dX12_would_82 (by decide) ?_
        refine va_put (D := (dC, dI)) (ci := 12) (v := .long 0) (ty := .long) (C := RX12) (T := TX12) (N := 27) hx hb hts (fun _ h0_ => List.mem_cons_of_mem _ (List.mem_append_right _ (List.mem_append_left _ h0_))) tyX12 tyX12_ok nmX12 hown hK hP hD hS 1 rfl rfl 26 (by decide) (hts (.fieldLink RX12 325 "DeadlineShareModel" "least1" "J") (List.mem_cons_of_mem _ (List.mem_append_left _ (List.mem_of_getElem? (i := 16) rfl)))) (fun _ h9 => h9) rfl (by decide +kernel) rfl rfl (Nat.le_of_ble_eq_true rfl) dX12_would_83 (fun H locs hP hD hS => ?_)
        have hP : va_P (dC, dI) vwCl [(mt, .inl (cm2, 3, .inl ft)), (h0, .inr (12, [.int 0, .int 0, .ref mr, .ref mt, .ref mw, .ref mu, .ref mp, .ref mi, .ref mk, .ref ms, .int 0, .ref mv, .int 0, .int 0, .int 0, .int 0, .long 0, .int (-1), .int 0, .ref m1w, .ref m2w, .ref m3w, .ref m4w, .int 0, .long 1, .long 0, .long 0])), (mw, .inl (cm3, 906, .inr (.inl fw))), (mp, .inl (cm5, 906, .inr (.inl f_7)))] H := hP
        have hD : va_D A [(mt, .inl (cm2, 3, .inl ft)), (h0, .inr (12, [.int 0, .int 0, .ref mr, .ref mt, .ref mw, .ref mu, .ref mp, .ref mi, .ref mk, .ref ms, .int 0, .ref mv, .int 0, .int 0, .int 0, .int 0, .long 0, .int (-1), .int 0, .ref m1w, .ref m2w, .ref m3w, .ref m4w, .int 0, .long 1, .long 0, .long 0])), (mw, .inl (cm3, 906, .inr (.inl fw))), (mp, .inl (cm5, 906, .inr (.inl f_7)))] := hD
        refine lv_iconst (v := 0) hx hb dX12_would_86 (by decide) ?_
        refine lv_istore (lv' := [(4, .int 0), (0, .ref h0), (1, .int wy), (2, .int nq), (3, .int wh)]) hx hb dX12_would_87 hl (by decide) rfl (fun ls hl => ?_)
        refine lv_iconst (v := 0) hx hb dX12_would_89 (by decide) ?_
        refine lv_istore (lv' := [(5, .int 0), (4, .int 0), (0, .ref h0), (1, .int wy), (2, .int nq), (3, .int wh)]) hx hb dX12_would_90 hl (by decide) rfl (fun ls hl => ?_)
        refine lv_iconst (v := 0) hx hb dX12_would_92 (by decide) ?_
        refine lv_istore (lv' := [(6, .int 0), (5, .int 0), (4, .int 0), (0, .ref h0), (1, .int wy), (2, .int nq), (3, .int wh)]) hx hb dX12_would_93 hl (by decide) rfl (fun ls hl => ?_)
        obtain ⟨N9, hN9, eN9⟩ : ∃ N : Nat, N ≤ 60 ∧ nq = nI N := nI_of2 (M := 60) (by decide) (fun h8 => by have h7 := (fa_lt _ _).mp h8; have z0 := (sp_r1 _ _ _).mp c_2; have z1 := (sp_r1 _ _ _).mp c_4; have z2 := (sp_r1 _ _ _).mp c_6; have li0 : Int32.toInt 0 = 0 := (by decide); have li1 : Int32.toInt 1 = 1 := (by decide); have li60 : Int32.toInt 60 = 60 := (by decide); skip; omega) ((fa_le _ _).mpr (by have z0 := (sp_r1 _ _ _).mp c_2; have z1 := (sp_r1 _ _ _).mp c_4; have z2 := (sp_r1 _ _ _).mp c_6; have li0 : Int32.toInt 0 = 0 := (by decide); have li1 : Int32.toInt 1 = 1 := (by decide); have li60 : Int32.toInt 60 = 60 := (by decide); skip; omega))
        subst eN9
        have key : ∀ (nn ii : Nat) (fq : Nat → Int64) (H : Heap) (locs : List Loc) (ls : Array Slot), ii + nn = N9 → fq 0 = 0 → fq 1 = lN ii → fq 3 = (-1) → fq 4 = (-1) → fq 5 = lN ii → va_P (dC, dI) vwCl [(mt, .inl (cm2, 3, .inl ft)), (h0, .inr (12, [.int 0, .int 0, .ref mr, .ref mt, .ref mw, .ref mu, .ref mp, .ref mi, .ref mk, .ref ms, .int 0, .ref mv, .int 0, .int 0, .int 0, .int 0, .long 0, .int (-1), .int 0, .ref m1w, .ref m2w, .ref m3w, .ref m4w, .int 0, .long 1, .long 0, .long 0])), (mw, .inl (cm3, 906, .inr (.inl fq))), (mp, .inl (cm5, 906, .inr (.inl f_7)))] H → va_D A [(mt, .inl (cm2, 3, .inl ft)), (h0, .inr (12, [.int 0, .int 0, .ref mr, .ref mt, .ref mw, .ref mu, .ref mp, .ref mi, .ref mk, .ref ms, .int 0, .ref mv, .int 0, .int 0, .int 0, .int 0, .long 0, .int (-1), .int 0, .ref m1w, .ref m2w, .ref m3w, .ref m4w, .int 0, .long 1, .long 0, .long 0])), (mw, .inl (cm3, 906, .inr (.inl fq))), (mp, .inl (cm5, 906, .inr (.inl f_7)))] → va_S A s.heap H locs → lv_has ls 10 [(6, .int (nI ii)), (5, .int (nI ii)), (4, .int 0), (0, .ref h0), (1, .int wy), (2, .int (nI N9)), (3, .int wh)] → W p l e (headSpec wq_c_X12_would ({ frames := 4, cells := 0, slots := 0, locals := 94 } : Room)).room s m ([.ref h0, .int wy, .int (nI N9), .int wh].toArray) below meth c H locs 0 0 (MQ below (va_Qi (fun (r : Int32) (_ : Unit) => r = sp_would wy (nI N9) wh) (fun (_ : Unit) t => va_P (dC, dI) vwCl [] t.heap ∧ va_K (dC, dI) vwCl [] t ∧ va_D A []) A) ([.ref h0, .int wy, .int (nI N9), .int wh].toArray) s 0 0 A) (F0 m 95 ls []) := by
          intro nn
          induction nn with
          | zero =>
            intro ii fq H locs ls hin hf95_0 hf95_1 hf95_2 hf95_3 hf95_4 hP hD hS hl
            have hiB : ii = N9 := by omega
            refine lv_iload hx hb dX12_would_95 (lv_at hl 0 rfl) ?_
            refine lv_iload_n hx hb dX12_would_97 rfl (lv_at hl 5 rfl) ?_
            refine lv_icmp_ge (tgt := 167) hx hb dX12_would_98 (by decide) (fun _ => ?_) (fun c => absurd (nI_le (a := N9) (b := ii) (by omega) (by omega)) c)
            refine lv_aload_n hx hb dX12_would_167 rfl (lv_at hl 3 rfl) ?_
            have hPc := hP.sub (ws' := [(h0, .inr (12, [.int 0, .int 0, .ref mr, .ref mt, .ref mw, .ref mu, .ref mp, .ref mi, .ref mk, .ref ms, .int 0, .ref mv, .int 0, .int 0, .int 0, .int 0, .long 0, .int (-1), .int 0, .ref m1w, .ref m2w, .ref m3w, .ref m4w, .int 0, .long 1, .long 0, .long 0])), (mw, .inl (cm3, 906, .inr (.inl fq))), (mp, .inl (cm5, 906, .inr (.inl f_7)))]) [1, 2, 3] rfl
            have hDc := hD.sub (ws' := [(h0, .inr (12, [.int 0, .int 0, .ref mr, .ref mt, .ref mw, .ref mu, .ref mp, .ref mi, .ref mk, .ref ms, .int 0, .ref mv, .int 0, .int 0, .int 0, .int 0, .long 0, .int (-1), .int 0, .ref m1w, .ref m2w, .ref m3w, .ref m4w, .int 0, .long 1, .long 0, .long 0])), (mw, .inl (cm3, 906, .inr (.inl fq))), (mp, .inl (cm5, 906, .inr (.inl f_7)))]) [1, 2, 3] (by decide) rfl
            have hKc := hK.sub (tys' := [(cm3, .long), (cm5, .long)]) [1, 2] rfl
            have hFc := va_free (wc := [(h0, .inr (12, [.int 0, .int 0, .ref mr, .ref mt, .ref mw, .ref mu, .ref mp, .ref mi, .ref mk, .ref ms, .int 0, .ref mv, .int 0, .int 0, .int 0, .int 0, .long 0, .int (-1), .int 0, .ref m1w, .ref m2w, .ref m3w, .ref m4w, .int 0, .long 1, .long 0, .long 0])), (mw, .inl (cm3, 906, .inr (.inl fq))), (mp, .inl (cm5, 906, .inr (.inl f_7)))]) hD hS hA [1, 2, 3] rfl
            refine va_callv (va_runV (As := []) (rest := []) ⟨hx, hb, hml, hown, hts⟩ (c_X12_over l dC dI h0 0 0 mr mt mw mu mp mi mk ms 0 mv 0 0 0 0 0 (-1) 0 m1w m2w m3w m4w 0 1 0 0 cm3 fq cm5 f_7 H.size) (cwV 0 hts (gi_V (fun w_ h0_ => ⟨List.mem_cons_of_mem _ (List.mem_append_right _ (List.mem_append_right _ (List.mem_append_right _ (List.mem_append_right _ (List.mem_append_left _ h0_))))), (tb_c_X12_over w_ h0_).2⟩) (List.mem_cons_of_mem _ (List.mem_append_left _ (List.mem_of_getElem? (i := 17) rfl))) (List.mem_cons_of_mem _ (List.mem_append_left _ (List.mem_of_getElem? (i := 18) rfl))) (List.mem_cons_of_mem _ (List.mem_append_left _ (List.mem_of_getElem? (i := 19) rfl))) (List.mem_cons_of_mem _ (List.mem_append_left _ (List.mem_of_getElem? (i := 4) rfl)))) rfl rfl rfl (by decide +kernel) ⟨Nat.le_of_ble_eq_true rfl, Nat.le_of_ble_eq_true rfl⟩) ⟨fun a U g mk q => by obtain ⟨q0, q1, qP, qK, qD⟩ := q; exact ⟨q0, q1, qP, va_K.moved (u := U) (U := U.calling g mk a) (Vm.Alike.refl U.vm) qK, qD⟩, va_recv hKc hPc (ci := 12) (q0 := 0) rfl rfl, fun U hU hW => ⟨rfl, by rw [hU], by rw [hU]; exact hPc, va_K.moved hW.alike hKc, hDc.weaken (fun _ _ _ _ => trivial)⟩⟩ rfl rfl hl.1 rfl (lv_room (Nat.le_of_ble_eq_true rfl)) dX12_would_168 ⟨Nat.le_of_ble_eq_true rfl, Nat.le_of_ble_eq_true rfl⟩) hS (fun q _ h => hFc q h) hFc (fun u t H1 locs ht hvm hw hB hz1 hk1 hS => ?_)
            obtain ⟨f_8, hP1, hK1, hD1⟩ := hB
            rw [ht] at hP1
            have hK1 := va_K.moved hvm.symm hK1
            obtain ⟨hP, hD⟩ := va_join (wr := [(mt, .inl (cm2, 3, .inl ft))]) (w1 := [(h0, .inr (12, [.int 0, .int 0, .ref mr, .ref mt, .ref mw, .ref mu, .ref mp, .ref mi, .ref mk, .ref ms, .int 0, .ref mv, .int 0, .int 0, .int 0, .int 0, .long 0, .int (-1), .int 0, .ref m1w, .ref m2w, .ref m3w, .ref m4w, .int 0, .long 1, .long 0, .long 0])), (mw, .inl (cm3, 906, .inr (.inl f_8))), (mp, .inl (cm5, 906, .inr (.inl f_7)))]) hP hD [1, 2, 3] [0] rfl rfl (by decide) (by decide) hk1 hFc hP1 hD1
            generalize H1 = H at hP hS ⊢
            have hP : va_P (dC, dI) vwCl [(mt, .inl (cm2, 3, .inl ft)), (h0, .inr (12, [.int 0, .int 0, .ref mr, .ref mt, .ref mw, .ref mu, .ref mp, .ref mi, .ref mk, .ref ms, .int 0, .ref mv, .int 0, .int 0, .int 0, .int 0, .long 0, .int (-1), .int 0, .ref m1w, .ref m2w, .ref m3w, .ref m4w, .int 0, .long 1, .long 0, .long 0])), (mw, .inl (cm3, 906, .inr (.inl f_8))), (mp, .inl (cm5, 906, .inr (.inl f_7)))] H := hP
            have hD : va_D A [(mt, .inl (cm2, 3, .inl ft)), (h0, .inr (12, [.int 0, .int 0, .ref mr, .ref mt, .ref mw, .ref mu, .ref mp, .ref mi, .ref mk, .ref ms, .int 0, .ref mv, .int 0, .int 0, .int 0, .int 0, .long 0, .int (-1), .int 0, .ref m1w, .ref m2w, .ref m3w, .ref m4w, .int 0, .long 1, .long 0, .long 0])), (mw, .inl (cm3, 906, .inr (.inl f_8))), (mp, .inl (cm5, 906, .inr (.inl f_7)))] := hD
            refine W.widen (k := 0) (n := 0) (Nat.le_of_ble_eq_true rfl) (Nat.le_of_ble_eq_true rfl) ?_
            refine lv_iload_n hx hb dX12_would_171 rfl (lv_at hl 6 rfl) ?_
            refine lv_if_ne (tgt := 183) hx hb dX12_would_172 (by decide) (fun c_9 => ?_) (fun c_9 => ?_)
            · refine lv_iload_n hx hb dX12_would_183 rfl (lv_at hl 6 rfl) ?_
              refine lv_iconst (v := 1) hx hb dX12_would_184 (by decide) ?_
              refine lv_icmp_ne (tgt := 196) hx hb dX12_would_185 (by decide) (fun c_10 => ?_) (fun c_10 => ?_)
              · refine lv_iload_n hx hb dX12_would_196 rfl (lv_at hl 6 rfl) ?_
                refine lv_iconst (v := 2) hx hb dX12_would_197 (by decide) ?_
                refine lv_icmp_ne (tgt := 206) hx hb dX12_would_198 (by decide) (fun c_11 => ?_) (fun c_11 => ?_)
                · refine lv_iload hx hb dX12_would_206 (lv_at hl 1 rfl) ?_
                  have hP9 := hP.sub (ws' := []) [] rfl
                  have hD9 := hD.sub (ws' := []) [] (by decide) rfl
                  have hK9 := hK.sub (tys' := []) [] rfl
                  refine W.widen (k := 0) (n := 0) (Nat.le_of_ble_eq_true rfl) (Nat.le_of_ble_eq_true rfl) ?_
                  exact W.iret (v := (nI ii)) hx hb hr (fun t ht hW => ⟨⟨nI ii, (), rfl, (by rw [hiB]; have z0 := (sp_r1 _ _ _).mp c_2; have z1 := (sp_r1 _ _ _).mp c_4; have z2 := (sp_r1 _ _ _).mp c_6; have z3 : ¬ _ := fun h9 => c_9 ((fa_eq _ _).mpr h9); have z4 : ¬ _ := fun h9 => c_10 ((fa_eq _ _).mpr h9); have z5 : ¬ _ := fun h9 => c_11 ((fa_eq _ _).mpr h9); have li0 : Int32.toInt 0 = 0 := (by decide); have li1 : Int32.toInt 1 = 1 := (by decide); have li2 : Int32.toInt 2 = 2 := (by decide); unfold sp_would; (repeat' split) <;> first | rfl | omega | (refine Int32.toInt_inj.mp ?_; omega)), by rw [ht]; exact hP9, va_K.moved hW.alike hK9, hD9⟩, hS.F ht⟩) hS.2.2 dX12_would_208
                · have c_11 := not_not_intro c_11
                  refine lv_iload hx hb dX12_would_201 (lv_at hl 2 rfl) ?_
                  refine lv_goto (tgt := 208) hx hb dX12_would_203 (by decide) ?_
                  have hP9 := hP.sub (ws' := []) [] rfl
                  have hD9 := hD.sub (ws' := []) [] (by decide) rfl
                  have hK9 := hK.sub (tys' := []) [] rfl
                  refine W.widen (k := 0) (n := 0) (Nat.le_of_ble_eq_true rfl) (Nat.le_of_ble_eq_true rfl) ?_
                  exact W.iret (v := 0) hx hb hr (fun t ht hW => ⟨⟨0, (), rfl, (by have z0 := (sp_r1 _ _ _).mp c_2; have z1 := (sp_r1 _ _ _).mp c_4; have z2 := (sp_r1 _ _ _).mp c_6; have z3 : ¬ _ := fun h9 => c_9 ((fa_eq _ _).mpr h9); have z4 : ¬ _ := fun h9 => c_10 ((fa_eq _ _).mpr h9); have z5 := (fa_eq _ _).mp (Classical.not_not.mp c_11); have li0 : Int32.toInt 0 = 0 := (by decide); have li1 : Int32.toInt 1 = 1 := (by decide); have li2 : Int32.toInt 2 = 2 := (by decide); unfold sp_would; (repeat' split) <;> first | rfl | omega | (refine Int32.toInt_inj.mp ?_; omega)), by rw [ht]; exact hP9, va_K.moved hW.alike hK9, hD9⟩, hS.F ht⟩) hS.2.2 dX12_would_208
              · have c_10 := not_not_intro c_10
                refine lv_aload_n hx hb dX12_would_188 rfl (lv_at hl 3 rfl) ?_
                refine va_get (D := (dC, dI)) (ci := 12) (v := .long 0) (C := RX12) (T := TX12) (N := 27) hx hb hts (fun _ h0_ => List.mem_cons_of_mem _ (List.mem_append_right _ (List.mem_append_left _ h0_))) hown hK hP 1 rfl rfl 26 (by decide) (hts (.fieldLink RX12 325 "DeadlineShareModel" "least1" "J") (List.mem_cons_of_mem _ (List.mem_append_left _ (List.mem_of_getElem? (i := 16) rfl)))) (fun _ h9 => h9) rfl dX12_would_189 ?_
                refine lv_l2i (v := 0) hx hb dX12_would_192 (by decide) ?_
                refine lv_goto (tgt := 208) hx hb dX12_would_193 (by decide) ?_
                have hP9 := hP.sub (ws' := []) [] rfl
                have hD9 := hD.sub (ws' := []) [] (by decide) rfl
                have hK9 := hK.sub (tys' := []) [] rfl
                refine W.widen (k := 0) (n := 0) (Nat.le_of_ble_eq_true rfl) (Nat.le_of_ble_eq_true rfl) ?_
                exact W.iret (v := 0) hx hb hr (fun t ht hW => ⟨⟨0, (), rfl, (by have z0 := (sp_r1 _ _ _).mp c_2; have z1 := (sp_r1 _ _ _).mp c_4; have z2 := (sp_r1 _ _ _).mp c_6; have z3 : ¬ _ := fun h9 => c_9 ((fa_eq _ _).mpr h9); have z4 := (fa_eq _ _).mp (Classical.not_not.mp c_10); have li0 : Int32.toInt 0 = 0 := (by decide); have li1 : Int32.toInt 1 = 1 := (by decide); unfold sp_would; (repeat' split) <;> first | rfl | omega | (refine Int32.toInt_inj.mp ?_; omega)), by rw [ht]; exact hP9, va_K.moved hW.alike hK9, hD9⟩, hS.F ht⟩) hS.2.2 dX12_would_208
            · have c_9 := not_not_intro c_9
              refine lv_aload_n hx hb dX12_would_175 rfl (lv_at hl 3 rfl) ?_
              refine va_get (D := (dC, dI)) (ci := 12) (v := .long 0) (C := RX12) (T := TX12) (N := 27) hx hb hts (fun _ h0_ => List.mem_cons_of_mem _ (List.mem_append_right _ (List.mem_append_left _ h0_))) hown hK hP 1 rfl rfl 25 (by decide) (hts (.fieldLink RX12 322 "DeadlineShareModel" "most1" "J") (List.mem_cons_of_mem _ (List.mem_append_left _ (List.mem_of_getElem? (i := 15) rfl)))) (fun _ h9 => h9) rfl dX12_would_176 ?_
              refine lv_l2i (v := 0) hx hb dX12_would_179 (by decide) ?_
              refine lv_goto (tgt := 208) hx hb dX12_would_180 (by decide) ?_
              have hP9 := hP.sub (ws' := []) [] rfl
              have hD9 := hD.sub (ws' := []) [] (by decide) rfl
              have hK9 := hK.sub (tys' := []) [] rfl
              refine W.widen (k := 0) (n := 0) (Nat.le_of_ble_eq_true rfl) (Nat.le_of_ble_eq_true rfl) ?_
              exact W.iret (v := 0) hx hb hr (fun t ht hW => ⟨⟨0, (), rfl, (by have z0 := (sp_r1 _ _ _).mp c_2; have z1 := (sp_r1 _ _ _).mp c_4; have z2 := (sp_r1 _ _ _).mp c_6; have z3 := (fa_eq _ _).mp (Classical.not_not.mp c_9); have li0 : Int32.toInt 0 = 0 := (by decide); unfold sp_would; (repeat' split) <;> first | rfl | omega | (refine Int32.toInt_inj.mp ?_; omega)), by rw [ht]; exact hP9, va_K.moved hW.alike hK9, hD9⟩, hS.F ht⟩) hS.2.2 dX12_would_208
          | succ nn ih =>
            intro ii fq H locs ls hin hf95_0 hf95_1 hf95_2 hf95_3 hf95_4 hP hD hS hl
            refine lv_iload hx hb dX12_would_95 (lv_at hl 0 rfl) ?_
            refine lv_iload_n hx hb dX12_would_97 rfl (lv_at hl 5 rfl) ?_
            refine lv_icmp_ge (tgt := 167) hx hb dX12_would_98 (by decide) (fun c => absurd c (nI_ge (a := ii) (b := N9) (by omega) (by omega))) (fun _ => ?_)
            refine lv_aload_n hx hb dX12_would_101 rfl (lv_at hl 3 rfl) ?_
            refine va_get (D := (dC, dI)) (ci := 12) (v := .ref mw) (C := RX12) (T := TX12) (N := 27) hx hb hts (fun _ h0_ => List.mem_cons_of_mem _ (List.mem_append_right _ (List.mem_append_left _ h0_))) hown hK hP 1 rfl rfl 4 (by decide) (hts (.fieldLink RX12 16 "DeadlineShareModel" "row" "[J") (List.mem_cons_of_mem _ (List.mem_append_left _ (List.mem_of_getElem? (i := 8) rfl)))) (fun _ h9 => h9) rfl dX12_would_102 ?_
            refine lv_iconst (v := 3) hx hb dX12_would_105 (by decide) ?_
            refine va_lald hx hb hK hP 2 1 rfl rfl (by unfold vp_in; decide) dX12_would_106 ?_
            refine k_topl (y := (-1)) ((congrArg fq (show Int32.toNatClampNeg 3 = 3 by decide)).trans hf95_2) ?_
            refine lv_lstore (lv' := [(7, .long (-1)), (6, .int (nI ii)), (5, .int (nI ii)), (4, .int 0), (0, .ref h0), (1, .int wy), (2, .int (nI N9)), (3, .int wh)]) hx hb dX12_would_107 hl (by decide) rfl (fun ls hl => ?_)
            refine lv_aload_n hx hb dX12_would_109 rfl (lv_at hl 4 rfl) ?_
            refine lv_iload_n hx hb dX12_would_110 rfl (lv_at hl 5 rfl) ?_
            have hPc := hP.sub (ws' := [(h0, .inr (12, [.int 0, .int 0, .ref mr, .ref mt, .ref mw, .ref mu, .ref mp, .ref mi, .ref mk, .ref ms, .int 0, .ref mv, .int 0, .int 0, .int 0, .int 0, .long 0, .int (-1), .int 0, .ref m1w, .ref m2w, .ref m3w, .ref m4w, .int 0, .long 1, .long 0, .long 0])), (mw, .inl (cm3, 906, .inr (.inl fq))), (mt, .inl (cm2, 3, .inl ft))]) [1, 2, 0] rfl
            have hDc := hD.sub (ws' := [(h0, .inr (12, [.int 0, .int 0, .ref mr, .ref mt, .ref mw, .ref mu, .ref mp, .ref mi, .ref mk, .ref ms, .int 0, .ref mv, .int 0, .int 0, .int 0, .int 0, .long 0, .int (-1), .int 0, .ref m1w, .ref m2w, .ref m3w, .ref m4w, .int 0, .long 1, .long 0, .long 0])), (mw, .inl (cm3, 906, .inr (.inl fq))), (mt, .inl (cm2, 3, .inl ft))]) [1, 2, 0] (by decide) rfl
            have hKc := hK.sub (tys' := [(cm3, .long), (cm2, .int)]) [1, 0] rfl
            have hFc := va_free (wc := [(h0, .inr (12, [.int 0, .int 0, .ref mr, .ref mt, .ref mw, .ref mu, .ref mp, .ref mi, .ref mk, .ref ms, .int 0, .ref mv, .int 0, .int 0, .int 0, .int 0, .long 0, .int (-1), .int 0, .ref m1w, .ref m2w, .ref m3w, .ref m4w, .int 0, .long 1, .long 0, .long 0])), (mw, .inl (cm3, 906, .inr (.inl fq))), (mt, .inl (cm2, 3, .inl ft))]) hD hS hA [1, 2, 0] rfl
            refine va_calli (va_runV (As := [.int wy]) (rest := []) ⟨hx, hb, hml, hown, hts⟩ (c_X12_tick l dC dI h0 wy 0 0 mr mt mw mu mp mi mk ms 0 mv 0 0 0 0 0 (-1) 0 m1w m2w m3w m4w 0 1 0 0 cm3 fq cm2 ft ii ii H.size hf95_0 hf95_1 hf95_2 hf95_3 hf95_4 ht0 (by omega)) (cwV 1 hts (gi_V (fun w_ h0_ => ⟨List.mem_cons_of_mem _ (List.mem_append_right _ (List.mem_append_right _ (List.mem_append_right _ (List.mem_append_right _ (List.mem_append_right _ (List.mem_append_left _ h0_)))))), (tb_c_X12_tick w_ h0_).2⟩) (List.mem_cons_of_mem _ (List.mem_append_left _ (List.mem_of_getElem? (i := 20) rfl))) (List.mem_cons_of_mem _ (List.mem_append_left _ (List.mem_of_getElem? (i := 21) rfl))) (List.mem_cons_of_mem _ (List.mem_append_left _ (List.mem_of_getElem? (i := 22) rfl))) (List.mem_cons_of_mem _ (List.mem_append_left _ (List.mem_of_getElem? (i := 4) rfl)))) rfl rfl rfl (by decide +kernel) ⟨Nat.le_of_ble_eq_true rfl, Nat.le_of_ble_eq_true rfl⟩) ⟨fun a U g mk q => by obtain ⟨q0, q1, qP, qK, qD⟩ := q; exact ⟨q0, q1, qP, va_K.moved (u := U) (U := U.calling g mk a) (Vm.Alike.refl U.vm) qK, qD⟩, va_recv hKc hPc (ci := 12) (q0 := 0) rfl rfl, fun U hU hW => ⟨rfl, by rw [hU], by rw [hU]; exact hPc, va_K.moved hW.alike hKc, hDc.weaken (fun _ _ _ _ => trivial)⟩⟩ rfl rfl hl.1 rfl (lv_room (Nat.le_of_ble_eq_true rfl)) dX12_would_111 ⟨Nat.le_of_ble_eq_true rfl, Nat.le_of_ble_eq_true rfl⟩) hS (fun q _ h => hFc q h) hFc (fun r_12 u t H1 locs ht hvm hw hB hz1 hk1 hS => ?_)
            obtain ⟨f_13, k_14, k_15, k_16, k_17, k_18, hP1, hK1, hD1⟩ := hB
            rw [ht] at hP1
            have hK1 := va_K.moved hvm.symm hK1
            obtain ⟨hP, hD⟩ := va_join (wr := [(mp, .inl (cm5, 906, .inr (.inl f_7)))]) (w1 := [(h0, .inr (12, [.int 0, .int 0, .ref mr, .ref mt, .ref mw, .ref mu, .ref mp, .ref mi, .ref mk, .ref ms, .int 0, .ref mv, .int 0, .int 0, .int 0, .int 0, .long 0, .int (-1), .int 0, .ref m1w, .ref m2w, .ref m3w, .ref m4w, .int 0, .long 1, .long 0, .long 0])), (mw, .inl (cm3, 906, .inr (.inl f_13))), (mt, .inl (cm2, 3, .inl ft))]) hP hD [1, 2, 0] [3] rfl rfl (by decide) (by decide) hk1 hFc hP1 hD1
            generalize H1 = H at hP hS ⊢
            have hP : va_P (dC, dI) vwCl [(mp, .inl (cm5, 906, .inr (.inl f_7))), (h0, .inr (12, [.int 0, .int 0, .ref mr, .ref mt, .ref mw, .ref mu, .ref mp, .ref mi, .ref mk, .ref ms, .int 0, .ref mv, .int 0, .int 0, .int 0, .int 0, .long 0, .int (-1), .int 0, .ref m1w, .ref m2w, .ref m3w, .ref m4w, .int 0, .long 1, .long 0, .long 0])), (mw, .inl (cm3, 906, .inr (.inl f_13))), (mt, .inl (cm2, 3, .inl ft))] H := hP
            have hD : va_D A [(mp, .inl (cm5, 906, .inr (.inl f_7))), (h0, .inr (12, [.int 0, .int 0, .ref mr, .ref mt, .ref mw, .ref mu, .ref mp, .ref mi, .ref mk, .ref ms, .int 0, .ref mv, .int 0, .int 0, .int 0, .int 0, .long 0, .int (-1), .int 0, .ref m1w, .ref m2w, .ref m3w, .ref m4w, .int 0, .long 1, .long 0, .long 0])), (mw, .inl (cm3, 906, .inr (.inl f_13))), (mt, .inl (cm2, 3, .inl ft))] := hD
            refine W.widen (k := 0) (n := 0) (Nat.le_of_ble_eq_true rfl) (Nat.le_of_ble_eq_true rfl) ?_
            have hw : r_12 = (-1) := hw
            subst hw
            refine lv_istore (lv' := [(9, .int (-1)), (7, .long (-1)), (6, .int (nI ii)), (5, .int (nI ii)), (4, .int 0), (0, .ref h0), (1, .int wy), (2, .int (nI N9)), (3, .int wh)]) hx hb dX12_would_114 hl (by decide) rfl (fun ls hl => ?_)
            refine lv_iload hx hb dX12_would_116 (lv_at hl 3 rfl) ?_
            refine lv_iload hx hb dX12_would_118 (lv_at hl 0 rfl) ?_
            refine lv_iconst (v := (-1)) hx hb dX12_would_120 (by decide) ?_
            refine lv_icmp_ne (tgt := 128) hx hb dX12_would_121 (by decide) (fun c => absurd c (by decide)) (fun _ => ?_)
            refine lv_iconst (v := 1) hx hb dX12_would_124 (by decide) ?_
            refine lv_goto (tgt := 129) hx hb dX12_would_125 (by decide) ?_
            refine lv_iadd hx hb dX12_would_129 ?_
            refine k_topi (y := nI (ii + 1)) ((nI_add ii 1).trans (congrArg nI (by omega))) ?_
            refine lv_istore (lv' := [(5, .int (nI (ii + 1))), (9, .int (-1)), (7, .long (-1)), (6, .int (nI ii)), (4, .int 0), (0, .ref h0), (1, .int wy), (2, .int (nI N9)), (3, .int wh)]) hx hb dX12_would_130 hl (by decide) rfl (fun ls hl => ?_)
            refine lv_iload hx hb dX12_would_132 (lv_at hl 4 rfl) ?_
            refine lv_iload hx hb dX12_would_134 (lv_at hl 1 rfl) ?_
            refine lv_iconst (v := (-1)) hx hb dX12_would_136 (by decide) ?_
            refine lv_icmp_eq (tgt := 153) hx hb dX12_would_137 (by decide) (fun _ => ?_) (fun c => absurd (by decide) c)
            refine lv_iconst (v := 0) hx hb dX12_would_153 (by decide) ?_
            refine lv_iadd hx hb dX12_would_154 ?_
            refine k_topi (y := 0) (by decide) ?_
            refine lv_istore (lv' := [(4, .int 0), (5, .int (nI (ii + 1))), (9, .int (-1)), (7, .long (-1)), (6, .int (nI ii)), (0, .ref h0), (1, .int wy), (2, .int (nI N9)), (3, .int wh)]) hx hb dX12_would_155 hl (by decide) rfl (fun ls hl => ?_)
            refine lv_aload_n hx hb dX12_would_157 rfl (lv_at hl 5 rfl) ?_
            have hPc := hP.sub (ws' := [(h0, .inr (12, [.int 0, .int 0, .ref mr, .ref mt, .ref mw, .ref mu, .ref mp, .ref mi, .ref mk, .ref ms, .int 0, .ref mv, .int 0, .int 0, .int 0, .int 0, .long 0, .int (-1), .int 0, .ref m1w, .ref m2w, .ref m3w, .ref m4w, .int 0, .long 1, .long 0, .long 0])), (mw, .inl (cm3, 906, .inr (.inl f_13)))]) [1, 2] rfl
            have hDc := hD.sub (ws' := [(h0, .inr (12, [.int 0, .int 0, .ref mr, .ref mt, .ref mw, .ref mu, .ref mp, .ref mi, .ref mk, .ref ms, .int 0, .ref mv, .int 0, .int 0, .int 0, .int 0, .long 0, .int (-1), .int 0, .ref m1w, .ref m2w, .ref m3w, .ref m4w, .int 0, .long 1, .long 0, .long 0])), (mw, .inl (cm3, 906, .inr (.inl f_13)))]) [1, 2] (by decide) rfl
            have hKc := hK.sub (tys' := [(cm3, .long)]) [1] rfl
            have hFc := va_free (wc := [(h0, .inr (12, [.int 0, .int 0, .ref mr, .ref mt, .ref mw, .ref mu, .ref mp, .ref mi, .ref mk, .ref ms, .int 0, .ref mv, .int 0, .int 0, .int 0, .int 0, .long 0, .int (-1), .int 0, .ref m1w, .ref m2w, .ref m3w, .ref m4w, .int 0, .long 1, .long 0, .long 0])), (mw, .inl (cm3, 906, .inr (.inl f_13)))]) hD hS hA [1, 2] rfl
            refine va_callv (va_runV (As := []) (rest := []) ⟨hx, hb, hml, hown, hts⟩ (c_X12_lookAtLags l dC dI h0 0 0 mr mt mw mu mp mi mk ms 0 mv 0 0 0 0 0 (-1) 0 m1w m2w m3w m4w 0 1 0 0 cm3 f_13 H.size k_14) (cwV 0 hts (gi_V (fun w_ h0_ => ⟨List.mem_cons_of_mem _ (List.mem_append_right _ (List.mem_append_right _ (List.mem_append_right _ (List.mem_append_right _ (List.mem_append_right _ (List.mem_append_right _ (List.mem_append_left _ h0_))))))), (tb_c_X12_lookAtLags w_ h0_).2⟩) (List.mem_cons_of_mem _ (List.mem_append_left _ (List.mem_of_getElem? (i := 23) rfl))) (List.mem_cons_of_mem _ (List.mem_append_left _ (List.mem_of_getElem? (i := 24) rfl))) (List.mem_cons_of_mem _ (List.mem_append_left _ (List.mem_of_getElem? (i := 25) rfl))) (List.mem_cons_of_mem _ (List.mem_append_left _ (List.mem_of_getElem? (i := 4) rfl)))) rfl rfl rfl (by decide +kernel) ⟨Nat.le_of_ble_eq_true rfl, Nat.le_of_ble_eq_true rfl⟩) ⟨fun a U g mk q => by obtain ⟨q0, q1, qP, qK, qD⟩ := q; exact ⟨q0, q1, qP, va_K.moved (u := U) (U := U.calling g mk a) (Vm.Alike.refl U.vm) qK, qD⟩, va_recv hKc hPc (ci := 12) (q0 := 0) rfl rfl, fun U hU hW => ⟨rfl, by rw [hU], by rw [hU]; exact hPc, va_K.moved hW.alike hKc, hDc.weaken (fun _ _ _ _ => trivial)⟩⟩ rfl rfl hl.1 rfl (lv_room (Nat.le_of_ble_eq_true rfl)) dX12_would_158 ⟨Nat.le_of_ble_eq_true rfl, Nat.le_of_ble_eq_true rfl⟩) hS (fun q _ h => hFc q h) hFc (fun u t H1 locs ht hvm hw hB hz1 hk1 hS => ?_)
            obtain ⟨hP1, hK1, hD1⟩ := hB
            rw [ht] at hP1
            have hK1 := va_K.moved hvm.symm hK1
            obtain ⟨hP, hD⟩ := va_join (wr := [(mp, .inl (cm5, 906, .inr (.inl f_7))), (mt, .inl (cm2, 3, .inl ft))]) (w1 := [(h0, .inr (12, [.int 0, .int 0, .ref mr, .ref mt, .ref mw, .ref mu, .ref mp, .ref mi, .ref mk, .ref ms, .int 0, .ref mv, .int 0, .int 0, .int 0, .int 0, .long 0, .int (-1), .int 0, .ref m1w, .ref m2w, .ref m3w, .ref m4w, .int 0, .long 1, .long 0, .long 0])), (mw, .inl (cm3, 906, .inr (.inl f_13)))]) hP hD [1, 2] [0, 3] rfl rfl (by decide) (by decide) hk1 hFc hP1 hD1
            generalize H1 = H at hP hS ⊢
            have hP : va_P (dC, dI) vwCl [(mp, .inl (cm5, 906, .inr (.inl f_7))), (mt, .inl (cm2, 3, .inl ft)), (h0, .inr (12, [.int 0, .int 0, .ref mr, .ref mt, .ref mw, .ref mu, .ref mp, .ref mi, .ref mk, .ref ms, .int 0, .ref mv, .int 0, .int 0, .int 0, .int 0, .long 0, .int (-1), .int 0, .ref m1w, .ref m2w, .ref m3w, .ref m4w, .int 0, .long 1, .long 0, .long 0])), (mw, .inl (cm3, 906, .inr (.inl f_13)))] H := hP
            have hD : va_D A [(mp, .inl (cm5, 906, .inr (.inl f_7))), (mt, .inl (cm2, 3, .inl ft)), (h0, .inr (12, [.int 0, .int 0, .ref mr, .ref mt, .ref mw, .ref mu, .ref mp, .ref mi, .ref mk, .ref ms, .int 0, .ref mv, .int 0, .int 0, .int 0, .int 0, .long 0, .int (-1), .int 0, .ref m1w, .ref m2w, .ref m3w, .ref m4w, .int 0, .long 1, .long 0, .long 0])), (mw, .inl (cm3, 906, .inr (.inl f_13)))] := hD
            refine W.widen (k := 0) (n := 0) (Nat.le_of_ble_eq_true rfl) (Nat.le_of_ble_eq_true rfl) ?_
            refine lv_iinc (v := nI (ii + 1)) (lv' := [(6, .int (nI (ii + 1))), (4, .int 0), (5, .int (nI (ii + 1))), (9, .int (-1)), (7, .long (-1)), (0, .ref h0), (1, .int wy), (2, .int (nI N9)), (3, .int wh)]) hx hb dX12_would_161 hl (k := 4) rfl (nI_1 _) (by decide) rfl (fun ls hl => ?_)
            refine lv_goto (tgt := 95) hx hb dX12_would_164 (by decide) ?_
            exact ih (ii + 1) f_13 _ _ _ (by omega) k_14 k_15 k_16 k_17 k_18 (hP.sub [1, 2, 3, 0] rfl) (hD.sub [1, 2, 3, 0] (by decide) rfl) hS (lv_sub hl [0, 2, 1, 5, 6, 7, 8] rfl)
        exact key N9 0 fw _ _ _ (by omega) hw0 hw1 hw3 hw4 hw5 hP hD hS (lv_sub hl [0, 1, 2, 3, 4, 5, 6] rfl)
