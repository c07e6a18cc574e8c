def ow_c_X11_task : List Cond := [.methodLink RX11 112 yX11_isWeight, .static yX11_isWeight, .initialized RX11, .fieldLink RX11 72 "DeadlineShare" "refusals" "LDeadlineShare$Refusals;", .methodLink RX11 84 yX4_add, .instanceMethod yX4_add, .selects RX4 yX4_add yX4_add, .initialized RX4, .methodLink RX11 116 yX11_isSlice, .static yX11_isSlice, .fieldLink RX11 37 "DeadlineShare" "now" "LDeadlineShare$State;", .fieldLink RX11 119 "DeadlineShare$State" "count" "I", .fieldLink RX11 65 "DeadlineShare" "history" "LDeadlineShare$History;", .methodLink RX11 122 yX1_keep, .instanceMethod yX1_keep, .selects RX1 yX1_keep yX1_keep, .initialized RX1, .methodLink RX11 126 yX6_addTask, .instanceMethod yX6_addTask, .selects RX6 yX6_addTask yX6_addTask, .initialized RX6, .methodLink RX11 95 yX4_none, .instanceMethod yX4_none, .selects RX4 yX4_none yX4_none]
def wq_c_X11_task : List Cond := .code yX11_task cX11_task 3 (some .int) :: (ow_c_X11_task ++ (wq_c_X11_isWeight ++ (u_ws RX11 TX11 12 ++ (wq_c_X4_add_1 ++ (wq_c_X11_isSlice ++ (u_ws RX6 TX6 10 ++ (wq_c_X1_keep ++ (wq_c_X6_addTask ++ (wq_c_X4_none ++ ([] : List Cond))))))))))
theorem tb_c_X11_task : ∀ w ∈ wq_c_X11_task, q_g w := by
  unfold wq_c_X11_task ow_c_X11_task
  exact q_cons tw_327 (q_app (q_cons tw_326 (q_cons tw_325 (q_cons tw_324 (q_cons tw_80 (q_cons tw_280 (q_cons tw_279 (q_cons tw_278 (q_cons tw_1 (q_cons tw_323 (q_cons tw_322 (q_cons tw_101 (q_cons tw_321 (q_cons tw_84 (q_cons tw_320 (q_cons tw_319 (q_cons tw_318 (q_cons tw_87 (q_cons tw_317 (q_cons tw_316 (q_cons tw_315 (q_cons tw_72 (q_cons tw_283 (q_cons tw_282 (q_cons tw_281 q_nil)))))))))))))))))))))))) (q_app tb_c_X11_isWeight (q_app tu_X11 (q_app tb_c_X4_add_1 (q_app tb_c_X11_isSlice (q_app tu_X6 (q_app tb_c_X1_keep (q_app tb_c_X6_addTask (q_app tb_c_X4_none q_nil)))))))))
set_option maxHeartbeats 4000000 in
set_option maxRecDepth 100000 in
theorem c_X11_task (l : Launch) (dC : Nat → ClassId) (dI : Nat → Nat → Nat) (h0 : Nat) (wt : Int32) (sl : Int32) (te : Nat) (ta : Nat) (re : Nat) (no : Nat) (pa : Nat) (ac : Nat) (op : Nat) (im : Nat) (ik : Nat) (hi : Nat) (rf : Nat) (nt : Nat) (nl : Nat) (ns : Nat) (np : Nat) (ct : ClassId) (fn : Nat → Option Nat) (nr : Nat) (cl1 : ClassId) (t0 : Nat) (sc0 : Nat) (lg0 : Nat) (sp0 : Nat) (hbf : Nat) (hac : Nat) (cs2 : ClassId) (fb : Nat → Option Nat) (ci1 : ClassId) (b0 : Nat) (bt : Nat) (bl : Nat) (bs : Nat) (bp : Nat) (br : Nat) (cl5 : ClassId) (rc : Nat) (ci2 : ClassId) (sz : Nat) (hfn : fn 0 = some t0) (hfb : fb 0 = some b0) : Met l yX11_task wq_c_X11_task ({ frames := 4, cells := 0, slots := 0, locals := 105 } : Room) (va_Pc [.ref h0, .int wt, .int sl] (fun U => U.heap.size = sz ∧ va_P (dC, dI) vwCl [(h0, .inr (11, [.ref te, .ref ta, .ref re, .ref no, .ref pa, .ref ac, .ref op, .ref im, .ref ik, .ref hi, .ref rf, .int (-1)])), (no, .inr (6, [.ref te, .ref nt, .ref nl, .ref ns, .ref np, .int 0, .int 0, .long 0, .int (-1), .int (-1)])), (nt, .inl (ct, 12, .inr (.inr (.inr (.inr fn))))), (nl, .inr (2, [.ref nr])), (nr, .inl (cl1, 128, .inr (.inl (fun _ => 0)))), (t0, .inr (8, [.int 0, .ref sc0, .int 0, .int 0, .int 0, .long 0, .int 0, .ref lg0, .int 0, .int 0, .int 0, .int 0, .int 0, .int 0, .int 0, .int 0, .int 0, .int 0])), (sc0, .inr (5, [.ref sp0, .int 0, .int 0, .int 0, .int 0])), (lg0, .inr (10, [.long 0, .long 0])), (hi, .inr (1, [.ref hbf, .ref hac, .int 0, .int 0])), (hbf, .inl (cs2, 10, .inr (.inr (.inr (.inr fb))))), (hac, .inl (ci1, 10, .inl (fun _ => 0))), (b0, .inr (6, [.ref te, .ref bt, .ref bl, .ref bs, .ref bp, .int 0, .int 0, .long 0, .int (-1), .int (-1)])), (bl, .inr (2, [.ref br])), (br, .inl (cl5, 128, .inr (.inl (fun _ => 0)))), (rf, .inr (4, [.ref rc, .int 0])), (rc, .inl (ci2, 5, .inl (fun _ => 0)))] U.heap ∧ va_K (dC, dI) vwCl [(ct, .object "DeadlineShare$Task"), (cl1, .long), (cs2, .object "DeadlineShare$State"), (ci1, .int), (cl5, .long), (ci2, .int)] U ∧ va_D (fun _ => True) [(h0, .inr (11, [.ref te, .ref ta, .ref re, .ref no, .ref pa, .ref ac, .ref op, .ref im, .ref ik, .ref hi, .ref rf, .int (-1)])), (no, .inr (6, [.ref te, .ref nt, .ref nl, .ref ns, .ref np, .int 0, .int 0, .long 0, .int (-1), .int (-1)])), (nt, .inl (ct, 12, .inr (.inr (.inr (.inr fn))))), (nl, .inr (2, [.ref nr])), (nr, .inl (cl1, 128, .inr (.inl (fun _ => 0)))), (t0, .inr (8, [.int 0, .ref sc0, .int 0, .int 0, .int 0, .long 0, .int 0, .ref lg0, .int 0, .int 0, .int 0, .int 0, .int 0, .int 0, .int 0, .int 0, .int 0, .int 0])), (sc0, .inr (5, [.ref sp0, .int 0, .int 0, .int 0, .int 0])), (lg0, .inr (10, [.long 0, .long 0])), (hi, .inr (1, [.ref hbf, .ref hac, .int 0, .int 0])), (hbf, .inl (cs2, 10, .inr (.inr (.inr (.inr fb))))), (hac, .inl (ci1, 10, .inl (fun _ => 0))), (b0, .inr (6, [.ref te, .ref bt, .ref bl, .ref bs, .ref bp, .int 0, .int 0, .long 0, .int (-1), .int (-1)])), (bl, .inr (2, [.ref br])), (br, .inl (cl5, 128, .inr (.inl (fun _ => 0)))), (rf, .inr (4, [.ref rc, .int 0])), (rc, .inl (ci2, 5, .inl (fun _ => 0)))])) (va_Qi (fun (r : Int32) (_ : Unit) => r = sp_two wt sl 1 8 1 20 0) (fun (_ : Unit) t => va_P (dC, dI) vwCl [] t.heap ∧ va_K (dC, dI) vwCl [] t ∧ va_D (va_A [(h0, .inr (11, [.ref te, .ref ta, .ref re, .ref no, .ref pa, .ref ac, .ref op, .ref im, .ref ik, .ref hi, .ref rf, .int (-1)])), (no, .inr (6, [.ref te, .ref nt, .ref nl, .ref ns, .ref np, .int 0, .int 0, .long 0, .int (-1), .int (-1)])), (nt, .inl (ct, 12, .inr (.inr (.inr (.inr fn))))), (nl, .inr (2, [.ref nr])), (nr, .inl (cl1, 128, .inr (.inl (fun _ => 0)))), (t0, .inr (8, [.int 0, .ref sc0, .int 0, .int 0, .int 0, .long 0, .int 0, .ref lg0, .int 0, .int 0, .int 0, .int 0, .int 0, .int 0, .int 0, .int 0, .int 0, .int 0])), (sc0, .inr (5, [.ref sp0, .int 0, .int 0, .int 0, .int 0])), (lg0, .inr (10, [.long 0, .long 0])), (hi, .inr (1, [.ref hbf, .ref hac, .int 0, .int 0])), (hbf, .inl (cs2, 10, .inr (.inr (.inr (.inr fb))))), (hac, .inl (ci1, 10, .inl (fun _ => 0))), (b0, .inr (6, [.ref te, .ref bt, .ref bl, .ref bs, .ref bp, .int 0, .int 0, .long 0, .int (-1), .int (-1)])), (bl, .inr (2, [.ref br])), (br, .inl (cl5, 128, .inr (.inl (fun _ => 0)))), (rf, .inr (4, [.ref rc, .int 0])), (rc, .inl (ci2, 5, .inl (fun _ => 0)))] sz) []) (va_A [(h0, .inr (11, [.ref te, .ref ta, .ref re, .ref no, .ref pa, .ref ac, .ref op, .ref im, .ref ik, .ref hi, .ref rf, .int (-1)])), (no, .inr (6, [.ref te, .ref nt, .ref nl, .ref ns, .ref np, .int 0, .int 0, .long 0, .int (-1), .int (-1)])), (nt, .inl (ct, 12, .inr (.inr (.inr (.inr fn))))), (nl, .inr (2, [.ref nr])), (nr, .inl (cl1, 128, .inr (.inl (fun _ => 0)))), (t0, .inr (8, [.int 0, .ref sc0, .int 0, .int 0, .int 0, .long 0, .int 0, .ref lg0, .int 0, .int 0, .int 0, .int 0, .int 0, .int 0, .int 0, .int 0, .int 0, .int 0])), (sc0, .inr (5, [.ref sp0, .int 0, .int 0, .int 0, .int 0])), (lg0, .inr (10, [.long 0, .long 0])), (hi, .inr (1, [.ref hbf, .ref hac, .int 0, .int 0])), (hbf, .inl (cs2, 10, .inr (.inr (.inr (.inr fb))))), (hac, .inl (ci1, 10, .inl (fun _ => 0))), (b0, .inr (6, [.ref te, .ref bt, .ref bl, .ref bs, .ref bp, .int 0, .int 0, .long 0, .int (-1), .int (-1)])), (bl, .inr (2, [.ref br])), (br, .inl (cl5, 128, .inr (.inl (fun _ => 0)))), (rf, .inr (4, [.ref rc, .int 0])), (rc, .inl (ci2, 5, .inl (fun _ => 0)))] sz)) 0 0 (va_A [(h0, .inr (11, [.ref te, .ref ta, .ref re, .ref no, .ref pa, .ref ac, .ref op, .ref im, .ref ik, .ref hi, .ref rf, .int (-1)])), (no, .inr (6, [.ref te, .ref nt, .ref nl, .ref ns, .ref np, .int 0, .int 0, .long 0, .int (-1), .int (-1)])), (nt, .inl (ct, 12, .inr (.inr (.inr (.inr fn))))), (nl, .inr (2, [.ref nr])), (nr, .inl (cl1, 128, .inr (.inl (fun _ => 0)))), (t0, .inr (8, [.int 0, .ref sc0, .int 0, .int 0, .int 0, .long 0, .int 0, .ref lg0, .int 0, .int 0, .int 0, .int 0, .int 0, .int 0, .int 0, .int 0, .int 0, .int 0])), (sc0, .inr (5, [.ref sp0, .int 0, .int 0, .int 0, .int 0])), (lg0, .inr (10, [.long 0, .long 0])), (hi, .inr (1, [.ref hbf, .ref hac, .int 0, .int 0])), (hbf, .inl (cs2, 10, .inr (.inr (.inr (.inr fb))))), (hac, .inl (ci1, 10, .inl (fun _ => 0))), (b0, .inr (6, [.ref te, .ref bt, .ref bl, .ref bs, .ref bp, .int 0, .int 0, .long 0, .int (-1), .int (-1)])), (bl, .inr (2, [.ref br])), (br, .inl (cl5, 128, .inr (.inl (fun _ => 0)))), (rf, .inr (4, [.ref rc, .int 0])), (rc, .inl (ci2, 5, .inl (fun _ => 0)))] sz) := by
  refine Met.ofW (cc := cX11_task) (maxL := 3) (ret := (some .int)) (by decide) rfl ?_
  intro p e s m args below meth c s₁ B hml hv
  obtain ⟨rfl, hsz, hP, hK, hD0⟩ := hv
  have hx := B.exec
  have hb := B.bytes
  have hr := B.returns
  have hts := atoms_spec (ws := wq_c_X11_task) B.pre
  have hown : s.vm.findClass RX11 = some m.cls := findClass_of_methodNamed B.named
  have hlocks := B.notSynchronized
  subst hsz
  have hD := hD0.self (sz := s.heap.size)
  obtain ⟨A, hAe⟩ : ∃ A, A = va_A [(h0, .inr (11, [.ref te, .ref ta, .ref re, .ref no, .ref pa, .ref ac, .ref op, .ref im, .ref ik, .ref hi, .ref rf, .int (-1)])), (no, .inr (6, [.ref te, .ref nt, .ref nl, .ref ns, .ref np, .int 0, .int 0, .long 0, .int (-1), .int (-1)])), (nt, .inl (ct, 12, .inr (.inr (.inr (.inr fn))))), (nl, .inr (2, [.ref nr])), (nr, .inl (cl1, 128, .inr (.inl (fun _ => 0)))), (t0, .inr (8, [.int 0, .ref sc0, .int 0, .int 0, .int 0, .long 0, .int 0, .ref lg0, .int 0, .int 0, .int 0, .int 0, .int 0, .int 0, .int 0, .int 0, .int 0, .int 0])), (sc0, .inr (5, [.ref sp0, .int 0, .int 0, .int 0, .int 0])), (lg0, .inr (10, [.long 0, .long 0])), (hi, .inr (1, [.ref hbf, .ref hac, .int 0, .int 0])), (hbf, .inl (cs2, 10, .inr (.inr (.inr (.inr fb))))), (hac, .inl (ci1, 10, .inl (fun _ => 0))), (b0, .inr (6, [.ref te, .ref bt, .ref bl, .ref bs, .ref bp, .int 0, .int 0, .long 0, .int (-1), .int (-1)])), (bl, .inr (2, [.ref br])), (br, .inl (cl5, 128, .inr (.inl (fun _ => 0)))), (rf, .inr (4, [.ref rc, .int 0])), (rc, .inl (ci2, 5, .inl (fun _ => 0)))] s.heap.size := ⟨_, rfl⟩
  rw [← hAe] at hD ⊢
  have hA : ∀ q : Nat, s.heap.size ≤ q → A q := fun q h => by rw [hAe]; exact Or.inr h
  have hS : va_S A s.heap s.heap [] := va_S.rf
  have hP : va_P (dC, dI) vwCl [(h0, .inr (11, [.ref te, .ref ta, .ref re, .ref no, .ref pa, .ref ac, .ref op, .ref im, .ref ik, .ref hi, .ref rf, .int (-1)])), (no, .inr (6, [.ref te, .ref nt, .ref nl, .ref ns, .ref np, .int 0, .int 0, .long 0, .int (-1), .int (-1)])), (nt, .inl (ct, 12, .inr (.inr (.inr (.inr fn))))), (nl, .inr (2, [.ref nr])), (nr, .inl (cl1, 128, .inr (.inl (fun _ => 0)))), (t0, .inr (8, [.int 0, .ref sc0, .int 0, .int 0, .int 0, .long 0, .int 0, .ref lg0, .int 0, .int 0, .int 0, .int 0, .int 0, .int 0, .int 0, .int 0, .int 0, .int 0])), (sc0, .inr (5, [.ref sp0, .int 0, .int 0, .int 0, .int 0])), (lg0, .inr (10, [.long 0, .long 0])), (hi, .inr (1, [.ref hbf, .ref hac, .int 0, .int 0])), (hbf, .inl (cs2, 10, .inr (.inr (.inr (.inr fb))))), (hac, .inl (ci1, 10, .inl (fun _ => 0))), (b0, .inr (6, [.ref te, .ref bt, .ref bl, .ref bs, .ref bp, .int 0, .int 0, .long 0, .int (-1), .int (-1)])), (bl, .inr (2, [.ref br])), (br, .inl (cl5, 128, .inr (.inl (fun _ => 0)))), (rf, .inr (4, [.ref rc, .int 0])), (rc, .inl (ci2, 5, .inl (fun _ => 0)))] s.heap := hP
  have hl := lv_entry ([.ref h0, .int wt, .int sl]) (n := 3) (Nat.le_of_ble_eq_true rfl)
  rw [lg_entry_eq]
  generalize (lg_sl ([.ref h0, .int wt, .int sl]) ++ List.replicate (3 - (lg_sl ([.ref h0, .int wt, .int sl])).length) Slot.unset).toArray = ls at hl ⊢
  have hl : lv_has ls 3 [(0, .ref h0), (1, .int wt), (2, .int sl)] := hl
  refine lv_iload_n hx hb dX11_task_0 rfl (lv_at hl 1 rfl) ?_
  have hPc := hP.sub (ws' := []) [] rfl
  have hDc := hD.sub (ws' := []) [] (by decide) rfl
  have hKc := hK.sub (tys' := []) [] rfl
  have hFc := va_free (wc := []) hD hS hA [] rfl
  refine va_calli (va_runS (As := [.int wt]) (rest := []) ⟨hx, hb, hml, hown, hts⟩ (c_X11_isWeight l dC dI wt s.heap.size) (va_cwS 1 hts (gi_S (fun w_ h0_ => ⟨List.mem_cons_of_mem _ (List.mem_append_right _ (List.mem_append_left _ h0_)), (tb_c_X11_isWeight w_ h0_).2⟩) (List.mem_cons_of_mem _ (List.mem_append_left _ (List.mem_of_getElem? (i := 0) rfl))) (List.mem_cons_of_mem _ (List.mem_append_left _ (List.mem_of_getElem? (i := 1) rfl))) (List.mem_cons_of_mem _ (List.mem_append_left _ (List.mem_of_getElem? (i := 2) rfl)))) rfl rfl rfl (by decide +kernel) ⟨Nat.le_of_ble_eq_true rfl, Nat.le_of_ble_eq_true rfl⟩) ⟨fun a U g mk q => by obtain ⟨q0, q1, qP, qK, qD⟩ := q; exact ⟨q0, q1, qP, va_K.moved (u := U) (U := U.calling g mk a) (Vm.Alike.refl U.vm) qK, qD⟩, fun U hU hW => ⟨rfl, by rw [hU], by rw [hU]; exact hPc, va_K.moved hW.alike hKc, hDc.weaken (fun _ _ _ _ => trivial)⟩⟩ rfl rfl hl.1 rfl (lv_room (Nat.le_of_ble_eq_true rfl)) dX11_task_1 ⟨Nat.le_of_ble_eq_true rfl, Nat.le_of_ble_eq_true rfl⟩) hS (fun q _ h => hFc q h) hFc (fun r_1 u t H1 locs ht hvm hw hB hz1 hk1 hS => ?_)
  obtain ⟨hP1, hK1, hD1⟩ := hB
  rw [ht] at hP1
  have hK1 := va_K.moved hvm.symm hK1
  obtain ⟨hP, hD⟩ := va_join (wr := [(h0, .inr (11, [.ref te, .ref ta, .ref re, .ref no, .ref pa, .ref ac, .ref op, .ref im, .ref ik, .ref hi, .ref rf, .int (-1)])), (no, .inr (6, [.ref te, .ref nt, .ref nl, .ref ns, .ref np, .int 0, .int 0, .long 0, .int (-1), .int (-1)])), (nt, .inl (ct, 12, .inr (.inr (.inr (.inr fn))))), (nl, .inr (2, [.ref nr])), (nr, .inl (cl1, 128, .inr (.inl (fun _ => 0)))), (t0, .inr (8, [.int 0, .ref sc0, .int 0, .int 0, .int 0, .long 0, .int 0, .ref lg0, .int 0, .int 0, .int 0, .int 0, .int 0, .int 0, .int 0, .int 0, .int 0, .int 0])), (sc0, .inr (5, [.ref sp0, .int 0, .int 0, .int 0, .int 0])), (lg0, .inr (10, [.long 0, .long 0])), (hi, .inr (1, [.ref hbf, .ref hac, .int 0, .int 0])), (hbf, .inl (cs2, 10, .inr (.inr (.inr (.inr fb))))), (hac, .inl (ci1, 10, .inl (fun _ => 0))), (b0, .inr (6, [.ref te, .ref bt, .ref bl, .ref bs, .ref bp, .int 0, .int 0, .long 0, .int (-1), .int (-1)])), (bl, .inr (2, [.ref br])), (br, .inl (cl5, 128, .inr (.inl (fun _ => 0)))), (rf, .inr (4, [.ref rc, .int 0])), (rc, .inl (ci2, 5, .inl (fun _ => 0)))]) (w1 := []) hP hD [] [0, 1, 2, 3, 4, 5, 6, 7, 8, 9, 10, 11, 12, 13, 14, 15] rfl rfl (by decide) (by decide) hk1 hFc hP1 hD1
  generalize H1 = H at hP hS ⊢
  have hP : va_P (dC, dI) vwCl [(h0, .inr (11, [.ref te, .ref ta, .ref re, .ref no, .ref pa, .ref ac, .ref op, .ref im, .ref ik, .ref hi, .ref rf, .int (-1)])), (no, .inr (6, [.ref te, .ref nt, .ref nl, .ref ns, .ref np, .int 0, .int 0, .long 0, .int (-1), .int (-1)])), (nt, .inl (ct, 12, .inr (.inr (.inr (.inr fn))))), (nl, .inr (2, [.ref nr])), (nr, .inl (cl1, 128, .inr (.inl (fun _ => 0)))), (t0, .inr (8, [.int 0, .ref sc0, .int 0, .int 0, .int 0, .long 0, .int 0, .ref lg0, .int 0, .int 0, .int 0, .int 0, .int 0, .int 0, .int 0, .int 0, .int 0, .int 0])), (sc0, .inr (5, [.ref sp0, .int 0, .int 0, .int 0, .int 0])), (lg0, .inr (10, [.long 0, .long 0])), (hi, .inr (1, [.ref hbf, .ref hac, .int 0, .int 0])), (hbf, .inl (cs2, 10, .inr (.inr (.inr (.inr fb))))), (hac, .inl (ci1, 10, .inl (fun _ => 0))), (b0, .inr (6, [.ref te, .ref bt, .ref bl, .ref bs, .ref bp, .int 0, .int 0, .long 0, .int (-1), .int (-1)])), (bl, .inr (2, [.ref br])), (br, .inl (cl5, 128, .inr (.inl (fun _ => 0)))), (rf, .inr (4, [.ref rc, .int 0])), (rc, .inl (ci2, 5, .inl (fun _ => 0)))] H := hP
  have hD : va_D A [(h0, .inr (11, [.ref te, .ref ta, .ref re, .ref no, .ref pa, .ref ac, .ref op, .ref im, .ref ik, .ref hi, .ref rf, .int (-1)])), (no, .inr (6, [.ref te, .ref nt, .ref nl, .ref ns, .ref np, .int 0, .int 0, .long 0, .int (-1), .int (-1)])), (nt, .inl (ct, 12, .inr (.inr (.inr (.inr fn))))), (nl, .inr (2, [.ref nr])), (nr, .inl (cl1, 128, .inr (.inl (fun _ => 0)))), (t0, .inr (8, [.int 0, .ref sc0, .int 0, .int 0, .int 0, .long 0, .int 0, .ref lg0, .int 0, .int 0, .int 0, .int 0, .int 0, .int 0, .int 0, .int 0, .int 0, .int 0])), (sc0, .inr (5, [.ref sp0, .int 0, .int 0, .int 0, .int 0])), (lg0, .inr (10, [.long 0, .long 0])), (hi, .inr (1, [.ref hbf, .ref hac, .int 0, .int 0])), (hbf, .inl (cs2, 10, .inr (.inr (.inr (.inr fb))))), (hac, .inl (ci1, 10, .inl (fun _ => 0))), (b0, .inr (6, [.ref te, .ref bt, .ref bl, .ref bs, .ref bp, .int 0, .int 0, .long 0, .int (-1), .int (-1)])), (bl, .inr (2, [.ref br])), (br, .inl (cl5, 128, .inr (.inl (fun _ => 0)))), (rf, .inr (4, [.ref rc, .int 0])), (rc, .inl (ci2, 5, .inl (fun _ => 0)))] := hD
  refine W.widen (k := 0) (n := 0) (Nat.le_of_ble_eq_true rfl) (Nat.le_of_ble_eq_true rfl) ?_
  have hw : r_1 = sp_r wt 1 8 := hw
  subst hw
  refine lv_if_eq (tgt := 14) hx hb dX11_task_4 (by decide) (fun c_2 => ?_) (fun c_2 => ?_)
  · refine lv_aload_n hx hb dX11_task_14 rfl (lv_at hl 0 rfl) ?_
    refine va_get (D := (dC, dI)) (ci := 11) (v := .ref rf) (C := RX11) (T := TX11) (N := 12) hx hb hts (fun _ h0_ => List.mem_cons_of_mem _ (List.mem_append_right _ (List.mem_append_right _ (List.mem_append_left _ h0_)))) hown hK hP 0 rfl rfl 10 (by decide) (hts (.fieldLink RX11 72 "DeadlineShare" "refusals" "LDeadlineShare$Refusals;") (List.mem_cons_of_mem _ (List.mem_append_left _ (List.mem_of_getElem? (i := 3) rfl)))) (fun _ h9 => h9) rfl dX11_task_15 ?_
    refine lv_iconst (v := (-1)) hx hb dX11_task_18 (by decide) ?_
    have hPc := hP.sub (ws' := [(rf, .inr (4, [.ref rc, .int 0])), (rc, .inl (ci2, 5, .inl (fun _ => 0)))]) [14, 15] rfl
    have hDc := hD.sub (ws' := [(rf, .inr (4, [.ref rc, .int 0])), (rc, .inl (ci2, 5, .inl (fun _ => 0)))]) [14, 15] (by decide) rfl
    have hKc := hK.sub (tys' := [(ci2, .int)]) [5] rfl
    have hFc := va_free (wc := [(rf, .inr (4, [.ref rc, .int 0])), (rc, .inl (ci2, 5, .inl (fun _ => 0)))]) hD hS hA [14, 15] rfl
    refine va_calli (va_runV (As := [.int (-1)]) (rest := []) ⟨hx, hb, hml, hown, hts⟩ (c_X4_add_1 l dC dI rf rc ci2 H.size) (cwV 1 hts (gi_V (fun w_ h0_ => ⟨List.mem_cons_of_mem _ (List.mem_append_right _ (List.mem_append_right _ (List.mem_append_right _ (List.mem_append_left _ h0_)))), (tb_c_X4_add_1 w_ h0_).2⟩) (List.mem_cons_of_mem _ (List.mem_append_left _ (List.mem_of_getElem? (i := 4) rfl))) (List.mem_cons_of_mem _ (List.mem_append_left _ (List.mem_of_getElem? (i := 5) rfl))) (List.mem_cons_of_mem _ (List.mem_append_left _ (List.mem_of_getElem? (i := 6) rfl))) (List.mem_cons_of_mem _ (List.mem_append_left _ (List.mem_of_getElem? (i := 7) rfl)))) rfl rfl rfl (by decide +kernel) ⟨Nat.le_of_ble_eq_true rfl, Nat.le_of_ble_eq_true rfl⟩) ⟨fun a U g mk q => by obtain ⟨q0, q1, qP, qK, qD⟩ := q; exact ⟨q0, q1, qP, va_K.moved (u := U) (U := U.calling g mk a) (Vm.Alike.refl U.vm) qK, qD⟩, va_recv hKc hPc (ci := 4) (q0 := 0) rfl rfl, fun U hU hW => ⟨rfl, by rw [hU], by rw [hU]; exact hPc, va_K.moved hW.alike hKc, hDc.weaken (fun _ _ _ _ => trivial)⟩⟩ rfl rfl hl.1 rfl (lv_room (Nat.le_of_ble_eq_true rfl)) dX11_task_19 ⟨Nat.le_of_ble_eq_true rfl, Nat.le_of_ble_eq_true rfl⟩) hS (fun q _ h => hFc q h) hFc (fun r_3 u t H1 locs ht hvm hw hB hz1 hk1 hS => ?_)
    obtain ⟨hP1, hK1, hD1⟩ := hB
    rw [ht] at hP1
    have hK1 := va_K.moved hvm.symm hK1
    obtain ⟨hP, hD⟩ := va_join (wr := [(h0, .inr (11, [.ref te, .ref ta, .ref re, .ref no, .ref pa, .ref ac, .ref op, .ref im, .ref ik, .ref hi, .ref rf, .int (-1)])), (no, .inr (6, [.ref te, .ref nt, .ref nl, .ref ns, .ref np, .int 0, .int 0, .long 0, .int (-1), .int (-1)])), (nt, .inl (ct, 12, .inr (.inr (.inr (.inr fn))))), (nl, .inr (2, [.ref nr])), (nr, .inl (cl1, 128, .inr (.inl (fun _ => 0)))), (t0, .inr (8, [.int 0, .ref sc0, .int 0, .int 0, .int 0, .long 0, .int 0, .ref lg0, .int 0, .int 0, .int 0, .int 0, .int 0, .int 0, .int 0, .int 0, .int 0, .int 0])), (sc0, .inr (5, [.ref sp0, .int 0, .int 0, .int 0, .int 0])), (lg0, .inr (10, [.long 0, .long 0])), (hi, .inr (1, [.ref hbf, .ref hac, .int 0, .int 0])), (hbf, .inl (cs2, 10, .inr (.inr (.inr (.inr fb))))), (hac, .inl (ci1, 10, .inl (fun _ => 0))), (b0, .inr (6, [.ref te, .ref bt, .ref bl, .ref bs, .ref bp, .int 0, .int 0, .long 0, .int (-1), .int (-1)])), (bl, .inr (2, [.ref br])), (br, .inl (cl5, 128, .inr (.inl (fun _ => 0))))]) (w1 := []) hP hD [14, 15] [0, 1, 2, 3, 4, 5, 6, 7, 8, 9, 10, 11, 12, 13] rfl rfl (by decide) (by decide) hk1 hFc hP1 hD1
    generalize H1 = H at hP hS ⊢
    have hP : va_P (dC, dI) vwCl [(h0, .inr (11, [.ref te, .ref ta, .ref re, .ref no, .ref pa, .ref ac, .ref op, .ref im, .ref ik, .ref hi, .ref rf, .int (-1)])), (no, .inr (6, [.ref te, .ref nt, .ref nl, .ref ns, .ref np, .int 0, .int 0, .long 0, .int (-1), .int (-1)])), (nt, .inl (ct, 12, .inr (.inr (.inr (.inr fn))))), (nl, .inr (2, [.ref nr])), (nr, .inl (cl1, 128, .inr (.inl (fun _ => 0)))), (t0, .inr (8, [.int 0, .ref sc0, .int 0, .int 0, .int 0, .long 0, .int 0, .ref lg0, .int 0, .int 0, .int 0, .int 0, .int 0, .int 0, .int 0, .int 0, .int 0, .int 0])), (sc0, .inr (5, [.ref sp0, .int 0, .int 0, .int 0, .int 0])), (lg0, .inr (10, [.long 0, .long 0])), (hi, .inr (1, [.ref hbf, .ref hac, .int 0, .int 0])), (hbf, .inl (cs2, 10, .inr (.inr (.inr (.inr fb))))), (hac, .inl (ci1, 10, .inl (fun _ => 0))), (b0, .inr (6, [.ref te, .ref bt, .ref bl, .ref bs, .ref bp, .int 0, .int 0, .long 0, .int (-1), .int (-1)])), (bl, .inr (2, [.ref br])), (br, .inl (cl5, 128, .inr (.inl (fun _ => 0))))] H := hP
    have hD : va_D A [(h0, .inr (11, [.ref te, .ref ta, .ref re, .ref no, .ref pa, .ref ac, .ref op, .ref im, .ref ik, .ref hi, .ref rf, .int (-1)])), (no, .inr (6, [.ref te, .ref nt, .ref nl, .ref ns, .ref np, .int 0, .int 0, .long 0, .int (-1), .int (-1)])), (nt, .inl (ct, 12, .inr (.inr (.inr (.inr fn))))), (nl, .inr (2, [.ref nr])), (nr, .inl (cl1, 128, .inr (.inl (fun _ => 0)))), (t0, .inr (8, [.int 0, .ref sc0, .int 0, .int 0, .int 0, .long 0, .int 0, .ref lg0, .int 0, .int 0, .int 0, .int 0, .int 0, .int 0, .int 0, .int 0, .int 0, .int 0])), (sc0, .inr (5, [.ref sp0, .int 0, .int 0, .int 0, .int 0])), (lg0, .inr (10, [.long 0, .long 0])), (hi, .inr (1, [.ref hbf, .ref hac, .int 0, .int 0])), (hbf, .inl (cs2, 10, .inr (.inr (.inr (.inr fb))))), (hac, .inl (ci1, 10, .inl (fun _ => 0))), (b0, .inr (6, [.ref te, .ref bt, .ref bl, .ref bs, .ref bp, .int 0, .int 0, .long 0, .int (-1), .int (-1)])), (bl, .inr (2, [.ref br])), (br, .inl (cl5, 128, .inr (.inl (fun _ => 0))))] := hD
    refine W.widen (k := 0) (n := 0) (Nat.le_of_ble_eq_true rfl) (Nat.le_of_ble_eq_true rfl) ?_
    have hw : r_3 = (-1) := hw
    subst hw
    have hP9 := hP.sub (ws' := []) [] rfl
    have hD9 := hD.sub (ws' := []) [] (by decide) rfl
    have hK9 := hK.sub (tys' := []) [] rfl
    refine W.widen (k := 0) (n := 0) (Nat.le_of_ble_eq_true rfl) (Nat.le_of_ble_eq_true rfl) ?_
    exact W.iret (v := (-1)) hx hb hr (fun t ht hW => ⟨⟨(-1), (), rfl, (by have z0 := (sp_r0 _ _ _).mp c_2; unfold sp_two; (repeat' split) <;> first | rfl | omega | (refine Int32.toInt_inj.mp ?_; omega)), by rw [ht]; exact hP9, va_K.moved hW.alike hK9, hD9⟩, hS.F ht⟩) hS.2.2 dX11_task_22
  · refine lv_iload_n hx hb dX11_task_7 rfl (lv_at hl 2 rfl) ?_
    have hPc := hP.sub (ws' := []) [] rfl
    have hDc := hD.sub (ws' := []) [] (by decide) rfl
    have hKc := hK.sub (tys' := []) [] rfl
    have hFc := va_free (wc := []) hD hS hA [] rfl
    refine va_calli (va_runS (As := [.int sl]) (rest := []) ⟨hx, hb, hml, hown, hts⟩ (c_X11_isSlice l dC dI sl H.size) (va_cwS 1 hts (gi_S (fun w_ h0_ => ⟨List.mem_cons_of_mem _ (List.mem_append_right _ (List.mem_append_right _ (List.mem_append_right _ (List.mem_append_right _ (List.mem_append_left _ h0_))))), (tb_c_X11_isSlice w_ h0_).2⟩) (List.mem_cons_of_mem _ (List.mem_append_left _ (List.mem_of_getElem? (i := 8) rfl))) (List.mem_cons_of_mem _ (List.mem_append_left _ (List.mem_of_getElem? (i := 9) rfl))) (List.mem_cons_of_mem _ (List.mem_append_left _ (List.mem_of_getElem? (i := 2) rfl)))) rfl rfl rfl (by decide +kernel) ⟨Nat.le_of_ble_eq_true rfl, Nat.le_of_ble_eq_true rfl⟩) ⟨fun a U g mk q => by obtain ⟨q0, q1, qP, qK, qD⟩ := q; exact ⟨q0, q1, qP, va_K.moved (u := U) (U := U.calling g mk a) (Vm.Alike.refl U.vm) qK, qD⟩, fun U hU hW => ⟨rfl, by rw [hU], by rw [hU]; exact hPc, va_K.moved hW.alike hKc, hDc.weaken (fun _ _ _ _ => trivial)⟩⟩ rfl rfl hl.1 rfl (lv_room (Nat.le_of_ble_eq_true rfl)) dX11_task_8 ⟨Nat.le_of_ble_eq_true rfl, Nat.le_of_ble_eq_true rfl⟩) hS (fun q _ h => hFc q h) hFc (fun r_4 u t H1 locs ht hvm hw hB hz1 hk1 hS => ?_)
    obtain ⟨hP1, hK1, hD1⟩ := hB
    rw [ht] at hP1
    have hK1 := va_K.moved hvm.symm hK1
    obtain ⟨hP, hD⟩ := va_join (wr := [(h0, .inr (11, [.ref te, .ref ta, .ref re, .ref no, .ref pa, .ref ac, .ref op, .ref im, .ref ik, .ref hi, .ref rf, .int (-1)])), (no, .inr (6, [.ref te, .ref nt, .ref nl, .ref ns, .ref np, .int 0, .int 0, .long 0, .int (-1), .int (-1)])), (nt, .inl (ct, 12, .inr (.inr (.inr (.inr fn))))), (nl, .inr (2, [.ref nr])), (nr, .inl (cl1, 128, .inr (.inl (fun _ => 0)))), (t0, .inr (8, [.int 0, .ref sc0, .int 0, .int 0, .int 0, .long 0, .int 0, .ref lg0, .int 0, .int 0, .int 0, .int 0, .int 0, .int 0, .int 0, .int 0, .int 0, .int 0])), (sc0, .inr (5, [.ref sp0, .int 0, .int 0, .int 0, .int 0])), (lg0, .inr (10, [.long 0, .long 0])), (hi, .inr (1, [.ref hbf, .ref hac, .int 0, .int 0])), (hbf, .inl (cs2, 10, .inr (.inr (.inr (.inr fb))))), (hac, .inl (ci1, 10, .inl (fun _ => 0))), (b0, .inr (6, [.ref te, .ref bt, .ref bl, .ref bs, .ref bp, .int 0, .int 0, .long 0, .int (-1), .int (-1)])), (bl, .inr (2, [.ref br])), (br, .inl (cl5, 128, .inr (.inl (fun _ => 0)))), (rf, .inr (4, [.ref rc, .int 0])), (rc, .inl (ci2, 5, .inl (fun _ => 0)))]) (w1 := []) hP hD [] [0, 1, 2, 3, 4, 5, 6, 7, 8, 9, 10, 11, 12, 13, 14, 15] rfl rfl (by decide) (by decide) hk1 hFc hP1 hD1
    generalize H1 = H at hP hS ⊢
    have hP : va_P (dC, dI) vwCl [(h0, .inr (11, [.ref te, .ref ta, .ref re, .ref no, .ref pa, .ref ac, .ref op, .ref im, .ref ik, .ref hi, .ref rf, .int (-1)])), (no, .inr (6, [.ref te, .ref nt, .ref nl, .ref ns, .ref np, .int 0, .int 0, .long 0, .int (-1), .int (-1)])), (nt, .inl (ct, 12, .inr (.inr (.inr (.inr fn))))), (nl, .inr (2, [.ref nr])), (nr, .inl (cl1, 128, .inr (.inl (fun _ => 0)))), (t0, .inr (8, [.int 0, .ref sc0, .int 0, .int 0, .int 0, .long 0, .int 0, .ref lg0, .int 0, .int 0, .int 0, .int 0, .int 0, .int 0, .int 0, .int 0, .int 0, .int 0])), (sc0, .inr (5, [.ref sp0, .int 0, .int 0, .int 0, .int 0])), (lg0, .inr (10, [.long 0, .long 0])), (hi, .inr (1, [.ref hbf, .ref hac, .int 0, .int 0])), (hbf, .inl (cs2, 10, .inr (.inr (.inr (.inr fb))))), (hac, .inl (ci1, 10, .inl (fun _ => 0))), (b0, .inr (6, [.ref te, .ref bt, .ref bl, .ref bs, .ref bp, .int 0, .int 0, .long 0, .int (-1), .int (-1)])), (bl, .inr (2, [.ref br])), (br, .inl (cl5, 128, .inr (.inl (fun _ => 0)))), (rf, .inr (4, [.ref rc, .int 0])), (rc, .inl (ci2, 5, .inl (fun _ => 0)))] H := hP
    have hD : va_D A [(h0, .inr (11, [.ref te, .ref ta, .ref re, .ref no, .ref pa, .ref ac, .ref op, .ref im, .ref ik, .ref hi, .ref rf, .int (-1)])), (no, .inr (6, [.ref te, .ref nt, .ref nl, .ref ns, .ref np, .int 0, .int 0, .long 0, .int (-1), .int (-1)])), (nt, .inl (ct, 12, .inr (.inr (.inr (.inr fn))))), (nl, .inr (2, [.ref nr])), (nr, .inl (cl1, 128, .inr (.inl (fun _ => 0)))), (t0, .inr (8, [.int 0, .ref sc0, .int 0, .int 0, .int 0, .long 0, .int 0, .ref lg0, .int 0, .int 0, .int 0, .int 0, .int 0, .int 0, .int 0, .int 0, .int 0, .int 0])), (sc0, .inr (5, [.ref sp0, .int 0, .int 0, .int 0, .int 0])), (lg0, .inr (10, [.long 0, .long 0])), (hi, .inr (1, [.ref hbf, .ref hac, .int 0, .int 0])), (hbf, .inl (cs2, 10, .inr (.inr (.inr (.inr fb))))), (hac, .inl (ci1, 10, .inl (fun _ => 0))), (b0, .inr (6, [.ref te, .ref bt, .ref bl, .ref bs, .ref bp, .int 0, .int 0, .long 0, .int (-1), .int (-1)])), (bl, .inr (2, [.ref br])), (br, .inl (cl5, 128, .inr (.inl (fun _ => 0)))), (rf, .inr (4, [.ref rc, .int 0])), (rc, .inl (ci2, 5, .inl (fun _ => 0)))] := hD
    refine W.widen (k := 0) (n := 0) (Nat.le_of_ble_eq_true rfl) (Nat.le_of_ble_eq_true rfl) ?_
    have hw : r_4 = sp_r sl 1 20 := hw
    subst hw
    refine lv_if_ne (tgt := 23) hx hb dX11_task_11 (by decide) (fun c_5 => ?_) (fun c_5 => ?_)
    · refine lv_aload_n hx hb dX11_task_23 rfl (lv_at hl 0 rfl) ?_
      refine va_get (D := (dC, dI)) (ci := 11) (v := .ref no) (C := RX11) (T := TX11) (N := 12) hx hb hts (fun _ h0_ => List.mem_cons_of_mem _ (List.mem_append_right _ (List.mem_append_right _ (List.mem_append_left _ h0_)))) hown hK hP 0 rfl rfl 3 (by decide) (hts (.fieldLink RX11 37 "DeadlineShare" "now" "LDeadlineShare$State;") (List.mem_cons_of_mem _ (List.mem_append_left _ (List.mem_of_getElem? (i := 10) rfl)))) (fun _ h9 => h9) rfl dX11_task_24 ?_
      refine va_get (D := (dC, dI)) (ci := 6) (v := .int 0) (C := RX6) (T := TX6) (N := 10) hx hb hts (fun _ h0_ => List.mem_cons_of_mem _ (List.mem_append_right _ (List.mem_append_right _ (List.mem_append_right _ (List.mem_append_right _ (List.mem_append_right _ (List.mem_append_left _ h0_))))))) hown hK hP 1 rfl rfl 5 (by decide) (hts (.fieldLink RX11 119 "DeadlineShare$State" "count" "I") (List.mem_cons_of_mem _ (List.mem_append_left _ (List.mem_of_getElem? (i := 11) rfl)))) (fun _ h9 => h9) rfl dX11_task_27 ?_
      refine lv_bipush (v := 12) hx hb dX11_task_30 (by decide) ?_
      refine lv_icmp_lt (tgt := 45) hx hb dX11_task_32 (by decide) (fun _ => ?_) (fun c => absurd (by decide) c)
      refine lv_aload_n hx hb dX11_task_45 rfl (lv_at hl 0 rfl) ?_
      refine va_get (D := (dC, dI)) (ci := 11) (v := .ref hi) (C := RX11) (T := TX11) (N := 12) hx hb hts (fun _ h0_ => List.mem_cons_of_mem _ (List.mem_append_right _ (List.mem_append_right _ (List.mem_append_left _ h0_)))) hown hK hP 0 rfl rfl 9 (by decide) (hts (.fieldLink RX11 65 "DeadlineShare" "history" "LDeadlineShare$History;") (List.mem_cons_of_mem _ (List.mem_append_left _ (List.mem_of_getElem? (i := 12) rfl)))) (fun _ h9 => h9) rfl dX11_task_46 ?_
      refine lv_aload_n hx hb dX11_task_49 rfl (lv_at hl 0 rfl) ?_
      refine va_get (D := (dC, dI)) (ci := 11) (v := .ref no) (C := RX11) (T := TX11) (N := 12) hx hb hts (fun _ h0_ => List.mem_cons_of_mem _ (List.mem_append_right _ (List.mem_append_right _ (List.mem_append_left _ h0_)))) hown hK hP 0 rfl rfl 3 (by decide) (hts (.fieldLink RX11 37 "DeadlineShare" "now" "LDeadlineShare$State;") (List.mem_cons_of_mem _ (List.mem_append_left _ (List.mem_of_getElem? (i := 10) rfl)))) (fun _ h9 => h9) rfl dX11_task_50 ?_
      refine lv_iconst (v := 0) hx hb dX11_task_53 (by decide) ?_
      have hPc := hP.sub (ws' := [(hi, .inr (1, [.ref hbf, .ref hac, .int 0, .int 0])), (hbf, .inl (cs2, 10, .inr (.inr (.inr (.inr fb))))), (hac, .inl (ci1, 10, .inl (fun _ => 0))), (b0, .inr (6, [.ref te, .ref bt, .ref bl, .ref bs, .ref bp, .int 0, .int 0, .long 0, .int (-1), .int (-1)])), (no, .inr (6, [.ref te, .ref nt, .ref nl, .ref ns, .ref np, .int 0, .int 0, .long 0, .int (-1), .int (-1)])), (bl, .inr (2, [.ref br])), (br, .inl (cl5, 128, .inr (.inl (fun _ => 0)))), (nl, .inr (2, [.ref nr])), (nr, .inl (cl1, 128, .inr (.inl (fun _ => 0))))]) [8, 9, 10, 11, 1, 12, 13, 3, 4] rfl
      have hDc := hD.sub (ws' := [(hi, .inr (1, [.ref hbf, .ref hac, .int 0, .int 0])), (hbf, .inl (cs2, 10, .inr (.inr (.inr (.inr fb))))), (hac, .inl (ci1, 10, .inl (fun _ => 0))), (b0, .inr (6, [.ref te, .ref bt, .ref bl, .ref bs, .ref bp, .int 0, .int 0, .long 0, .int (-1), .int (-1)])), (no, .inr (6, [.ref te, .ref nt, .ref nl, .ref ns, .ref np, .int 0, .int 0, .long 0, .int (-1), .int (-1)])), (bl, .inr (2, [.ref br])), (br, .inl (cl5, 128, .inr (.inl (fun _ => 0)))), (nl, .inr (2, [.ref nr])), (nr, .inl (cl1, 128, .inr (.inl (fun _ => 0))))]) [8, 9, 10, 11, 1, 12, 13, 3, 4] (by decide) rfl
      have hKc := hK.sub (tys' := [(cs2, .object "DeadlineShare$State"), (ci1, .int), (cl5, .long), (cl1, .long)]) [2, 3, 4, 1] rfl
      have hFc := va_free (wc := [(hi, .inr (1, [.ref hbf, .ref hac, .int 0, .int 0])), (hbf, .inl (cs2, 10, .inr (.inr (.inr (.inr fb))))), (hac, .inl (ci1, 10, .inl (fun _ => 0))), (b0, .inr (6, [.ref te, .ref bt, .ref bl, .ref bs, .ref bp, .int 0, .int 0, .long 0, .int (-1), .int (-1)])), (no, .inr (6, [.ref te, .ref nt, .ref nl, .ref ns, .ref np, .int 0, .int 0, .long 0, .int (-1), .int (-1)])), (bl, .inr (2, [.ref br])), (br, .inl (cl5, 128, .inr (.inl (fun _ => 0)))), (nl, .inr (2, [.ref nr])), (nr, .inl (cl1, 128, .inr (.inl (fun _ => 0))))]) hD hS hA [8, 9, 10, 11, 1, 12, 13, 3, 4] rfl
      refine va_callv (va_runV (As := [.ref no, .int 0]) (rest := []) ⟨hx, hb, hml, hown, hts⟩ (c_X1_keep l dC dI hi no 0 hbf hac cs2 fb ci1 b0 te bt bl bs bp 0 te nt nl ns np 0 br cl5 (fun _ => 0) nr cl1 (fun _ => 0) H.size hfb) (cwV 2 hts (gi_V (fun w_ h0_ => ⟨List.mem_cons_of_mem _ (List.mem_append_right _ (List.mem_append_right _ (List.mem_append_right _ (List.mem_append_right _ (List.mem_append_right _ (List.mem_append_right _ (List.mem_append_left _ h0_))))))), (tb_c_X1_keep w_ h0_).2⟩) (List.mem_cons_of_mem _ (List.mem_append_left _ (List.mem_of_getElem? (i := 13) rfl))) (List.mem_cons_of_mem _ (List.mem_append_left _ (List.mem_of_getElem? (i := 14) rfl))) (List.mem_cons_of_mem _ (List.mem_append_left _ (List.mem_of_getElem? (i := 15) rfl))) (List.mem_cons_of_mem _ (List.mem_append_left _ (List.mem_of_getElem? (i := 16) rfl)))) rfl rfl rfl (by decide +kernel) ⟨Nat.le_of_ble_eq_true rfl, Nat.le_of_ble_eq_true rfl⟩) ⟨fun a U g mk q => by obtain ⟨q0, q1, qP, qK, qD⟩ := q; exact ⟨q0, q1, qP, va_K.moved (u := U) (U := U.calling g mk a) (Vm.Alike.refl U.vm) qK, qD⟩, va_recv hKc hPc (ci := 1) (q0 := 0) rfl rfl, fun U hU hW => ⟨rfl, by rw [hU], by rw [hU]; exact hPc, va_K.moved hW.alike hKc, hDc.weaken (fun _ _ _ _ => trivial)⟩⟩ rfl rfl hl.1 rfl (lv_room (Nat.le_of_ble_eq_true rfl)) dX11_task_54 ⟨Nat.le_of_ble_eq_true rfl, Nat.le_of_ble_eq_true rfl⟩) hS (fun q _ h => hFc q h) hFc (fun u t H1 locs ht hvm hw hB hz1 hk1 hS => ?_)
      obtain ⟨hP1, hK1, hD1⟩ := hB
      rw [ht] at hP1
      have hK1 := va_K.moved hvm.symm hK1
      obtain ⟨hP, hD⟩ := va_join (wr := [(h0, .inr (11, [.ref te, .ref ta, .ref re, .ref no, .ref pa, .ref ac, .ref op, .ref im, .ref ik, .ref hi, .ref rf, .int (-1)])), (nt, .inl (ct, 12, .inr (.inr (.inr (.inr fn))))), (t0, .inr (8, [.int 0, .ref sc0, .int 0, .int 0, .int 0, .long 0, .int 0, .ref lg0, .int 0, .int 0, .int 0, .int 0, .int 0, .int 0, .int 0, .int 0, .int 0, .int 0])), (sc0, .inr (5, [.ref sp0, .int 0, .int 0, .int 0, .int 0])), (lg0, .inr (10, [.long 0, .long 0])), (rf, .inr (4, [.ref rc, .int 0])), (rc, .inl (ci2, 5, .inl (fun _ => 0)))]) (w1 := [(no, .inr (6, [.ref te, .ref nt, .ref nl, .ref ns, .ref np, .int 0, .int 0, .long 0, .int (-1), .int (-1)])), (nl, .inr (2, [.ref nr])), (nr, .inl (cl1, 128, .inr (.inl (fun _ => 0))))]) hP hD [8, 9, 10, 11, 1, 12, 13, 3, 4] [0, 2, 5, 6, 7, 14, 15] rfl rfl (by decide) (by decide) hk1 hFc hP1 hD1
      generalize H1 = H at hP hS ⊢
      have hP : va_P (dC, dI) vwCl [(h0, .inr (11, [.ref te, .ref ta, .ref re, .ref no, .ref pa, .ref ac, .ref op, .ref im, .ref ik, .ref hi, .ref rf, .int (-1)])), (nt, .inl (ct, 12, .inr (.inr (.inr (.inr fn))))), (t0, .inr (8, [.int 0, .ref sc0, .int 0, .int 0, .int 0, .long 0, .int 0, .ref lg0, .int 0, .int 0, .int 0, .int 0, .int 0, .int 0, .int 0, .int 0, .int 0, .int 0])), (sc0, .inr (5, [.ref sp0, .int 0, .int 0, .int 0, .int 0])), (lg0, .inr (10, [.long 0, .long 0])), (rf, .inr (4, [.ref rc, .int 0])), (rc, .inl (ci2, 5, .inl (fun _ => 0))), (no, .inr (6, [.ref te, .ref nt, .ref nl, .ref ns, .ref np, .int 0, .int 0, .long 0, .int (-1), .int (-1)])), (nl, .inr (2, [.ref nr])), (nr, .inl (cl1, 128, .inr (.inl (fun _ => 0))))] H := hP
      have hD : va_D A [(h0, .inr (11, [.ref te, .ref ta, .ref re, .ref no, .ref pa, .ref ac, .ref op, .ref im, .ref ik, .ref hi, .ref rf, .int (-1)])), (nt, .inl (ct, 12, .inr (.inr (.inr (.inr fn))))), (t0, .inr (8, [.int 0, .ref sc0, .int 0, .int 0, .int 0, .long 0, .int 0, .ref lg0, .int 0, .int 0, .int 0, .int 0, .int 0, .int 0, .int 0, .int 0, .int 0, .int 0])), (sc0, .inr (5, [.ref sp0, .int 0, .int 0, .int 0, .int 0])), (lg0, .inr (10, [.long 0, .long 0])), (rf, .inr (4, [.ref rc, .int 0])), (rc, .inl (ci2, 5, .inl (fun _ => 0))), (no, .inr (6, [.ref te, .ref nt, .ref nl, .ref ns, .ref np, .int 0, .int 0, .long 0, .int (-1), .int (-1)])), (nl, .inr (2, [.ref nr])), (nr, .inl (cl1, 128, .inr (.inl (fun _ => 0))))] := hD
      refine W.widen (k := 0) (n := 0) (Nat.le_of_ble_eq_true rfl) (Nat.le_of_ble_eq_true rfl) ?_
      refine lv_aload_n hx hb dX11_task_57 rfl (lv_at hl 0 rfl) ?_
      refine va_get (D := (dC, dI)) (ci := 11) (v := .ref rf) (C := RX11) (T := TX11) (N := 12) hx hb hts (fun _ h0_ => List.mem_cons_of_mem _ (List.mem_append_right _ (List.mem_append_right _ (List.mem_append_left _ h0_)))) hown hK hP 0 rfl rfl 10 (by decide) (hts (.fieldLink RX11 72 "DeadlineShare" "refusals" "LDeadlineShare$Refusals;") (List.mem_cons_of_mem _ (List.mem_append_left _ (List.mem_of_getElem? (i := 3) rfl)))) (fun _ h9 => h9) rfl dX11_task_58 ?_
      refine lv_aload_n hx hb dX11_task_61 rfl (lv_at hl 0 rfl) ?_
      refine va_get (D := (dC, dI)) (ci := 11) (v := .ref no) (C := RX11) (T := TX11) (N := 12) hx hb hts (fun _ h0_ => List.mem_cons_of_mem _ (List.mem_append_right _ (List.mem_append_right _ (List.mem_append_left _ h0_)))) hown hK hP 0 rfl rfl 3 (by decide) (hts (.fieldLink RX11 37 "DeadlineShare" "now" "LDeadlineShare$State;") (List.mem_cons_of_mem _ (List.mem_append_left _ (List.mem_of_getElem? (i := 10) rfl)))) (fun _ h9 => h9) rfl dX11_task_62 ?_
      refine lv_iload_n hx hb dX11_task_65 rfl (lv_at hl 1 rfl) ?_
      refine lv_iload_n hx hb dX11_task_66 rfl (lv_at hl 2 rfl) ?_
      have hPc := hP.sub (ws' := [(no, .inr (6, [.ref te, .ref nt, .ref nl, .ref ns, .ref np, .int 0, .int 0, .long 0, .int (-1), .int (-1)])), (nt, .inl (ct, 12, .inr (.inr (.inr (.inr fn))))), (t0, .inr (8, [.int 0, .ref sc0, .int 0, .int 0, .int 0, .long 0, .int 0, .ref lg0, .int 0, .int 0, .int 0, .int 0, .int 0, .int 0, .int 0, .int 0, .int 0, .int 0])), (sc0, .inr (5, [.ref sp0, .int 0, .int 0, .int 0, .int 0])), (lg0, .inr (10, [.long 0, .long 0]))]) [7, 1, 2, 3, 4] rfl
      have hDc := hD.sub (ws' := [(no, .inr (6, [.ref te, .ref nt, .ref nl, .ref ns, .ref np, .int 0, .int 0, .long 0, .int (-1), .int (-1)])), (nt, .inl (ct, 12, .inr (.inr (.inr (.inr fn))))), (t0, .inr (8, [.int 0, .ref sc0, .int 0, .int 0, .int 0, .long 0, .int 0, .ref lg0, .int 0, .int 0, .int 0, .int 0, .int 0, .int 0, .int 0, .int 0, .int 0, .int 0])), (sc0, .inr (5, [.ref sp0, .int 0, .int 0, .int 0, .int 0])), (lg0, .inr (10, [.long 0, .long 0]))]) [7, 1, 2, 3, 4] (by decide) rfl
      have hKc := hK.sub (tys' := [(ct, .object "DeadlineShare$Task")]) [0] rfl
      have hFc := va_free (wc := [(no, .inr (6, [.ref te, .ref nt, .ref nl, .ref ns, .ref np, .int 0, .int 0, .long 0, .int (-1), .int (-1)])), (nt, .inl (ct, 12, .inr (.inr (.inr (.inr fn))))), (t0, .inr (8, [.int 0, .ref sc0, .int 0, .int 0, .int 0, .long 0, .int 0, .ref lg0, .int 0, .int 0, .int 0, .int 0, .int 0, .int 0, .int 0, .int 0, .int 0, .int 0])), (sc0, .inr (5, [.ref sp0, .int 0, .int 0, .int 0, .int 0])), (lg0, .inr (10, [.long 0, .long 0]))]) hD hS hA [7, 1, 2, 3, 4] rfl
      refine va_calli (va_runV (As := [.int wt, .int sl]) (rest := [.ref rf]) ⟨hx, hb, hml, hown, hts⟩ (c_X6_addTask l dC dI no wt sl te nt nl ns np ct fn t0 sc0 lg0 sp0 H.size hfn) (cwV 2 hts (gi_V (fun w_ h0_ => ⟨List.mem_cons_of_mem _ (List.mem_append_right _ (List.mem_append_right _ (List.mem_append_right _ (List.mem_append_right _ (List.mem_append_right _ (List.mem_append_right _ (List.mem_append_right _ (List.mem_append_left _ h0_)))))))), (tb_c_X6_addTask w_ h0_).2⟩) (List.mem_cons_of_mem _ (List.mem_append_left _ (List.mem_of_getElem? (i := 17) rfl))) (List.mem_cons_of_mem _ (List.mem_append_left _ (List.mem_of_getElem? (i := 18) rfl))) (List.mem_cons_of_mem _ (List.mem_append_left _ (List.mem_of_getElem? (i := 19) rfl))) (List.mem_cons_of_mem _ (List.mem_append_left _ (List.mem_of_getElem? (i := 20) rfl)))) rfl rfl rfl (by decide +kernel) ⟨Nat.le_of_ble_eq_true rfl, Nat.le_of_ble_eq_true rfl⟩) ⟨fun a U g mk q => by obtain ⟨q0, q1, qP, qK, qD⟩ := q; exact ⟨q0, q1, qP, va_K.moved (u := U) (U := U.calling g mk a) (Vm.Alike.refl U.vm) qK, qD⟩, va_recv hKc hPc (ci := 6) (q0 := 0) rfl rfl, fun U hU hW => ⟨rfl, by rw [hU], by rw [hU]; exact hPc, va_K.moved hW.alike hKc, hDc.weaken (fun _ _ _ _ => trivial)⟩⟩ rfl rfl hl.1 rfl (lv_room (Nat.le_of_ble_eq_true rfl)) dX11_task_67 ⟨Nat.le_of_ble_eq_true rfl, Nat.le_of_ble_eq_true rfl⟩) hS (fun q _ h => hFc q h) hFc (fun r_6 u t H1 locs ht hvm hw hB hz1 hk1 hS => ?_)
      obtain ⟨hP1, hK1, hD1⟩ := hB
      rw [ht] at hP1
      have hK1 := va_K.moved hvm.symm hK1
      obtain ⟨hP, hD⟩ := va_join (wr := [(h0, .inr (11, [.ref te, .ref ta, .ref re, .ref no, .ref pa, .ref ac, .ref op, .ref im, .ref ik, .ref hi, .ref rf, .int (-1)])), (rf, .inr (4, [.ref rc, .int 0])), (rc, .inl (ci2, 5, .inl (fun _ => 0))), (nl, .inr (2, [.ref nr])), (nr, .inl (cl1, 128, .inr (.inl (fun _ => 0))))]) (w1 := []) hP hD [7, 1, 2, 3, 4] [0, 5, 6, 8, 9] rfl rfl (by decide) (by decide) hk1 hFc hP1 hD1
      generalize H1 = H at hP hS ⊢
      have hP : va_P (dC, dI) vwCl [(h0, .inr (11, [.ref te, .ref ta, .ref re, .ref no, .ref pa, .ref ac, .ref op, .ref im, .ref ik, .ref hi, .ref rf, .int (-1)])), (rf, .inr (4, [.ref rc, .int 0])), (rc, .inl (ci2, 5, .inl (fun _ => 0))), (nl, .inr (2, [.ref nr])), (nr, .inl (cl1, 128, .inr (.inl (fun _ => 0))))] H := hP
      have hD : va_D A [(h0, .inr (11, [.ref te, .ref ta, .ref re, .ref no, .ref pa, .ref ac, .ref op, .ref im, .ref ik, .ref hi, .ref rf, .int (-1)])), (rf, .inr (4, [.ref rc, .int 0])), (rc, .inl (ci2, 5, .inl (fun _ => 0))), (nl, .inr (2, [.ref nr])), (nr, .inl (cl1, 128, .inr (.inl (fun _ => 0))))] := hD
      refine W.widen (k := 0) (n := 0) (Nat.le_of_ble_eq_true rfl) (Nat.le_of_ble_eq_true rfl) ?_
      have hw : r_6 = 0 := hw
      subst hw
      have hPc := hP.sub (ws' := [(rf, .inr (4, [.ref rc, .int 0]))]) [1] rfl
      have hDc := hD.sub (ws' := [(rf, .inr (4, [.ref rc, .int 0]))]) [1] (by decide) rfl
      have hKc := hK.sub (tys' := []) [] rfl
      have hFc := va_free (wc := [(rf, .inr (4, [.ref rc, .int 0]))]) hD hS hA [1] rfl
      refine va_calli (va_runV (As := [.int 0]) (rest := []) ⟨hx, hb, hml, hown, hts⟩ (c_X4_none l dC dI rf rc 0 0 H.size) (cwV 1 hts (gi_V (fun w_ h0_ => ⟨List.mem_cons_of_mem _ (List.mem_append_right _ (List.mem_append_right _ (List.mem_append_right _ (List.mem_append_right _ (List.mem_append_right _ (List.mem_append_right _ (List.mem_append_right _ (List.mem_append_right _ (List.mem_append_left _ h0_))))))))), (tb_c_X4_none w_ h0_).2⟩) (List.mem_cons_of_mem _ (List.mem_append_left _ (List.mem_of_getElem? (i := 21) rfl))) (List.mem_cons_of_mem _ (List.mem_append_left _ (List.mem_of_getElem? (i := 22) rfl))) (List.mem_cons_of_mem _ (List.mem_append_left _ (List.mem_of_getElem? (i := 23) rfl))) (List.mem_cons_of_mem _ (List.mem_append_left _ (List.mem_of_getElem? (i := 7) rfl)))) rfl rfl rfl (by decide +kernel) ⟨Nat.le_of_ble_eq_true rfl, Nat.le_of_ble_eq_true rfl⟩) ⟨fun a U g mk q => by obtain ⟨q0, q1, qP, qK, qD⟩ := q; exact ⟨q0, q1, qP, va_K.moved (u := U) (U := U.calling g mk a) (Vm.Alike.refl U.vm) qK, qD⟩, va_recv hKc hPc (ci := 4) (q0 := 0) rfl rfl, fun U hU hW => ⟨rfl, by rw [hU], by rw [hU]; exact hPc, va_K.moved hW.alike hKc, hDc.weaken (fun _ _ _ _ => trivial)⟩⟩ rfl rfl hl.1 rfl (lv_room (Nat.le_of_ble_eq_true rfl)) dX11_task_70 ⟨Nat.le_of_ble_eq_true rfl, Nat.le_of_ble_eq_true rfl⟩) hS (fun q _ h => hFc q h) hFc (fun r_7 u t H1 locs ht hvm hw hB hz1 hk1 hS => ?_)
      obtain ⟨hP1, hK1, hD1⟩ := hB
      rw [ht] at hP1
      have hK1 := va_K.moved hvm.symm hK1
      obtain ⟨hP, hD⟩ := va_join (wr := [(h0, .inr (11, [.ref te, .ref ta, .ref re, .ref no, .ref pa, .ref ac, .ref op, .ref im, .ref ik, .ref hi, .ref rf, .int (-1)])), (rc, .inl (ci2, 5, .inl (fun _ => 0))), (nl, .inr (2, [.ref nr])), (nr, .inl (cl1, 128, .inr (.inl (fun _ => 0))))]) (w1 := []) hP hD [1] [0, 2, 3, 4] rfl rfl (by decide) (by decide) hk1 hFc hP1 hD1
      generalize H1 = H at hP hS ⊢
      have hP : va_P (dC, dI) vwCl [(h0, .inr (11, [.ref te, .ref ta, .ref re, .ref no, .ref pa, .ref ac, .ref op, .ref im, .ref ik, .ref hi, .ref rf, .int (-1)])), (rc, .inl (ci2, 5, .inl (fun _ => 0))), (nl, .inr (2, [.ref nr])), (nr, .inl (cl1, 128, .inr (.inl (fun _ => 0))))] H := hP
      have hD : va_D A [(h0, .inr (11, [.ref te, .ref ta, .ref re, .ref no, .ref pa, .ref ac, .ref op, .ref im, .ref ik, .ref hi, .ref rf, .int (-1)])), (rc, .inl (ci2, 5, .inl (fun _ => 0))), (nl, .inr (2, [.ref nr])), (nr, .inl (cl1, 128, .inr (.inl (fun _ => 0))))] := hD
      refine W.widen (k := 0) (n := 0) (Nat.le_of_ble_eq_true rfl) (Nat.le_of_ble_eq_true rfl) ?_
      have hw : r_7 = 0 := hw
      subst hw
      have hP9 := hP.sub (ws' := []) [] rfl
      have hD9 := hD.sub (ws' := []) [] (by decide) rfl
      have hK9 := hK.sub (tys' := []) [] rfl
      refine W.widen (k := 0) (n := 0) (Nat.le_of_ble_eq_true rfl) (Nat.le_of_ble_eq_true rfl) ?_
      exact W.iret (v := 0) hx hb hr (fun t ht hW => ⟨⟨0, (), rfl, (by have z0 := (sp_r1 _ _ _).mp c_2; have z1 := (sp_r1 _ _ _).mp c_5; unfold sp_two; (repeat' split) <;> first | rfl | omega | (refine Int32.toInt_inj.mp ?_; omega)), by rw [ht]; exact hP9, va_K.moved hW.alike hK9, hD9⟩, hS.F ht⟩) hS.2.2 dX11_task_73
    · have c_5 := not_not_intro c_5
      refine lv_aload_n hx hb dX11_task_14 rfl (lv_at hl 0 rfl) ?_
      refine va_get (D := (dC, dI)) (ci := 11) (v := .ref rf) (C := RX11) (T := TX11) (N := 12) hx hb hts (fun _ h0_ => List.mem_cons_of_mem _ (List.mem_append_right _ (List.mem_append_right _ (List.mem_append_left _ h0_)))) hown hK hP 0 rfl rfl 10 (by decide) (hts (.fieldLink RX11 72 "DeadlineShare" "refusals" "LDeadlineShare$Refusals;") (List.mem_cons_of_mem _ (List.mem_append_left _ (List.mem_of_getElem? (i := 3) rfl)))) (fun _ h9 => h9) rfl dX11_task_15 ?_
      refine lv_iconst (v := (-1)) hx hb dX11_task_18 (by decide) ?_
      have hPc := hP.sub (ws' := [(rf, .inr (4, [.ref rc, .int 0])), (rc, .inl (ci2, 5, .inl (fun _ => 0)))]) [14, 15] rfl
      have hDc := hD.sub (ws' := [(rf, .inr (4, [.ref rc, .int 0])), (rc, .inl (ci2, 5, .inl (fun _ => 0)))]) [14, 15] (by decide) rfl
      have hKc := hK.sub (tys' := [(ci2, .int)]) [5] rfl
      have hFc := va_free (wc := [(rf, .inr (4, [.ref rc, .int 0])), (rc, .inl (ci2, 5, .inl (fun _ => 0)))]) hD hS hA [14, 15] rfl
      refine va_calli (va_runV (As := [.int (-1)]) (rest := []) ⟨hx, hb, hml, hown, hts⟩ (c_X4_add_1 l dC dI rf rc ci2 H.size) (cwV 1 hts (gi_V (fun w_ h0_ => ⟨List.mem_cons_of_mem _ (List.mem_append_right _ (List.mem_append_right _ (List.mem_append_right _ (List.mem_append_left _ h0_)))), (tb_c_X4_add_1 w_ h0_).2⟩) (List.mem_cons_of_mem _ (List.mem_append_left _ (List.mem_of_getElem? (i := 4) rfl))) (List.mem_cons_of_mem _ (List.mem_append_left _ (List.mem_of_getElem? (i := 5) rfl))) (List.mem_cons_of_mem _ (List.mem_append_left _ (List.mem_of_getElem? (i := 6) rfl))) (List.mem_cons_of_mem _ (List.mem_append_left _ (List.mem_of_getElem? (i := 7) rfl)))) rfl rfl rfl (by decide +kernel) ⟨Nat.le_of_ble_eq_true rfl, Nat.le_of_ble_eq_true rfl⟩) ⟨fun a U g mk q => by obtain ⟨q0, q1, qP, qK, qD⟩ := q; exact ⟨q0, q1, qP, va_K.moved (u := U) (U := U.calling g mk a) (Vm.Alike.refl U.vm) qK, qD⟩, va_recv hKc hPc (ci := 4) (q0 := 0) rfl rfl, fun U hU hW => ⟨rfl, by rw [hU], by rw [hU]; exact hPc, va_K.moved hW.alike hKc, hDc.weaken (fun _ _ _ _ => trivial)⟩⟩ rfl rfl hl.1 rfl (lv_room (Nat.le_of_ble_eq_true rfl)) dX11_task_19 ⟨Nat.le_of_ble_eq_true rfl, Nat.le_of_ble_eq_true rfl⟩) hS (fun q _ h => hFc q h) hFc (fun r_8 u t H1 locs ht hvm hw hB hz1 hk1 hS => ?_)
      obtain ⟨hP1, hK1, hD1⟩ := hB
      rw [ht] at hP1
      have hK1 := va_K.moved hvm.symm hK1
      obtain ⟨hP, hD⟩ := va_join (wr := [(h0, .inr (11, [.ref te, .ref ta, .ref re, .ref no, .ref pa, .ref ac, .ref op, .ref im, .ref ik, .ref hi, .ref rf, .int (-1)])), (no, .inr (6, [.ref te, .ref nt, .ref nl, .ref ns, .ref np, .int 0, .int 0, .long 0, .int (-1), .int (-1)])), (nt, .inl (ct, 12, .inr (.inr (.inr (.inr fn))))), (nl, .inr (2, [.ref nr])), (nr, .inl (cl1, 128, .inr (.inl (fun _ => 0)))), (t0, .inr (8, [.int 0, .ref sc0, .int 0, .int 0, .int 0, .long 0, .int 0, .ref lg0, .int 0, .int 0, .int 0, .int 0, .int 0, .int 0, .int 0, .int 0, .int 0, .int 0])), (sc0, .inr (5, [.ref sp0, .int 0, .int 0, .int 0, .int 0])), (lg0, .inr (10, [.long 0, .long 0])), (hi, .inr (1, [.ref hbf, .ref hac, .int 0, .int 0])), (hbf, .inl (cs2, 10, .inr (.inr (.inr (.inr fb))))), (hac, .inl (ci1, 10, .inl (fun _ => 0))), (b0, .inr (6, [.ref te, .ref bt, .ref bl, .ref bs, .ref bp, .int 0, .int 0, .long 0, .int (-1), .int (-1)])), (bl, .inr (2, [.ref br])), (br, .inl (cl5, 128, .inr (.inl (fun _ => 0))))]) (w1 := []) hP hD [14, 15] [0, 1, 2, 3, 4, 5, 6, 7, 8, 9, 10, 11, 12, 13] rfl rfl (by decide) (by decide) hk1 hFc hP1 hD1
      generalize H1 = H at hP hS ⊢
      have hP : va_P (dC, dI) vwCl [(h0, .inr (11, [.ref te, .ref ta, .ref re, .ref no, .ref pa, .ref ac, .ref op, .ref im, .ref ik, .ref hi, .ref rf, .int (-1)])), (no, .inr (6, [.ref te, .ref nt, .ref nl, .ref ns, .ref np, .int 0, .int 0, .long 0, .int (-1), .int (-1)])), (nt, .inl (ct, 12, .inr (.inr (.inr (.inr fn))))), (nl, .inr (2, [.ref nr])), (nr, .inl (cl1, 128, .inr (.inl (fun _ => 0)))), (t0, .inr (8, [.int 0, .ref sc0, .int 0, .int 0, .int 0, .long 0, .int 0, .ref lg0, .int 0, .int 0, .int 0, .int 0, .int 0, .int 0, .int 0, .int 0, .int 0, .int 0])), (sc0, .inr (5, [.ref sp0, .int 0, .int 0, .int 0, .int 0])), (lg0, .inr (10, [.long 0, .long 0])), (hi, .inr (1, [.ref hbf, .ref hac, .int 0, .int 0])), (hbf, .inl (cs2, 10, .inr (.inr (.inr (.inr fb))))), (hac, .inl (ci1, 10, .inl (fun _ => 0))), (b0, .inr (6, [.ref te, .ref bt, .ref bl, .ref bs, .ref bp, .int 0, .int 0, .long 0, .int (-1), .int (-1)])), (bl, .inr (2, [.ref br])), (br, .inl (cl5, 128, .inr (.inl (fun _ => 0))))] H := hP
      have hD : va_D A [(h0, .inr (11, [.ref te, .ref ta, .ref re, .ref no, .ref pa, .ref ac, .ref op, .ref im, .ref ik, .ref hi, .ref rf, .int (-1)])), (no, .inr (6, [.ref te, .ref nt, .ref nl, .ref ns, .ref np, .int 0, .int 0, .long 0, .int (-1), .int (-1)])), (nt, .inl (ct, 12, .inr (.inr (.inr (.inr fn))))), (nl, .inr (2, [.ref nr])), (nr, .inl (cl1, 128, .inr (.inl (fun _ => 0)))), (t0, .inr (8, [.int 0, .ref sc0, .int 0, .int 0, .int 0, .long 0, .int 0, .ref lg0, .int 0, .int 0, .int 0, .int 0, .int 0, .int 0, .int 0, .int 0, .int 0, .int 0])), (sc0, .inr (5, [.ref sp0, .int 0, .int 0, .int 0, .int 0])), (lg0, .inr (10, [.long 0, .long 0])), (hi, .inr (1, [.ref hbf, .ref hac, .int 0, .int 0])), (hbf, .inl (cs2, 10, .inr (.inr (.inr (.inr fb))))), (hac, .inl (ci1, 10, .inl (fun _ => 0))), (b0, .inr (6, [.ref te, .ref bt, .ref bl, .ref bs, .ref bp, .int 0, .int 0, .long 0, .int (-1), .int (-1)])), (bl, .inr (2, [.ref br])), (br, .inl (cl5, 128, .inr (.inl (fun _ => 0))))] := hD
      refine W.widen (k := 0) (n := 0) (Nat.le_of_ble_eq_true rfl) (Nat.le_of_ble_eq_true rfl) ?_
      have hw : r_8 = (-1) := hw
      subst hw
      have hP9 := hP.sub (ws' := []) [] rfl
      have hD9 := hD.sub (ws' := []) [] (by decide) rfl
      have hK9 := hK.sub (tys' := []) [] rfl
      refine W.widen (k := 0) (n := 0) (Nat.le_of_ble_eq_true rfl) (Nat.le_of_ble_eq_true rfl) ?_
      exact W.iret (v := (-1)) hx hb hr (fun t ht hW => ⟨⟨(-1), (), rfl, (by have z0 := (sp_r1 _ _ _).mp c_2; have z1 := (sp_r0 _ _ _).mp (Classical.not_not.mp c_5); unfold sp_two; (repeat' split) <;> first | rfl | omega | (refine Int32.toInt_inj.mp ?_; omega)), by rw [ht]; exact hP9, va_K.moved hW.alike hK9, hD9⟩, hS.F ht⟩) hS.2.2 dX11_task_22
def ow_c_X11_join : List Cond := [.fieldLink RX11 37 "DeadlineShare" "now" "LDeadlineShare$State;", .methodLink RX11 130 yX6_has, .instanceMethod yX6_has, .selects RX6 yX6_has yX6_has, .initialized RX6, .fieldLink RX11 72 "DeadlineShare" "refusals" "LDeadlineShare$Refusals;", .methodLink RX11 84 yX4_add, .instanceMethod yX4_add, .selects RX4 yX4_add yX4_add, .initialized RX4]
def wq_c_X11_join : List Cond := .code yX11_join cX11_join 3 (some .int) :: (ow_c_X11_join ++ (u_ws RX11 TX11 12 ++ (wq_c_X6_has ++ (wq_c_X4_add_2 ++ ([] : List Cond)))))
theorem tb_c_X11_join : ∀ w ∈ wq_c_X11_join, q_g w := by
  unfold wq_c_X11_join ow_c_X11_join
  exact q_cons tw_329 (q_app (q_cons tw_101 (q_cons tw_328 (q_cons tw_205 (q_cons tw_204 (q_cons tw_72 (q_cons tw_80 (q_cons tw_280 (q_cons tw_279 (q_cons tw_278 (q_cons tw_1 q_nil)))))))))) (q_app tu_X11 (q_app tb_c_X6_has (q_app tb_c_X4_add_2 q_nil))))
set_option maxHeartbeats 4000000 in
set_option maxRecDepth 100000 in
theorem c_X11_join (l : Launch) (dC : Nat → ClassId) (dI : Nat → Nat → Nat) (h0 : Nat) (tk : Int32) (te : Nat) (ta : Nat) (re : Nat) (no : Nat) (pa : Nat) (ac : Nat) (op : Nat) (im : Nat) (ik : Nat) (hi : Nat) (rf : Nat) (nt : Nat) (nl : Nat) (ns : Nat) (np : Nat) (rc : Nat) (ci2 : ClassId) (sz : Nat) : Met l yX11_join wq_c_X11_join ({ frames := 2, cells := 0, slots := 0, locals := 41 } : Room) (va_Pc [.ref h0, .int tk] (fun U => U.heap.size = sz ∧ va_P (dC, dI) vwCl [(h0, .inr (11, [.ref te, .ref ta, .ref re, .ref no, .ref pa, .ref ac, .ref op, .ref im, .ref ik, .ref hi, .ref rf, .int (-1)])), (no, .inr (6, [.ref te, .ref nt, .ref nl, .ref ns, .ref np, .int 0, .int 0, .long 0, .int (-1), .int (-1)])), (rf, .inr (4, [.ref rc, .int 0])), (rc, .inl (ci2, 5, .inl (fun _ => 0)))] U.heap ∧ va_K (dC, dI) vwCl [(ci2, .int)] U ∧ va_D (fun _ => True) [(h0, .inr (11, [.ref te, .ref ta, .ref re, .ref no, .ref pa, .ref ac, .ref op, .ref im, .ref ik, .ref hi, .ref rf, .int (-1)])), (no, .inr (6, [.ref te, .ref nt, .ref nl, .ref ns, .ref np, .int 0, .int 0, .long 0, .int (-1), .int (-1)])), (rf, .inr (4, [.ref rc, .int 0])), (rc, .inl (ci2, 5, .inl (fun _ => 0)))])) (va_Qi (fun (r : Int32) (_ : Unit) => r = (-2)) (fun (_ : Unit) t => va_P (dC, dI) vwCl [] t.heap ∧ va_K (dC, dI) vwCl [] t ∧ va_D (va_A [(h0, .inr (11, [.ref te, .ref ta, .ref re, .ref no, .ref pa, .ref ac, .ref op, .ref im, .ref ik, .ref hi, .ref rf, .int (-1)])), (no, .inr (6, [.ref te, .ref nt, .ref nl, .ref ns, .ref np, .int 0, .int 0, .long 0, .int (-1), .int (-1)])), (rf, .inr (4, [.ref rc, .int 0])), (rc, .inl (ci2, 5, .inl (fun _ => 0)))] sz) []) (va_A [(h0, .inr (11, [.ref te, .ref ta, .ref re, .ref no, .ref pa, .ref ac, .ref op, .ref im, .ref ik, .ref hi, .ref rf, .int (-1)])), (no, .inr (6, [.ref te, .ref nt, .ref nl, .ref ns, .ref np, .int 0, .int 0, .long 0, .int (-1), .int (-1)])), (rf, .inr (4, [.ref rc, .int 0])), (rc, .inl (ci2, 5, .inl (fun _ => 0)))] sz)) 0 0 (va_A [(h0, .inr (11, [.ref te, .ref ta, .ref re, .ref no, .ref pa, .ref ac, .ref op, .ref im, .ref ik, .ref hi, .ref rf, .int (-1)])), (no, .inr (6, [.ref te, .ref nt, .ref nl, .ref ns, .ref np, .int 0, .int 0, .long 0, .int (-1), .int (-1)])), (rf, .inr (4, [.ref rc, .int 0])), (rc, .inl (ci2, 5, .inl (fun _ => 0)))] sz) := by
  refine Met.ofW (cc := cX11_join) (maxL := 3) (ret := (some .int)) (by decide) rfl ?_
  intro p e s m args below meth c s₁ B hml hv
  obtain ⟨rfl, hsz, hP, hK, hD0⟩ := hv
  have hx := B.exec
  have hb := B.bytes
  have hr := B.returns
  have hts := atoms_spec (ws := wq_c_X11_join) B.pre
  have hown : s.vm.findClass RX11 = some m.cls := findClass_of_methodNamed B.named
  have hlocks := B.notSynchronized
  subst hsz
  have hD := hD0.self (sz := s.heap.size)
  obtain ⟨A, hAe⟩ : ∃ A, A = va_A [(h0, .inr (11, [.ref te, .ref ta, .ref re, .ref no, .ref pa, .ref ac, .ref op, .ref im, .ref ik, .ref hi, .ref rf, .int (-1)])), (no, .inr (6, [.ref te, .ref nt, .ref nl, .ref ns, .ref np, .int 0, .int 0, .long 0, .int (-1), .int (-1)])), (rf, .inr (4, [.ref rc, .int 0])), (rc, .inl (ci2, 5, .inl (fun _ => 0)))] s.heap.size := ⟨_, rfl⟩
  rw [← hAe] at hD ⊢
  have hA : ∀ q : Nat, s.heap.size ≤ q → A q := fun q h => by rw [hAe]; exact Or.inr h
  have hS : va_S A s.heap s.heap [] := va_S.rf
  have hP : va_P (dC, dI) vwCl [(h0, .inr (11, [.ref te, .ref ta, .ref re, .ref no, .ref pa, .ref ac, .ref op, .ref im, .ref ik, .ref hi, .ref rf, .int (-1)])), (no, .inr (6, [.ref te, .ref nt, .ref nl, .ref ns, .ref np, .int 0, .int 0, .long 0, .int (-1), .int (-1)])), (rf, .inr (4, [.ref rc, .int 0])), (rc, .inl (ci2, 5, .inl (fun _ => 0)))] s.heap := hP
  have hl := lv_entry ([.ref h0, .int tk]) (n := 3) (Nat.le_of_ble_eq_true rfl)
  rw [lg_entry_eq]
  generalize (lg_sl ([.ref h0, .int tk]) ++ List.replicate (3 - (lg_sl ([.ref h0, .int tk])).length) Slot.unset).toArray = ls at hl ⊢
  have hl : lv_has ls 3 [(0, .ref h0), (1, .int tk)] := hl
  refine lv_aload_n hx hb dX11_join_0 rfl (lv_at hl 0 rfl) ?_
  refine va_get (D := (dC, dI)) (ci := 11) (v := .ref no) (C := RX11) (T := TX11) (N := 12) hx hb hts (fun _ h0_ => List.mem_cons_of_mem _ (List.mem_append_right _ (List.mem_append_left _ h0_))) hown hK hP 0 rfl rfl 3 (by decide) (hts (.fieldLink RX11 37 "DeadlineShare" "now" "LDeadlineShare$State;") (List.mem_cons_of_mem _ (List.mem_append_left _ (List.mem_of_getElem? (i := 0) rfl)))) (fun _ h9 => h9) rfl dX11_join_1 ?_
  refine lv_iload_n hx hb dX11_join_4 rfl (lv_at hl 1 rfl) ?_
  have hPc := hP.sub (ws' := [(no, .inr (6, [.ref te, .ref nt, .ref nl, .ref ns, .ref np, .int 0, .int 0, .long 0, .int (-1), .int (-1)]))]) [1] rfl
  have hDc := hD.sub (ws' := [(no, .inr (6, [.ref te, .ref nt, .ref nl, .ref ns, .ref np, .int 0, .int 0, .long 0, .int (-1), .int (-1)]))]) [1] (by decide) rfl
  have hKc := hK.sub (tys' := []) [] rfl
  have hFc := va_free (wc := [(no, .inr (6, [.ref te, .ref nt, .ref nl, .ref ns, .ref np, .int 0, .int 0, .long 0, .int (-1), .int (-1)]))]) hD hS hA [1] rfl
  refine va_calli (va_runV (As := [.int tk]) (rest := []) ⟨hx, hb, hml, hown, hts⟩ (c_X6_has l dC dI no tk te nt nl ns np 0 s.heap.size) (cwV 1 hts (gi_V (fun w_ h0_ => ⟨List.mem_cons_of_mem _ (List.mem_append_right _ (List.mem_append_right _ (List.mem_append_left _ h0_))), (tb_c_X6_has w_ h0_).2⟩) (List.mem_cons_of_mem _ (List.mem_append_left _ (List.mem_of_getElem? (i := 1) rfl))) (List.mem_cons_of_mem _ (List.mem_append_left _ (List.mem_of_getElem? (i := 2) rfl))) (List.mem_cons_of_mem _ (List.mem_append_left _ (List.mem_of_getElem? (i := 3) rfl))) (List.mem_cons_of_mem _ (List.mem_append_left _ (List.mem_of_getElem? (i := 4) rfl)))) rfl rfl rfl (by decide +kernel) ⟨Nat.le_of_ble_eq_true rfl, Nat.le_of_ble_eq_true rfl⟩) ⟨fun a U g mk q => by obtain ⟨q0, q1, qP, qK, qD⟩ := q; exact ⟨q0, q1, qP, va_K.moved (u := U) (U := U.calling g mk a) (Vm.Alike.refl U.vm) qK, qD⟩, va_recv hKc hPc (ci := 6) (q0 := 0) rfl rfl, fun U hU hW => ⟨rfl, by rw [hU], by rw [hU]; exact hPc, va_K.moved hW.alike hKc, hDc.weaken (fun _ _ _ _ => trivial)⟩⟩ rfl rfl hl.1 rfl (lv_room (Nat.le_of_ble_eq_true rfl)) dX11_join_5 ⟨Nat.le_of_ble_eq_true rfl, Nat.le_of_ble_eq_true rfl⟩) hS (fun q _ h => hFc q h) hFc (fun r_1 u t H1 locs ht hvm hw hB hz1 hk1 hS => ?_)
  obtain ⟨hP1, hK1, hD1⟩ := hB
  rw [ht] at hP1
  have hK1 := va_K.moved hvm.symm hK1
  obtain ⟨hP, hD⟩ := va_join (wr := [(h0, .inr (11, [.ref te, .ref ta, .ref re, .ref no, .ref pa, .ref ac, .ref op, .ref im, .ref ik, .ref hi, .ref rf, .int (-1)])), (rf, .inr (4, [.ref rc, .int 0])), (rc, .inl (ci2, 5, .inl (fun _ => 0)))]) (w1 := [(no, .inr (6, [.ref te, .ref nt, .ref nl, .ref ns, .ref np, .int 0, .int 0, .long 0, .int (-1), .int (-1)]))]) hP hD [1] [0, 2, 3] rfl rfl (by decide) (by decide) hk1 hFc hP1 hD1
  generalize H1 = H at hP hS ⊢
  have hP : va_P (dC, dI) vwCl [(h0, .inr (11, [.ref te, .ref ta, .ref re, .ref no, .ref pa, .ref ac, .ref op, .ref im, .ref ik, .ref hi, .ref rf, .int (-1)])), (rf, .inr (4, [.ref rc, .int 0])), (rc, .inl (ci2, 5, .inl (fun _ => 0))), (no, .inr (6, [.ref te, .ref nt, .ref nl, .ref ns, .ref np, .int 0, .int 0, .long 0, .int (-1), .int (-1)]))] H := hP
  have hD : va_D A [(h0, .inr (11, [.ref te, .ref ta, .ref re, .ref no, .ref pa, .ref ac, .ref op, .ref im, .ref ik, .ref hi, .ref rf, .int (-1)])), (rf, .inr (4, [.ref rc, .int 0])), (rc, .inl (ci2, 5, .inl (fun _ => 0))), (no, .inr (6, [.ref te, .ref nt, .ref nl, .ref ns, .ref np, .int 0, .int 0, .long 0, .int (-1), .int (-1)]))] := hD
  refine W.widen (k := 0) (n := 0) (Nat.le_of_ble_eq_true rfl) (Nat.le_of_ble_eq_true rfl) ?_
  have hw : r_1 = 0 := hw
  subst hw
  refine lv_if_ne (tgt := 21) hx hb dX11_join_8 (by decide) (fun c => absurd c (by decide)) (fun _ => ?_)
  refine lv_aload_n hx hb dX11_join_11 rfl (lv_at hl 0 rfl) ?_
  refine va_get (D := (dC, dI)) (ci := 11) (v := .ref rf) (C := RX11) (T := TX11) (N := 12) hx hb hts (fun _ h0_ => List.mem_cons_of_mem _ (List.mem_append_right _ (List.mem_append_left _ h0_))) hown hK hP 0 rfl rfl 10 (by decide) (hts (.fieldLink RX11 72 "DeadlineShare" "refusals" "LDeadlineShare$Refusals;") (List.mem_cons_of_mem _ (List.mem_append_left _ (List.mem_of_getElem? (i := 5) rfl)))) (fun _ h9 => h9) rfl dX11_join_12 ?_
  refine lv_bipush (v := (-2)) hx hb dX11_join_15 (by decide) ?_
  have hPc := hP.sub (ws' := [(rf, .inr (4, [.ref rc, .int 0])), (rc, .inl (ci2, 5, .inl (fun _ => 0)))]) [1, 2] rfl
  have hDc := hD.sub (ws' := [(rf, .inr (4, [.ref rc, .int 0])), (rc, .inl (ci2, 5, .inl (fun _ => 0)))]) [1, 2] (by decide) rfl
  have hKc := hK.sub (tys' := [(ci2, .int)]) [0] rfl
  have hFc := va_free (wc := [(rf, .inr (4, [.ref rc, .int 0])), (rc, .inl (ci2, 5, .inl (fun _ => 0)))]) hD hS hA [1, 2] rfl
  refine va_calli (va_runV (As := [.int (-2)]) (rest := []) ⟨hx, hb, hml, hown, hts⟩ (c_X4_add_2 l dC dI rf rc ci2 H.size) (cwV 1 hts (gi_V (fun w_ h0_ => ⟨List.mem_cons_of_mem _ (List.mem_append_right _ (List.mem_append_right _ (List.mem_append_right _ (List.mem_append_left _ h0_)))), (tb_c_X4_add_2 w_ h0_).2⟩) (List.mem_cons_of_mem _ (List.mem_append_left _ (List.mem_of_getElem? (i := 6) rfl))) (List.mem_cons_of_mem _ (List.mem_append_left _ (List.mem_of_getElem? (i := 7) rfl))) (List.mem_cons_of_mem _ (List.mem_append_left _ (List.mem_of_getElem? (i := 8) rfl))) (List.mem_cons_of_mem _ (List.mem_append_left _ (List.mem_of_getElem? (i := 9) rfl)))) rfl rfl rfl (by decide +kernel) ⟨Nat.le_of_ble_eq_true rfl, Nat.le_of_ble_eq_true rfl⟩) ⟨fun a U g mk q => by obtain ⟨q0, q1, qP, qK, qD⟩ := q; exact ⟨q0, q1, qP, va_K.moved (u := U) (U := U.calling g mk a) (Vm.Alike.refl U.vm) qK, qD⟩, va_recv hKc hPc (ci := 4) (q0 := 0) rfl rfl, fun U hU hW => ⟨rfl, by rw [hU], by rw [hU]; exact hPc, va_K.moved hW.alike hKc, hDc.weaken (fun _ _ _ _ => trivial)⟩⟩ rfl rfl hl.1 rfl (lv_room (Nat.le_of_ble_eq_true rfl)) dX11_join_17 ⟨Nat.le_of_ble_eq_true rfl, Nat.le_of_ble_eq_true rfl⟩) hS (fun q _ h => hFc q h) hFc (fun r_2 u t H1 locs ht hvm hw hB hz1 hk1 hS => ?_)
  obtain ⟨hP1, hK1, hD1⟩ := hB
  rw [ht] at hP1
  have hK1 := va_K.moved hvm.symm hK1
  obtain ⟨hP, hD⟩ := va_join (wr := [(h0, .inr (11, [.ref te, .ref ta, .ref re, .ref no, .ref pa, .ref ac, .ref op, .ref im, .ref ik, .ref hi, .ref rf, .int (-1)])), (no, .inr (6, [.ref te, .ref nt, .ref nl, .ref ns, .ref np, .int 0, .int 0, .long 0, .int (-1), .int (-1)]))]) (w1 := []) hP hD [1, 2] [0, 3] rfl rfl (by decide) (by decide) hk1 hFc hP1 hD1
  generalize H1 = H at hP hS ⊢
  have hP : va_P (dC, dI) vwCl [(h0, .inr (11, [.ref te, .ref ta, .ref re, .ref no, .ref pa, .ref ac, .ref op, .ref im, .ref ik, .ref hi, .ref rf, .int (-1)])), (no, .inr (6, [.ref te, .ref nt, .ref nl, .ref ns, .ref np, .int 0, .int 0, .long 0, .int (-1), .int (-1)]))] H := hP
  have hD : va_D A [(h0, .inr (11, [.ref te, .ref ta, .ref re, .ref no, .ref pa, .ref ac, .ref op, .ref im, .ref ik, .ref hi, .ref rf, .int (-1)])), (no, .inr (6, [.ref te, .ref nt, .ref nl, .ref ns, .ref np, .int 0, .int 0, .long 0, .int (-1), .int (-1)]))] := hD
  refine W.widen (k := 0) (n := 0) (Nat.le_of_ble_eq_true rfl) (Nat.le_of_ble_eq_true rfl) ?_
  have hw : r_2 = (-2) := hw
  subst hw
  have hP9 := hP.sub (ws' := []) [] rfl
  have hD9 := hD.sub (ws' := []) [] (by decide) rfl
  have hK9 := hK.sub (tys' := []) [] rfl
  refine W.widen (k := 0) (n := 0) (Nat.le_of_ble_eq_true rfl) (Nat.le_of_ble_eq_true rfl) ?_
  exact W.iret (v := (-2)) hx hb hr (fun t ht hW => ⟨⟨(-2), (), rfl, rfl, by rw [ht]; exact hP9, va_K.moved hW.alike hK9, hD9⟩, hS.F ht⟩) hS.2.2 dX11_join_20
def ow_c_X11_leave : List Cond := [.fieldLink RX11 37 "DeadlineShare" "now" "LDeadlineShare$State;", .methodLink RX11 130 yX6_has, .instanceMethod yX6_has, .selects RX6 yX6_has yX6_has, .initialized RX6, .fieldLink RX11 72 "DeadlineShare" "refusals" "LDeadlineShare$Refusals;", .methodLink RX11 84 yX4_add, .instanceMethod yX4_add, .selects RX4 yX4_add yX4_add, .initialized RX4]
def wq_c_X11_leave : List Cond := .code yX11_leave cX11_leave 3 (some .int) :: (ow_c_X11_leave ++ (u_ws RX11 TX11 12 ++ (wq_c_X6_has ++ (wq_c_X4_add_2 ++ ([] : List Cond)))))
theorem tb_c_X11_leave : ∀ w ∈ wq_c_X11_leave, q_g w := by
  unfold wq_c_X11_leave ow_c_X11_leave
  exact q_cons tw_330 (q_app (q_cons tw_101 (q_cons tw_328 (q_cons tw_205 (q_cons tw_204 (q_cons tw_72 (q_cons tw_80 (q_cons tw_280 (q_cons tw_279 (q_cons tw_278 (q_cons tw_1 q_nil)))))))))) (q_app tu_X11 (q_app tb_c_X6_has (q_app tb_c_X4_add_2 q_nil))))
set_option maxHeartbeats 4000000 in
set_option maxRecDepth 100000 in
theorem c_X11_leave (l : Launch) (dC : Nat → ClassId) (dI : Nat → Nat → Nat) (h0 : Nat) (tk : Int32) (te : Nat) (ta : Nat) (re : Nat) (no : Nat) (pa : Nat) (ac : Nat) (op : Nat) (im : Nat) (ik : Nat) (hi : Nat) (rf : Nat) (nt : Nat) (nl : Nat) (ns : Nat) (np : Nat) (rc : Nat) (ci2 : ClassId) (sz : Nat) : Met l yX11_leave wq_c_X11_leave ({ frames := 2, cells := 0, slots := 0, locals := 41 } : Room) (va_Pc [.ref h0, .int tk] (fun U => U.heap.size = sz ∧ va_P (dC, dI) vwCl [(h0, .inr (11, [.ref te, .ref ta, .ref re, .ref no, .ref pa, .ref ac, .ref op, .ref im, .ref ik, .ref hi, .ref rf, .int (-1)])), (no, .inr (6, [.ref te, .ref nt, .ref nl, .ref ns, .ref np, .int 0, .int 0, .long 0, .int (-1), .int (-1)])), (rf, .inr (4, [.ref rc, .int 0])), (rc, .inl (ci2, 5, .inl (fun _ => 0)))] U.heap ∧ va_K (dC, dI) vwCl [(ci2, .int)] U ∧ va_D (fun _ => True) [(h0, .inr (11, [.ref te, .ref ta, .ref re, .ref no, .ref pa, .ref ac, .ref op, .ref im, .ref ik, .ref hi, .ref rf, .int (-1)])), (no, .inr (6, [.ref te, .ref nt, .ref nl, .ref ns, .ref np, .int 0, .int 0, .long 0, .int (-1), .int (-1)])), (rf, .inr (4, [.ref rc, .int 0])), (rc, .inl (ci2, 5, .inl (fun _ => 0)))])) (va_Qi (fun (r : Int32) (_ : Unit) => r = (-2)) (fun (_ : Unit) t => va_P (dC, dI) vwCl [] t.heap ∧ va_K (dC, dI) vwCl [] t ∧ va_D (va_A [(h0, .inr (11, [.ref te, .ref ta, .ref re, .ref no, .ref pa, .ref ac, .ref op, .ref im, .ref ik, .ref hi, .ref rf, .int (-1)])), (no, .inr (6, [.ref te, .ref nt, .ref nl, .ref ns, .ref np, .int 0, .int 0, .long 0, .int (-1), .int (-1)])), (rf, .inr (4, [.ref rc, .int 0])), (rc, .inl (ci2, 5, .inl (fun _ => 0)))] sz) []) (va_A [(h0, .inr (11, [.ref te, .ref ta, .ref re, .ref no, .ref pa, .ref ac, .ref op, .ref im, .ref ik, .ref hi, .ref rf, .int (-1)])), (no, .inr (6, [.ref te, .ref nt, .ref nl, .ref ns, .ref np, .int 0, .int 0, .long 0, .int (-1), .int (-1)])), (rf, .inr (4, [.ref rc, .int 0])), (rc, .inl (ci2, 5, .inl (fun _ => 0)))] sz)) 0 0 (va_A [(h0, .inr (11, [.ref te, .ref ta, .ref re, .ref no, .ref pa, .ref ac, .ref op, .ref im, .ref ik, .ref hi, .ref rf, .int (-1)])), (no, .inr (6, [.ref te, .ref nt, .ref nl, .ref ns, .ref np, .int 0, .int 0, .long 0, .int (-1), .int (-1)])), (rf, .inr (4, [.ref rc, .int 0])), (rc, .inl (ci2, 5, .inl (fun _ => 0)))] sz) := by
  refine Met.ofW (cc := cX11_leave) (maxL := 3) (ret := (some .int)) (by decide) rfl ?_
  intro p e s m args below meth c s₁ B hml hv
  obtain ⟨rfl, hsz, hP, hK, hD0⟩ := hv
  have hx := B.exec
  have hb := B.bytes
  have hr := B.returns
  have hts := atoms_spec (ws := wq_c_X11_leave) B.pre
  have hown : s.vm.findClass RX11 = some m.cls := findClass_of_methodNamed B.named
  have hlocks := B.notSynchronized
  subst hsz
  have hD := hD0.self (sz := s.heap.size)
  obtain ⟨A, hAe⟩ : ∃ A, A = va_A [(h0, .inr (11, [.ref te, .ref ta, .ref re, .ref no, .ref pa, .ref ac, .ref op, .ref im, .ref ik, .ref hi, .ref rf, .int (-1)])), (no, .inr (6, [.ref te, .ref nt, .ref nl, .ref ns, .ref np, .int 0, .int 0, .long 0, .int (-1), .int (-1)])), (rf, .inr (4, [.ref rc, .int 0])), (rc, .inl (ci2, 5, .inl (fun _ => 0)))] s.heap.size := ⟨_, rfl⟩
  rw [← hAe] at hD ⊢
  have hA : ∀ q : Nat, s.heap.size ≤ q → A q := fun q h => by rw [hAe]; exact Or.inr h
  have hS : va_S A s.heap s.heap [] := va_S.rf
  have hP : va_P (dC, dI) vwCl [(h0, .inr (11, [.ref te, .ref ta, .ref re, .ref no, .ref pa, .ref ac, .ref op, .ref im, .ref ik, .ref hi, .ref rf, .int (-1)])), (no, .inr (6, [.ref te, .ref nt, .ref nl, .ref ns, .ref np, .int 0, .int 0, .long 0, .int (-1), .int (-1)])), (rf, .inr (4, [.ref rc, .int 0])), (rc, .inl (ci2, 5, .inl (fun _ => 0)))] s.heap := hP
  have hl := lv_entry ([.ref h0, .int tk]) (n := 3) (Nat.le_of_ble_eq_true rfl)
  rw [lg_entry_eq]
  generalize (lg_sl ([.ref h0, .int tk]) ++ List.replicate (3 - (lg_sl ([.ref h0, .int tk])).length) Slot.unset).toArray = ls at hl ⊢
  have hl : lv_has ls 3 [(0, .ref h0), (1, .int tk)] := hl
  refine lv_aload_n hx hb dX11_leave_0 rfl (lv_at hl 0 rfl) ?_
  refine va_get (D := (dC, dI)) (ci := 11) (v := .ref no) (C := RX11) (T := TX11) (N := 12) hx hb hts (fun _ h0_ => List.mem_cons_of_mem _ (List.mem_append_right _ (List.mem_append_left _ h0_))) hown hK hP 0 rfl rfl 3 (by decide) (hts (.fieldLink RX11 37 "DeadlineShare" "now" "LDeadlineShare$State;") (List.mem_cons_of_mem _ (List.mem_append_left _ (List.mem_of_getElem? (i := 0) rfl)))) (fun _ h9 => h9) rfl dX11_leave_1 ?_
  refine lv_iload_n hx hb dX11_leave_4 rfl (lv_at hl 1 rfl) ?_
  have hPc := hP.sub (ws' := [(no, .inr (6, [.ref te, .ref nt, .ref nl, .ref ns, .ref np, .int 0, .int 0, .long 0, .int (-1), .int (-1)]))]) [1] rfl
  have hDc := hD.sub (ws' := [(no, .inr (6, [.ref te, .ref nt, .ref nl, .ref ns, .ref np, .int 0, .int 0, .long 0, .int (-1), .int (-1)]))]) [1] (by decide) rfl
  have hKc := hK.sub (tys' := []) [] rfl
  have hFc := va_free (wc := [(no, .inr (6, [.ref te, .ref nt, .ref nl, .ref ns, .ref np, .int 0, .int 0, .long 0, .int (-1), .int (-1)]))]) hD hS hA [1] rfl
  refine va_calli (va_runV (As := [.int tk]) (rest := []) ⟨hx, hb, hml, hown, hts⟩ (c_X6_has l dC dI no tk te nt nl ns np 0 s.heap.size) (cwV 1 hts (gi_V (fun w_ h0_ => ⟨List.mem_cons_of_mem _ (List.mem_append_right _ (List.mem_append_right _ (List.mem_append_left _ h0_))), (tb_c_X6_has w_ h0_).2⟩) (List.mem_cons_of_mem _ (List.mem_append_left _ (List.mem_of_getElem? (i := 1) rfl))) (List.mem_cons_of_mem _ (List.mem_append_left _ (List.mem_of_getElem? (i := 2) rfl))) (List.mem_cons_of_mem _ (List.mem_append_left _ (List.mem_of_getElem? (i := 3) rfl))) (List.mem_cons_of_mem _ (List.mem_append_left _ (List.mem_of_getElem? (i := 4) rfl)))) rfl rfl rfl (by decide +kernel) ⟨Nat.le_of_ble_eq_true rfl, Nat.le_of_ble_eq_true rfl⟩) ⟨fun a U g mk q => by obtain ⟨q0, q1, qP, qK, qD⟩ := q; exact ⟨q0, q1, qP, va_K.moved (u := U) (U := U.calling g mk a) (Vm.Alike.refl U.vm) qK, qD⟩, va_recv hKc hPc (ci := 6) (q0 := 0) rfl rfl, fun U hU hW => ⟨rfl, by rw [hU], by rw [hU]; exact hPc, va_K.moved hW.alike hKc, hDc.weaken (fun _ _ _ _ => trivial)⟩⟩ rfl rfl hl.1 rfl (lv_room (Nat.le_of_ble_eq_true rfl)) dX11_leave_5 ⟨Nat.le_of_ble_eq_true rfl, Nat.le_of_ble_eq_true rfl⟩) hS (fun q _ h => hFc q h) hFc (fun r_1 u t H1 locs ht hvm hw hB hz1 hk1 hS => ?_)
  obtain ⟨hP1, hK1, hD1⟩ := hB
  rw [ht] at hP1
  have hK1 := va_K.moved hvm.symm hK1
  obtain ⟨hP, hD⟩ := va_join (wr := [(h0, .inr (11, [.ref te, .ref ta, .ref re, .ref no, .ref pa, .ref ac, .ref op, .ref im, .ref ik, .ref hi, .ref rf, .int (-1)])), (rf, .inr (4, [.ref rc, .int 0])), (rc, .inl (ci2, 5, .inl (fun _ => 0)))]) (w1 := [(no, .inr (6, [.ref te, .ref nt, .ref nl, .ref ns, .ref np, .int 0, .int 0, .long 0, .int (-1), .int (-1)]))]) hP hD [1] [0, 2, 3] rfl rfl (by decide) (by decide) hk1 hFc hP1 hD1
  generalize H1 = H at hP hS ⊢
  have hP : va_P (dC, dI) vwCl [(h0, .inr (11, [.ref te, .ref ta, .ref re, .ref no, .ref pa, .ref ac, .ref op, .ref im, .ref ik, .ref hi, .ref rf, .int (-1)])), (rf, .inr (4, [.ref rc, .int 0])), (rc, .inl (ci2, 5, .inl (fun _ => 0))), (no, .inr (6, [.ref te, .ref nt, .ref nl, .ref ns, .ref np, .int 0, .int 0, .long 0, .int (-1), .int (-1)]))] H := hP
  have hD : va_D A [(h0, .inr (11, [.ref te, .ref ta, .ref re, .ref no, .ref pa, .ref ac, .ref op, .ref im, .ref ik, .ref hi, .ref rf, .int (-1)])), (rf, .inr (4, [.ref rc, .int 0])), (rc, .inl (ci2, 5, .inl (fun _ => 0))), (no, .inr (6, [.ref te, .ref nt, .ref nl, .ref ns, .ref np, .int 0, .int 0, .long 0, .int (-1), .int (-1)]))] := hD
  refine W.widen (k := 0) (n := 0) (Nat.le_of_ble_eq_true rfl) (Nat.le_of_ble_eq_true rfl) ?_
  have hw : r_1 = 0 := hw
  subst hw
  refine lv_if_ne (tgt := 21) hx hb dX11_leave_8 (by decide) (fun c => absurd c (by decide)) (fun _ => ?_)
  refine lv_aload_n hx hb dX11_leave_11 rfl (lv_at hl 0 rfl) ?_
  refine va_get (D := (dC, dI)) (ci := 11) (v := .ref rf) (C := RX11) (T := TX11) (N := 12) hx hb hts (fun _ h0_ => List.mem_cons_of_mem _ (List.mem_append_right _ (List.mem_append_left _ h0_))) hown hK hP 0 rfl rfl 10 (by decide) (hts (.fieldLink RX11 72 "DeadlineShare" "refusals" "LDeadlineShare$Refusals;") (List.mem_cons_of_mem _ (List.mem_append_left _ (List.mem_of_getElem? (i := 5) rfl)))) (fun _ h9 => h9) rfl dX11_leave_12 ?_
  refine lv_bipush (v := (-2)) hx hb dX11_leave_15 (by decide) ?_
  have hPc := hP.sub (ws' := [(rf, .inr (4, [.ref rc, .int 0])), (rc, .inl (ci2, 5, .inl (fun _ => 0)))]) [1, 2] rfl
  have hDc := hD.sub (ws' := [(rf, .inr (4, [.ref rc, .int 0])), (rc, .inl (ci2, 5, .inl (fun _ => 0)))]) [1, 2] (by decide) rfl
  have hKc := hK.sub (tys' := [(ci2, .int)]) [0] rfl
  have hFc := va_free (wc := [(rf, .inr (4, [.ref rc, .int 0])), (rc, .inl (ci2, 5, .inl (fun _ => 0)))]) hD hS hA [1, 2] rfl
  refine va_calli (va_runV (As := [.int (-2)]) (rest := []) ⟨hx, hb, hml, hown, hts⟩ (c_X4_add_2 l dC dI rf rc ci2 H.size) (cwV 1 hts (gi_V (fun w_ h0_ => ⟨List.mem_cons_of_mem _ (List.mem_append_right _ (List.mem_append_right _ (List.mem_append_right _ (List.mem_append_left _ h0_)))), (tb_c_X4_add_2 w_ h0_).2⟩) (List.mem_cons_of_mem _ (List.mem_append_left _ (List.mem_of_getElem? (i := 6) rfl))) (List.mem_cons_of_mem _ (List.mem_append_left _ (List.mem_of_getElem? (i := 7) rfl))) (List.mem_cons_of_mem _ (List.mem_append_left _ (List.mem_of_getElem? (i := 8) rfl))) (List.mem_cons_of_mem _ (List.mem_append_left _ (List.mem_of_getElem? (i := 9) rfl)))) rfl rfl rfl (by decide +kernel) ⟨Nat.le_of_ble_eq_true rfl, Nat.le_of_ble_eq_true rfl⟩) ⟨fun a U g mk q => by obtain ⟨q0, q1, qP, qK, qD⟩ := q; exact ⟨q0, q1, qP, va_K.moved (u := U) (U := U.calling g mk a) (Vm.Alike.refl U.vm) qK, qD⟩, va_recv hKc hPc (ci := 4) (q0 := 0) rfl rfl, fun U hU hW => ⟨rfl, by rw [hU], by rw [hU]; exact hPc, va_K.moved hW.alike hKc, hDc.weaken (fun _ _ _ _ => trivial)⟩⟩ rfl rfl hl.1 rfl (lv_room (Nat.le_of_ble_eq_true rfl)) dX11_leave_17 ⟨Nat.le_of_ble_eq_true rfl, Nat.le_of_ble_eq_true rfl⟩) hS (fun q _ h => hFc q h) hFc (fun r_2 u t H1 locs ht hvm hw hB hz1 hk1 hS => ?_)
  obtain ⟨hP1, hK1, hD1⟩ := hB
  rw [ht] at hP1
  have hK1 := va_K.moved hvm.symm hK1
  obtain ⟨hP, hD⟩ := va_join (wr := [(h0, .inr (11, [.ref te, .ref ta, .ref re, .ref no, .ref pa, .ref ac, .ref op, .ref im, .ref ik, .ref hi, .ref rf, .int (-1)])), (no, .inr (6, [.ref te, .ref nt, .ref nl, .ref ns, .ref np, .int 0, .int 0, .long 0, .int (-1), .int (-1)]))]) (w1 := []) hP hD [1, 2] [0, 3] rfl rfl (by decide) (by decide) hk1 hFc hP1 hD1
  generalize H1 = H at hP hS ⊢
  have hP : va_P (dC, dI) vwCl [(h0, .inr (11, [.ref te, .ref ta, .ref re, .ref no, .ref pa, .ref ac, .ref op, .ref im, .ref ik, .ref hi, .ref rf, .int (-1)])), (no, .inr (6, [.ref te, .ref nt, .ref nl, .ref ns, .ref np, .int 0, .int 0, .long 0, .int (-1), .int (-1)]))] H := hP
  have hD : va_D A [(h0, .inr (11, [.ref te, .ref ta, .ref re, .ref no, .ref pa, .ref ac, .ref op, .ref im, .ref ik, .ref hi, .ref rf, .int (-1)])), (no, .inr (6, [.ref te, .ref nt, .ref nl, .ref ns, .ref np, .int 0, .int 0, .long 0, .int (-1), .int (-1)]))] := hD
  refine W.widen (k := 0) (n := 0) (Nat.le_of_ble_eq_true rfl) (Nat.le_of_ble_eq_true rfl) ?_
  have hw : r_2 = (-2) := hw
  subst hw
  have hP9 := hP.sub (ws' := []) [] rfl
  have hD9 := hD.sub (ws' := []) [] (by decide) rfl
  have hK9 := hK.sub (tys' := []) [] rfl
  refine W.widen (k := 0) (n := 0) (Nat.le_of_ble_eq_true rfl) (Nat.le_of_ble_eq_true rfl) ?_
  exact W.iret (v := (-2)) hx hb hr (fun t ht hW => ⟨⟨(-2), (), rfl, rfl, by rw [ht]; exact hP9, va_K.moved hW.alike hK9, hD9⟩, hS.F ht⟩) hS.2.2 dX11_leave_20
def ow_c_X11_yields : List Cond := [.fieldLink RX11 37 "DeadlineShare" "now" "LDeadlineShare$State;", .methodLink RX11 130 yX6_has, .instanceMethod yX6_has, .selects RX6 yX6_has yX6_has, .initialized RX6, .fieldLink RX11 72 "DeadlineShare" "refusals" "LDeadlineShare$Refusals;", .methodLink RX11 84 yX4_add, .instanceMethod yX4_add, .selects RX4 yX4_add yX4_add, .initialized RX4]
def wq_c_X11_yields : List Cond := .code yX11_yields cX11_yields 4 (some .int) :: (ow_c_X11_yields ++ (u_ws RX11 TX11 12 ++ (wq_c_X6_has ++ (wq_c_X4_add_2 ++ ([] : List Cond)))))
theorem tb_c_X11_yields : ∀ w ∈ wq_c_X11_yields, q_g w := by
  unfold wq_c_X11_yields ow_c_X11_yields
  exact q_cons tw_331 (q_app (q_cons tw_101 (q_cons tw_328 (q_cons tw_205 (q_cons tw_204 (q_cons tw_72 (q_cons tw_80 (q_cons tw_280 (q_cons tw_279 (q_cons tw_278 (q_cons tw_1 q_nil)))))))))) (q_app tu_X11 (q_app tb_c_X6_has (q_app tb_c_X4_add_2 q_nil))))
set_option maxHeartbeats 4000000 in
set_option maxRecDepth 100000 in
theorem c_X11_yields (l : Launch) (dC : Nat → ClassId) (dI : Nat → Nat → Nat) (h0 : Nat) (tk : Int32) (te : Nat) (ta : Nat) (re : Nat) (no : Nat) (pa : Nat) (ac : Nat) (op : Nat) (im : Nat) (ik : Nat) (hi : Nat) (rf : Nat) (nt : Nat) (nl : Nat) (ns : Nat) (np : Nat) (rc : Nat) (ci2 : ClassId) (sz : Nat) : Met l yX11_yields wq_c_X11_yields ({ frames := 2, cells := 0, slots := 0, locals := 41 } : Room) (va_Pc [.ref h0, .int tk] (fun U => U.heap.size = sz ∧ va_P (dC, dI) vwCl [(h0, .inr (11, [.ref te, .ref ta, .ref re, .ref no, .ref pa, .ref ac, .ref op, .ref im, .ref ik, .ref hi, .ref rf, .int (-1)])), (no, .inr (6, [.ref te, .ref nt, .ref nl, .ref ns, .ref np, .int 0, .int 0, .long 0, .int (-1), .int (-1)])), (rf, .inr (4, [.ref rc, .int 0])), (rc, .inl (ci2, 5, .inl (fun _ => 0)))] U.heap ∧ va_K (dC, dI) vwCl [(ci2, .int)] U ∧ va_D (fun _ => True) [(h0, .inr (11, [.ref te, .ref ta, .ref re, .ref no, .ref pa, .ref ac, .ref op, .ref im, .ref ik, .ref hi, .ref rf, .int (-1)])), (no, .inr (6, [.ref te, .ref nt, .ref nl, .ref ns, .ref np, .int 0, .int 0, .long 0, .int (-1), .int (-1)])), (rf, .inr (4, [.ref rc, .int 0])), (rc, .inl (ci2, 5, .inl (fun _ => 0)))])) (va_Qi (fun (r : Int32) (_ : Unit) => r = (-2)) (fun (_ : Unit) t => va_P (dC, dI) vwCl [] t.heap ∧ va_K (dC, dI) vwCl [] t ∧ va_D (va_A [(h0, .inr (11, [.ref te, .ref ta, .ref re, .ref no, .ref pa, .ref ac, .ref op, .ref im, .ref ik, .ref hi, .ref rf, .int (-1)])), (no, .inr (6, [.ref te, .ref nt, .ref nl, .ref ns, .ref np, .int 0, .int 0, .long 0, .int (-1), .int (-1)])), (rf, .inr (4, [.ref rc, .int 0])), (rc, .inl (ci2, 5, .inl (fun _ => 0)))] sz) []) (va_A [(h0, .inr (11, [.ref te, .ref ta, .ref re, .ref no, .ref pa, .ref ac, .ref op, .ref im, .ref ik, .ref hi, .ref rf, .int (-1)])), (no, .inr (6, [.ref te, .ref nt, .ref nl, .ref ns, .ref np, .int 0, .int 0, .long 0, .int (-1), .int (-1)])), (rf, .inr (4, [.ref rc, .int 0])), (rc, .inl (ci2, 5, .inl (fun _ => 0)))] sz)) 0 0 (va_A [(h0, .inr (11, [.ref te, .ref ta, .ref re, .ref no, .ref pa, .ref ac, .ref op, .ref im, .ref ik, .ref hi, .ref rf, .int (-1)])), (no, .inr (6, [.ref te, .ref nt, .ref nl, .ref ns, .ref np, .int 0, .int 0, .long 0, .int (-1), .int (-1)])), (rf, .inr (4, [.ref rc, .int 0])), (rc, .inl (ci2, 5, .inl (fun _ => 0)))] sz) := by
  refine Met.ofW (cc := cX11_yields) (maxL := 4) (ret := (some .int)) (by decide) rfl ?_
  intro p e s m args below meth c s₁ B hml hv
  obtain ⟨rfl, hsz, hP, hK, hD0⟩ := hv
  have hx := B.exec
  have hb := B.bytes
  have hr := B.returns
  have hts := atoms_spec (ws := wq_c_X11_yields) B.pre
  have hown : s.vm.findClass RX11 = some m.cls := findClass_of_methodNamed B.named
  have hlocks := B.notSynchronized
  subst hsz
  have hD := hD0.self (sz := s.heap.size)
  obtain ⟨A, hAe⟩ : ∃ A, A = va_A [(h0, .inr (11, [.ref te, .ref ta, .ref re, .ref no, .ref pa, .ref ac, .ref op, .ref im, .ref ik, .ref hi, .ref rf, .int (-1)])), (no, .inr (6, [.ref te, .ref nt, .ref nl, .ref ns, .ref np, .int 0, .int 0, .long 0, .int (-1), .int (-1)])), (rf, .inr (4, [.ref rc, .int 0])), (rc, .inl (ci2, 5, .inl (fun _ => 0)))] s.heap.size := ⟨_, rfl⟩
  rw [← hAe] at hD ⊢
  have hA : ∀ q : Nat, s.heap.size ≤ q → A q := fun q h => by rw [hAe]; exact Or.inr h
  have hS : va_S A s.heap s.heap [] := va_S.rf
  have hP : va_P (dC, dI) vwCl [(h0, .inr (11, [.ref te, .ref ta, .ref re, .ref no, .ref pa, .ref ac, .ref op, .ref im, .ref ik, .ref hi, .ref rf, .int (-1)])), (no, .inr (6, [.ref te, .ref nt, .ref nl, .ref ns, .ref np, .int 0, .int 0, .long 0, .int (-1), .int (-1)])), (rf, .inr (4, [.ref rc, .int 0])), (rc, .inl (ci2, 5, .inl (fun _ => 0)))] s.heap := hP
  have hl := lv_entry ([.ref h0, .int tk]) (n := 4) (Nat.le_of_ble_eq_true rfl)
  rw [lg_entry_eq]
  generalize (lg_sl ([.ref h0, .int tk]) ++ List.replicate (4 - (lg_sl ([.ref h0, .int tk])).length) Slot.unset).toArray = ls at hl ⊢
  have hl : lv_has ls 4 [(0, .ref h0), (1, .int tk)] := hl
  refine lv_aload_n hx hb dX11_yields_0 rfl (lv_at hl 0 rfl) ?_
  refine va_get (D := (dC, dI)) (ci := 11) (v := .ref no) (C := RX11) (T := TX11) (N := 12) hx hb hts (fun _ h0_ => List.mem_cons_of_mem _ (List.mem_append_right _ (List.mem_append_left _ h0_))) hown hK hP 0 rfl rfl 3 (by decide) (hts (.fieldLink RX11 37 "DeadlineShare" "now" "LDeadlineShare$State;") (List.mem_cons_of_mem _ (List.mem_append_left _ (List.mem_of_getElem? (i := 0) rfl)))) (fun _ h9 => h9) rfl dX11_yields_1 ?_
  refine lv_iload_n hx hb dX11_yields_4 rfl (lv_at hl 1 rfl) ?_
  have hPc := hP.sub (ws' := [(no, .inr (6, [.ref te, .ref nt, .ref nl, .ref ns, .ref np, .int 0, .int 0, .long 0, .int (-1), .int (-1)]))]) [1] rfl
  have hDc := hD.sub (ws' := [(no, .inr (6, [.ref te, .ref nt, .ref nl, .ref ns, .ref np, .int 0, .int 0, .long 0, .int (-1), .int (-1)]))]) [1] (by decide) rfl
  have hKc := hK.sub (tys' := []) [] rfl
  have hFc := va_free (wc := [(no, .inr (6, [.ref te, .ref nt, .ref nl, .ref ns, .ref np, .int 0, .int 0, .long 0, .int (-1), .int (-1)]))]) hD hS hA [1] rfl
  refine va_calli (va_runV (As := [.int tk]) (rest := []) ⟨hx, hb, hml, hown, hts⟩ (c_X6_has l dC dI no tk te nt nl ns np 0 s.heap.size) (cwV 1 hts (gi_V (fun w_ h0_ => ⟨List.mem_cons_of_mem _ (List.mem_append_right _ (List.mem_append_right _ (List.mem_append_left _ h0_))), (tb_c_X6_has w_ h0_).2⟩) (List.mem_cons_of_mem _ (List.mem_append_left _ (List.mem_of_getElem? (i := 1) rfl))) (List.mem_cons_of_mem _ (List.mem_append_left _ (List.mem_of_getElem? (i := 2) rfl))) (List.mem_cons_of_mem _ (List.mem_append_left _ (List.mem_of_getElem? (i := 3) rfl))) (List.mem_cons_of_mem _ (List.mem_append_left _ (List.mem_of_getElem? (i := 4) rfl)))) rfl rfl rfl (by decide +kernel) ⟨Nat.le_of_ble_eq_true rfl, Nat.le_of_ble_eq_true rfl⟩) ⟨fun a U g mk q => by obtain ⟨q0, q1, qP, qK, qD⟩ := q; exact ⟨q0, q1, qP, va_K.moved (u := U) (U := U.calling g mk a) (Vm.Alike.refl U.vm) qK, qD⟩, va_recv hKc hPc (ci := 6) (q0 := 0) rfl rfl, fun U hU hW => ⟨rfl, by rw [hU], by rw [hU]; exact hPc, va_K.moved hW.alike hKc, hDc.weaken (fun _ _ _ _ => trivial)⟩⟩ rfl rfl hl.1 rfl (lv_room (Nat.le_of_ble_eq_true rfl)) dX11_yields_5 ⟨Nat.le_of_ble_eq_true rfl, Nat.le_of_ble_eq_true rfl⟩) hS (fun q _ h => hFc q h) hFc (fun r_1 u t H1 locs ht hvm hw hB hz1 hk1 hS => ?_)
  obtain ⟨hP1, hK1, hD1⟩ := hB
  rw [ht] at hP1
  have hK1 := va_K.moved hvm.symm hK1
  obtain ⟨hP, hD⟩ := va_join (wr := [(h0, .inr (11, [.ref te, .ref ta, .ref re, .ref no, .ref pa, .ref ac, .ref op, .ref im, .ref ik, .ref hi, .ref rf, .int (-1)])), (rf, .inr (4, [.ref rc, .int 0])), (rc, .inl (ci2, 5, .inl (fun _ => 0)))]) (w1 := [(no, .inr (6, [.ref te, .ref nt, .ref nl, .ref ns, .ref np, .int 0, .int 0, .long 0, .int (-1), .int (-1)]))]) hP hD [1] [0, 2, 3] rfl rfl (by decide) (by decide) hk1 hFc hP1 hD1
  generalize H1 = H at hP hS ⊢
  have hP : va_P (dC, dI) vwCl [(h0, .inr (11, [.ref te, .ref ta, .ref re, .ref no, .ref pa, .ref ac, .ref op, .ref im, .ref ik, .ref hi, .ref rf, .int (-1)])), (rf, .inr (4, [.ref rc, .int 0])), (rc, .inl (ci2, 5, .inl (fun _ => 0))), (no, .inr (6, [.ref te, .ref nt, .ref nl, .ref ns, .ref np, .int 0, .int 0, .long 0, .int (-1), .int (-1)]))] H := hP
  have hD : va_D A [(h0, .inr (11, [.ref te, .ref ta, .ref re, .ref no, .ref pa, .ref ac, .ref op, .ref im, .ref ik, .ref hi, .ref rf, .int (-1)])), (rf, .inr (4, [.ref rc, .int 0])), (rc, .inl (ci2, 5, .inl (fun _ => 0))), (no, .inr (6, [.ref te, .ref nt, .ref nl, .ref ns, .ref np, .int 0, .int 0, .long 0, .int (-1), .int (-1)]))] := hD
  refine W.widen (k := 0) (n := 0) (Nat.le_of_ble_eq_true rfl) (Nat.le_of_ble_eq_true rfl) ?_
  have hw : r_1 = 0 := hw
  subst hw
  refine lv_if_ne (tgt := 21) hx hb dX11_yields_8 (by decide) (fun c => absurd c (by decide)) (fun _ => ?_)
  refine lv_aload_n hx hb dX11_yields_11 rfl (lv_at hl 0 rfl) ?_
  refine va_get (D := (dC, dI)) (ci := 11) (v := .ref rf) (C := RX11) (T := TX11) (N := 12) hx hb hts (fun _ h0_ => List.mem_cons_of_mem _ (List.mem_append_right _ (List.mem_append_left _ h0_))) hown hK hP 0 rfl rfl 10 (by decide) (hts (.fieldLink RX11 72 "DeadlineShare" "refusals" "LDeadlineShare$Refusals;") (List.mem_cons_of_mem _ (List.mem_append_left _ (List.mem_of_getElem? (i := 5) rfl)))) (fun _ h9 => h9) rfl dX11_yields_12 ?_
  refine lv_bipush (v := (-2)) hx hb dX11_yields_15 (by decide) ?_
  have hPc := hP.sub (ws' := [(rf, .inr (4, [.ref rc, .int 0])), (rc, .inl (ci2, 5, .inl (fun _ => 0)))]) [1, 2] rfl
  have hDc := hD.sub (ws' := [(rf, .inr (4, [.ref rc, .int 0])), (rc, .inl (ci2, 5, .inl (fun _ => 0)))]) [1, 2] (by decide) rfl
  have hKc := hK.sub (tys' := [(ci2, .int)]) [0] rfl
  have hFc := va_free (wc := [(rf, .inr (4, [.ref rc, .int 0])), (rc, .inl (ci2, 5, .inl (fun _ => 0)))]) hD hS hA [1, 2] rfl
  refine va_calli (va_runV (As := [.int (-2)]) (rest := []) ⟨hx, hb, hml, hown, hts⟩ (c_X4_add_2 l dC dI rf rc ci2 H.size) (cwV 1 hts (gi_V (fun w_ h0_ => ⟨List.mem_cons_of_mem _ (List.mem_append_right _ (List.mem_append_right _ (List.mem_append_right _ (List.mem_append_left _ h0_)))), (tb_c_X4_add_2 w_ h0_).2⟩) (List.mem_cons_of_mem _ (List.mem_append_left _ (List.mem_of_getElem? (i := 6) rfl))) (List.mem_cons_of_mem _ (List.mem_append_left _ (List.mem_of_getElem? (i := 7) rfl))) (List.mem_cons_of_mem _ (List.mem_append_left _ (List.mem_of_getElem? (i := 8) rfl))) (List.mem_cons_of_mem _ (List.mem_append_left _ (List.mem_of_getElem? (i := 9) rfl)))) rfl rfl rfl (by decide +kernel) ⟨Nat.le_of_ble_eq_true rfl, Nat.le_of_ble_eq_true rfl⟩) ⟨fun a U g mk q => by obtain ⟨q0, q1, qP, qK, qD⟩ := q; exact ⟨q0, q1, qP, va_K.moved (u := U) (U := U.calling g mk a) (Vm.Alike.refl U.vm) qK, qD⟩, va_recv hKc hPc (ci := 4) (q0 := 0) rfl rfl, fun U hU hW => ⟨rfl, by rw [hU], by rw [hU]; exact hPc, va_K.moved hW.alike hKc, hDc.weaken (fun _ _ _ _ => trivial)⟩⟩ rfl rfl hl.1 rfl (lv_room (Nat.le_of_ble_eq_true rfl)) dX11_yields_17 ⟨Nat.le_of_ble_eq_true rfl, Nat.le_of_ble_eq_true rfl⟩) hS (fun q _ h => hFc q h) hFc (fun r_2 u t H1 locs ht hvm hw hB hz1 hk1 hS => ?_)
  obtain ⟨hP1, hK1, hD1⟩ := hB
  rw [ht] at hP1
  have hK1 := va_K.moved hvm.symm hK1
  obtain ⟨hP, hD⟩ := va_join (wr := [(h0, .inr (11, [.ref te, .ref ta, .ref re, .ref no, .ref pa, .ref ac, .ref op, .ref im, .ref ik, .ref hi, .ref rf, .int (-1)])), (no, .inr (6, [.ref te, .ref nt, .ref nl, .ref ns, .ref np, .int 0, .int 0, .long 0, .int (-1), .int (-1)]))]) (w1 := []) hP hD [1, 2] [0, 3] rfl rfl (by decide) (by decide) hk1 hFc hP1 hD1
  generalize H1 = H at hP hS ⊢
  have hP : va_P (dC, dI) vwCl [(h0, .inr (11, [.ref te, .ref ta, .ref re, .ref no, .ref pa, .ref ac, .ref op, .ref im, .ref ik, .ref hi, .ref rf, .int (-1)])), (no, .inr (6, [.ref te, .ref nt, .ref nl, .ref ns, .ref np, .int 0, .int 0, .long 0, .int (-1), .int (-1)]))] H := hP
  have hD : va_D A [(h0, .inr (11, [.ref te, .ref ta, .ref re, .ref no, .ref pa, .ref ac, .ref op, .ref im, .ref ik, .ref hi, .ref rf, .int (-1)])), (no, .inr (6, [.ref te, .ref nt, .ref nl, .ref ns, .ref np, .int 0, .int 0, .long 0, .int (-1), .int (-1)]))] := hD
  refine W.widen (k := 0) (n := 0) (Nat.le_of_ble_eq_true rfl) (Nat.le_of_ble_eq_true rfl) ?_
  have hw : r_2 = (-2) := hw
  subst hw
  have hP9 := hP.sub (ws' := []) [] rfl
  have hD9 := hD.sub (ws' := []) [] (by decide) rfl
  have hK9 := hK.sub (tys' := []) [] rfl
  refine W.widen (k := 0) (n := 0) (Nat.le_of_ble_eq_true rfl) (Nat.le_of_ble_eq_true rfl) ?_
  exact W.iret (v := (-2)) hx hb hr (fun t ht hW => ⟨⟨(-2), (), rfl, rfl, by rw [ht]; exact hP9, va_K.moved hW.alike hK9, hD9⟩, hS.F ht⟩) hS.2.2 dX11_yields_20
def ow_c_X11_script : List Cond := [.fieldLink RX11 37 "DeadlineShare" "now" "LDeadlineShare$State;", .methodLink RX11 130 yX6_has, .instanceMethod yX6_has, .selects RX6 yX6_has yX6_has, .initialized RX6, .fieldLink RX11 72 "DeadlineShare" "refusals" "LDeadlineShare$Refusals;", .methodLink RX11 84 yX4_add, .instanceMethod yX4_add, .selects RX4 yX4_add yX4_add, .initialized RX4]
def wq_c_X11_script : List Cond := .code yX11_script cX11_script 4 (some .int) :: (ow_c_X11_script ++ (u_ws RX11 TX11 12 ++ (wq_c_X6_has ++ (wq_c_X4_add_2 ++ ([] : List Cond)))))
theorem tb_c_X11_script : ∀ w ∈ wq_c_X11_script, q_g w := by
  unfold wq_c_X11_script ow_c_X11_script
  exact q_cons tw_332 (q_app (q_cons tw_101 (q_cons tw_328 (q_cons tw_205 (q_cons tw_204 (q_cons tw_72 (q_cons tw_80 (q_cons tw_280 (q_cons tw_279 (q_cons tw_278 (q_cons tw_1 q_nil)))))))))) (q_app tu_X11 (q_app tb_c_X6_has (q_app tb_c_X4_add_2 q_nil))))
set_option maxHeartbeats 4000000 in
set_option maxRecDepth 100000 in
theorem c_X11_script (l : Launch) (dC : Nat → ClassId) (dI : Nat → Nat → Nat) (h0 : Nat) (tk : Int32) (te : Nat) (ta : Nat) (re : Nat) (no : Nat) (pa : Nat) (ac : Nat) (op : Nat) (im : Nat) (ik : Nat) (hi : Nat) (rf : Nat) (nt : Nat) (nl : Nat) (ns : Nat) (np : Nat) (rc : Nat) (ci2 : ClassId) (sz : Nat) : Met l yX11_script wq_c_X11_script ({ frames := 2, cells := 0, slots := 0, locals := 41 } : Room) (va_Pc [.ref h0, .int tk] (fun U => U.heap.size = sz ∧ va_P (dC, dI) vwCl [(h0, .inr (11, [.ref te, .ref ta, .ref re, .ref no, .ref pa, .ref ac, .ref op, .ref im, .ref ik, .ref hi, .ref rf, .int (-1)])), (no, .inr (6, [.ref te, .ref nt, .ref nl, .ref ns, .ref np, .int 0, .int 0, .long 0, .int (-1), .int (-1)])), (rf, .inr (4, [.ref rc, .int 0])), (rc, .inl (ci2, 5, .inl (fun _ => 0)))] U.heap ∧ va_K (dC, dI) vwCl [(ci2, .int)] U ∧ va_D (fun _ => True) [(h0, .inr (11, [.ref te, .ref ta, .ref re, .ref no, .ref pa, .ref ac, .ref op, .ref im, .ref ik, .ref hi, .ref rf, .int (-1)])), (no, .inr (6, [.ref te, .ref nt, .ref nl, .ref ns, .ref np, .int 0, .int 0, .long 0, .int (-1), .int (-1)])), (rf, .inr (4, [.ref rc, .int 0])), (rc, .inl (ci2, 5, .inl (fun _ => 0)))])) (va_Qi (fun (r : Int32) (_ : Unit) => r = (-2)) (fun (_ : Unit) t => va_P (dC, dI) vwCl [] t.heap ∧ va_K (dC, dI) vwCl [] t ∧ va_D (va_A [(h0, .inr (11, [.ref te, .ref ta, .ref re, .ref no, .ref pa, .ref ac, .ref op, .ref im, .ref ik, .ref hi, .ref rf, .int (-1)])), (no, .inr (6, [.ref te, .ref nt, .ref nl, .ref ns, .ref np, .int 0, .int 0, .long 0, .int (-1), .int (-1)])), (rf, .inr (4, [.ref rc, .int 0])), (rc, .inl (ci2, 5, .inl (fun _ => 0)))] sz) []) (va_A [(h0, .inr (11, [.ref te, .ref ta, .ref re, .ref no, .ref pa, .ref ac, .ref op, .ref im, .ref ik, .ref hi, .ref rf, .int (-1)])), (no, .inr (6, [.ref te, .ref nt, .ref nl, .ref ns, .ref np, .int 0, .int 0, .long 0, .int (-1), .int (-1)])), (rf, .inr (4, [.ref rc, .int 0])), (rc, .inl (ci2, 5, .inl (fun _ => 0)))] sz)) 0 0 (va_A [(h0, .inr (11, [.ref te, .ref ta, .ref re, .ref no, .ref pa, .ref ac, .ref op, .ref im, .ref ik, .ref hi, .ref rf, .int (-1)])), (no, .inr (6, [.ref te, .ref nt, .ref nl, .ref ns, .ref np, .int 0, .int 0, .long 0, .int (-1), .int (-1)])), (rf, .inr (4, [.ref rc, .int 0])), (rc, .inl (ci2, 5, .inl (fun _ => 0)))] sz) := by
  refine Met.ofW (cc := cX11_script) (maxL := 4) (ret := (some .int)) (by decide) rfl ?_
  intro p e s m args below meth c s₁ B hml hv
  obtain ⟨rfl, hsz, hP, hK, hD0⟩ := hv
  have hx := B.exec
  have hb := B.bytes
  have hr := B.returns
  have hts := atoms_spec (ws := wq_c_X11_script) B.pre
  have hown : s.vm.findClass RX11 = some m.cls := findClass_of_methodNamed B.named
  have hlocks := B.notSynchronized
  subst hsz
  have hD := hD0.self (sz := s.heap.size)
  obtain ⟨A, hAe⟩ : ∃ A, A = va_A [(h0, .inr (11, [.ref te, .ref ta, .ref re, .ref no, .ref pa, .ref ac, .ref op, .ref im, .ref ik, .ref hi, .ref rf, .int (-1)])), (no, .inr (6, [.ref te, .ref nt, .ref nl, .ref ns, .ref np, .int 0, .int 0, .long 0, .int (-1), .int (-1)])), (rf, .inr (4, [.ref rc, .int 0])), (rc, .inl (ci2, 5, .inl (fun _ => 0)))] s.heap.size := ⟨_, rfl⟩
  rw [← hAe] at hD ⊢
  have hA : ∀ q : Nat, s.heap.size ≤ q → A q := fun q h => by rw [hAe]; exact Or.inr h
  have hS : va_S A s.heap s.heap [] := va_S.rf
  have hP : va_P (dC, dI) vwCl [(h0, .inr (11, [.ref te, .ref ta, .ref re, .ref no, .ref pa, .ref ac, .ref op, .ref im, .ref ik, .ref hi, .ref rf, .int (-1)])), (no, .inr (6, [.ref te, .ref nt, .ref nl, .ref ns, .ref np, .int 0, .int 0, .long 0, .int (-1), .int (-1)])), (rf, .inr (4, [.ref rc, .int 0])), (rc, .inl (ci2, 5, .inl (fun _ => 0)))] s.heap := hP
  have hl := lv_entry ([.ref h0, .int tk]) (n := 4) (Nat.le_of_ble_eq_true rfl)
  rw [lg_entry_eq]
  generalize (lg_sl ([.ref h0, .int tk]) ++ List.replicate (4 - (lg_sl ([.ref h0, .int tk])).length) Slot.unset).toArray = ls at hl ⊢
  have hl : lv_has ls 4 [(0, .ref h0), (1, .int tk)] := hl
  refine lv_aload_n hx hb dX11_script_0 rfl (lv_at hl 0 rfl) ?_
  refine va_get (D := (dC, dI)) (ci := 11) (v := .ref no) (C := RX11) (T := TX11) (N := 12) hx hb hts (fun _ h0_ => List.mem_cons_of_mem _ (List.mem_append_right _ (List.mem_append_left _ h0_))) hown hK hP 0 rfl rfl 3 (by decide) (hts (.fieldLink RX11 37 "DeadlineShare" "now" "LDeadlineShare$State;") (List.mem_cons_of_mem _ (List.mem_append_left _ (List.mem_of_getElem? (i := 0) rfl)))) (fun _ h9 => h9) rfl dX11_script_1 ?_
  refine lv_iload_n hx hb dX11_script_4 rfl (lv_at hl 1 rfl) ?_
  have hPc := hP.sub (ws' := [(no, .inr (6, [.ref te, .ref nt, .ref nl, .ref ns, .ref np, .int 0, .int 0, .long 0, .int (-1), .int (-1)]))]) [1] rfl
  have hDc := hD.sub (ws' := [(no, .inr (6, [.ref te, .ref nt, .ref nl, .ref ns, .ref np, .int 0, .int 0, .long 0, .int (-1), .int (-1)]))]) [1] (by decide) rfl
  have hKc := hK.sub (tys' := []) [] rfl
  have hFc := va_free (wc := [(no, .inr (6, [.ref te, .ref nt, .ref nl, .ref ns, .ref np, .int 0, .int 0, .long 0, .int (-1), .int (-1)]))]) hD hS hA [1] rfl
  refine va_calli (va_runV (As := [.int tk]) (rest := []) ⟨hx, hb, hml, hown, hts⟩ (c_X6_has l dC dI no tk te nt nl ns np 0 s.heap.size) (cwV 1 hts (gi_V (fun w_ h0_ => ⟨List.mem_cons_of_mem _ (List.mem_append_right _ (List.mem_append_right _ (List.mem_append_left _ h0_))), (tb_c_X6_has w_ h0_).2⟩) (List.mem_cons_of_mem _ (List.mem_append_left _ (List.mem_of_getElem? (i := 1) rfl))) (List.mem_cons_of_mem _ (List.mem_append_left _ (List.mem_of_getElem? (i := 2) rfl))) (List.mem_cons_of_mem _ (List.mem_append_left _ (List.mem_of_getElem? (i := 3) rfl))) (List.mem_cons_of_mem _ (List.mem_append_left _ (List.mem_of_getElem? (i := 4) rfl)))) rfl rfl rfl (by decide +kernel) ⟨Nat.le_of_ble_eq_true rfl, Nat.le_of_ble_eq_true rfl⟩) ⟨fun a U g mk q => by obtain ⟨q0, q1, qP, qK, qD⟩ := q; exact ⟨q0, q1, qP, va_K.moved (u := U) (U := U.calling g mk a) (Vm.Alike.refl U.vm) qK, qD⟩, va_recv hKc hPc (ci := 6) (q0 := 0) rfl rfl, fun U hU hW => ⟨rfl, by rw [hU], by rw [hU]; exact hPc, va_K.moved hW.alike hKc, hDc.weaken (fun _ _ _ _ => trivial)⟩⟩ rfl rfl hl.1 rfl (lv_room (Nat.le_of_ble_eq_true rfl)) dX11_script_5 ⟨Nat.le_of_ble_eq_true rfl, Nat.le_of_ble_eq_true rfl⟩) hS (fun q _ h => hFc q h) hFc (fun r_1 u t H1 locs ht hvm hw hB hz1 hk1 hS => ?_)
  obtain ⟨hP1, hK1, hD1⟩ := hB
  rw [ht] at hP1
  have hK1 := va_K.moved hvm.symm hK1
  obtain ⟨hP, hD⟩ := va_join (wr := [(h0, .inr (11, [.ref te, .ref ta, .ref re, .ref no, .ref pa, .ref ac, .ref op, .ref im, .ref ik, .ref hi, .ref rf, .int (-1)])), (rf, .inr (4, [.ref rc, .int 0])), (rc, .inl (ci2, 5, .inl (fun _ => 0)))]) (w1 := [(no, .inr (6, [.ref te, .ref nt, .ref nl, .ref ns, .ref np, .int 0, .int 0, .long 0, .int (-1), .int (-1)]))]) hP hD [1] [0, 2, 3] rfl rfl (by decide) (by decide) hk1 hFc hP1 hD1
  generalize H1 = H at hP hS ⊢
  have hP : va_P (dC, dI) vwCl [(h0, .inr (11, [.ref te, .ref ta, .ref re, .ref no, .ref pa, .ref ac, .ref op, .ref im, .ref ik, .ref hi, .ref rf, .int (-1)])), (rf, .inr (4, [.ref rc, .int 0])), (rc, .inl (ci2, 5, .inl (fun _ => 0))), (no, .inr (6, [.ref te, .ref nt, .ref nl, .ref ns, .ref np, .int 0, .int 0, .long 0, .int (-1), .int (-1)]))] H := hP
  have hD : va_D A [(h0, .inr (11, [.ref te, .ref ta, .ref re, .ref no, .ref pa, .ref ac, .ref op, .ref im, .ref ik, .ref hi, .ref rf, .int (-1)])), (rf, .inr (4, [.ref rc, .int 0])), (rc, .inl (ci2, 5, .inl (fun _ => 0))), (no, .inr (6, [.ref te, .ref nt, .ref nl, .ref ns, .ref np, .int 0, .int 0, .long 0, .int (-1), .int (-1)]))] := hD
  refine W.widen (k := 0) (n := 0) (Nat.le_of_ble_eq_true rfl) (Nat.le_of_ble_eq_true rfl) ?_
  have hw : r_1 = 0 := hw
  subst hw
  refine lv_if_ne (tgt := 21) hx hb dX11_script_8 (by decide) (fun c => absurd c (by decide)) (fun _ => ?_)
  refine lv_aload_n hx hb dX11_script_11 rfl (lv_at hl 0 rfl) ?_
  refine va_get (D := (dC, dI)) (ci := 11) (v := .ref rf) (C := RX11) (T := TX11) (N := 12) hx hb hts (fun _ h0_ => List.mem_cons_of_mem _ (List.mem_append_right _ (List.mem_append_left _ h0_))) hown hK hP 0 rfl rfl 10 (by decide) (hts (.fieldLink RX11 72 "DeadlineShare" "refusals" "LDeadlineShare$Refusals;") (List.mem_cons_of_mem _ (List.mem_append_left _ (List.mem_of_getElem? (i := 5) rfl)))) (fun _ h9 => h9) rfl dX11_script_12 ?_
  refine lv_bipush (v := (-2)) hx hb dX11_script_15 (by decide) ?_
  have hPc := hP.sub (ws' := [(rf, .inr (4, [.ref rc, .int 0])), (rc, .inl (ci2, 5, .inl (fun _ => 0)))]) [1, 2] rfl
  have hDc := hD.sub (ws' := [(rf, .inr (4, [.ref rc, .int 0])), (rc, .inl (ci2, 5, .inl (fun _ => 0)))]) [1, 2] (by decide) rfl
  have hKc := hK.sub (tys' := [(ci2, .int)]) [0] rfl
  have hFc := va_free (wc := [(rf, .inr (4, [.ref rc, .int 0])), (rc, .inl (ci2, 5, .inl (fun _ => 0)))]) hD hS hA [1, 2] rfl
  refine va_calli (va_runV (As := [.int (-2)]) (rest := []) ⟨hx, hb, hml, hown, hts⟩ (c_X4_add_2 l dC dI rf rc ci2 H.size) (cwV 1 hts (gi_V (fun w_ h0_ => ⟨List.mem_cons_of_mem _ (List.mem_append_right _ (List.mem_append_right _ (List.mem_append_right _ (List.mem_append_left _ h0_)))), (tb_c_X4_add_2 w_ h0_).2⟩) (List.mem_cons_of_mem _ (List.mem_append_left _ (List.mem_of_getElem? (i := 6) rfl))) (List.mem_cons_of_mem _ (List.mem_append_left _ (List.mem_of_getElem? (i := 7) rfl))) (List.mem_cons_of_mem _ (List.mem_append_left _ (List.mem_of_getElem? (i := 8) rfl))) (List.mem_cons_of_mem _ (List.mem_append_left _ (List.mem_of_getElem? (i := 9) rfl)))) rfl rfl rfl (by decide +kernel) ⟨Nat.le_of_ble_eq_true rfl, Nat.le_of_ble_eq_true rfl⟩) ⟨fun a U g mk q => by obtain ⟨q0, q1, qP, qK, qD⟩ := q; exact ⟨q0, q1, qP, va_K.moved (u := U) (U := U.calling g mk a) (Vm.Alike.refl U.vm) qK, qD⟩, va_recv hKc hPc (ci := 4) (q0 := 0) rfl rfl, fun U hU hW => ⟨rfl, by rw [hU], by rw [hU]; exact hPc, va_K.moved hW.alike hKc, hDc.weaken (fun _ _ _ _ => trivial)⟩⟩ rfl rfl hl.1 rfl (lv_room (Nat.le_of_ble_eq_true rfl)) dX11_script_17 ⟨Nat.le_of_ble_eq_true rfl, Nat.le_of_ble_eq_true rfl⟩) hS (fun q _ h => hFc q h) hFc (fun r_2 u t H1 locs ht hvm hw hB hz1 hk1 hS => ?_)
  obtain ⟨hP1, hK1, hD1⟩ := hB
  rw [ht] at hP1
  have hK1 := va_K.moved hvm.symm hK1
  obtain ⟨hP, hD⟩ := va_join (wr := [(h0, .inr (11, [.ref te, .ref ta, .ref re, .ref no, .ref pa, .ref ac, .ref op, .ref im, .ref ik, .ref hi, .ref rf, .int (-1)])), (no, .inr (6, [.ref te, .ref nt, .ref nl, .ref ns, .ref np, .int 0, .int 0, .long 0, .int (-1), .int (-1)]))]) (w1 := []) hP hD [1, 2] [0, 3] rfl rfl (by decide) (by decide) hk1 hFc hP1 hD1
  generalize H1 = H at hP hS ⊢
  have hP : va_P (dC, dI) vwCl [(h0, .inr (11, [.ref te, .ref ta, .ref re, .ref no, .ref pa, .ref ac, .ref op, .ref im, .ref ik, .ref hi, .ref rf, .int (-1)])), (no, .inr (6, [.ref te, .ref nt, .ref nl, .ref ns, .ref np, .int 0, .int 0, .long 0, .int (-1), .int (-1)]))] H := hP
  have hD : va_D A [(h0, .inr (11, [.ref te, .ref ta, .ref re, .ref no, .ref pa, .ref ac, .ref op, .ref im, .ref ik, .ref hi, .ref rf, .int (-1)])), (no, .inr (6, [.ref te, .ref nt, .ref nl, .ref ns, .ref np, .int 0, .int 0, .long 0, .int (-1), .int (-1)]))] := hD
  refine W.widen (k := 0) (n := 0) (Nat.le_of_ble_eq_true rfl) (Nat.le_of_ble_eq_true rfl) ?_
  have hw : r_2 = (-2) := hw
  subst hw
  have hP9 := hP.sub (ws' := []) [] rfl
  have hD9 := hD.sub (ws' := []) [] (by decide) rfl
  have hK9 := hK.sub (tys' := []) [] rfl
  refine W.widen (k := 0) (n := 0) (Nat.le_of_ble_eq_true rfl) (Nat.le_of_ble_eq_true rfl) ?_
  exact W.iret (v := (-2)) hx hb hr (fun t ht hW => ⟨⟨(-2), (), rfl, rfl, by rw [ht]; exact hP9, va_K.moved hW.alike hK9, hD9⟩, hS.F ht⟩) hS.2.2 dX11_script_20
def ow_c_X11_listing : List Cond := [.fieldLink RX11 37 "DeadlineShare" "now" "LDeadlineShare$State;", .methodLink RX11 130 yX6_has, .instanceMethod yX6_has, .selects RX6 yX6_has yX6_has, .initialized RX6, .fieldLink RX11 72 "DeadlineShare" "refusals" "LDeadlineShare$Refusals;", .methodLink RX11 84 yX4_add, .instanceMethod yX4_add, .selects RX4 yX4_add yX4_add, .initialized RX4]
def wq_c_X11_listing : List Cond := .code yX11_listing cX11_listing 3 (some .int) :: (ow_c_X11_listing ++ (u_ws RX11 TX11 12 ++ (wq_c_X6_has ++ (wq_c_X4_add_2 ++ ([] : List Cond)))))
theorem tb_c_X11_listing : ∀ w ∈ wq_c_X11_listing, q_g w := by
  unfold wq_c_X11_listing ow_c_X11_listing
  exact q_cons tw_333 (q_app (q_cons tw_101 (q_cons tw_328 (q_cons tw_205 (q_cons tw_204 (q_cons tw_72 (q_cons tw_80 (q_cons tw_280 (q_cons tw_279 (q_cons tw_278 (q_cons tw_1 q_nil)))))))))) (q_app tu_X11 (q_app tb_c_X6_has (q_app tb_c_X4_add_2 q_nil))))
set_option maxHeartbeats 4000000 in
set_option maxRecDepth 100000 in
theorem c_X11_listing (l : Launch) (dC : Nat → ClassId) (dI : Nat → Nat → Nat) (h0 : Nat) (tk : Int32) (te : Nat) (ta : Nat) (re : Nat) (no : Nat) (pa : Nat) (ac : Nat) (op : Nat) (im : Nat) (ik : Nat) (hi : Nat) (rf : Nat) (nt : Nat) (nl : Nat) (ns : Nat) (np : Nat) (rc : Nat) (ci2 : ClassId) (sz : Nat) : Met l yX11_listing wq_c_X11_listing ({ frames := 2, cells := 0, slots := 0, locals := 41 } : Room) (va_Pc [.ref h0, .int tk] (fun U => U.heap.size = sz ∧ va_P (dC, dI) vwCl [(h0, .inr (11, [.ref te, .ref ta, .ref re, .ref no, .ref pa, .ref ac, .ref op, .ref im, .ref ik, .ref hi, .ref rf, .int (-1)])), (no, .inr (6, [.ref te, .ref nt, .ref nl, .ref ns, .ref np, .int 0, .int 0, .long 0, .int (-1), .int (-1)])), (rf, .inr (4, [.ref rc, .int 0])), (rc, .inl (ci2, 5, .inl (fun _ => 0)))] U.heap ∧ va_K (dC, dI) vwCl [(ci2, .int)] U ∧ va_D (fun _ => True) [(h0, .inr (11, [.ref te, .ref ta, .ref re, .ref no, .ref pa, .ref ac, .ref op, .ref im, .ref ik, .ref hi, .ref rf, .int (-1)])), (no, .inr (6, [.ref te, .ref nt, .ref nl, .ref ns, .ref np, .int 0, .int 0, .long 0, .int (-1), .int (-1)])), (rf, .inr (4, [.ref rc, .int 0])), (rc, .inl (ci2, 5, .inl (fun _ => 0)))])) (va_Qi (fun (r : Int32) (_ : Unit) => r = (-2)) (fun (_ : Unit) t => va_P (dC, dI) vwCl [] t.heap ∧ va_K (dC, dI) vwCl [] t ∧ va_D (va_A [(h0, .inr (11, [.ref te, .ref ta, .ref re, .ref no, .ref pa, .ref ac, .ref op, .ref im, .ref ik, .ref hi, .ref rf, .int (-1)])), (no, .inr (6, [.ref te, .ref nt, .ref nl, .ref ns, .ref np, .int 0, .int 0, .long 0, .int (-1), .int (-1)])), (rf, .inr (4, [.ref rc, .int 0])), (rc, .inl (ci2, 5, .inl (fun _ => 0)))] sz) []) (va_A [(h0, .inr (11, [.ref te, .ref ta, .ref re, .ref no, .ref pa, .ref ac, .ref op, .ref im, .ref ik, .ref hi, .ref rf, .int (-1)])), (no, .inr (6, [.ref te, .ref nt, .ref nl, .ref ns, .ref np, .int 0, .int 0, .long 0, .int (-1), .int (-1)])), (rf, .inr (4, [.ref rc, .int 0])), (rc, .inl (ci2, 5, .inl (fun _ => 0)))] sz)) 0 0 (va_A [(h0, .inr (11, [.ref te, .ref ta, .ref re, .ref no, .ref pa, .ref ac, .ref op, .ref im, .ref ik, .ref hi, .ref rf, .int (-1)])), (no, .inr (6, [.ref te, .ref nt, .ref nl, .ref ns, .ref np, .int 0, .int 0, .long 0, .int (-1), .int (-1)])), (rf, .inr (4, [.ref rc, .int 0])), (rc, .inl (ci2, 5, .inl (fun _ => 0)))] sz) := by
  refine Met.ofW (cc := cX11_listing) (maxL := 3) (ret := (some .int)) (by decide) rfl ?_
  intro p e s m args below meth c s₁ B hml hv
  obtain ⟨rfl, hsz, hP, hK, hD0⟩ := hv
  have hx := B.exec
  have hb := B.bytes
  have hr := B.returns
  have hts := atoms_spec (ws := wq_c_X11_listing) B.pre
  have hown : s.vm.findClass RX11 = some m.cls := findClass_of_methodNamed B.named
  have hlocks := B.notSynchronized
  subst hsz
  have hD := hD0.self (sz := s.heap.size)
  obtain ⟨A, hAe⟩ : ∃ A, A = va_A [(h0, .inr (11, [.ref te, .ref ta, .ref re, .ref no, .ref pa, .ref ac, .ref op, .ref im, .ref ik, .ref hi, .ref rf, .int (-1)])), (no, .inr (6, [.ref te, .ref nt, .ref nl, .ref ns, .ref np, .int 0, .int 0, .long 0, .int (-1), .int (-1)])), (rf, .inr (4, [.ref rc, .int 0])), (rc, .inl (ci2, 5, .inl (fun _ => 0)))] s.heap.size := ⟨_, rfl⟩
  rw [← hAe] at hD ⊢
  have hA : ∀ q : Nat, s.heap.size ≤ q → A q := fun q h => by rw [hAe]; exact Or.inr h
  have hS : va_S A s.heap s.heap [] := va_S.rf
  have hP : va_P (dC, dI) vwCl [(h0, .inr (11, [.ref te, .ref ta, .ref re, .ref no, .ref pa, .ref ac, .ref op, .ref im, .ref ik, .ref hi, .ref rf, .int (-1)])), (no, .inr (6, [.ref te, .ref nt, .ref nl, .ref ns, .ref np, .int 0, .int 0, .long 0, .int (-1), .int (-1)])), (rf, .inr (4, [.ref rc, .int 0])), (rc, .inl (ci2, 5, .inl (fun _ => 0)))] s.heap := hP
  have hl := lv_entry ([.ref h0, .int tk]) (n := 3) (Nat.le_of_ble_eq_true rfl)
  rw [lg_entry_eq]
  generalize (lg_sl ([.ref h0, .int tk]) ++ List.replicate (3 - (lg_sl ([.ref h0, .int tk])).length) Slot.unset).toArray = ls at hl ⊢
  have hl : lv_has ls 3 [(0, .ref h0), (1, .int tk)] := hl
  refine lv_aload_n hx hb dX11_listing_0 rfl (lv_at hl 0 rfl) ?_
  refine va_get (D := (dC, dI)) (ci := 11) (v := .ref no) (C := RX11) (T := TX11) (N := 12) hx hb hts (fun _ h0_ => List.mem_cons_of_mem _ (List.mem_append_right _ (List.mem_append_left _ h0_))) hown hK hP 0 rfl rfl 3 (by decide) (hts (.fieldLink RX11 37 "DeadlineShare" "now" "LDeadlineShare$State;") (List.mem_cons_of_mem _ (List.mem_append_left _ (List.mem_of_getElem? (i := 0) rfl)))) (fun _ h9 => h9) rfl dX11_listing_1 ?_
  refine lv_iload_n hx hb dX11_listing_4 rfl (lv_at hl 1 rfl) ?_
  have hPc := hP.sub (ws' := [(no, .inr (6, [.ref te, .ref nt, .ref nl, .ref ns, .ref np, .int 0, .int 0, .long 0, .int (-1), .int (-1)]))]) [1] rfl
  have hDc := hD.sub (ws' := [(no, .inr (6, [.ref te, .ref nt, .ref nl, .ref ns, .ref np, .int 0, .int 0, .long 0, .int (-1), .int (-1)]))]) [1] (by decide) rfl
  have hKc := hK.sub (tys' := []) [] rfl
  have hFc := va_free (wc := [(no, .inr (6, [.ref te, .ref nt, .ref nl, .ref ns, .ref np, .int 0, .int 0, .long 0, .int (-1), .int (-1)]))]) hD hS hA [1] rfl
  refine va_calli (va_runV (As := [.int tk]) (rest := []) ⟨hx, hb, hml, hown, hts⟩ (c_X6_has l dC dI no tk te nt nl ns np 0 s.heap.size) (cwV 1 hts (gi_V (fun w_ h0_ => ⟨List.mem_cons_of_mem _ (List.mem_append_right _ (List.mem_append_right _ (List.mem_append_left _ h0_))), (tb_c_X6_has w_ h0_).2⟩) (List.mem_cons_of_mem _ (List.mem_append_left _ (List.mem_of_getElem? (i := 1) rfl))) (List.mem_cons_of_mem _ (List.mem_append_left _ (List.mem_of_getElem? (i := 2) rfl))) (List.mem_cons_of_mem _ (List.mem_append_left _ (List.mem_of_getElem? (i := 3) rfl))) (List.mem_cons_of_mem _ (List.mem_append_left _ (List.mem_of_getElem? (i := 4) rfl)))) rfl rfl rfl (by decide +kernel) ⟨Nat.le_of_ble_eq_true rfl, Nat.le_of_ble_eq_true rfl⟩) ⟨fun a U g mk q => by obtain ⟨q0, q1, qP, qK, qD⟩ := q; exact ⟨q0, q1, qP, va_K.moved (u := U) (U := U.calling g mk a) (Vm.Alike.refl U.vm) qK, qD⟩, va_recv hKc hPc (ci := 6) (q0 := 0) rfl rfl, fun U hU hW => ⟨rfl, by rw [hU], by rw [hU]; exact hPc, va_K.moved hW.alike hKc, hDc.weaken (fun _ _ _ _ => trivial)⟩⟩ rfl rfl hl.1 rfl (lv_room (Nat.le_of_ble_eq_true rfl)) dX11_listing_5 ⟨Nat.le_of_ble_eq_true rfl, Nat.le_of_ble_eq_true rfl⟩) hS (fun q _ h => hFc q h) hFc (fun r_1 u t H1 locs ht hvm hw hB hz1 hk1 hS => ?_)
  obtain ⟨hP1, hK1, hD1⟩ := hB
  rw [ht] at hP1
  have hK1 := va_K.moved hvm.symm hK1
  obtain ⟨hP, hD⟩ := va_join (wr := [(h0, .inr (11, [.ref te, .ref ta, .ref re, .ref no, .ref pa, .ref ac, .ref op, .ref im, .ref ik, .ref hi, .ref rf, .int (-1)])), (rf, .inr (4, [.ref rc, .int 0])), (rc, .inl (ci2, 5, .inl (fun _ => 0)))]) (w1 := [(no, .inr (6, [.ref te, .ref nt, .ref nl, .ref ns, .ref np, .int 0, .int 0, .long 0, .int (-1), .int (-1)]))]) hP hD [1] [0, 2, 3] rfl rfl (by decide) (by decide) hk1 hFc hP1 hD1
  generalize H1 = H at hP hS ⊢
  have hP : va_P (dC, dI) vwCl [(h0, .inr (11, [.ref te, .ref ta, .ref re, .ref no, .ref pa, .ref ac, .ref op, .ref im, .ref ik, .ref hi, .ref rf, .int (-1)])), (rf, .inr (4, [.ref rc, .int 0])), (rc, .inl (ci2, 5, .inl (fun _ => 0))), (no, .inr (6, [.ref te, .ref nt, .ref nl, .ref ns, .ref np, .int 0, .int 0, .long 0, .int (-1), .int (-1)]))] H := hP
  have hD : va_D A [(h0, .inr (11, [.ref te, .ref ta, .ref re, .ref no, .ref pa, .ref ac, .ref op, .ref im, .ref ik, .ref hi, .ref rf, .int (-1)])), (rf, .inr (4, [.ref rc, .int 0])), (rc, .inl (ci2, 5, .inl (fun _ => 0))), (no, .inr (6, [.ref te, .ref nt, .ref nl, .ref ns, .ref np, .int 0, .int 0, .long 0, .int (-1), .int (-1)]))] := hD
  refine W.widen (k := 0) (n := 0) (Nat.le_of_ble_eq_true rfl) (Nat.le_of_ble_eq_true rfl) ?_
  have hw : r_1 = 0 := hw
  subst hw
  refine lv_if_ne (tgt := 21) hx hb dX11_listing_8 (by decide) (fun c => absurd c (by decide)) (fun _ => ?_)
  refine lv_aload_n hx hb dX11_listing_11 rfl (lv_at hl 0 rfl) ?_
  refine va_get (D := (dC, dI)) (ci := 11) (v := .ref rf) (C := RX11) (T := TX11) (N := 12) hx hb hts (fun _ h0_ => List.mem_cons_of_mem _ (List.mem_append_right _ (List.mem_append_left _ h0_))) hown hK hP 0 rfl rfl 10 (by decide) (hts (.fieldLink RX11 72 "DeadlineShare" "refusals" "LDeadlineShare$Refusals;") (List.mem_cons_of_mem _ (List.mem_append_left _ (List.mem_of_getElem? (i := 5) rfl)))) (fun _ h9 => h9) rfl dX11_listing_12 ?_
  refine lv_bipush (v := (-2)) hx hb dX11_listing_15 (by decide) ?_
  have hPc := hP.sub (ws' := [(rf, .inr (4, [.ref rc, .int 0])), (rc, .inl (ci2, 5, .inl (fun _ => 0)))]) [1, 2] rfl
  have hDc := hD.sub (ws' := [(rf, .inr (4, [.ref rc, .int 0])), (rc, .inl (ci2, 5, .inl (fun _ => 0)))]) [1, 2] (by decide) rfl
  have hKc := hK.sub (tys' := [(ci2, .int)]) [0] rfl
  have hFc := va_free (wc := [(rf, .inr (4, [.ref rc, .int 0])), (rc, .inl (ci2, 5, .inl (fun _ => 0)))]) hD hS hA [1, 2] rfl
  refine va_calli (va_runV (As := [.int (-2)]) (rest := []) ⟨hx, hb, hml, hown, hts⟩ (c_X4_add_2 l dC dI rf rc ci2 H.size) (cwV 1 hts (gi_V (fun w_ h0_ => ⟨List.mem_cons_of_mem _ (List.mem_append_right _ (List.mem_append_right _ (List.mem_append_right _ (List.mem_append_left _ h0_)))), (tb_c_X4_add_2 w_ h0_).2⟩) (List.mem_cons_of_mem _ (List.mem_append_left _ (List.mem_of_getElem? (i := 6) rfl))) (List.mem_cons_of_mem _ (List.mem_append_left _ (List.mem_of_getElem? (i := 7) rfl))) (List.mem_cons_of_mem _ (List.mem_append_left _ (List.mem_of_getElem? (i := 8) rfl))) (List.mem_cons_of_mem _ (List.mem_append_left _ (List.mem_of_getElem? (i := 9) rfl)))) rfl rfl rfl (by decide +kernel) ⟨Nat.le_of_ble_eq_true rfl, Nat.le_of_ble_eq_true rfl⟩) ⟨fun a U g mk q => by obtain ⟨q0, q1, qP, qK, qD⟩ := q; exact ⟨q0, q1, qP, va_K.moved (u := U) (U := U.calling g mk a) (Vm.Alike.refl U.vm) qK, qD⟩, va_recv hKc hPc (ci := 4) (q0 := 0) rfl rfl, fun U hU hW => ⟨rfl, by rw [hU], by rw [hU]; exact hPc, va_K.moved hW.alike hKc, hDc.weaken (fun _ _ _ _ => trivial)⟩⟩ rfl rfl hl.1 rfl (lv_room (Nat.le_of_ble_eq_true rfl)) dX11_listing_17 ⟨Nat.le_of_ble_eq_true rfl, Nat.le_of_ble_eq_true rfl⟩) hS (fun q _ h => hFc q h) hFc (fun r_2 u t H1 locs ht hvm hw hB hz1 hk1 hS => ?_)
  obtain ⟨hP1, hK1, hD1⟩ := hB
  rw [ht] at hP1
  have hK1 := va_K.moved hvm.symm hK1
  obtain ⟨hP, hD⟩ := va_join (wr := [(h0, .inr (11, [.ref te, .ref ta, .ref re, .ref no, .ref pa, .ref ac, .ref op, .ref im, .ref ik, .ref hi, .ref rf, .int (-1)])), (no, .inr (6, [.ref te, .ref nt, .ref nl, .ref ns, .ref np, .int 0, .int 0, .long 0, .int (-1), .int (-1)]))]) (w1 := []) hP hD [1, 2] [0, 3] rfl rfl (by decide) (by decide) hk1 hFc hP1 hD1
  generalize H1 = H at hP hS ⊢
  have hP : va_P (dC, dI) vwCl [(h0, .inr (11, [.ref te, .ref ta, .ref re, .ref no, .ref pa, .ref ac, .ref op, .ref im, .ref ik, .ref hi, .ref rf, .int (-1)])), (no, .inr (6, [.ref te, .ref nt, .ref nl, .ref ns, .ref np, .int 0, .int 0, .long 0, .int (-1), .int (-1)]))] H := hP
  have hD : va_D A [(h0, .inr (11, [.ref te, .ref ta, .ref re, .ref no, .ref pa, .ref ac, .ref op, .ref im, .ref ik, .ref hi, .ref rf, .int (-1)])), (no, .inr (6, [.ref te, .ref nt, .ref nl, .ref ns, .ref np, .int 0, .int 0, .long 0, .int (-1), .int (-1)]))] := hD
  refine W.widen (k := 0) (n := 0) (Nat.le_of_ble_eq_true rfl) (Nat.le_of_ble_eq_true rfl) ?_
  have hw : r_2 = (-2) := hw
  subst hw
  have hP9 := hP.sub (ws' := []) [] rfl
  have hD9 := hD.sub (ws' := []) [] (by decide) rfl
  have hK9 := hK.sub (tys' := []) [] rfl
  refine W.widen (k := 0) (n := 0) (Nat.le_of_ble_eq_true rfl) (Nat.le_of_ble_eq_true rfl) ?_
  exact W.iret (v := (-2)) hx hb hr (fun t ht hW => ⟨⟨(-2), (), rfl, rfl, by rw [ht]; exact hP9, va_K.moved hW.alike hK9, hD9⟩, hS.F ht⟩) hS.2.2 dX11_listing_20
def ow_c_X11_weigh : List Cond := [.methodLink RX11 112 yX11_isWeight, .static yX11_isWeight, .initialized RX11, .fieldLink RX11 37 "DeadlineShare" "now" "LDeadlineShare$State;", .methodLink RX11 130 yX6_has, .instanceMethod yX6_has, .selects RX6 yX6_has yX6_has, .initialized RX6, .fieldLink RX11 72 "DeadlineShare" "refusals" "LDeadlineShare$Refusals;", .methodLink RX11 84 yX4_add, .instanceMethod yX4_add, .selects RX4 yX4_add yX4_add, .initialized RX4]
def wq_c_X11_weigh : List Cond := .code yX11_weigh cX11_weigh 5 (some .int) :: (ow_c_X11_weigh ++ (wq_c_X11_isWeight ++ (u_ws RX11 TX11 12 ++ (wq_c_X6_has ++ (wq_c_X4_add_2 ++ (wq_c_X4_add_1 ++ ([] : List Cond)))))))
theorem tb_c_X11_weigh : ∀ w ∈ wq_c_X11_weigh, q_g w := by
  unfold wq_c_X11_weigh ow_c_X11_weigh
  exact q_cons tw_334 (q_app (q_cons tw_326 (q_cons tw_325 (q_cons tw_324 (q_cons tw_101 (q_cons tw_328 (q_cons tw_205 (q_cons tw_204 (q_cons tw_72 (q_cons tw_80 (q_cons tw_280 (q_cons tw_279 (q_cons tw_278 (q_cons tw_1 q_nil))))))))))))) (q_app tb_c_X11_isWeight (q_app tu_X11 (q_app tb_c_X6_has (q_app tb_c_X4_add_2 (q_app tb_c_X4_add_1 q_nil))))))
set_option maxHeartbeats 4000000 in
set_option maxRecDepth 100000 in
theorem c_X11_weigh (l : Launch) (dC : Nat → ClassId) (dI : Nat → Nat → Nat) (h0 : Nat) (tk : Int32) (wt : Int32) (te : Nat) (ta : Nat) (re : Nat) (no : Nat) (pa : Nat) (ac : Nat) (op : Nat) (im : Nat) (ik : Nat) (hi : Nat) (rf : Nat) (nt : Nat) (nl : Nat) (ns : Nat) (np : Nat) (rc : Nat) (ci2 : ClassId) (sz : Nat) : Met l yX11_weigh wq_c_X11_weigh ({ frames := 2, cells := 0, slots := 0, locals := 41 } : Room) (va_Pc [.ref h0, .int tk, .int wt] (fun U => U.heap.size = sz ∧ va_P (dC, dI) vwCl [(h0, .inr (11, [.ref te, .ref ta, .ref re, .ref no, .ref pa, .ref ac, .ref op, .ref im, .ref ik, .ref hi, .ref rf, .int (-1)])), (no, .inr (6, [.ref te, .ref nt, .ref nl, .ref ns, .ref np, .int 0, .int 0, .long 0, .int (-1), .int (-1)])), (rf, .inr (4, [.ref rc, .int 0])), (rc, .inl (ci2, 5, .inl (fun _ => 0)))] U.heap ∧ va_K (dC, dI) vwCl [(ci2, .int)] U ∧ va_D (fun _ => True) [(h0, .inr (11, [.ref te, .ref ta, .ref re, .ref no, .ref pa, .ref ac, .ref op, .ref im, .ref ik, .ref hi, .ref rf, .int (-1)])), (no, .inr (6, [.ref te, .ref nt, .ref nl, .ref ns, .ref np, .int 0, .int 0, .long 0, .int (-1), .int (-1)])), (rf, .inr (4, [.ref rc, .int 0])), (rc, .inl (ci2, 5, .inl (fun _ => 0)))])) (va_Qi (fun (r : Int32) (_ : Unit) => r = sp_one wt 1 8 (-2)) (fun (_ : Unit) t => va_P (dC, dI) vwCl [] t.heap ∧ va_K (dC, dI) vwCl [] t ∧ va_D (va_A [(h0, .inr (11, [.ref te, .ref ta, .ref re, .ref no, .ref pa, .ref ac, .ref op, .ref im, .ref ik, .ref hi, .ref rf, .int (-1)])), (no, .inr (6, [.ref te, .ref nt, .ref nl, .ref ns, .ref np, .int 0, .int 0, .long 0, .int (-1), .int (-1)])), (rf, .inr (4, [.ref rc, .int 0])), (rc, .inl (ci2, 5, .inl (fun _ => 0)))] sz) []) (va_A [(h0, .inr (11, [.ref te, .ref ta, .ref re, .ref no, .ref pa, .ref ac, .ref op, .ref im, .ref ik, .ref hi, .ref rf, .int (-1)])), (no, .inr (6, [.ref te, .ref nt, .ref nl, .ref ns, .ref np, .int 0, .int 0, .long 0, .int (-1), .int (-1)])), (rf, .inr (4, [.ref rc, .int 0])), (rc, .inl (ci2, 5, .inl (fun _ => 0)))] sz)) 0 0 (va_A [(h0, .inr (11, [.ref te, .ref ta, .ref re, .ref no, .ref pa, .ref ac, .ref op, .ref im, .ref ik, .ref hi, .ref rf, .int (-1)])), (no, .inr (6, [.ref te, .ref nt, .ref nl, .ref ns, .ref np, .int 0, .int 0, .long 0, .int (-1), .int (-1)])), (rf, .inr (4, [.ref rc, .int 0])), (rc, .inl (ci2, 5, .inl (fun _ => 0)))] sz) := by
  refine Met.ofW (cc := cX11_weigh) (maxL := 5) (ret := (some .int)) (by decide) rfl ?_
  intro p e s m args below meth c s₁ B hml hv
  obtain ⟨rfl, hsz, hP, hK, hD0⟩ := hv
  have hx := B.exec
  have hb := B.bytes
  have hr := B.returns
  have hts := atoms_spec (ws := wq_c_X11_weigh) B.pre
  have hown : s.vm.findClass RX11 = some m.cls := findClass_of_methodNamed B.named
  have hlocks := B.notSynchronized
  subst hsz
  have hD := hD0.self (sz := s.heap.size)
  obtain ⟨A, hAe⟩ : ∃ A, A = va_A [(h0, .inr (11, [.ref te, .ref ta, .ref re, .ref no, .ref pa, .ref ac, .ref op, .ref im, .ref ik, .ref hi, .ref rf, .int (-1)])), (no, .inr (6, [.ref te, .ref nt, .ref nl, .ref ns, .ref np, .int 0, .int 0, .long 0, .int (-1), .int (-1)])), (rf, .inr (4, [.ref rc, .int 0])), (rc, .inl (ci2, 5, .inl (fun _ => 0)))] s.heap.size := ⟨_, rfl⟩
  rw [← hAe] at hD ⊢
  have hA : ∀ q : Nat, s.heap.size ≤ q → A q := fun q h => by rw [hAe]; exact Or.inr h
  have hS : va_S A s.heap s.heap [] := va_S.rf
  have hP : va_P (dC, dI) vwCl [(h0, .inr (11, [.ref te, .ref ta, .ref re, .ref no, .ref pa, .ref ac, .ref op, .ref im, .ref ik, .ref hi, .ref rf, .int (-1)])), (no, .inr (6, [.ref te, .ref nt, .ref nl, .ref ns, .ref np, .int 0, .int 0, .long 0, .int (-1), .int (-1)])), (rf, .inr (4, [.ref rc, .int 0])), (rc, .inl (ci2, 5, .inl (fun _ => 0)))] s.heap := hP
  have hl := lv_entry ([.ref h0, .int tk, .int wt]) (n := 5) (Nat.le_of_ble_eq_true rfl)
  rw [lg_entry_eq]
  generalize (lg_sl ([.ref h0, .int tk, .int wt]) ++ List.replicate (5 - (lg_sl ([.ref h0, .int tk, .int wt])).length) Slot.unset).toArray = ls at hl ⊢
  have hl : lv_has ls 5 [(0, .ref h0), (1, .int tk), (2, .int wt)] := hl
  refine lv_iload_n hx hb dX11_weigh_0 rfl (lv_at hl 2 rfl) ?_
  have hPc := hP.sub (ws' := []) [] rfl
  have hDc := hD.sub (ws' := []) [] (by decide) rfl
  have hKc := hK.sub (tys' := []) [] rfl
  have hFc := va_free (wc := []) hD hS hA [] rfl
  refine va_calli (va_runS (As := [.int wt]) (rest := []) ⟨hx, hb, hml, hown, hts⟩ (c_X11_isWeight l dC dI wt s.heap.size) (va_cwS 1 hts (gi_S (fun w_ h0_ => ⟨List.mem_cons_of_mem _ (List.mem_append_right _ (List.mem_append_left _ h0_)), (tb_c_X11_isWeight w_ h0_).2⟩) (List.mem_cons_of_mem _ (List.mem_append_left _ (List.mem_of_getElem? (i := 0) rfl))) (List.mem_cons_of_mem _ (List.mem_append_left _ (List.mem_of_getElem? (i := 1) rfl))) (List.mem_cons_of_mem _ (List.mem_append_left _ (List.mem_of_getElem? (i := 2) rfl)))) rfl rfl rfl (by decide +kernel) ⟨Nat.le_of_ble_eq_true rfl, Nat.le_of_ble_eq_true rfl⟩) ⟨fun a U g mk q => by obtain ⟨q0, q1, qP, qK, qD⟩ := q; exact ⟨q0, q1, qP, va_K.moved (u := U) (U := U.calling g mk a) (Vm.Alike.refl U.vm) qK, qD⟩, fun U hU hW => ⟨rfl, by rw [hU], by rw [hU]; exact hPc, va_K.moved hW.alike hKc, hDc.weaken (fun _ _ _ _ => trivial)⟩⟩ rfl rfl hl.1 rfl (lv_room (Nat.le_of_ble_eq_true rfl)) dX11_weigh_1 ⟨Nat.le_of_ble_eq_true rfl, Nat.le_of_ble_eq_true rfl⟩) hS (fun q _ h => hFc q h) hFc (fun r_1 u t H1 locs ht hvm hw hB hz1 hk1 hS => ?_)
  obtain ⟨hP1, hK1, hD1⟩ := hB
  rw [ht] at hP1
  have hK1 := va_K.moved hvm.symm hK1
  obtain ⟨hP, hD⟩ := va_join (wr := [(h0, .inr (11, [.ref te, .ref ta, .ref re, .ref no, .ref pa, .ref ac, .ref op, .ref im, .ref ik, .ref hi, .ref rf, .int (-1)])), (no, .inr (6, [.ref te, .ref nt, .ref nl, .ref ns, .ref np, .int 0, .int 0, .long 0, .int (-1), .int (-1)])), (rf, .inr (4, [.ref rc, .int 0])), (rc, .inl (ci2, 5, .inl (fun _ => 0)))]) (w1 := []) hP hD [] [0, 1, 2, 3] rfl rfl (by decide) (by decide) hk1 hFc hP1 hD1
  generalize H1 = H at hP hS ⊢
  have hP : va_P (dC, dI) vwCl [(h0, .inr (11, [.ref te, .ref ta, .ref re, .ref no, .ref pa, .ref ac, .ref op, .ref im, .ref ik, .ref hi, .ref rf, .int (-1)])), (no, .inr (6, [.ref te, .ref nt, .ref nl, .ref ns, .ref np, .int 0, .int 0, .long 0, .int (-1), .int (-1)])), (rf, .inr (4, [.ref rc, .int 0])), (rc, .inl (ci2, 5, .inl (fun _ => 0)))] H := hP
  have hD : va_D A [(h0, .inr (11, [.ref te, .ref ta, .ref re, .ref no, .ref pa, .ref ac, .ref op, .ref im, .ref ik, .ref hi, .ref rf, .int (-1)])), (no, .inr (6, [.ref te, .ref nt, .ref nl, .ref ns, .ref np, .int 0, .int 0, .long 0, .int (-1), .int (-1)])), (rf, .inr (4, [.ref rc, .int 0])), (rc, .inl (ci2, 5, .inl (fun _ => 0)))] := hD
  refine W.widen (k := 0) (n := 0) (Nat.le_of_ble_eq_true rfl) (Nat.le_of_ble_eq_true rfl) ?_
  have hw : r_1 = sp_r wt 1 8 := hw
  subst hw
  refine lv_if_ne (tgt := 16) hx hb dX11_weigh_4 (by decide) (fun c_2 => ?_) (fun c_2 => ?_)
  · refine lv_aload_n hx hb dX11_weigh_16 rfl (lv_at hl 0 rfl) ?_
    refine va_get (D := (dC, dI)) (ci := 11) (v := .ref no) (C := RX11) (T := TX11) (N := 12) hx hb hts (fun _ h0_ => List.mem_cons_of_mem _ (List.mem_append_right _ (List.mem_append_right _ (List.mem_append_left _ h0_)))) hown hK hP 0 rfl rfl 3 (by decide) (hts (.fieldLink RX11 37 "DeadlineShare" "now" "LDeadlineShare$State;") (List.mem_cons_of_mem _ (List.mem_append_left _ (List.mem_of_getElem? (i := 3) rfl)))) (fun _ h9 => h9) rfl dX11_weigh_17 ?_
    refine lv_iload_n hx hb dX11_weigh_20 rfl (lv_at hl 1 rfl) ?_
    have hPc := hP.sub (ws' := [(no, .inr (6, [.ref te, .ref nt, .ref nl, .ref ns, .ref np, .int 0, .int 0, .long 0, .int (-1), .int (-1)]))]) [1] rfl
    have hDc := hD.sub (ws' := [(no, .inr (6, [.ref te, .ref nt, .ref nl, .ref ns, .ref np, .int 0, .int 0, .long 0, .int (-1), .int (-1)]))]) [1] (by decide) rfl
    have hKc := hK.sub (tys' := []) [] rfl
    have hFc := va_free (wc := [(no, .inr (6, [.ref te, .ref nt, .ref nl, .ref ns, .ref np, .int 0, .int 0, .long 0, .int (-1), .int (-1)]))]) hD hS hA [1] rfl
    refine va_calli (va_runV (As := [.int tk]) (rest := []) ⟨hx, hb, hml, hown, hts⟩ (c_X6_has l dC dI no tk te nt nl ns np 0 H.size) (cwV 1 hts (gi_V (fun w_ h0_ => ⟨List.mem_cons_of_mem _ (List.mem_append_right _ (List.mem_append_right _ (List.mem_append_right _ (List.mem_append_left _ h0_)))), (tb_c_X6_has w_ h0_).2⟩) (List.mem_cons_of_mem _ (List.mem_append_left _ (List.mem_of_getElem? (i := 4) rfl))) (List.mem_cons_of_mem _ (List.mem_append_left _ (List.mem_of_getElem? (i := 5) rfl))) (List.mem_cons_of_mem _ (List.mem_append_left _ (List.mem_of_getElem? (i := 6) rfl))) (List.mem_cons_of_mem _ (List.mem_append_left _ (List.mem_of_getElem? (i := 7) rfl)))) rfl rfl rfl (by decide +kernel) ⟨Nat.le_of_ble_eq_true rfl, Nat.le_of_ble_eq_true rfl⟩) ⟨fun a U g mk q => by obtain ⟨q0, q1, qP, qK, qD⟩ := q; exact ⟨q0, q1, qP, va_K.moved (u := U) (U := U.calling g mk a) (Vm.Alike.refl U.vm) qK, qD⟩, va_recv hKc hPc (ci := 6) (q0 := 0) rfl rfl, fun U hU hW => ⟨rfl, by rw [hU], by rw [hU]; exact hPc, va_K.moved hW.alike hKc, hDc.weaken (fun _ _ _ _ => trivial)⟩⟩ rfl rfl hl.1 rfl (lv_room (Nat.le_of_ble_eq_true rfl)) dX11_weigh_21 ⟨Nat.le_of_ble_eq_true rfl, Nat.le_of_ble_eq_true rfl⟩) hS (fun q _ h => hFc q h) hFc (fun r_3 u t H1 locs ht hvm hw hB hz1 hk1 hS => ?_)
    obtain ⟨hP1, hK1, hD1⟩ := hB
    rw [ht] at hP1
    have hK1 := va_K.moved hvm.symm hK1
    obtain ⟨hP, hD⟩ := va_join (wr := [(h0, .inr (11, [.ref te, .ref ta, .ref re, .ref no, .ref pa, .ref ac, .ref op, .ref im, .ref ik, .ref hi, .ref rf, .int (-1)])), (rf, .inr (4, [.ref rc, .int 0])), (rc, .inl (ci2, 5, .inl (fun _ => 0)))]) (w1 := [(no, .inr (6, [.ref te, .ref nt, .ref nl, .ref ns, .ref np, .int 0, .int 0, .long 0, .int (-1), .int (-1)]))]) hP hD [1] [0, 2, 3] rfl rfl (by decide) (by decide) hk1 hFc hP1 hD1
    generalize H1 = H at hP hS ⊢
    have hP : va_P (dC, dI) vwCl [(h0, .inr (11, [.ref te, .ref ta, .ref re, .ref no, .ref pa, .ref ac, .ref op, .ref im, .ref ik, .ref hi, .ref rf, .int (-1)])), (rf, .inr (4, [.ref rc, .int 0])), (rc, .inl (ci2, 5, .inl (fun _ => 0))), (no, .inr (6, [.ref te, .ref nt, .ref nl, .ref ns, .ref np, .int 0, .int 0, .long 0, .int (-1), .int (-1)]))] H := hP
    have hD : va_D A [(h0, .inr (11, [.ref te, .ref ta, .ref re, .ref no, .ref pa, .ref ac, .ref op, .ref im, .ref ik, .ref hi, .ref rf, .int (-1)])), (rf, .inr (4, [.ref rc, .int 0])), (rc, .inl (ci2, 5, .inl (fun _ => 0))), (no, .inr (6, [.ref te, .ref nt, .ref nl, .ref ns, .ref np, .int 0, .int 0, .long 0, .int (-1), .int (-1)]))] := hD
    refine W.widen (k := 0) (n := 0) (Nat.le_of_ble_eq_true rfl) (Nat.le_of_ble_eq_true rfl) ?_
    have hw : r_3 = 0 := hw
    subst hw
    refine lv_if_ne (tgt := 37) hx hb dX11_weigh_24 (by decide) (fun c => absurd c (by decide)) (fun _ => ?_)
    refine lv_aload_n hx hb dX11_weigh_27 rfl (lv_at hl 0 rfl) ?_
    refine va_get (D := (dC, dI)) (ci := 11) (v := .ref rf) (C := RX11) (T := TX11) (N := 12) hx hb hts (fun _ h0_ => List.mem_cons_of_mem _ (List.mem_append_right _ (List.mem_append_right _ (List.mem_append_left _ h0_)))) hown hK hP 0 rfl rfl 10 (by decide) (hts (.fieldLink RX11 72 "DeadlineShare" "refusals" "LDeadlineShare$Refusals;") (List.mem_cons_of_mem _ (List.mem_append_left _ (List.mem_of_getElem? (i := 8) rfl)))) (fun _ h9 => h9) rfl dX11_weigh_28 ?_
    refine lv_bipush (v := (-2)) hx hb dX11_weigh_31 (by decide) ?_
    have hPc := hP.sub (ws' := [(rf, .inr (4, [.ref rc, .int 0])), (rc, .inl (ci2, 5, .inl (fun _ => 0)))]) [1, 2] rfl
    have hDc := hD.sub (ws' := [(rf, .inr (4, [.ref rc, .int 0])), (rc, .inl (ci2, 5, .inl (fun _ => 0)))]) [1, 2] (by decide) rfl
    have hKc := hK.sub (tys' := [(ci2, .int)]) [0] rfl
    have hFc := va_free (wc := [(rf, .inr (4, [.ref rc, .int 0])), (rc, .inl (ci2, 5, .inl (fun _ => 0)))]) hD hS hA [1, 2] rfl
    refine va_calli (va_runV (As := [.int (-2)]) (rest := []) ⟨hx, hb, hml, hown, hts⟩ (c_X4_add_2 l dC dI rf rc ci2 H.size) (cwV 1 hts (gi_V (fun w_ h0_ => ⟨List.mem_cons_of_mem _ (List.mem_append_right _ (List.mem_append_right _ (List.mem_append_right _ (List.mem_append_right _ (List.mem_append_left _ h0_))))), (tb_c_X4_add_2 w_ h0_).2⟩) (List.mem_cons_of_mem _ (List.mem_append_left _ (List.mem_of_getElem? (i := 9) rfl))) (List.mem_cons_of_mem _ (List.mem_append_left _ (List.mem_of_getElem? (i := 10) rfl))) (List.mem_cons_of_mem _ (List.mem_append_left _ (List.mem_of_getElem? (i := 11) rfl))) (List.mem_cons_of_mem _ (List.mem_append_left _ (List.mem_of_getElem? (i := 12) rfl)))) rfl rfl rfl (by decide +kernel) ⟨Nat.le_of_ble_eq_true rfl, Nat.le_of_ble_eq_true rfl⟩) ⟨fun a U g mk q => by obtain ⟨q0, q1, qP, qK, qD⟩ := q; exact ⟨q0, q1, qP, va_K.moved (u := U) (U := U.calling g mk a) (Vm.Alike.refl U.vm) qK, qD⟩, va_recv hKc hPc (ci := 4) (q0 := 0) rfl rfl, fun U hU hW => ⟨rfl, by rw [hU], by rw [hU]; exact hPc, va_K.moved hW.alike hKc, hDc.weaken (fun _ _ _ _ => trivial)⟩⟩ rfl rfl hl.1 rfl (lv_room (Nat.le_of_ble_eq_true rfl)) dX11_weigh_33 ⟨Nat.le_of_ble_eq_true rfl, Nat.le_of_ble_eq_true rfl⟩) hS (fun q _ h => hFc q h) hFc (fun r_4 u t H1 locs ht hvm hw hB hz1 hk1 hS => ?_)
    obtain ⟨hP1, hK1, hD1⟩ := hB
    rw [ht] at hP1
    have hK1 := va_K.moved hvm.symm hK1
    obtain ⟨hP, hD⟩ := va_join (wr := [(h0, .inr (11, [.ref te, .ref ta, .ref re, .ref no, .ref pa, .ref ac, .ref op, .ref im, .ref ik, .ref hi, .ref rf, .int (-1)])), (no, .inr (6, [.ref te, .ref nt, .ref nl, .ref ns, .ref np, .int 0, .int 0, .long 0, .int (-1), .int (-1)]))]) (w1 := []) hP hD [1, 2] [0, 3] rfl rfl (by decide) (by decide) hk1 hFc hP1 hD1
    generalize H1 = H at hP hS ⊢
    have hP : va_P (dC, dI) vwCl [(h0, .inr (11, [.ref te, .ref ta, .ref re, .ref no, .ref pa, .ref ac, .ref op, .ref im, .ref ik, .ref hi, .ref rf, .int (-1)])), (no, .inr (6, [.ref te, .ref nt, .ref nl, .ref ns, .ref np, .int 0, .int 0, .long 0, .int (-1), .int (-1)]))] H := hP
    have hD : va_D A [(h0, .inr (11, [.ref te, .ref ta, .ref re, .ref no, .ref pa, .ref ac, .ref op, .ref im, .ref ik, .ref hi, .ref rf, .int (-1)])), (no, .inr (6, [.ref te, .ref nt, .ref nl, .ref ns, .ref np, .int 0, .int 0, .long 0, .int (-1), .int (-1)]))] := hD
    refine W.widen (k := 0) (n := 0) (Nat.le_of_ble_eq_true rfl) (Nat.le_of_ble_eq_true rfl) ?_
    have hw : r_4 = (-2) := hw
    subst hw
    have hP9 := hP.sub (ws' := []) [] rfl
    have hD9 := hD.sub (ws' := []) [] (by decide) rfl
    have hK9 := hK.sub (tys' := []) [] rfl
    refine W.widen (k := 0) (n := 0) (Nat.le_of_ble_eq_true rfl) (Nat.le_of_ble_eq_true rfl) ?_
    exact W.iret (v := (-2)) hx hb hr (fun t ht hW => ⟨⟨(-2), (), rfl, (by have z0 := (sp_r1 _ _ _).mp c_2; unfold sp_one; (repeat' split) <;> first | rfl | omega | (refine Int32.toInt_inj.mp ?_; omega)), by rw [ht]; exact hP9, va_K.moved hW.alike hK9, hD9⟩, hS.F ht⟩) hS.2.2 dX11_weigh_36
  · have c_2 := not_not_intro c_2
    refine lv_aload_n hx hb dX11_weigh_7 rfl (lv_at hl 0 rfl) ?_
    refine va_get (D := (dC, dI)) (ci := 11) (v := .ref rf) (C := RX11) (T := TX11) (N := 12) hx hb hts (fun _ h0_ => List.mem_cons_of_mem _ (List.mem_append_right _ (List.mem_append_right _ (List.mem_append_left _ h0_)))) hown hK hP 0 rfl rfl 10 (by decide) (hts (.fieldLink RX11 72 "DeadlineShare" "refusals" "LDeadlineShare$Refusals;") (List.mem_cons_of_mem _ (List.mem_append_left _ (List.mem_of_getElem? (i := 8) rfl)))) (fun _ h9 => h9) rfl dX11_weigh_8 ?_
    refine lv_iconst (v := (-1)) hx hb dX11_weigh_11 (by decide) ?_
    have hPc := hP.sub (ws' := [(rf, .inr (4, [.ref rc, .int 0])), (rc, .inl (ci2, 5, .inl (fun _ => 0)))]) [2, 3] rfl
    have hDc := hD.sub (ws' := [(rf, .inr (4, [.ref rc, .int 0])), (rc, .inl (ci2, 5, .inl (fun _ => 0)))]) [2, 3] (by decide) rfl
    have hKc := hK.sub (tys' := [(ci2, .int)]) [0] rfl
    have hFc := va_free (wc := [(rf, .inr (4, [.ref rc, .int 0])), (rc, .inl (ci2, 5, .inl (fun _ => 0)))]) hD hS hA [2, 3] rfl
    refine va_calli (va_runV (As := [.int (-1)]) (rest := []) ⟨hx, hb, hml, hown, hts⟩ (c_X4_add_1 l dC dI rf rc ci2 H.size) (cwV 1 hts (gi_V (fun w_ h0_ => ⟨List.mem_cons_of_mem _ (List.mem_append_right _ (List.mem_append_right _ (List.mem_append_right _ (List.mem_append_right _ (List.mem_append_right _ (List.mem_append_left _ h0_)))))), (tb_c_X4_add_1 w_ h0_).2⟩) (List.mem_cons_of_mem _ (List.mem_append_left _ (List.mem_of_getElem? (i := 9) rfl))) (List.mem_cons_of_mem _ (List.mem_append_left _ (List.mem_of_getElem? (i := 10) rfl))) (List.mem_cons_of_mem _ (List.mem_append_left _ (List.mem_of_getElem? (i := 11) rfl))) (List.mem_cons_of_mem _ (List.mem_append_left _ (List.mem_of_getElem? (i := 12) rfl)))) rfl rfl rfl (by decide +kernel) ⟨Nat.le_of_ble_eq_true rfl, Nat.le_of_ble_eq_true rfl⟩) ⟨fun a U g mk q => by obtain ⟨q0, q1, qP, qK, qD⟩ := q; exact ⟨q0, q1, qP, va_K.moved (u := U) (U := U.calling g mk a) (Vm.Alike.refl U.vm) qK, qD⟩, va_recv hKc hPc (ci := 4) (q0 := 0) rfl rfl, fun U hU hW => ⟨rfl, by rw [hU], by rw [hU]; exact hPc, va_K.moved hW.alike hKc, hDc.weaken (fun _ _ _ _ => trivial)⟩⟩ rfl rfl hl.1 rfl (lv_room (Nat.le_of_ble_eq_true rfl)) dX11_weigh_12 ⟨Nat.le_of_ble_eq_true rfl, Nat.le_of_ble_eq_true rfl⟩) hS (fun q _ h => hFc q h) hFc (fun r_5 u t H1 locs ht hvm hw hB hz1 hk1 hS => ?_)
    obtain ⟨hP1, hK1, hD1⟩ := hB
    rw [ht] at hP1
    have hK1 := va_K.moved hvm.symm hK1
    obtain ⟨hP, hD⟩ := va_join (wr := [(h0, .inr (11, [.ref te, .ref ta, .ref re, .ref no, .ref pa, .ref ac, .ref op, .ref im, .ref ik, .ref hi, .ref rf, .int (-1)])), (no, .inr (6, [.ref te, .ref nt, .ref nl, .ref ns, .ref np, .int 0, .int 0, .long 0, .int (-1), .int (-1)]))]) (w1 := []) hP hD [2, 3] [0, 1] rfl rfl (by decide) (by decide) hk1 hFc hP1 hD1
    generalize H1 = H at hP hS ⊢
    have hP : va_P (dC, dI) vwCl [(h0, .inr (11, [.ref te, .ref ta, .ref re, .ref no, .ref pa, .ref ac, .ref op, .ref im, .ref ik, .ref hi, .ref rf, .int (-1)])), (no, .inr (6, [.ref te, .ref nt, .ref nl, .ref ns, .ref np, .int 0, .int 0, .long 0, .int (-1), .int (-1)]))] H := hP
    have hD : va_D A [(h0, .inr (11, [.ref te, .ref ta, .ref re, .ref no, .ref pa, .ref ac, .ref op, .ref im, .ref ik, .ref hi, .ref rf, .int (-1)])), (no, .inr (6, [.ref te, .ref nt, .ref nl, .ref ns, .ref np, .int 0, .int 0, .long 0, .int (-1), .int (-1)]))] := hD
    refine W.widen (k := 0) (n := 0) (Nat.le_of_ble_eq_true rfl) (Nat.le_of_ble_eq_true rfl) ?_
    have hw : r_5 = (-1) := hw
    subst hw
    have hP9 := hP.sub (ws' := []) [] rfl
    have hD9 := hD.sub (ws' := []) [] (by decide) rfl
    have hK9 := hK.sub (tys' := []) [] rfl
    refine W.widen (k := 0) (n := 0) (Nat.le_of_ble_eq_true rfl) (Nat.le_of_ble_eq_true rfl) ?_
    exact W.iret (v := (-1)) hx hb hr (fun t ht hW => ⟨⟨(-1), (), rfl, (by have z0 := (sp_r0 _ _ _).mp (Classical.not_not.mp c_2); unfold sp_one; (repeat' split) <;> first | rfl | omega | (refine Int32.toInt_inj.mp ?_; omega)), by rw [ht]; exact hP9, va_K.moved hW.alike hK9, hD9⟩, hS.F ht⟩) hS.2.2 dX11_weigh_15
def ow_c_X11_slice : List Cond := [.methodLink RX11 116 yX11_isSlice, .static yX11_isSlice, .initialized RX11, .fieldLink RX11 37 "DeadlineShare" "now" "LDeadlineShare$State;", .methodLink RX11 130 yX6_has, .instanceMethod yX6_has, .selects RX6 yX6_has yX6_has, .initialized RX6, .fieldLink RX11 72 "DeadlineShare" "refusals" "LDeadlineShare$Refusals;", .methodLink RX11 84 yX4_add, .instanceMethod yX4_add, .selects RX4 yX4_add yX4_add, .initialized RX4]
def wq_c_X11_slice : List Cond := .code yX11_slice cX11_slice 5 (some .int) :: (ow_c_X11_slice ++ (wq_c_X11_isSlice ++ (u_ws RX11 TX11 12 ++ (wq_c_X6_has ++ (wq_c_X4_add_2 ++ (wq_c_X4_add_1 ++ ([] : List Cond)))))))
theorem tb_c_X11_slice : ∀ w ∈ wq_c_X11_slice, q_g w := by
  unfold wq_c_X11_slice ow_c_X11_slice
  exact q_cons tw_335 (q_app (q_cons tw_323 (q_cons tw_322 (q_cons tw_324 (q_cons tw_101 (q_cons tw_328 (q_cons tw_205 (q_cons tw_204 (q_cons tw_72 (q_cons tw_80 (q_cons tw_280 (q_cons tw_279 (q_cons tw_278 (q_cons tw_1 q_nil))))))))))))) (q_app tb_c_X11_isSlice (q_app tu_X11 (q_app tb_c_X6_has (q_app tb_c_X4_add_2 (q_app tb_c_X4_add_1 q_nil))))))
set_option maxHeartbeats 4000000 in
set_option maxRecDepth 100000 in
theorem c_X11_slice (l : Launch) (dC : Nat → ClassId) (dI : Nat → Nat → Nat) (h0 : Nat) (tk : Int32) (sl : Int32) (te : Nat) (ta : Nat) (re : Nat) (no : Nat) (pa : Nat) (ac : Nat) (op : Nat) (im : Nat) (ik : Nat) (hi : Nat) (rf : Nat) (nt : Nat) (nl : Nat) (ns : Nat) (np : Nat) (rc : Nat) (ci2 : ClassId) (sz : Nat) : Met l yX11_slice wq_c_X11_slice ({ frames := 2, cells := 0, slots := 0, locals := 41 } : Room) (va_Pc [.ref h0, .int tk, .int sl] (fun U => U.heap.size = sz ∧ va_P (dC, dI) vwCl [(h0, .inr (11, [.ref te, .ref ta, .ref re, .ref no, .ref pa, .ref ac, .ref op, .ref im, .ref ik, .ref hi, .ref rf, .int (-1)])), (no, .inr (6, [.ref te, .ref nt, .ref nl, .ref ns, .ref np, .int 0, .int 0, .long 0, .int (-1), .int (-1)])), (rf, .inr (4, [.ref rc, .int 0])), (rc, .inl (ci2, 5, .inl (fun _ => 0)))] U.heap ∧ va_K (dC, dI) vwCl [(ci2, .int)] U ∧ va_D (fun _ => True) [(h0, .inr (11, [.ref te, .ref ta, .ref re, .ref no, .ref pa, .ref ac, .ref op, .ref im, .ref ik, .ref hi, .ref rf, .int (-1)])), (no, .inr (6, [.ref te, .ref nt, .ref nl, .ref ns, .ref np, .int 0, .int 0, .long 0, .int (-1), .int (-1)])), (rf, .inr (4, [.ref rc, .int 0])), (rc, .inl (ci2, 5, .inl (fun _ => 0)))])) (va_Qi (fun (r : Int32) (_ : Unit) => r = sp_one sl 1 20 (-2)) (fun (_ : Unit) t => va_P (dC, dI) vwCl [] t.heap ∧ va_K (dC, dI) vwCl [] t ∧ va_D (va_A [(h0, .inr (11, [.ref te, .ref ta, .ref re, .ref no, .ref pa, .ref ac, .ref op, .ref im, .ref ik, .ref hi, .ref rf, .int (-1)])), (no, .inr (6, [.ref te, .ref nt, .ref nl, .ref ns, .ref np, .int 0, .int 0, .long 0, .int (-1), .int (-1)])), (rf, .inr (4, [.ref rc, .int 0])), (rc, .inl (ci2, 5, .inl (fun _ => 0)))] sz) []) (va_A [(h0, .inr (11, [.ref te, .ref ta, .ref re, .ref no, .ref pa, .ref ac, .ref op, .ref im, .ref ik, .ref hi, .ref rf, .int (-1)])), (no, .inr (6, [.ref te, .ref nt, .ref nl, .ref ns, .ref np, .int 0, .int 0, .long 0, .int (-1), .int (-1)])), (rf, .inr (4, [.ref rc, .int 0])), (rc, .inl (ci2, 5, .inl (fun _ => 0)))] sz)) 0 0 (va_A [(h0, .inr (11, [.ref te, .ref ta, .ref re, .ref no, .ref pa, .ref ac, .ref op, .ref im, .ref ik, .ref hi, .ref rf, .int (-1)])), (no, .inr (6, [.ref te, .ref nt, .ref nl, .ref ns, .ref np, .int 0, .int 0, .long 0, .int (-1), .int (-1)])), (rf, .inr (4, [.ref rc, .int 0])), (rc, .inl (ci2, 5, .inl (fun _ => 0)))] sz) := by
  refine Met.ofW (cc := cX11_slice) (maxL := 5) (ret := (some .int)) (by decide) rfl ?_
  intro p e s m args below meth c s₁ B hml hv
  obtain ⟨rfl, hsz, hP, hK, hD0⟩ := hv
  have hx := B.exec
  have hb := B.bytes
  have hr := B.returns
  have hts := atoms_spec (ws := wq_c_X11_slice) B.pre
  have hown : s.vm.findClass RX11 = some m.cls := findClass_of_methodNamed B.named
  have hlocks := B.notSynchronized
  subst hsz
  have hD := hD0.self (sz := s.heap.size)
  obtain ⟨A, hAe⟩ : ∃ A, A = va_A [(h0, .inr (11, [.ref te, .ref ta, .ref re, .ref no, .ref pa, .ref ac, .ref op, .ref im, .ref ik, .ref hi, .ref rf, .int (-1)])), (no, .inr (6, [.ref te, .ref nt, .ref nl, .ref ns, .ref np, .int 0, .int 0, .long 0, .int (-1), .int (-1)])), (rf, .inr (4, [.ref rc, .int 0])), (rc, .inl (ci2, 5, .inl (fun _ => 0)))] s.heap.size := ⟨_, rfl⟩
  rw [← hAe] at hD ⊢
  have hA : ∀ q : Nat, s.heap.size ≤ q → A q := fun q h => by rw [hAe]; exact Or.inr h
  have hS : va_S A s.heap s.heap [] := va_S.rf
  have hP : va_P (dC, dI) vwCl [(h0, .inr (11, [.ref te, .ref ta, .ref re, .ref no, .ref pa, .ref ac, .ref op, .ref im, .ref ik, .ref hi, .ref rf, .int (-1)])), (no, .inr (6, [.ref te, .ref nt, .ref nl, .ref ns, .ref np, .int 0, .int 0, .long 0, .int (-1), .int (-1)])), (rf, .inr (4, [.ref rc, .int 0])), (rc, .inl (ci2, 5, .inl (fun _ => 0)))] s.heap := hP
  have hl := lv_entry ([.ref h0, .int tk, .int sl]) (n := 5) (Nat.le_of_ble_eq_true rfl)
  rw [lg_entry_eq]
  generalize (lg_sl ([.ref h0, .int tk, .int sl]) ++ List.replicate (5 - (lg_sl ([.ref h0, .int tk, .int sl])).length) Slot.unset).toArray = ls at hl ⊢
  have hl : lv_has ls 5 [(0, .ref h0), (1, .int tk), (2, .int sl)] := hl
  refine lv_iload_n hx hb dX11_slice_0 rfl (lv_at hl 2 rfl) ?_
  have hPc := hP.sub (ws' := []) [] rfl
  have hDc := hD.sub (ws' := []) [] (by decide) rfl
  have hKc := hK.sub (tys' := []) [] rfl
  have hFc := va_free (wc := []) hD hS hA [] rfl
  refine va_calli (va_runS (As := [.int sl]) (rest := []) ⟨hx, hb, hml, hown, hts⟩ (c_X11_isSlice l dC dI sl s.heap.size) (va_cwS 1 hts (gi_S (fun w_ h0_ => ⟨List.mem_cons_of_mem _ (List.mem_append_right _ (List.mem_append_left _ h0_)), (tb_c_X11_isSlice w_ h0_).2⟩) (List.mem_cons_of_mem _ (List.mem_append_left _ (List.mem_of_getElem? (i := 0) rfl))) (List.mem_cons_of_mem _ (List.mem_append_left _ (List.mem_of_getElem? (i := 1) rfl))) (List.mem_cons_of_mem _ (List.mem_append_left _ (List.mem_of_getElem? (i := 2) rfl)))) rfl rfl rfl (by decide +kernel) ⟨Nat.le_of_ble_eq_true rfl, Nat.le_of_ble_eq_true rfl⟩) ⟨fun a U g mk q => by obtain ⟨q0, q1, qP, qK, qD⟩ := q; exact ⟨q0, q1, qP, va_K.moved (u := U) (U := U.calling g mk a) (Vm.Alike.refl U.vm) qK, qD⟩, fun U hU hW => ⟨rfl, by rw [hU], by rw [hU]; exact hPc, va_K.moved hW.alike hKc, hDc.weaken (fun _ _ _ _ => trivial)⟩⟩ rfl rfl hl.1 rfl (lv_room (Nat.le_of_ble_eq_true rfl)) dX11_slice_1 ⟨Nat.le_of_ble_eq_true rfl, Nat.le_of_ble_eq_true rfl⟩) hS (fun q _ h => hFc q h) hFc (fun r_1 u t H1 locs ht hvm hw hB hz1 hk1 hS => ?_)
  obtain ⟨hP1, hK1, hD1⟩ := hB
  rw [ht] at hP1
  have hK1 := va_K.moved hvm.symm hK1
  obtain ⟨hP, hD⟩ := va_join (wr := [(h0, .inr (11, [.ref te, .ref ta, .ref re, .ref no, .ref pa, .ref ac, .ref op, .ref im, .ref ik, .ref hi, .ref rf, .int (-1)])), (no, .inr (6, [.ref te, .ref nt, .ref nl, .ref ns, .ref np, .int 0, .int 0, .long 0, .int (-1), .int (-1)])), (rf, .inr (4, [.ref rc, .int 0])), (rc, .inl (ci2, 5, .inl (fun _ => 0)))]) (w1 := []) hP hD [] [0, 1, 2, 3] rfl rfl (by decide) (by decide) hk1 hFc hP1 hD1
  generalize H1 = H at hP hS ⊢
  have hP : va_P (dC, dI) vwCl [(h0, .inr (11, [.ref te, .ref ta, .ref re, .ref no, .ref pa, .ref ac, .ref op, .ref im, .ref ik, .ref hi, .ref rf, .int (-1)])), (no, .inr (6, [.ref te, .ref nt, .ref nl, .ref ns, .ref np, .int 0, .int 0, .long 0, .int (-1), .int (-1)])), (rf, .inr (4, [.ref rc, .int 0])), (rc, .inl (ci2, 5, .inl (fun _ => 0)))] H := hP
  have hD : va_D A [(h0, .inr (11, [.ref te, .ref ta, .ref re, .ref no, .ref pa, .ref ac, .ref op, .ref im, .ref ik, .ref hi, .ref rf, .int (-1)])), (no, .inr (6, [.ref te, .ref nt, .ref nl, .ref ns, .ref np, .int 0, .int 0, .long 0, .int (-1), .int (-1)])), (rf, .inr (4, [.ref rc, .int 0])), (rc, .inl (ci2, 5, .inl (fun _ => 0)))] := hD
  refine W.widen (k := 0) (n := 0) (Nat.le_of_ble_eq_true rfl) (Nat.le_of_ble_eq_true rfl) ?_
  have hw : r_1 = sp_r sl 1 20 := hw
  subst hw
  refine lv_if_ne (tgt := 16) hx hb dX11_slice_4 (by decide) (fun c_2 => ?_) (fun c_2 => ?_)
  · refine lv_aload_n hx hb dX11_slice_16 rfl (lv_at hl 0 rfl) ?_
    refine va_get (D := (dC, dI)) (ci := 11) (v := .ref no) (C := RX11) (T := TX11) (N := 12) hx hb hts (fun _ h0_ => List.mem_cons_of_mem _ (List.mem_append_right _ (List.mem_append_right _ (List.mem_append_left _ h0_)))) hown hK hP 0 rfl rfl 3 (by decide) (hts (.fieldLink RX11 37 "DeadlineShare" "now" "LDeadlineShare$State;") (List.mem_cons_of_mem _ (List.mem_append_left _ (List.mem_of_getElem? (i := 3) rfl)))) (fun _ h9 => h9) rfl dX11_slice_17 ?_
    refine lv_iload_n hx hb dX11_slice_20 rfl (lv_at hl 1 rfl) ?_
    have hPc := hP.sub (ws' := [(no, .inr (6, [.ref te, .ref nt, .ref nl, .ref ns, .ref np, .int 0, .int 0, .long 0, .int (-1), .int (-1)]))]) [1] rfl
    have hDc := hD.sub (ws' := [(no, .inr (6, [.ref te, .ref nt, .ref nl, .ref ns, .ref np, .int 0, .int 0, .long 0, .int (-1), .int (-1)]))]) [1] (by decide) rfl
    have hKc := hK.sub (tys' := []) [] rfl
    have hFc := va_free (wc := [(no, .inr (6, [.ref te, .ref nt, .ref nl, .ref ns, .ref np, .int 0, .int 0, .long 0, .int (-1), .int (-1)]))]) hD hS hA [1] rfl
    refine va_calli (va_runV (As := [.int tk]) (rest := []) ⟨hx, hb, hml, hown, hts⟩ (c_X6_has l dC dI no tk te nt nl ns np 0 H.size) (cwV 1 hts (gi_V (fun w_ h0_ => ⟨List.mem_cons_of_mem _ (List.mem_append_right _ (List.mem_append_right _ (List.mem_append_right _ (List.mem_append_left _ h0_)))), (tb_c_X6_has w_ h0_).2⟩) (List.mem_cons_of_mem _ (List.mem_append_left _ (List.mem_of_getElem? (i := 4) rfl))) (List.mem_cons_of_mem _ (List.mem_append_left _ (List.mem_of_getElem? (i := 5) rfl))) (List.mem_cons_of_mem _ (List.mem_append_left _ (List.mem_of_getElem? (i := 6) rfl))) (List.mem_cons_of_mem _ (List.mem_append_left _ (List.mem_of_getElem? (i := 7) rfl)))) rfl rfl rfl (by decide +kernel) ⟨Nat.le_of_ble_eq_true rfl, Nat.le_of_ble_eq_true rfl⟩) ⟨fun a U g mk q => by obtain ⟨q0, q1, qP, qK, qD⟩ := q; exact ⟨q0, q1, qP, va_K.moved (u := U) (U := U.calling g mk a) (Vm.Alike.refl U.vm) qK, qD⟩, va_recv hKc hPc (ci := 6) (q0 := 0) rfl rfl, fun U hU hW => ⟨rfl, by rw [hU], by rw [hU]; exact hPc, va_K.moved hW.alike hKc, hDc.weaken (fun _ _ _ _ => trivial)⟩⟩ rfl rfl hl.1 rfl (lv_room (Nat.le_of_ble_eq_true rfl)) dX11_slice_21 ⟨Nat.le_of_ble_eq_true rfl, Nat.le_of_ble_eq_true rfl⟩) hS (fun q _ h => hFc q h) hFc (fun r_3 u t H1 locs ht hvm hw hB hz1 hk1 hS => ?_)
    obtain ⟨hP1, hK1, hD1⟩ := hB
    rw [ht] at hP1
    have hK1 := va_K.moved hvm.symm hK1
    obtain ⟨hP, hD⟩ := va_join (wr := [(h0, .inr (11, [.ref te, .ref ta, .ref re, .ref no, .ref pa, .ref ac, .ref op, .ref im, .ref ik, .ref hi, .ref rf, .int (-1)])), (rf, .inr (4, [.ref rc, .int 0])), (rc, .inl (ci2, 5, .inl (fun _ => 0)))]) (w1 := [(no, .inr (6, [.ref te, .ref nt, .ref nl, .ref ns, .ref np, .int 0, .int 0, .long 0, .int (-1), .int (-1)]))]) hP hD [1] [0, 2, 3] rfl rfl (by decide) (by decide) hk1 hFc hP1 hD1
    generalize H1 = H at hP hS ⊢
    have hP : va_P (dC, dI) vwCl [(h0, .inr (11, [.ref te, .ref ta, .ref re, .ref no, .ref pa, .ref ac, .ref op, .ref im, .ref ik, .ref hi, .ref rf, .int (-1)])), (rf, .inr (4, [.ref rc, .int 0])), (rc, .inl (ci2, 5, .inl (fun _ => 0))), (no, .inr (6, [.ref te, .ref nt, .ref nl, .ref ns, .ref np, .int 0, .int 0, .long 0, .int (-1), .int (-1)]))] H := hP
    have hD : va_D A [(h0, .inr (11, [.ref te, .ref ta, .ref re, .ref no, .ref pa, .ref ac, .ref op, .ref im, .ref ik, .ref hi, .ref rf, .int (-1)])), (rf, .inr (4, [.ref rc, .int 0])), (rc, .inl (ci2, 5, .inl (fun _ => 0))), (no, .inr (6, [.ref te, .ref nt, .ref nl, .ref ns, .ref np, .int 0, .int 0, .long 0, .int (-1), .int (-1)]))] := hD
    refine W.widen (k := 0) (n := 0) (Nat.le_of_ble_eq_true rfl) (Nat.le_of_ble_eq_true rfl) ?_
    have hw : r_3 = 0 := hw
    subst hw
    refine lv_if_ne (tgt := 37) hx hb dX11_slice_24 (by decide) (fun c => absurd c (by decide)) (fun _ => ?_)
    refine lv_aload_n hx hb dX11_slice_27 rfl (lv_at hl 0 rfl) ?_
    refine va_get (D := (dC, dI)) (ci := 11) (v := .ref rf) (C := RX11) (T := TX11) (N := 12) hx hb hts (fun _ h0_ => List.mem_cons_of_mem _ (List.mem_append_right _ (List.mem_append_right _ (List.mem_append_left _ h0_)))) hown hK hP 0 rfl rfl 10 (by decide) (hts (.fieldLink RX11 72 "DeadlineShare" "refusals" "LDeadlineShare$Refusals;") (List.mem_cons_of_mem _ (List.mem_append_left _ (List.mem_of_getElem? (i := 8) rfl)))) (fun _ h9 => h9) rfl dX11_slice_28 ?_
    refine lv_bipush (v := (-2)) hx hb dX11_slice_31 (by decide) ?_
    have hPc := hP.sub (ws' := [(rf, .inr (4, [.ref rc, .int 0])), (rc, .inl (ci2, 5, .inl (fun _ => 0)))]) [1, 2] rfl
    have hDc := hD.sub (ws' := [(rf, .inr (4, [.ref rc, .int 0])), (rc, .inl (ci2, 5, .inl (fun _ => 0)))]) [1, 2] (by decide) rfl
    have hKc := hK.sub (tys' := [(ci2, .int)]) [0] rfl
    have hFc := va_free (wc := [(rf, .inr (4, [.ref rc, .int 0])), (rc, .inl (ci2, 5, .inl (fun _ => 0)))]) hD hS hA [1, 2] rfl
    refine va_calli (va_runV (As := [.int (-2)]) (rest := []) ⟨hx, hb, hml, hown, hts⟩ (c_X4_add_2 l dC dI rf rc ci2 H.size) (cwV 1 hts (gi_V (fun w_ h0_ => ⟨List.mem_cons_of_mem _ (List.mem_append_right _ (List.mem_append_right _ (List.mem_append_right _ (List.mem_append_right _ (List.mem_append_left _ h0_))))), (tb_c_X4_add_2 w_ h0_).2⟩) (List.mem_cons_of_mem _ (List.mem_append_left _ (List.mem_of_getElem? (i := 9) rfl))) (List.mem_cons_of_mem _ (List.mem_append_left _ (List.mem_of_getElem? (i := 10) rfl))) (List.mem_cons_of_mem _ (List.mem_append_left _ (List.mem_of_getElem? (i := 11) rfl))) (List.mem_cons_of_mem _ (List.mem_append_left _ (List.mem_of_getElem? (i := 12) rfl)))) rfl rfl rfl (by decide +kernel) ⟨Nat.le_of_ble_eq_true rfl, Nat.le_of_ble_eq_true rfl⟩) ⟨fun a U g mk q => by obtain ⟨q0, q1, qP, qK, qD⟩ := q; exact ⟨q0, q1, qP, va_K.moved (u := U) (U := U.calling g mk a) (Vm.Alike.refl U.vm) qK, qD⟩, va_recv hKc hPc (ci := 4) (q0 := 0) rfl rfl, fun U hU hW => ⟨rfl, by rw [hU], by rw [hU]; exact hPc, va_K.moved hW.alike hKc, hDc.weaken (fun _ _ _ _ => trivial)⟩⟩ rfl rfl hl.1 rfl (lv_room (Nat.le_of_ble_eq_true rfl)) dX11_slice_33 ⟨Nat.le_of_ble_eq_true rfl, Nat.le_of_ble_eq_true rfl⟩) hS (fun q _ h => hFc q h) hFc (fun r_4 u t H1 locs ht hvm hw hB hz1 hk1 hS => ?_)
    obtain ⟨hP1, hK1, hD1⟩ := hB
    rw [ht] at hP1
    have hK1 := va_K.moved hvm.symm hK1
    obtain ⟨hP, hD⟩ := va_join (wr := [(h0, .inr (11, [.ref te, .ref ta, .ref re, .ref no, .ref pa, .ref ac, .ref op, .ref im, .ref ik, .ref hi, .ref rf, .int (-1)])), (no, .inr (6, [.ref te, .ref nt, .ref nl, .ref ns, .ref np, .int 0, .int 0, .long 0, .int (-1), .int (-1)]))]) (w1 := []) hP hD [1, 2] [0, 3] rfl rfl (by decide) (by decide) hk1 hFc hP1 hD1
    generalize H1 = H at hP hS ⊢
    have hP : va_P (dC, dI) vwCl [(h0, .inr (11, [.ref te, .ref ta, .ref re, .ref no, .ref pa, .ref ac, .ref op, .ref im, .ref ik, .ref hi, .ref rf, .int (-1)])), (no, .inr (6, [.ref te, .ref nt, .ref nl, .ref ns, .ref np, .int 0, .int 0, .long 0, .int (-1), .int (-1)]))] H := hP
    have hD : va_D A [(h0, .inr (11, [.ref te, .ref ta, .ref re, .ref no, .ref pa, .ref ac, .ref op, .ref im, .ref ik, .ref hi, .ref rf, .int (-1)])), (no, .inr (6, [.ref te, .ref nt, .ref nl, .ref ns, .ref np, .int 0, .int 0, .long 0, .int (-1), .int (-1)]))] := hD
    refine W.widen (k := 0) (n := 0) (Nat.le_of_ble_eq_true rfl) (Nat.le_of_ble_eq_true rfl) ?_
    have hw : r_4 = (-2) := hw
    subst hw
    have hP9 := hP.sub (ws' := []) [] rfl
    have hD9 := hD.sub (ws' := []) [] (by decide) rfl
    have hK9 := hK.sub (tys' := []) [] rfl
    refine W.widen (k := 0) (n := 0) (Nat.le_of_ble_eq_true rfl) (Nat.le_of_ble_eq_true rfl) ?_
    exact W.iret (v := (-2)) hx hb hr (fun t ht hW => ⟨⟨(-2), (), rfl, (by have z0 := (sp_r1 _ _ _).mp c_2; unfold sp_one; (repeat' split) <;> first | rfl | omega | (refine Int32.toInt_inj.mp ?_; omega)), by rw [ht]; exact hP9, va_K.moved hW.alike hK9, hD9⟩, hS.F ht⟩) hS.2.2 dX11_slice_36
  · have c_2 := not_not_intro c_2
    refine lv_aload_n hx hb dX11_slice_7 rfl (lv_at hl 0 rfl) ?_
    refine va_get (D := (dC, dI)) (ci := 11) (v := .ref rf) (C := RX11) (T := TX11) (N := 12) hx hb hts (fun _ h0_ => List.mem_cons_of_mem _ (List.mem_append_right _ (List.mem_append_right _ (List.mem_append_left _ h0_)))) hown hK hP 0 rfl rfl 10 (by decide) (hts (.fieldLink RX11 72 "DeadlineShare" "refusals" "LDeadlineShare$Refusals;") (List.mem_cons_of_mem _ (List.mem_append_left _ (List.mem_of_getElem? (i := 8) rfl)))) (fun _ h9 => h9) rfl dX11_slice_8 ?_
    refine lv_iconst (v := (-1)) hx hb dX11_slice_11 (by decide) ?_
    have hPc := hP.sub (ws' := [(rf, .inr (4, [.ref rc, .int 0])), (rc, .inl (ci2, 5, .inl (fun _ => 0)))]) [2, 3] rfl
    have hDc := hD.sub (ws' := [(rf, .inr (4, [.ref rc, .int 0])), (rc, .inl (ci2, 5, .inl (fun _ => 0)))]) [2, 3] (by decide) rfl
    have hKc := hK.sub (tys' := [(ci2, .int)]) [0] rfl
    have hFc := va_free (wc := [(rf, .inr (4, [.ref rc, .int 0])), (rc, .inl (ci2, 5, .inl (fun _ => 0)))]) hD hS hA [2, 3] rfl
    refine va_calli (va_runV (As := [.int (-1)]) (rest := []) ⟨hx, hb, hml, hown, hts⟩ (c_X4_add_1 l dC dI rf rc ci2 H.size) (cwV 1 hts (gi_V (fun w_ h0_ => ⟨List.mem_cons_of_mem _ (List.mem_append_right _ (List.mem_append_right _ (List.mem_append_right _ (List.mem_append_right _ (List.mem_append_right _ (List.mem_append_left _ h0_)))))), (tb_c_X4_add_1 w_ h0_).2⟩) (List.mem_cons_of_mem _ (List.mem_append_left _ (List.mem_of_getElem? (i := 9) rfl))) (List.mem_cons_of_mem _ (List.mem_append_left _ (List.mem_of_getElem? (i := 10) rfl))) (List.mem_cons_of_mem _ (List.mem_append_left _ (List.mem_of_getElem? (i := 11) rfl))) (List.mem_cons_of_mem _ (List.mem_append_left _ (List.mem_of_getElem? (i := 12) rfl)))) rfl rfl rfl (by decide +kernel) ⟨Nat.le_of_ble_eq_true rfl, Nat.le_of_ble_eq_true rfl⟩) ⟨fun a U g mk q => by obtain ⟨q0, q1, qP, qK, qD⟩ := q; exact ⟨q0, q1, qP, va_K.moved (u := U) (U := U.calling g mk a) (Vm.Alike.refl U.vm) qK, qD⟩, va_recv hKc hPc (ci := 4) (q0 := 0) rfl rfl, fun U hU hW => ⟨rfl, by rw [hU], by rw [hU]; exact hPc, va_K.moved hW.alike hKc, hDc.weaken (fun _ _ _ _ => trivial)⟩⟩ rfl rfl hl.1 rfl (lv_room (Nat.le_of_ble_eq_true rfl)) dX11_slice_12 ⟨Nat.le_of_ble_eq_true rfl, Nat.le_of_ble_eq_true rfl⟩) hS (fun q _ h => hFc q h) hFc (fun r_5 u t H1 locs ht hvm hw hB hz1 hk1 hS => ?_)
    obtain ⟨hP1, hK1, hD1⟩ := hB
    rw [ht] at hP1
    have hK1 := va_K.moved hvm.symm hK1
    obtain ⟨hP, hD⟩ := va_join (wr := [(h0, .inr (11, [.ref te, .ref ta, .ref re, .ref no, .ref pa, .ref ac, .ref op, .ref im, .ref ik, .ref hi, .ref rf, .int (-1)])), (no, .inr (6, [.ref te, .ref nt, .ref nl, .ref ns, .ref np, .int 0, .int 0, .long 0, .int (-1), .int (-1)]))]) (w1 := []) hP hD [2, 3] [0, 1] rfl rfl (by decide) (by decide) hk1 hFc hP1 hD1
    generalize H1 = H at hP hS ⊢
    have hP : va_P (dC, dI) vwCl [(h0, .inr (11, [.ref te, .ref ta, .ref re, .ref no, .ref pa, .ref ac, .ref op, .ref im, .ref ik, .ref hi, .ref rf, .int (-1)])), (no, .inr (6, [.ref te, .ref nt, .ref nl, .ref ns, .ref np, .int 0, .int 0, .long 0, .int (-1), .int (-1)]))] H := hP
    have hD : va_D A [(h0, .inr (11, [.ref te, .ref ta, .ref re, .ref no, .ref pa, .ref ac, .ref op, .ref im, .ref ik, .ref hi, .ref rf, .int (-1)])), (no, .inr (6, [.ref te, .ref nt, .ref nl, .ref ns, .ref np, .int 0, .int 0, .long 0, .int (-1), .int (-1)]))] := hD
    refine W.widen (k := 0) (n := 0) (Nat.le_of_ble_eq_true rfl) (Nat.le_of_ble_eq_true rfl) ?_
    have hw : r_5 = (-1) := hw
    subst hw
    have hP9 := hP.sub (ws' := []) [] rfl
    have hD9 := hD.sub (ws' := []) [] (by decide) rfl
    have hK9 := hK.sub (tys' := []) [] rfl
    refine W.widen (k := 0) (n := 0) (Nat.le_of_ble_eq_true rfl) (Nat.le_of_ble_eq_true rfl) ?_
    exact W.iret (v := (-1)) hx hb hr (fun t ht hW => ⟨⟨(-1), (), rfl, (by have z0 := (sp_r0 _ _ _).mp (Classical.not_not.mp c_2); unfold sp_one; (repeat' split) <;> first | rfl | omega | (refine Int32.toInt_inj.mp ?_; omega)), by rw [ht]; exact hP9, va_K.moved hW.alike hK9, hD9⟩, hS.F ht⟩) hS.2.2 dX11_slice_15
def ow_c_X11_wish : List Cond := [.fieldLink RX11 72 "DeadlineShare" "refusals" "LDeadlineShare$Refusals;", .methodLink RX11 84 yX4_add, .instanceMethod yX4_add, .selects RX4 yX4_add yX4_add, .initialized RX4, .fieldLink RX11 37 "DeadlineShare" "now" "LDeadlineShare$State;", .methodLink RX11 130 yX6_has, .instanceMethod yX6_has, .selects RX6 yX6_has yX6_has, .initialized RX6]
def wq_c_X11_wish : List Cond := .code yX11_wish cX11_wish 4 (some .int) :: (ow_c_X11_wish ++ (u_ws RX11 TX11 12 ++ (wq_c_X4_add_1 ++ (wq_c_X6_has ++ (wq_c_X4_add_2 ++ ([] : List Cond))))))
theorem tb_c_X11_wish : ∀ w ∈ wq_c_X11_wish, q_g w := by
  unfold wq_c_X11_wish ow_c_X11_wish
  exact q_cons tw_336 (q_app (q_cons tw_80 (q_cons tw_280 (q_cons tw_279 (q_cons tw_278 (q_cons tw_1 (q_cons tw_101 (q_cons tw_328 (q_cons tw_205 (q_cons tw_204 (q_cons tw_72 q_nil)))))))))) (q_app tu_X11 (q_app tb_c_X4_add_1 (q_app tb_c_X6_has (q_app tb_c_X4_add_2 q_nil)))))
set_option maxHeartbeats 4000000 in
set_option maxRecDepth 100000 in
theorem c_X11_wish (l : Launch) (dC : Nat → ClassId) (dI : Nat → Nat → Nat) (h0 : Nat) (tk : Int32) (nw : Int32) (te : Nat) (ta : Nat) (re : Nat) (no : Nat) (pa : Nat) (ac : Nat) (op : Nat) (im : Nat) (ik : Nat) (hi : Nat) (rf : Nat) (nt : Nat) (nl : Nat) (ns : Nat) (np : Nat) (rc : Nat) (ci2 : ClassId) (sz : Nat) : Met l yX11_wish wq_c_X11_wish ({ frames := 2, cells := 0, slots := 0, locals := 41 } : Room) (va_Pc [.ref h0, .int tk, .int nw] (fun U => U.heap.size = sz ∧ va_P (dC, dI) vwCl [(h0, .inr (11, [.ref te, .ref ta, .ref re, .ref no, .ref pa, .ref ac, .ref op, .ref im, .ref ik, .ref hi, .ref rf, .int (-1)])), (no, .inr (6, [.ref te, .ref nt, .ref nl, .ref ns, .ref np, .int 0, .int 0, .long 0, .int (-1), .int (-1)])), (rf, .inr (4, [.ref rc, .int 0])), (rc, .inl (ci2, 5, .inl (fun _ => 0)))] U.heap ∧ va_K (dC, dI) vwCl [(ci2, .int)] U ∧ va_D (fun _ => True) [(h0, .inr (11, [.ref te, .ref ta, .ref re, .ref no, .ref pa, .ref ac, .ref op, .ref im, .ref ik, .ref hi, .ref rf, .int (-1)])), (no, .inr (6, [.ref te, .ref nt, .ref nl, .ref ns, .ref np, .int 0, .int 0, .long 0, .int (-1), .int (-1)])), (rf, .inr (4, [.ref rc, .int 0])), (rc, .inl (ci2, 5, .inl (fun _ => 0)))])) (va_Qi (fun (r : Int32) (_ : Unit) => r = sp_one nw 1 99 (-2)) (fun (_ : Unit) t => va_P (dC, dI) vwCl [] t.heap ∧ va_K (dC, dI) vwCl [] t ∧ va_D (va_A [(h0, .inr (11, [.ref te, .ref ta, .ref re, .ref no, .ref pa, .ref ac, .ref op, .ref im, .ref ik, .ref hi, .ref rf, .int (-1)])), (no, .inr (6, [.ref te, .ref nt, .ref nl, .ref ns, .ref np, .int 0, .int 0, .long 0, .int (-1), .int (-1)])), (rf, .inr (4, [.ref rc, .int 0])), (rc, .inl (ci2, 5, .inl (fun _ => 0)))] sz) []) (va_A [(h0, .inr (11, [.ref te, .ref ta, .ref re, .ref no, .ref pa, .ref ac, .ref op, .ref im, .ref ik, .ref hi, .ref rf, .int (-1)])), (no, .inr (6, [.ref te, .ref nt, .ref nl, .ref ns, .ref np, .int 0, .int 0, .long 0, .int (-1), .int (-1)])), (rf, .inr (4, [.ref rc, .int 0])), (rc, .inl (ci2, 5, .inl (fun _ => 0)))] sz)) 0 0 (va_A [(h0, .inr (11, [.ref te, .ref ta, .ref re, .ref no, .ref pa, .ref ac, .ref op, .ref im, .ref ik, .ref hi, .ref rf, .int (-1)])), (no, .inr (6, [.ref te, .ref nt, .ref nl, .ref ns, .ref np, .int 0, .int 0, .long 0, .int (-1), .int (-1)])), (rf, .inr (4, [.ref rc, .int 0])), (rc, .inl (ci2, 5, .inl (fun _ => 0)))] sz) := by
  refine Met.ofW (cc := cX11_wish) (maxL := 4) (ret := (some .int)) (by decide) rfl ?_
  intro p e s m args below meth c s₁ B hml hv
  obtain ⟨rfl, hsz, hP, hK, hD0⟩ := hv
  have hx := B.exec
  have hb := B.bytes
  have hr := B.returns
  have hts := atoms_spec (ws := wq_c_X11_wish) B.pre
  have hown : s.vm.findClass RX11 = some m.cls := findClass_of_methodNamed B.named
  have hlocks := B.notSynchronized
  subst hsz
  have hD := hD0.self (sz := s.heap.size)
  obtain ⟨A, hAe⟩ : ∃ A, A = va_A [(h0, .inr (11, [.ref te, .ref ta, .ref re, .ref no, .ref pa, .ref ac, .ref op, .ref im, .ref ik, .ref hi, .ref rf, .int (-1)])), (no, .inr (6, [.ref te, .ref nt, .ref nl, .ref ns, .ref np, .int 0, .int 0, .long 0, .int (-1), .int (-1)])), (rf, .inr (4, [.ref rc, .int 0])), (rc, .inl (ci2, 5, .inl (fun _ => 0)))] s.heap.size := ⟨_, rfl⟩
  rw [← hAe] at hD ⊢
  have hA : ∀ q : Nat, s.heap.size ≤ q → A q := fun q h => by rw [hAe]; exact Or.inr h
  have hS : va_S A s.heap s.heap [] := va_S.rf
  have hP : va_P (dC, dI) vwCl [(h0, .inr (11, [.ref te, .ref ta, .ref re, .ref no, .ref pa, .ref ac, .ref op, .ref im, .ref ik, .ref hi, .ref rf, .int (-1)])), (no, .inr (6, [.ref te, .ref nt, .ref nl, .ref ns, .ref np, .int 0, .int 0, .long 0, .int (-1), .int (-1)])), (rf, .inr (4, [.ref rc, .int 0])), (rc, .inl (ci2, 5, .inl (fun _ => 0)))] s.heap := hP
  have hl := lv_entry ([.ref h0, .int tk, .int nw]) (n := 4) (Nat.le_of_ble_eq_true rfl)
  rw [lg_entry_eq]
  generalize (lg_sl ([.ref h0, .int tk, .int nw]) ++ List.replicate (4 - (lg_sl ([.ref h0, .int tk, .int nw])).length) Slot.unset).toArray = ls at hl ⊢
  have hl : lv_has ls 4 [(0, .ref h0), (1, .int tk), (2, .int nw)] := hl
  refine lv_iload_n hx hb dX11_wish_0 rfl (lv_at hl 2 rfl) ?_
  refine lv_iconst (v := 1) hx hb dX11_wish_1 (by decide) ?_
  refine lv_icmp_lt (tgt := 11) hx hb dX11_wish_2 (by decide) (fun c_1 => ?_) (fun c_1 => ?_)
  · refine lv_aload_n hx hb dX11_wish_11 rfl (lv_at hl 0 rfl) ?_
    refine va_get (D := (dC, dI)) (ci := 11) (v := .ref rf) (C := RX11) (T := TX11) (N := 12) hx hb hts (fun _ h0_ => List.mem_cons_of_mem _ (List.mem_append_right _ (List.mem_append_left _ h0_))) hown hK hP 0 rfl rfl 10 (by decide) (hts (.fieldLink RX11 72 "DeadlineShare" "refusals" "LDeadlineShare$Refusals;") (List.mem_cons_of_mem _ (List.mem_append_left _ (List.mem_of_getElem? (i := 0) rfl)))) (fun _ h9 => h9) rfl dX11_wish_12 ?_
    refine lv_iconst (v := (-1)) hx hb dX11_wish_15 (by decide) ?_
    have hPc := hP.sub (ws' := [(rf, .inr (4, [.ref rc, .int 0])), (rc, .inl (ci2, 5, .inl (fun _ => 0)))]) [2, 3] rfl
    have hDc := hD.sub (ws' := [(rf, .inr (4, [.ref rc, .int 0])), (rc, .inl (ci2, 5, .inl (fun _ => 0)))]) [2, 3] (by decide) rfl
    have hKc := hK.sub (tys' := [(ci2, .int)]) [0] rfl
    have hFc := va_free (wc := [(rf, .inr (4, [.ref rc, .int 0])), (rc, .inl (ci2, 5, .inl (fun _ => 0)))]) hD hS hA [2, 3] rfl
    refine va_calli (va_runV (As := [.int (-1)]) (rest := []) ⟨hx, hb, hml, hown, hts⟩ (c_X4_add_1 l dC dI rf rc ci2 s.heap.size) (cwV 1 hts (gi_V (fun w_ h0_ => ⟨List.mem_cons_of_mem _ (List.mem_append_right _ (List.mem_append_right _ (List.mem_append_left _ h0_))), (tb_c_X4_add_1 w_ h0_).2⟩) (List.mem_cons_of_mem _ (List.mem_append_left _ (List.mem_of_getElem? (i := 1) rfl))) (List.mem_cons_of_mem _ (List.mem_append_left _ (List.mem_of_getElem? (i := 2) rfl))) (List.mem_cons_of_mem _ (List.mem_append_left _ (List.mem_of_getElem? (i := 3) rfl))) (List.mem_cons_of_mem _ (List.mem_append_left _ (List.mem_of_getElem? (i := 4) rfl)))) rfl rfl rfl (by decide +kernel) ⟨Nat.le_of_ble_eq_true rfl, Nat.le_of_ble_eq_true rfl⟩) ⟨fun a U g mk q => by obtain ⟨q0, q1, qP, qK, qD⟩ := q; exact ⟨q0, q1, qP, va_K.moved (u := U) (U := U.calling g mk a) (Vm.Alike.refl U.vm) qK, qD⟩, va_recv hKc hPc (ci := 4) (q0 := 0) rfl rfl, fun U hU hW => ⟨rfl, by rw [hU], by rw [hU]; exact hPc, va_K.moved hW.alike hKc, hDc.weaken (fun _ _ _ _ => trivial)⟩⟩ rfl rfl hl.1 rfl (lv_room (Nat.le_of_ble_eq_true rfl)) dX11_wish_16 ⟨Nat.le_of_ble_eq_true rfl, Nat.le_of_ble_eq_true rfl⟩) hS (fun q _ h => hFc q h) hFc (fun r_2 u t H1 locs ht hvm hw hB hz1 hk1 hS => ?_)
    obtain ⟨hP1, hK1, hD1⟩ := hB
    rw [ht] at hP1
    have hK1 := va_K.moved hvm.symm hK1
    obtain ⟨hP, hD⟩ := va_join (wr := [(h0, .inr (11, [.ref te, .ref ta, .ref re, .ref no, .ref pa, .ref ac, .ref op, .ref im, .ref ik, .ref hi, .ref rf, .int (-1)])), (no, .inr (6, [.ref te, .ref nt, .ref nl, .ref ns, .ref np, .int 0, .int 0, .long 0, .int (-1), .int (-1)]))]) (w1 := []) hP hD [2, 3] [0, 1] rfl rfl (by decide) (by decide) hk1 hFc hP1 hD1
    generalize H1 = H at hP hS ⊢
    have hP : va_P (dC, dI) vwCl [(h0, .inr (11, [.ref te, .ref ta, .ref re, .ref no, .ref pa, .ref ac, .ref op, .ref im, .ref ik, .ref hi, .ref rf, .int (-1)])), (no, .inr (6, [.ref te, .ref nt, .ref nl, .ref ns, .ref np, .int 0, .int 0, .long 0, .int (-1), .int (-1)]))] H := hP
    have hD : va_D A [(h0, .inr (11, [.ref te, .ref ta, .ref re, .ref no, .ref pa, .ref ac, .ref op, .ref im, .ref ik, .ref hi, .ref rf, .int (-1)])), (no, .inr (6, [.ref te, .ref nt, .ref nl, .ref ns, .ref np, .int 0, .int 0, .long 0, .int (-1), .int (-1)]))] := hD
    refine W.widen (k := 0) (n := 0) (Nat.le_of_ble_eq_true rfl) (Nat.le_of_ble_eq_true rfl) ?_
    have hw : r_2 = (-1) := hw
    subst hw
    have hP9 := hP.sub (ws' := []) [] rfl
    have hD9 := hD.sub (ws' := []) [] (by decide) rfl
    have hK9 := hK.sub (tys' := []) [] rfl
    refine W.widen (k := 0) (n := 0) (Nat.le_of_ble_eq_true rfl) (Nat.le_of_ble_eq_true rfl) ?_
    exact W.iret (v := (-1)) hx hb hr (fun t ht hW => ⟨⟨(-1), (), rfl, (by have z0 := (fa_lt _ _).mp c_1; have li1 : Int32.toInt 1 = 1 := (by decide); unfold sp_one; (repeat' split) <;> first | rfl | omega | (refine Int32.toInt_inj.mp ?_; omega)), by rw [ht]; exact hP9, va_K.moved hW.alike hK9, hD9⟩, hS.F ht⟩) hS.2.2 dX11_wish_19
  · refine lv_iload_n hx hb dX11_wish_5 rfl (lv_at hl 2 rfl) ?_
    refine lv_bipush (v := 99) hx hb dX11_wish_6 (by decide) ?_
    refine lv_icmp_le (tgt := 20) hx hb dX11_wish_8 (by decide) (fun c_3 => ?_) (fun c_3 => ?_)
    · refine lv_aload_n hx hb dX11_wish_20 rfl (lv_at hl 0 rfl) ?_
      refine va_get (D := (dC, dI)) (ci := 11) (v := .ref no) (C := RX11) (T := TX11) (N := 12) hx hb hts (fun _ h0_ => List.mem_cons_of_mem _ (List.mem_append_right _ (List.mem_append_left _ h0_))) hown hK hP 0 rfl rfl 3 (by decide) (hts (.fieldLink RX11 37 "DeadlineShare" "now" "LDeadlineShare$State;") (List.mem_cons_of_mem _ (List.mem_append_left _ (List.mem_of_getElem? (i := 5) rfl)))) (fun _ h9 => h9) rfl dX11_wish_21 ?_
      refine lv_iload_n hx hb dX11_wish_24 rfl (lv_at hl 1 rfl) ?_
      have hPc := hP.sub (ws' := [(no, .inr (6, [.ref te, .ref nt, .ref nl, .ref ns, .ref np, .int 0, .int 0, .long 0, .int (-1), .int (-1)]))]) [1] rfl
      have hDc := hD.sub (ws' := [(no, .inr (6, [.ref te, .ref nt, .ref nl, .ref ns, .ref np, .int 0, .int 0, .long 0, .int (-1), .int (-1)]))]) [1] (by decide) rfl
      have hKc := hK.sub (tys' := []) [] rfl
      have hFc := va_free (wc := [(no, .inr (6, [.ref te, .ref nt, .ref nl, .ref ns, .ref np, .int 0, .int 0, .long 0, .int (-1), .int (-1)]))]) hD hS hA [1] rfl
      refine va_calli (va_runV (As := [.int tk]) (rest := []) ⟨hx, hb, hml, hown, hts⟩ (c_X6_has l dC dI no tk te nt nl ns np 0 s.heap.size) (cwV 1 hts (gi_V (fun w_ h0_ => ⟨List.mem_cons_of_mem _ (List.mem_append_right _ (List.mem_append_right _ (List.mem_append_right _ (List.mem_append_left _ h0_)))), (tb_c_X6_has w_ h0_).2⟩) (List.mem_cons_of_mem _ (List.mem_append_left _ (List.mem_of_getElem? (i := 6) rfl))) (List.mem_cons_of_mem _ (List.mem_append_left _ (List.mem_of_getElem? (i := 7) rfl))) (List.mem_cons_of_mem _ (List.mem_append_left _ (List.mem_of_getElem? (i := 8) rfl))) (List.mem_cons_of_mem _ (List.mem_append_left _ (List.mem_of_getElem? (i := 9) rfl)))) rfl rfl rfl (by decide +kernel) ⟨Nat.le_of_ble_eq_true rfl, Nat.le_of_ble_eq_true rfl⟩) ⟨fun a U g mk q => by obtain ⟨q0, q1, qP, qK, qD⟩ := q; exact ⟨q0, q1, qP, va_K.moved (u := U) (U := U.calling g mk a) (Vm.Alike.refl U.vm) qK, qD⟩, va_recv hKc hPc (ci := 6) (q0 := 0) rfl rfl, fun U hU hW => ⟨rfl, by rw [hU], by rw [hU]; exact hPc, va_K.moved hW.alike hKc, hDc.weaken (fun _ _ _ _ => trivial)⟩⟩ rfl rfl hl.1 rfl (lv_room (Nat.le_of_ble_eq_true rfl)) dX11_wish_25 ⟨Nat.le_of_ble_eq_true rfl, Nat.le_of_ble_eq_true rfl⟩) hS (fun q _ h => hFc q h) hFc (fun r_4 u t H1 locs ht hvm hw hB hz1 hk1 hS => ?_)
      obtain ⟨hP1, hK1, hD1⟩ := hB
      rw [ht] at hP1
      have hK1 := va_K.moved hvm.symm hK1
      obtain ⟨hP, hD⟩ := va_join (wr := [(h0, .inr (11, [.ref te, .ref ta, .ref re, .ref no, .ref pa, .ref ac, .ref op, .ref im, .ref ik, .ref hi, .ref rf, .int (-1)])), (rf, .inr (4, [.ref rc, .int 0])), (rc, .inl (ci2, 5, .inl (fun _ => 0)))]) (w1 := [(no, .inr (6, [.ref te, .ref nt, .ref nl, .ref ns, .ref np, .int 0, .int 0, .long 0, .int (-1), .int (-1)]))]) hP hD [1] [0, 2, 3] rfl rfl (by decide) (by decide) hk1 hFc hP1 hD1
      generalize H1 = H at hP hS ⊢
      have hP : va_P (dC, dI) vwCl [(h0, .inr (11, [.ref te, .ref ta, .ref re, .ref no, .ref pa, .ref ac, .ref op, .ref im, .ref ik, .ref hi, .ref rf, .int (-1)])), (rf, .inr (4, [.ref rc, .int 0])), (rc, .inl (ci2, 5, .inl (fun _ => 0))), (no, .inr (6, [.ref te, .ref nt, .ref nl, .ref ns, .ref np, .int 0, .int 0, .long 0, .int (-1), .int (-1)]))] H := hP
      have hD : va_D A [(h0, .inr (11, [.ref te, .ref ta, .ref re, .ref no, .ref pa, .ref ac, .ref op, .ref im, .ref ik, .ref hi, .ref rf, .int (-1)])), (rf, .inr (4, [.ref rc, .int 0])), (rc, .inl (ci2, 5, .inl (fun _ => 0))), (no, .inr (6, [.ref te, .ref nt, .ref nl, .ref ns, .ref np, .int 0, .int 0, .long 0, .int (-1), .int (-1)]))] := hD
      refine W.widen (k := 0) (n := 0) (Nat.le_of_ble_eq_true rfl) (Nat.le_of_ble_eq_true rfl) ?_
      have hw : r_4 = 0 := hw
      subst hw
      refine lv_if_ne (tgt := 41) hx hb dX11_wish_28 (by decide) (fun c => absurd c (by decide)) (fun _ => ?_)
      refine lv_aload_n hx hb dX11_wish_31 rfl (lv_at hl 0 rfl) ?_
      refine va_get (D := (dC, dI)) (ci := 11) (v := .ref rf) (C := RX11) (T := TX11) (N := 12) hx hb hts (fun _ h0_ => List.mem_cons_of_mem _ (List.mem_append_right _ (List.mem_append_left _ h0_))) hown hK hP 0 rfl rfl 10 (by decide) (hts (.fieldLink RX11 72 "DeadlineShare" "refusals" "LDeadlineShare$Refusals;") (List.mem_cons_of_mem _ (List.mem_append_left _ (List.mem_of_getElem? (i := 0) rfl)))) (fun _ h9 => h9) rfl dX11_wish_32 ?_
      refine lv_bipush (v := (-2)) hx hb dX11_wish_35 (by decide) ?_
      have hPc := hP.sub (ws' := [(rf, .inr (4, [.ref rc, .int 0])), (rc, .inl (ci2, 5, .inl (fun _ => 0)))]) [1, 2] rfl
      have hDc := hD.sub (ws' := [(rf, .inr (4, [.ref rc, .int 0])), (rc, .inl (ci2, 5, .inl (fun _ => 0)))]) [1, 2] (by decide) rfl
      have hKc := hK.sub (tys' := [(ci2, .int)]) [0] rfl
      have hFc := va_free (wc := [(rf, .inr (4, [.ref rc, .int 0])), (rc, .inl (ci2, 5, .inl (fun _ => 0)))]) hD hS hA [1, 2] rfl
      refine va_calli (va_runV (As := [.int (-2)]) (rest := []) ⟨hx, hb, hml, hown, hts⟩ (c_X4_add_2 l dC dI rf rc ci2 H.size) (cwV 1 hts (gi_V (fun w_ h0_ => ⟨List.mem_cons_of_mem _ (List.mem_append_right _ (List.mem_append_right _ (List.mem_append_right _ (List.mem_append_right _ (List.mem_append_left _ h0_))))), (tb_c_X4_add_2 w_ h0_).2⟩) (List.mem_cons_of_mem _ (List.mem_append_left _ (List.mem_of_getElem? (i := 1) rfl))) (List.mem_cons_of_mem _ (List.mem_append_left _ (List.mem_of_getElem? (i := 2) rfl))) (List.mem_cons_of_mem _ (List.mem_append_left _ (List.mem_of_getElem? (i := 3) rfl))) (List.mem_cons_of_mem _ (List.mem_append_left _ (List.mem_of_getElem? (i := 4) rfl)))) rfl rfl rfl (by decide +kernel) ⟨Nat.le_of_ble_eq_true rfl, Nat.le_of_ble_eq_true rfl⟩) ⟨fun a U g mk q => by obtain ⟨q0, q1, qP, qK, qD⟩ := q; exact ⟨q0, q1, qP, va_K.moved (u := U) (U := U.calling g mk a) (Vm.Alike.refl U.vm) qK, qD⟩, va_recv hKc hPc (ci := 4) (q0 := 0) rfl rfl, fun U hU hW => ⟨rfl, by rw [hU], by rw [hU]; exact hPc, va_K.moved hW.alike hKc, hDc.weaken (fun _ _ _ _ => trivial)⟩⟩ rfl rfl hl.1 rfl (lv_room (Nat.le_of_ble_eq_true rfl)) dX11_wish_37 ⟨Nat.le_of_ble_eq_true rfl, Nat.le_of_ble_eq_true rfl⟩) hS (fun q _ h => hFc q h) hFc (fun r_5 u t H1 locs ht hvm hw hB hz1 hk1 hS => ?_)
      obtain ⟨hP1, hK1, hD1⟩ := hB
      rw [ht] at hP1
      have hK1 := va_K.moved hvm.symm hK1
      obtain ⟨hP, hD⟩ := va_join (wr := [(h0, .inr (11, [.ref te, .ref ta, .ref re, .ref no, .ref pa, .ref ac, .ref op, .ref im, .ref ik, .ref hi, .ref rf, .int (-1)])), (no, .inr (6, [.ref te, .ref nt, .ref nl, .ref ns, .ref np, .int 0, .int 0, .long 0, .int (-1), .int (-1)]))]) (w1 := []) hP hD [1, 2] [0, 3] rfl rfl (by decide) (by decide) hk1 hFc hP1 hD1
      generalize H1 = H at hP hS ⊢
      have hP : va_P (dC, dI) vwCl [(h0, .inr (11, [.ref te, .ref ta, .ref re, .ref no, .ref pa, .ref ac, .ref op, .ref im, .ref ik, .ref hi, .ref rf, .int (-1)])), (no, .inr (6, [.ref te, .ref nt, .ref nl, .ref ns, .ref np, .int 0, .int 0, .long 0, .int (-1), .int (-1)]))] H := hP
      have hD : va_D A [(h0, .inr (11, [.ref te, .ref ta, .ref re, .ref no, .ref pa, .ref ac, .ref op, .ref im, .ref ik, .ref hi, .ref rf, .int (-1)])), (no, .inr (6, [.ref te, .ref nt, .ref nl, .ref ns, .ref np, .int 0, .int 0, .long 0, .int (-1), .int (-1)]))] := hD
      refine W.widen (k := 0) (n := 0) (Nat.le_of_ble_eq_true rfl) (Nat.le_of_ble_eq_true rfl) ?_
      have hw : r_5 = (-2) := hw
      subst hw
      have hP9 := hP.sub (ws' := []) [] rfl
      have hD9 := hD.sub (ws' := []) [] (by decide) rfl
      have hK9 := hK.sub (tys' := []) [] rfl
      refine W.widen (k := 0) (n := 0) (Nat.le_of_ble_eq_true rfl) (Nat.le_of_ble_eq_true rfl) ?_
      exact W.iret (v := (-2)) hx hb hr (fun t ht hW => ⟨⟨(-2), (), rfl, (by have z0 : ¬ _ := fun h9 => c_1 ((fa_lt _ _).mpr h9); have z1 := (fa_le _ _).mp c_3; have li1 : Int32.toInt 1 = 1 := (by decide); have li99 : Int32.toInt 99 = 99 := (by decide); unfold sp_one; (repeat' split) <;> first | rfl | omega | (refine Int32.toInt_inj.mp ?_; omega)), by rw [ht]; exact hP9, va_K.moved hW.alike hK9, hD9⟩, hS.F ht⟩) hS.2.2 dX11_wish_40
    · refine lv_aload_n hx hb dX11_wish_11 rfl (lv_at hl 0 rfl) ?_
      refine va_get (D := (dC, dI)) (ci := 11) (v := .ref rf) (C := RX11) (T := TX11) (N := 12) hx hb hts (fun _ h0_ => List.mem_cons_of_mem _ (List.mem_append_right _ (List.mem_append_left _ h0_))) hown hK hP 0 rfl rfl 10 (by decide) (hts (.fieldLink RX11 72 "DeadlineShare" "refusals" "LDeadlineShare$Refusals;") (List.mem_cons_of_mem _ (List.mem_append_left _ (List.mem_of_getElem? (i := 0) rfl)))) (fun _ h9 => h9) rfl dX11_wish_12 ?_
      refine lv_iconst (v := (-1)) hx hb dX11_wish_15 (by decide) ?_
      have hPc := hP.sub (ws' := [(rf, .inr (4, [.ref rc, .int 0])), (rc, .inl (ci2, 5, .inl (fun _ => 0)))]) [2, 3] rfl
      have hDc := hD.sub (ws' := [(rf, .inr (4, [.ref rc, .int 0])), (rc, .inl (ci2, 5, .inl (fun _ => 0)))]) [2, 3] (by decide) rfl
      have hKc := hK.sub (tys' := [(ci2, .int)]) [0] rfl
      have hFc := va_free (wc := [(rf, .inr (4, [.ref rc, .int 0])), (rc, .inl (ci2, 5, .inl (fun _ => 0)))]) hD hS hA [2, 3] rfl
      refine va_calli (va_runV (As := [.int (-1)]) (rest := []) ⟨hx, hb, hml, hown, hts⟩ (c_X4_add_1 l dC dI rf rc ci2 s.heap.size) (cwV 1 hts (gi_V (fun w_ h0_ => ⟨List.mem_cons_of_mem _ (List.mem_append_right _ (List.mem_append_right _ (List.mem_append_left _ h0_))), (tb_c_X4_add_1 w_ h0_).2⟩) (List.mem_cons_of_mem _ (List.mem_append_left _ (List.mem_of_getElem? (i := 1) rfl))) (List.mem_cons_of_mem _ (List.mem_append_left _ (List.mem_of_getElem? (i := 2) rfl))) (List.mem_cons_of_mem _ (List.mem_append_left _ (List.mem_of_getElem? (i := 3) rfl))) (List.mem_cons_of_mem _ (List.mem_append_left _ (List.mem_of_getElem? (i := 4) rfl)))) rfl rfl rfl (by decide +kernel) ⟨Nat.le_of_ble_eq_true rfl, Nat.le_of_ble_eq_true rfl⟩) ⟨fun a U g mk q => by obtain ⟨q0, q1, qP, qK, qD⟩ := q; exact ⟨q0, q1, qP, va_K.moved (u := U) (U := U.calling g mk a) (Vm.Alike.refl U.vm) qK, qD⟩, va_recv hKc hPc (ci := 4) (q0 := 0) rfl rfl, fun U hU hW => ⟨rfl, by rw [hU], by rw [hU]; exact hPc, va_K.moved hW.alike hKc, hDc.weaken (fun _ _ _ _ => trivial)⟩⟩ rfl rfl hl.1 rfl (lv_room (Nat.le_of_ble_eq_true rfl)) dX11_wish_16 ⟨Nat.le_of_ble_eq_true rfl, Nat.le_of_ble_eq_true rfl⟩) hS (fun q _ h => hFc q h) hFc (fun r_6 u t H1 locs ht hvm hw hB hz1 hk1 hS => ?_)
      obtain ⟨hP1, hK1, hD1⟩ := hB
      rw [ht] at hP1
      have hK1 := va_K.moved hvm.symm hK1
      obtain ⟨hP, hD⟩ := va_join (wr := [(h0, .inr (11, [.ref te, .ref ta, .ref re, .ref no, .ref pa, .ref ac, .ref op, .ref im, .ref ik, .ref hi, .ref rf, .int (-1)])), (no, .inr (6, [.ref te, .ref nt, .ref nl, .ref ns, .ref np, .int 0, .int 0, .long 0, .int (-1), .int (-1)]))]) (w1 := []) hP hD [2, 3] [0, 1] rfl rfl (by decide) (by decide) hk1 hFc hP1 hD1
      generalize H1 = H at hP hS ⊢
      have hP : va_P (dC, dI) vwCl [(h0, .inr (11, [.ref te, .ref ta, .ref re, .ref no, .ref pa, .ref ac, .ref op, .ref im, .ref ik, .ref hi, .ref rf, .int (-1)])), (no, .inr (6, [.ref te, .ref nt, .ref nl, .ref ns, .ref np, .int 0, .int 0, .long 0, .int (-1), .int (-1)]))] H := hP
      have hD : va_D A [(h0, .inr (11, [.ref te, .ref ta, .ref re, .ref no, .ref pa, .ref ac, .ref op, .ref im, .ref ik, .ref hi, .ref rf, .int (-1)])), (no, .inr (6, [.ref te, .ref nt, .ref nl, .ref ns, .ref np, .int 0, .int 0, .long 0, .int (-1), .int (-1)]))] := hD
      refine W.widen (k := 0) (n := 0) (Nat.le_of_ble_eq_true rfl) (Nat.le_of_ble_eq_true rfl) ?_
      have hw : r_6 = (-1) := hw
      subst hw
      have hP9 := hP.sub (ws' := []) [] rfl
      have hD9 := hD.sub (ws' := []) [] (by decide) rfl
      have hK9 := hK.sub (tys' := []) [] rfl
      refine W.widen (k := 0) (n := 0) (Nat.le_of_ble_eq_true rfl) (Nat.le_of_ble_eq_true rfl) ?_
      exact W.iret (v := (-1)) hx hb hr (fun t ht hW => ⟨⟨(-1), (), rfl, (by have z0 : ¬ _ := fun h9 => c_1 ((fa_lt _ _).mpr h9); have z1 : ¬ _ := fun h9 => c_3 ((fa_le _ _).mpr h9); have li1 : Int32.toInt 1 = 1 := (by decide); have li99 : Int32.toInt 99 = 99 := (by decide); unfold sp_one; (repeat' split) <;> first | rfl | omega | (refine Int32.toInt_inj.mp ?_; omega)), by rw [ht]; exact hP9, va_K.moved hW.alike hK9, hD9⟩, hS.F ht⟩) hS.2.2 dX11_wish_19
def ow_c_X11_quota : List Cond := [.fieldLink RX11 72 "DeadlineShare" "refusals" "LDeadlineShare$Refusals;", .methodLink RX11 84 yX4_add, .instanceMethod yX4_add, .selects RX4 yX4_add yX4_add, .initialized RX4, .fieldLink RX11 37 "DeadlineShare" "now" "LDeadlineShare$State;", .methodLink RX11 130 yX6_has, .instanceMethod yX6_has, .selects RX6 yX6_has yX6_has, .initialized RX6]
def wq_c_X11_quota : List Cond := .code yX11_quota cX11_quota 6 (some .int) :: (ow_c_X11_quota ++ (u_ws RX11 TX11 12 ++ (wq_c_X4_add_1 ++ (wq_c_X6_has ++ (wq_c_X4_add_2 ++ ([] : List Cond))))))
theorem tb_c_X11_quota : ∀ w ∈ wq_c_X11_quota, q_g w := by
  unfold wq_c_X11_quota ow_c_X11_quota
  exact q_cons tw_337 (q_app (q_cons tw_80 (q_cons tw_280 (q_cons tw_279 (q_cons tw_278 (q_cons tw_1 (q_cons tw_101 (q_cons tw_328 (q_cons tw_205 (q_cons tw_204 (q_cons tw_72 q_nil)))))))))) (q_app tu_X11 (q_app tb_c_X4_add_1 (q_app tb_c_X6_has (q_app tb_c_X4_add_2 q_nil)))))
set_option maxHeartbeats 4000000 in
set_option maxRecDepth 100000 in
theorem c_X11_quota (l : Launch) (dC : Nat → ClassId) (dI : Nat → Nat → Nat) (h0 : Nat) (tk : Int32) (nq : Int32) (pq : Int32) (te : Nat) (ta : Nat) (re : Nat) (no : Nat) (pa : Nat) (ac : Nat) (op : Nat) (im : Nat) (ik : Nat) (hi : Nat) (rf : Nat) (nt : Nat) (nl : Nat) (ns : Nat) (np : Nat) (rc : Nat) (ci2 : ClassId) (sz : Nat) : Met l yX11_quota wq_c_X11_quota ({ frames := 2, cells := 0, slots := 0, locals := 41 } : Room) (va_Pc [.ref h0, .int tk, .int nq, .int pq] (fun U => U.heap.size = sz ∧ va_P (dC, dI) vwCl [(h0, .inr (11, [.ref te, .ref ta, .ref re, .ref no, .ref pa, .ref ac, .ref op, .ref im, .ref ik, .ref hi, .ref rf, .int (-1)])), (no, .inr (6, [.ref te, .ref nt, .ref nl, .ref ns, .ref np, .int 0, .int 0, .long 0, .int (-1), .int (-1)])), (rf, .inr (4, [.ref rc, .int 0])), (rc, .inl (ci2, 5, .inl (fun _ => 0)))] U.heap ∧ va_K (dC, dI) vwCl [(ci2, .int)] U ∧ va_D (fun _ => True) [(h0, .inr (11, [.ref te, .ref ta, .ref re, .ref no, .ref pa, .ref ac, .ref op, .ref im, .ref ik, .ref hi, .ref rf, .int (-1)])), (no, .inr (6, [.ref te, .ref nt, .ref nl, .ref ns, .ref np, .int 0, .int 0, .long 0, .int (-1), .int (-1)])), (rf, .inr (4, [.ref rc, .int 0])), (rc, .inl (ci2, 5, .inl (fun _ => 0)))])) (va_Qi (fun (r : Int32) (_ : Unit) => r = sp_quota nq pq) (fun (_ : Unit) t => va_P (dC, dI) vwCl [] t.heap ∧ va_K (dC, dI) vwCl [] t ∧ va_D (va_A [(h0, .inr (11, [.ref te, .ref ta, .ref re, .ref no, .ref pa, .ref ac, .ref op, .ref im, .ref ik, .ref hi, .ref rf, .int (-1)])), (no, .inr (6, [.ref te, .ref nt, .ref nl, .ref ns, .ref np, .int 0, .int 0, .long 0, .int (-1), .int (-1)])), (rf, .inr (4, [.ref rc, .int 0])), (rc, .inl (ci2, 5, .inl (fun _ => 0)))] sz) []) (va_A [(h0, .inr (11, [.ref te, .ref ta, .ref re, .ref no, .ref pa, .ref ac, .ref op, .ref im, .ref ik, .ref hi, .ref rf, .int (-1)])), (no, .inr (6, [.ref te, .ref nt, .ref nl, .ref ns, .ref np, .int 0, .int 0, .long 0, .int (-1), .int (-1)])), (rf, .inr (4, [.ref rc, .int 0])), (rc, .inl (ci2, 5, .inl (fun _ => 0)))] sz)) 0 0 (va_A [(h0, .inr (11, [.ref te, .ref ta, .ref re, .ref no, .ref pa, .ref ac, .ref op, .ref im, .ref ik, .ref hi, .ref rf, .int (-1)])), (no, .inr (6, [.ref te, .ref nt, .ref nl, .ref ns, .ref np, .int 0, .int 0, .long 0, .int (-1), .int (-1)])), (rf, .inr (4, [.ref rc, .int 0])), (rc, .inl (ci2, 5, .inl (fun _ => 0)))] sz) := by
  refine Met.ofW (cc := cX11_quota) (maxL := 6) (ret := (some .int)) (by decide) rfl ?_
  intro p e s m args below meth c s₁ B hml hv
  obtain ⟨rfl, hsz, hP, hK, hD0⟩ := hv
  have hx := B.exec
  have hb := B.bytes
  have hr := B.returns
  have hts := atoms_spec (ws := wq_c_X11_quota) B.pre
  have hown : s.vm.findClass RX11 = some m.cls := findClass_of_methodNamed B.named
  have hlocks := B.notSynchronized
  subst hsz
  have hD := hD0.self (sz := s.heap.size)
  obtain ⟨A, hAe⟩ : ∃ A, A = va_A [(h0, .inr (11, [.ref te, .ref ta, .ref re, .ref no, .ref pa, .ref ac, .ref op, .ref im, .ref ik, .ref hi, .ref rf, .int (-1)])), (no, .inr (6, [.ref te, .ref nt, .ref nl, .ref ns, .ref np, .int 0, .int 0, .long 0, .int (-1), .int (-1)])), (rf, .inr (4, [.ref rc, .int 0])), (rc, .inl (ci2, 5, .inl (fun _ => 0)))] s.heap.size := ⟨_, rfl⟩
  rw [← hAe] at hD ⊢
  have hA : ∀ q : Nat, s.heap.size ≤ q → A q := fun q h => by rw [hAe]; exact Or.inr h
  have hS : va_S A s.heap s.heap [] := va_S.rf
  have hP : va_P (dC, dI) vwCl [(h0, .inr (11, [.ref te, .ref ta, .ref re, .ref no, .ref pa, .ref ac, .ref op, .ref im, .ref ik, .ref hi, .ref rf, .int (-1)])), (no, .inr (6, [.ref te, .ref nt, .ref nl, .ref ns, .ref np, .int 0, .int 0, .long 0, .int (-1), .int (-1)])), (rf, .inr (4, [.ref rc, .int 0])), (rc, .inl (ci2, 5, .inl (fun _ => 0)))] s.heap := hP
  have hl := lv_entry ([.ref h0, .int tk, .int nq, .int pq]) (n := 6) (Nat.le_of_ble_eq_true rfl)
  rw [lg_entry_eq]
  generalize (lg_sl ([.ref h0, .int tk, .int nq, .int pq]) ++ List.replicate (6 - (lg_sl ([.ref h0, .int tk, .int nq, .int pq])).length) Slot.unset).toArray = ls at hl ⊢
  have hl : lv_has ls 6 [(0, .ref h0), (1, .int tk), (2, .int nq), (3, .int pq)] := hl
  refine lv_iload_n hx hb dX11_quota_0 rfl (lv_at hl 2 rfl) ?_
  refine lv_if_lt (tgt := 25) hx hb dX11_quota_1 (by decide) (fun c_1 => ?_) (fun c_1 => ?_)
  · refine lv_aload_n hx hb dX11_quota_25 rfl (lv_at hl 0 rfl) ?_
    refine va_get (D := (dC, dI)) (ci := 11) (v := .ref rf) (C := RX11) (T := TX11) (N := 12) hx hb hts (fun _ h0_ => List.mem_cons_of_mem _ (List.mem_append_right _ (List.mem_append_left _ h0_))) hown hK hP 0 rfl rfl 10 (by decide) (hts (.fieldLink RX11 72 "DeadlineShare" "refusals" "LDeadlineShare$Refusals;") (List.mem_cons_of_mem _ (List.mem_append_left _ (List.mem_of_getElem? (i := 0) rfl)))) (fun _ h9 => h9) rfl dX11_quota_26 ?_
    refine lv_iconst (v := (-1)) hx hb dX11_quota_29 (by decide) ?_
    have hPc := hP.sub (ws' := [(rf, .inr (4, [.ref rc, .int 0])), (rc, .inl (ci2, 5, .inl (fun _ => 0)))]) [2, 3] rfl
    have hDc := hD.sub (ws' := [(rf, .inr (4, [.ref rc, .int 0])), (rc, .inl (ci2, 5, .inl (fun _ => 0)))]) [2, 3] (by decide) rfl
    have hKc := hK.sub (tys' := [(ci2, .int)]) [0] rfl
    have hFc := va_free (wc := [(rf, .inr (4, [.ref rc, .int 0])), (rc, .inl (ci2, 5, .inl (fun _ => 0)))]) hD hS hA [2, 3] rfl
    refine va_calli (va_runV (As := [.int (-1)]) (rest := []) ⟨hx, hb, hml, hown, hts⟩ (c_X4_add_1 l dC dI rf rc ci2 s.heap.size) (cwV 1 hts (gi_V (fun w_ h0_ => ⟨List.mem_cons_of_mem _ (List.mem_append_right _ (List.mem_append_right _ (List.mem_append_left _ h0_))), (tb_c_X4_add_1 w_ h0_).2⟩) (List.mem_cons_of_mem _ (List.mem_append_left _ (List.mem_of_getElem? (i := 1) rfl))) (List.mem_cons_of_mem _ (List.mem_append_left _ (List.mem_of_getElem? (i := 2) rfl))) (List.mem_cons_of_mem _ (List.mem_append_left _ (List.mem_of_getElem? (i := 3) rfl))) (List.mem_cons_of_mem _ (List.mem_append_left _ (List.mem_of_getElem? (i := 4) rfl)))) rfl rfl rfl (by decide +kernel) ⟨Nat.le_of_ble_eq_true rfl, Nat.le_of_ble_eq_true rfl⟩) ⟨fun a U g mk q => by obtain ⟨q0, q1, qP, qK, qD⟩ := q; exact ⟨q0, q1, qP, va_K.moved (u := U) (U := U.calling g mk a) (Vm.Alike.refl U.vm) qK, qD⟩, va_recv hKc hPc (ci := 4) (q0 := 0) rfl rfl, fun U hU hW => ⟨rfl, by rw [hU], by rw [hU]; exact hPc, va_K.moved hW.alike hKc, hDc.weaken (fun _ _ _ _ => trivial)⟩⟩ rfl rfl hl.1 rfl (lv_room (Nat.le_of_ble_eq_true rfl)) dX11_quota_30 ⟨Nat.le_of_ble_eq_true rfl, Nat.le_of_ble_eq_true rfl⟩) hS (fun q _ h => hFc q h) hFc (fun r_2 u t H1 locs ht hvm hw hB hz1 hk1 hS => ?_)
    obtain ⟨hP1, hK1, hD1⟩ := hB
    rw [ht] at hP1
    have hK1 := va_K.moved hvm.symm hK1
    obtain ⟨hP, hD⟩ := va_join (wr := [(h0, .inr (11, [.ref te, .ref ta, .ref re, .ref no, .ref pa, .ref ac, .ref op, .ref im, .ref ik, .ref hi, .ref rf, .int (-1)])), (no, .inr (6, [.ref te, .ref nt, .ref nl, .ref ns, .ref np, .int 0, .int 0, .long 0, .int (-1), .int (-1)]))]) (w1 := []) hP hD [2, 3] [0, 1] rfl rfl (by decide) (by decide) hk1 hFc hP1 hD1
    generalize H1 = H at hP hS ⊢
    have hP : va_P (dC, dI) vwCl [(h0, .inr (11, [.ref te, .ref ta, .ref re, .ref no, .ref pa, .ref ac, .ref op, .ref im, .ref ik, .ref hi, .ref rf, .int (-1)])), (no, .inr (6, [.ref te, .ref nt, .ref nl, .ref ns, .ref np, .int 0, .int 0, .long 0, .int (-1), .int (-1)]))] H := hP
    have hD : va_D A [(h0, .inr (11, [.ref te, .ref ta, .ref re, .ref no, .ref pa, .ref ac, .ref op, .ref im, .ref ik, .ref hi, .ref rf, .int (-1)])), (no, .inr (6, [.ref te, .ref nt, .ref nl, .ref ns, .ref np, .int 0, .int 0, .long 0, .int (-1), .int (-1)]))] := hD
    refine W.widen (k := 0) (n := 0) (Nat.le_of_ble_eq_true rfl) (Nat.le_of_ble_eq_true rfl) ?_
    have hw : r_2 = (-1) := hw
    subst hw
    have hP9 := hP.sub (ws' := []) [] rfl
    have hD9 := hD.sub (ws' := []) [] (by decide) rfl
    have hK9 := hK.sub (tys' := []) [] rfl
    refine W.widen (k := 0) (n := 0) (Nat.le_of_ble_eq_true rfl) (Nat.le_of_ble_eq_true rfl) ?_
    exact W.iret (v := (-1)) hx hb hr (fun t ht hW => ⟨⟨(-1), (), rfl, (by have z0 := (fa_lt _ _).mp c_1; have li0 : Int32.toInt 0 = 0 := (by decide); unfold sp_quota; (repeat' split) <;> first | rfl | omega | (refine Int32.toInt_inj.mp ?_; omega)), by rw [ht]; exact hP9, va_K.moved hW.alike hK9, hD9⟩, hS.F ht⟩) hS.2.2 dX11_quota_33
  · refine lv_iload_n hx hb dX11_quota_4 rfl (lv_at hl 2 rfl) ?_
    refine lv_bipush (v := 50) hx hb dX11_quota_5 (by decide) ?_
    refine lv_icmp_gt (tgt := 25) hx hb dX11_quota_7 (by decide) (fun c_3 => ?_) (fun c_3 => ?_)
    · refine lv_aload_n hx hb dX11_quota_25 rfl (lv_at hl 0 rfl) ?_
      refine va_get (D := (dC, dI)) (ci := 11) (v := .ref rf) (C := RX11) (T := TX11) (N := 12) hx hb hts (fun _ h0_ => List.mem_cons_of_mem _ (List.mem_append_right _ (List.mem_append_left _ h0_))) hown hK hP 0 rfl rfl 10 (by decide) (hts (.fieldLink RX11 72 "DeadlineShare" "refusals" "LDeadlineShare$Refusals;") (List.mem_cons_of_mem _ (List.mem_append_left _ (List.mem_of_getElem? (i := 0) rfl)))) (fun _ h9 => h9) rfl dX11_quota_26 ?_
      refine lv_iconst (v := (-1)) hx hb dX11_quota_29 (by decide) ?_
      have hPc := hP.sub (ws' := [(rf, .inr (4, [.ref rc, .int 0])), (rc, .inl (ci2, 5, .inl (fun _ => 0)))]) [2, 3] rfl
      have hDc := hD.sub (ws' := [(rf, .inr (4, [.ref rc, .int 0])), (rc, .inl (ci2, 5, .inl (fun _ => 0)))]) [2, 3] (by decide) rfl
      have hKc := hK.sub (tys' := [(ci2, .int)]) [0] rfl
      have hFc := va_free (wc := [(rf, .inr (4, [.ref rc, .int 0])), (rc, .inl (ci2, 5, .inl (fun _ => 0)))]) hD hS hA [2, 3] rfl
      refine va_calli (va_runV (As := [.int (-1)]) (rest := []) ⟨hx, hb, hml, hown, hts⟩ (c_X4_add_1 l dC dI rf rc ci2 s.heap.size) (cwV 1 hts (gi_V (fun w_ h0_ => ⟨List.mem_cons_of_mem _ (List.mem_append_right _ (List.mem_append_right _ (List.mem_append_left _ h0_))), (tb_c_X4_add_1 w_ h0_).2⟩) (List.mem_cons_of_mem _ (List.mem_append_left _ (List.mem_of_getElem? (i := 1) rfl))) (List.mem_cons_of_mem _ (List.mem_append_left _ (List.mem_of_getElem? (i := 2) rfl))) (List.mem_cons_of_mem _ (List.mem_append_left _ (List.mem_of_getElem? (i := 3) rfl))) (List.mem_cons_of_mem _ (List.mem_append_left _ (List.mem_of_getElem? (i := 4) rfl)))) rfl rfl rfl (by decide +kernel) ⟨Nat.le_of_ble_eq_true rfl, Nat.le_of_ble_eq_true rfl⟩) ⟨fun a U g mk q => by obtain ⟨q0, q1, qP, qK, qD⟩ := q; exact ⟨q0, q1, qP, va_K.moved (u := U) (U := U.calling g mk a) (Vm.Alike.refl U.vm) qK, qD⟩, va_recv hKc hPc (ci := 4) (q0 := 0) rfl rfl, fun U hU hW => ⟨rfl, by rw [hU], by rw [hU]; exact hPc, va_K.moved hW.alike hKc, hDc.weaken (fun _ _ _ _ => trivial)⟩⟩ rfl rfl hl.1 rfl (lv_room (Nat.le_of_ble_eq_true rfl)) dX11_quota_30 ⟨Nat.le_of_ble_eq_true rfl, Nat.le_of_ble_eq_true rfl⟩) hS (fun q _ h => hFc q h) hFc (fun r_4 u t H1 locs ht hvm hw hB hz1 hk1 hS => ?_)
      obtain ⟨hP1, hK1, hD1⟩ := hB
      rw [ht] at hP1
      have hK1 := va_K.moved hvm.symm hK1
      obtain ⟨hP, hD⟩ := va_join (wr := [(h0, .inr (11, [.ref te, .ref ta, .ref re, .ref no, .ref pa, .ref ac, .ref op, .ref im, .ref ik, .ref hi, .ref rf, .int (-1)])), (no, .inr (6, [.ref te, .ref nt, .ref nl, .ref ns, .ref np, .int 0, .int 0, .long 0, .int (-1), .int (-1)]))]) (w1 := []) hP hD [2, 3] [0, 1] rfl rfl (by decide) (by decide) hk1 hFc hP1 hD1
      generalize H1 = H at hP hS ⊢
      have hP : va_P (dC, dI) vwCl [(h0, .inr (11, [.ref te, .ref ta, .ref re, .ref no, .ref pa, .ref ac, .ref op, .ref im, .ref ik, .ref hi, .ref rf, .int (-1)])), (no, .inr (6, [.ref te, .ref nt, .ref nl, .ref ns, .ref np, .int 0, .int 0, .long 0, .int (-1), .int (-1)]))] H := hP
      have hD : va_D A [(h0, .inr (11, [.ref te, .ref ta, .ref re, .ref no, .ref pa, .ref ac, .ref op, .ref im, .ref ik, .ref hi, .ref rf, .int (-1)])), (no, .inr (6, [.ref te, .ref nt, .ref nl, .ref ns, .ref np, .int 0, .int 0, .long 0, .int (-1), .int (-1)]))] := hD
      refine W.widen (k := 0) (n := 0) (Nat.le_of_ble_eq_true rfl) (Nat.le_of_ble_eq_true rfl) ?_
      have hw : r_4 = (-1) := hw
      subst hw
      have hP9 := hP.sub (ws' := []) [] rfl
      have hD9 := hD.sub (ws' := []) [] (by decide) rfl
      have hK9 := hK.sub (tys' := []) [] rfl
      refine W.widen (k := 0) (n := 0) (Nat.le_of_ble_eq_true rfl) (Nat.le_of_ble_eq_true rfl) ?_
      exact W.iret (v := (-1)) hx hb hr (fun t ht hW => ⟨⟨(-1), (), rfl, (by have z0 : ¬ _ := fun h9 => c_1 ((fa_lt _ _).mpr h9); have z1 := (fa_lt _ _).mp c_3; have li0 : Int32.toInt 0 = 0 := (by decide); have li50 : Int32.toInt 50 = 50 := (by decide); unfold sp_quota; (repeat' split) <;> first | rfl | omega | (refine Int32.toInt_inj.mp ?_; omega)), by rw [ht]; exact hP9, va_K.moved hW.alike hK9, hD9⟩, hS.F ht⟩) hS.2.2 dX11_quota_33
    · refine lv_iload_n hx hb dX11_quota_10 rfl (lv_at hl 2 rfl) ?_
      refine lv_if_le (tgt := 34) hx hb dX11_quota_11 (by decide) (fun c_5 => ?_) (fun c_5 => ?_)
      · refine lv_aload_n hx hb dX11_quota_34 rfl (lv_at hl 0 rfl) ?_
        refine va_get (D := (dC, dI)) (ci := 11) (v := .ref no) (C := RX11) (T := TX11) (N := 12) hx hb hts (fun _ h0_ => List.mem_cons_of_mem _ (List.mem_append_right _ (List.mem_append_left _ h0_))) hown hK hP 0 rfl rfl 3 (by decide) (hts (.fieldLink RX11 37 "DeadlineShare" "now" "LDeadlineShare$State;") (List.mem_cons_of_mem _ (List.mem_append_left _ (List.mem_of_getElem? (i := 5) rfl)))) (fun _ h9 => h9) rfl dX11_quota_35 ?_
        refine lv_iload_n hx hb dX11_quota_38 rfl (lv_at hl 1 rfl) ?_
        have hPc := hP.sub (ws' := [(no, .inr (6, [.ref te, .ref nt, .ref nl, .ref ns, .ref np, .int 0, .int 0, .long 0, .int (-1), .int (-1)]))]) [1] rfl
        have hDc := hD.sub (ws' := [(no, .inr (6, [.ref te, .ref nt, .ref nl, .ref ns, .ref np, .int 0, .int 0, .long 0, .int (-1), .int (-1)]))]) [1] (by decide) rfl
        have hKc := hK.sub (tys' := []) [] rfl
        have hFc := va_free (wc := [(no, .inr (6, [.ref te, .ref nt, .ref nl, .ref ns, .ref np, .int 0, .int 0, .long 0, .int (-1), .int (-1)]))]) hD hS hA [1] rfl
        refine va_calli (va_runV (As := [.int tk]) (rest := []) ⟨hx, hb, hml, hown, hts⟩ (c_X6_has l dC dI no tk te nt nl ns np 0 s.heap.size) (cwV 1 hts (gi_V (fun w_ h0_ => ⟨List.mem_cons_of_mem _ (List.mem_append_right _ (List.mem_append_right _ (List.mem_append_right _ (List.mem_append_left _ h0_)))), (tb_c_X6_has w_ h0_).2⟩) (List.mem_cons_of_mem _ (List.mem_append_left _ (List.mem_of_getElem? (i := 6) rfl))) (List.mem_cons_of_mem _ (List.mem_append_left _ (List.mem_of_getElem? (i := 7) rfl))) (List.mem_cons_of_mem _ (List.mem_append_left _ (List.mem_of_getElem? (i := 8) rfl))) (List.mem_cons_of_mem _ (List.mem_append_left _ (List.mem_of_getElem? (i := 9) rfl)))) rfl rfl rfl (by decide +kernel) ⟨Nat.le_of_ble_eq_true rfl, Nat.le_of_ble_eq_true rfl⟩) ⟨fun a U g mk q => by obtain ⟨q0, q1, qP, qK, qD⟩ := q; exact ⟨q0, q1, qP, va_K.moved (u := U) (U := U.calling g mk a) (Vm.Alike.refl U.vm) qK, qD⟩, va_recv hKc hPc (ci := 6) (q0 := 0) rfl rfl, fun U hU hW => ⟨rfl, by rw [hU], by rw [hU]; exact hPc, va_K.moved hW.alike hKc, hDc.weaken (fun _ _ _ _ => trivial)⟩⟩ rfl rfl hl.1 rfl (lv_room (Nat.le_of_ble_eq_true rfl)) dX11_quota_39 ⟨Nat.le_of_ble_eq_true rfl, Nat.le_of_ble_eq_true rfl⟩) hS (fun q _ h => hFc q h) hFc (fun r_6 u t H1 locs ht hvm hw hB hz1 hk1 hS => ?_)
        obtain ⟨hP1, hK1, hD1⟩ := hB
        rw [ht] at hP1
        have hK1 := va_K.moved hvm.symm hK1
        obtain ⟨hP, hD⟩ := va_join (wr := [(h0, .inr (11, [.ref te, .ref ta, .ref re, .ref no, .ref pa, .ref ac, .ref op, .ref im, .ref ik, .ref hi, .ref rf, .int (-1)])), (rf, .inr (4, [.ref rc, .int 0])), (rc, .inl (ci2, 5, .inl (fun _ => 0)))]) (w1 := [(no, .inr (6, [.ref te, .ref nt, .ref nl, .ref ns, .ref np, .int 0, .int 0, .long 0, .int (-1), .int (-1)]))]) hP hD [1] [0, 2, 3] rfl rfl (by decide) (by decide) hk1 hFc hP1 hD1
        generalize H1 = H at hP hS ⊢
        have hP : va_P (dC, dI) vwCl [(h0, .inr (11, [.ref te, .ref ta, .ref re, .ref no, .ref pa, .ref ac, .ref op, .ref im, .ref ik, .ref hi, .ref rf, .int (-1)])), (rf, .inr (4, [.ref rc, .int 0])), (rc, .inl (ci2, 5, .inl (fun _ => 0))), (no, .inr (6, [.ref te, .ref nt, .ref nl, .ref ns, .ref np, .int 0, .int 0, .long 0, .int (-1), .int (-1)]))] H := hP
        have hD : va_D A [(h0, .inr (11, [.ref te, .ref ta, .ref re, .ref no, .ref pa, .ref ac, .ref op, .ref im, .ref ik, .ref hi, .ref rf, .int (-1)])), (rf, .inr (4, [.ref rc, .int 0])), (rc, .inl (ci2, 5, .inl (fun _ => 0))), (no, .inr (6, [.ref te, .ref nt, .ref nl, .ref ns, .ref np, .int 0, .int 0, .long 0, .int (-1), .int (-1)]))] := hD
        refine W.widen (k := 0) (n := 0) (Nat.le_of_ble_eq_true rfl) (Nat.le_of_ble_eq_true rfl) ?_
        have hw : r_6 = 0 := hw
        subst hw
        refine lv_if_ne (tgt := 55) hx hb dX11_quota_42 (by decide) (fun c => absurd c (by decide)) (fun _ => ?_)
        refine lv_aload_n hx hb dX11_quota_45 rfl (lv_at hl 0 rfl) ?_
        refine va_get (D := (dC, dI)) (ci := 11) (v := .ref rf) (C := RX11) (T := TX11) (N := 12) hx hb hts (fun _ h0_ => List.mem_cons_of_mem _ (List.mem_append_right _ (List.mem_append_left _ h0_))) hown hK hP 0 rfl rfl 10 (by decide) (hts (.fieldLink RX11 72 "DeadlineShare" "refusals" "LDeadlineShare$Refusals;") (List.mem_cons_of_mem _ (List.mem_append_left _ (List.mem_of_getElem? (i := 0) rfl)))) (fun _ h9 => h9) rfl dX11_quota_46 ?_
        refine lv_bipush (v := (-2)) hx hb dX11_quota_49 (by decide) ?_
        have hPc := hP.sub (ws' := [(rf, .inr (4, [.ref rc, .int 0])), (rc, .inl (ci2, 5, .inl (fun _ => 0)))]) [1, 2] rfl
        have hDc := hD.sub (ws' := [(rf, .inr (4, [.ref rc, .int 0])), (rc, .inl (ci2, 5, .inl (fun _ => 0)))]) [1, 2] (by decide) rfl
        have hKc := hK.sub (tys' := [(ci2, .int)]) [0] rfl
        have hFc := va_free (wc := [(rf, .inr (4, [.ref rc, .int 0])), (rc, .inl (ci2, 5, .inl (fun _ => 0)))]) hD hS hA [1, 2] rfl
        refine va_calli (va_runV (As := [.int (-2)]) (rest := []) ⟨hx, hb, hml, hown, hts⟩ (c_X4_add_2 l dC dI rf rc ci2 H.size) (cwV 1 hts (gi_V (fun w_ h0_ => ⟨List.mem_cons_of_mem _ (List.mem_append_right _ (List.mem_append_right _ (List.mem_append_right _ (List.mem_append_right _ (List.mem_append_left _ h0_))))), (tb_c_X4_add_2 w_ h0_).2⟩) (List.mem_cons_of_mem _ (List.mem_append_left _ (List.mem_of_getElem? (i := 1) rfl))) (List.mem_cons_of_mem _ (List.mem_append_left _ (List.mem_of_getElem? (i := 2) rfl))) (List.mem_cons_of_mem _ (List.mem_append_left _ (List.mem_of_getElem? (i := 3) rfl))) (List.mem_cons_of_mem _ (List.mem_append_left _ (List.mem_of_getElem? (i := 4) rfl)))) rfl rfl rfl (by decide +kernel) ⟨Nat.le_of_ble_eq_true rfl, Nat.le_of_ble_eq_true rfl⟩) ⟨fun a U g mk q => by obtain ⟨q0, q1, qP, qK, qD⟩ := q; exact ⟨q0, q1, qP, va_K.moved (u := U) (U := U.calling g mk a) (Vm.Alike.refl U.vm) qK, qD⟩, va_recv hKc hPc (ci := 4) (q0 := 0) rfl rfl, fun U hU hW => ⟨rfl, by rw [hU], by rw [hU]; exact hPc, va_K.moved hW.alike hKc, hDc.weaken (fun _ _ _ _ => trivial)⟩⟩ rfl rfl hl.1 rfl (lv_room (Nat.le_of_ble_eq_true rfl)) dX11_quota_51 ⟨Nat.le_of_ble_eq_true rfl, Nat.le_of_ble_eq_true rfl⟩) hS (fun q _ h => hFc q h) hFc (fun r_7 u t H1 locs ht hvm hw hB hz1 hk1 hS => ?_)
        obtain ⟨hP1, hK1, hD1⟩ := hB
        rw [ht] at hP1
        have hK1 := va_K.moved hvm.symm hK1
        obtain ⟨hP, hD⟩ := va_join (wr := [(h0, .inr (11, [.ref te, .ref ta, .ref re, .ref no, .ref pa, .ref ac, .ref op, .ref im, .ref ik, .ref hi, .ref rf, .int (-1)])), (no, .inr (6, [.ref te, .ref nt, .ref nl, .ref ns, .ref np, .int 0, .int 0, .long 0, .int (-1), .int (-1)]))]) (w1 := []) hP hD [1, 2] [0, 3] rfl rfl (by decide) (by decide) hk1 hFc hP1 hD1
        generalize H1 = H at hP hS ⊢
        have hP : va_P (dC, dI) vwCl [(h0, .inr (11, [.ref te, .ref ta, .ref re, .ref no, .ref pa, .ref ac, .ref op, .ref im, .ref ik, .ref hi, .ref rf, .int (-1)])), (no, .inr (6, [.ref te, .ref nt, .ref nl, .ref ns, .ref np, .int 0, .int 0, .long 0, .int (-1), .int (-1)]))] H := hP
        have hD : va_D A [(h0, .inr (11, [.ref te, .ref ta, .ref re, .ref no, .ref pa, .ref ac, .ref op, .ref im, .ref ik, .ref hi, .ref rf, .int (-1)])), (no, .inr (6, [.ref te, .ref nt, .ref nl, .ref ns, .ref np, .int 0, .int 0, .long 0, .int (-1), .int (-1)]))] := hD
        refine W.widen (k := 0) (n := 0) (Nat.le_of_ble_eq_true rfl) (Nat.le_of_ble_eq_true rfl) ?_
        have hw : r_7 = (-2) := hw
        subst hw
        have hP9 := hP.sub (ws' := []) [] rfl
        have hD9 := hD.sub (ws' := []) [] (by decide) rfl
        have hK9 := hK.sub (tys' := []) [] rfl
        refine W.widen (k := 0) (n := 0) (Nat.le_of_ble_eq_true rfl) (Nat.le_of_ble_eq_true rfl) ?_
        exact W.iret (v := (-2)) hx hb hr (fun t ht hW => ⟨⟨(-2), (), rfl, (by have z0 : ¬ _ := fun h9 => c_1 ((fa_lt _ _).mpr h9); have z1 : ¬ _ := fun h9 => c_3 ((fa_lt _ _).mpr h9); have z2 := (fa_le _ _).mp c_5; have li0 : Int32.toInt 0 = 0 := (by decide); have li50 : Int32.toInt 50 = 50 := (by decide); unfold sp_quota; (repeat' split) <;> first | rfl | omega | (refine Int32.toInt_inj.mp ?_; omega)), by rw [ht]; exact hP9, va_K.moved hW.alike hK9, hD9⟩, hS.F ht⟩) hS.2.2 dX11_quota_54
      · refine lv_iload_n hx hb dX11_quota_14 rfl (lv_at hl 3 rfl) ?_
        refine lv_iload_n hx hb dX11_quota_15 rfl (lv_at hl 2 rfl) ?_
        refine lv_icmp_le (tgt := 25) hx hb dX11_quota_16 (by decide) (fun c_8 => ?_) (fun c_8 => ?_)
        · refine lv_aload_n hx hb dX11_quota_25 rfl (lv_at hl 0 rfl) ?_
          refine va_get (D := (dC, dI)) (ci := 11) (v := .ref rf) (C := RX11) (T := TX11) (N := 12) hx hb hts (fun _ h0_ => List.mem_cons_of_mem _ (List.mem_append_right _ (List.mem_append_left _ h0_))) hown hK hP 0 rfl rfl 10 (by decide) (hts (.fieldLink RX11 72 "DeadlineShare" "refusals" "LDeadlineShare$Refusals;") (List.mem_cons_of_mem _ (List.mem_append_left _ (List.mem_of_getElem? (i := 0) rfl)))) (fun _ h9 => h9) rfl dX11_quota_26 ?_
          refine lv_iconst (v := (-1)) hx hb dX11_quota_29 (by decide) ?_
          have hPc := hP.sub (ws' := [(rf, .inr (4, [.ref rc, .int 0])), (rc, .inl (ci2, 5, .inl (fun _ => 0)))]) [2, 3] rfl
          have hDc := hD.sub (ws' := [(rf, .inr (4, [.ref rc, .int 0])), (rc, .inl (ci2, 5, .inl (fun _ => 0)))]) [2, 3] (by decide) rfl
          have hKc := hK.sub (tys' := [(ci2, .int)]) [0] rfl
          have hFc := va_free (wc := [(rf, .inr (4, [.ref rc, .int 0])), (rc, .inl (ci2, 5, .inl (fun _ => 0)))]) hD hS hA [2, 3] rfl
          refine va_calli (va_runV (As := [.int (-1)]) (rest := []) ⟨hx, hb, hml, hown, hts⟩ (c_X4_add_1 l dC dI rf rc ci2 s.heap.size) (cwV 1 hts (gi_V (fun w_ h0_ => ⟨List.mem_cons_of_mem _ (List.mem_append_right _ (List.mem_append_right _ (List.mem_append_left _ h0_))), (tb_c_X4_add_1 w_ h0_).2⟩) (List.mem_cons_of_mem _ (List.mem_append_left _ (List.mem_of_getElem? (i := 1) rfl))) (List.mem_cons_of_mem _ (List.mem_append_left _ (List.mem_of_getElem? (i := 2) rfl))) (List.mem_cons_of_mem _ (List.mem_append_left _ (List.mem_of_getElem? (i := 3) rfl))) (List.mem_cons_of_mem _ (List.mem_append_left _ (List.mem_of_getElem? (i := 4) rfl)))) rfl rfl rfl (by decide +kernel) ⟨Nat.le_of_ble_eq_true rfl, Nat.le_of_ble_eq_true rfl⟩) ⟨fun a U g mk q => by obtain ⟨q0, q1, qP, qK, qD⟩ := q; exact ⟨q0, q1, qP, va_K.moved (u := U) (U := U.calling g mk a) (Vm.Alike.refl U.vm) qK, qD⟩, va_recv hKc hPc (ci := 4) (q0 := 0) rfl rfl, fun U hU hW => ⟨rfl, by rw [hU], by rw [hU]; exact hPc, va_K.moved hW.alike hKc, hDc.weaken (fun _ _ _ _ => trivial)⟩⟩ rfl rfl hl.1 rfl (lv_room (Nat.le_of_ble_eq_true rfl)) dX11_quota_30 ⟨Nat.le_of_ble_eq_true rfl, Nat.le_of_ble_eq_true rfl⟩) hS (fun q _ h => hFc q h) hFc (fun r_9 u t H1 locs ht hvm hw hB hz1 hk1 hS => ?_)
          obtain ⟨hP1, hK1, hD1⟩ := hB
          rw [ht] at hP1
          have hK1 := va_K.moved hvm.symm hK1
          obtain ⟨hP, hD⟩ := va_join (wr := [(h0, .inr (11, [.ref te, .ref ta, .ref re, .ref no, .ref pa, .ref ac, .ref op, .ref im, .ref ik, .ref hi, .ref rf, .int (-1)])), (no, .inr (6, [.ref te, .ref nt, .ref nl, .ref ns, .ref np, .int 0, .int 0, .long 0, .int (-1), .int (-1)]))]) (w1 := []) hP hD [2, 3] [0, 1] rfl rfl (by decide) (by decide) hk1 hFc hP1 hD1
          generalize H1 = H at hP hS ⊢
          have hP : va_P (dC, dI) vwCl [(h0, .inr (11, [.ref te, .ref ta, .ref re, .ref no, .ref pa, .ref ac, .ref op, .ref im, .ref ik, .ref hi, .ref rf, .int (-1)])), (no, .inr (6, [.ref te, .ref nt, .ref nl, .ref ns, .ref np, .int 0, .int 0, .long 0, .int (-1), .int (-1)]))] H := hP
          have hD : va_D A [(h0, .inr (11, [.ref te, .ref ta, .ref re, .ref no, .ref pa, .ref ac, .ref op, .ref im, .ref ik, .ref hi, .ref rf, .int (-1)])), (no, .inr (6, [.ref te, .ref nt, .ref nl, .ref ns, .ref np, .int 0, .int 0, .long 0, .int (-1), .int (-1)]))] := hD
          refine W.widen (k := 0) (n := 0) (Nat.le_of_ble_eq_true rfl) (Nat.le_of_ble_eq_true rfl) ?_
          have hw : r_9 = (-1) := hw
          subst hw
          have hP9 := hP.sub (ws' := []) [] rfl
          have hD9 := hD.sub (ws' := []) [] (by decide) rfl
          have hK9 := hK.sub (tys' := []) [] rfl
          refine W.widen (k := 0) (n := 0) (Nat.le_of_ble_eq_true rfl) (Nat.le_of_ble_eq_true rfl) ?_
          exact W.iret (v := (-1)) hx hb hr (fun t ht hW => ⟨⟨(-1), (), rfl, (by have z0 : ¬ _ := fun h9 => c_1 ((fa_lt _ _).mpr h9); have z1 : ¬ _ := fun h9 => c_3 ((fa_lt _ _).mpr h9); have z2 : ¬ _ := fun h9 => c_5 ((fa_le _ _).mpr h9); have z3 := (fa_le _ _).mp c_8; have li0 : Int32.toInt 0 = 0 := (by decide); have li50 : Int32.toInt 50 = 50 := (by decide); unfold sp_quota; (repeat' split) <;> first | rfl | omega | (refine Int32.toInt_inj.mp ?_; omega)), by rw [ht]; exact hP9, va_K.moved hW.alike hK9, hD9⟩, hS.F ht⟩) hS.2.2 dX11_quota_33
        · refine lv_iload_n hx hb dX11_quota_19 rfl (lv_at hl 3 rfl) ?_
          refine lv_bipush (v := 60) hx hb dX11_quota_20 (by decide) ?_
          refine lv_icmp_le (tgt := 34) hx hb dX11_quota_22 (by decide) (fun c_10 => ?_) (fun c_10 => ?_)
          · refine lv_aload_n hx hb dX11_quota_34 rfl (lv_at hl 0 rfl) ?_
            refine va_get (D := (dC, dI)) (ci := 11) (v := .ref no) (C := RX11) (T := TX11) (N := 12) hx hb hts (fun _ h0_ => List.mem_cons_of_mem _ (List.mem_append_right _ (List.mem_append_left _ h0_))) hown hK hP 0 rfl rfl 3 (by decide) (hts (.fieldLink RX11 37 "DeadlineShare" "now" "LDeadlineShare$State;") (List.mem_cons_of_mem _ (List.mem_append_left _ (List.mem_of_getElem? (i := 5) rfl)))) (fun _ h9 => h9) rfl dX11_quota_35 ?_
            refine lv_iload_n hx hb dX11_quota_38 rfl (lv_at hl 1 rfl) ?_
            have hPc := hP.sub (ws' := [(no, .inr (6, [.ref te, .ref nt, .ref nl, .ref ns, .ref np, .int 0, .int 0, .long 0, .int (-1), .int (-1)]))]) [1] rfl
            have hDc := hD.sub (ws' := [(no, .inr (6, [.ref te, .ref nt, .ref nl, .ref ns, .ref np, .int 0, .int 0, .long 0, .int (-1), .int (-1)]))]) [1] (by decide) rfl
            have hKc := hK.sub (tys' := []) [] rfl
            have hFc := va_free (wc := [(no, .inr (6, [.ref te, .ref nt, .ref nl, .ref ns, .ref np, .int 0, .int 0, .long 0, .int (-1), .int (-1)]))]) hD hS hA [1] rfl
            refine va_calli (va_runV (As := [.int tk]) (rest := []) ⟨hx, hb, hml, hown, hts⟩ (c_X6_has l dC dI no tk te nt nl ns np 0 s.heap.size) (cwV 1 hts (gi_V (fun w_ h0_ => ⟨List.mem_cons_of_mem _ (List.mem_append_right _ (List.mem_append_right _ (List.mem_append_right _ (List.mem_append_left _ h0_)))), (tb_c_X6_has w_ h0_).2⟩) (List.mem_cons_of_mem _ (List.mem_append_left _ (List.mem_of_getElem? (i := 6) rfl))) (List.mem_cons_of_mem _ (List.mem_append_left _ (List.mem_of_getElem? (i := 7) rfl))) (List.mem_cons_of_mem _ (List.mem_append_left _ (List.mem_of_getElem? (i := 8) rfl))) (List.mem_cons_of_mem _ (List.mem_append_left _ (List.mem_of_getElem? (i := 9) rfl)))) rfl rfl rfl (by decide +kernel) ⟨Nat.le_of_ble_eq_true rfl, Nat.le_of_ble_eq_true rfl⟩) ⟨fun a U g mk q => by obtain ⟨q0, q1, qP, qK, qD⟩ := q; exact ⟨q0, q1, qP, va_K.moved (u := U) (U := U.calling g mk a) (Vm.Alike.refl U.vm) qK, qD⟩, va_recv hKc hPc (ci := 6) (q0 := 0) rfl rfl, fun U hU hW => ⟨rfl, by rw [hU], by rw [hU]; exact hPc, va_K.moved hW.alike hKc, hDc.weaken (fun _ _ _ _ => trivial)⟩⟩ rfl rfl hl.1 rfl (lv_room (Nat.le_of_ble_eq_true rfl)) dX11_quota_39 ⟨Nat.le_of_ble_eq_true rfl, Nat.le_of_ble_eq_true rfl⟩) hS (fun q _ h => hFc q h) hFc (fun r_11 u t H1 locs ht hvm hw hB hz1 hk1 hS => ?_)
            obtain ⟨hP1, hK1, hD1⟩ := hB
            rw [ht] at hP1
            have hK1 := va_K.moved hvm.symm hK1
            obtain ⟨hP, hD⟩ := va_join (wr := [(h0, .inr (11, [.ref te, .ref ta, .ref re, .ref no, .ref pa, .ref ac, .ref op, .ref im, .ref ik, .ref hi, .ref rf, .int (-1)])), (rf, .inr (4, [.ref rc, .int 0])), (rc, .inl (ci2, 5, .inl (fun _ => 0)))]) (w1 := [(no, .inr (6, [.ref te, .ref nt, .ref nl, .ref ns, .ref np, .int 0, .int 0, .long 0, .int (-1), .int (-1)]))]) hP hD [1] [0, 2, 3] rfl rfl (by decide) (by decide) hk1 hFc hP1 hD1
            generalize H1 = H at hP hS ⊢
            have hP : va_P (dC, dI) vwCl [(h0, .inr (11, [.ref te, .ref ta, .ref re, .ref no, .ref pa, .ref ac, .ref op, .ref im, .ref ik, .ref hi, .ref rf, .int (-1)])), (rf, .inr (4, [.ref rc, .int 0])), (rc, .inl (ci2, 5, .inl (fun _ => 0))), (no, .inr (6, [.ref te, .ref nt, .ref nl, .ref ns, .ref np, .int 0, .int 0, .long 0, .int (-1), .int (-1)]))] H := hP
            have hD : va_D A [(h0, .inr (11, [.ref te, .ref ta, .ref re, .ref no, .ref pa, .ref ac, .ref op, .ref im, .ref ik, .ref hi, .ref rf, .int (-1)])), (rf, .inr (4, [.ref rc, .int 0])), (rc, .inl (ci2, 5, .inl (fun _ => 0))), (no, .inr (6, [.ref te, .ref nt, .ref nl, .ref ns, .ref np, .int 0, .int 0, .long 0, .int (-1), .int (-1)]))] := hD
            refine W.widen (k := 0) (n := 0) (Nat.le_of_ble_eq_true rfl) (Nat.le_of_ble_eq_true rfl) ?_
            have hw : r_11 = 0 := hw
            subst hw
            refine lv_if_ne (tgt := 55) hx hb dX11_quota_42 (by decide) (fun c => absurd c (by decide)) (fun _ => ?_)
            refine lv_aload_n hx hb dX11_quota_45 rfl (lv_at hl 0 rfl) ?_
            refine va_get (D := (dC, dI)) (ci := 11) (v := .ref rf) (C := RX11) (T := TX11) (N := 12) hx hb hts (fun _ h0_ => List.mem_cons_of_mem _ (List.mem_append_right _ (List.mem_append_left _ h0_))) hown hK hP 0 rfl rfl 10 (by decide) (hts (.fieldLink RX11 72 "DeadlineShare" "refusals" "LDeadlineShare$Refusals;") (List.mem_cons_of_mem _ (List.mem_append_left _ (List.mem_of_getElem? (i := 0) rfl)))) (fun _ h9 => h9) rfl dX11_quota_46 ?_
            refine lv_bipush (v := (-2)) hx hb dX11_quota_49 (by decide) ?_
            have hPc := hP.sub (ws' := [(rf, .inr (4, [.ref rc, .int 0])), (rc, .inl (ci2, 5, .inl (fun _ => 0)))]) [1, 2] rfl
            have hDc := hD.sub (ws' := [(rf, .inr (4, [.ref rc, .int 0])), (rc, .inl (ci2, 5, .inl (fun _ => 0)))]) [1, 2] (by decide) rfl
            have hKc := hK.sub (tys' := [(ci2, .int)]) [0] rfl
            have hFc := va_free (wc := [(rf, .inr (4, [.ref rc, .int 0])), (rc, .inl (ci2, 5, .inl (fun _ => 0)))]) hD hS hA [1, 2] rfl
            refine va_calli (va_runV (As := [.int (-2)]) (rest := []) ⟨hx, hb, hml, hown, hts⟩ (c_X4_add_2 l dC dI rf rc ci2 H.size) (cwV 1 hts (gi_V (fun w_ h0_ => ⟨List.mem_cons_of_mem _ (List.mem_append_right _ (List.mem_append_right _ (List.mem_append_right _ (List.mem_append_right _ (List.mem_append_left _ h0_))))), (tb_c_X4_add_2 w_ h0_).2⟩) (List.mem_cons_of_mem _ (List.mem_append_left _ (List.mem_of_getElem? (i := 1) rfl))) (List.mem_cons_of_mem _ (List.mem_append_left _ (List.mem_of_getElem? (i := 2) rfl))) (List.mem_cons_of_mem _ (List.mem_append_left _ (List.mem_of_getElem? (i := 3) rfl))) (List.mem_cons_of_mem _ (List.mem_append_left _ (List.mem_of_getElem? (i := 4) rfl)))) rfl rfl rfl (by decide +kernel) ⟨Nat.le_of_ble_eq_true rfl, Nat.le_of_ble_eq_true rfl⟩) ⟨fun a U g mk q => by obtain ⟨q0, q1, qP, qK, qD⟩ := q; exact ⟨q0, q1, qP, va_K.moved (u := U) (U := U.calling g mk a) (Vm.Alike.refl U.vm) qK, qD⟩, va_recv hKc hPc (ci := 4) (q0 := 0) rfl rfl, fun U hU hW => ⟨rfl, by rw [hU], by rw [hU]; exact hPc, va_K.moved hW.alike hKc, hDc.weaken (fun _ _ _ _ => trivial)⟩⟩ rfl rfl hl.1 rfl (lv_room (Nat.le_of_ble_eq_true rfl)) dX11_quota_51 ⟨Nat.le_of_ble_eq_true rfl, Nat.le_of_ble_eq_true rfl⟩) hS (fun q _ h => hFc q h) hFc (fun r_12 u t H1 locs ht hvm hw hB hz1 hk1 hS => ?_)
            obtain ⟨hP1, hK1, hD1⟩ := hB
            rw [ht] at hP1
            have hK1 := va_K.moved hvm.symm hK1
            obtain ⟨hP, hD⟩ := va_join (wr := [(h0, .inr (11, [.ref te, .ref ta, .ref re, .ref no, .ref pa, .ref ac, .ref op, .ref im, .ref ik, .ref hi, .ref rf, .int (-1)])), (no, .inr (6, [.ref te, .ref nt, .ref nl, .ref ns, .ref np, .int 0, .int 0, .long 0, .int (-1), .int (-1)]))]) (w1 := []) hP hD [1, 2] [0, 3] rfl rfl (by decide) (by decide) hk1 hFc hP1 hD1
            generalize H1 = H at hP hS ⊢
            have hP : va_P (dC, dI) vwCl [(h0, .inr (11, [.ref te, .ref ta, .ref re, .ref no, .ref pa, .ref ac, .ref op, .ref im, .ref ik, .ref hi, .ref rf, .int (-1)])), (no, .inr (6, [.ref te, .ref nt, .ref nl, .ref ns, .ref np, .int 0, .int 0, .long 0, .int (-1), .int (-1)]))] H := hP
            have hD : va_D A [(h0, .inr (11, [.ref te, .ref ta, .ref re, .ref no, .ref pa, .ref ac, .ref op, .ref im, .ref ik, .ref hi, .ref rf, .int (-1)])), (no, .inr (6, [.ref te, .ref nt, .ref nl, .ref ns, .ref np, .int 0, .int 0, .long 0, .int (-1), .int (-1)]))] := hD
            refine W.widen (k := 0) (n := 0) (Nat.le_of_ble_eq_true rfl) (Nat.le_of_ble_eq_true rfl) ?_
            have hw : r_12 = (-2) := hw
            subst hw
            have hP9 := hP.sub (ws' := []) [] rfl
            have hD9 := hD.sub (ws' := []) [] (by decide) rfl
            have hK9 := hK.sub (tys' := []) [] rfl
            refine W.widen (k := 0) (n := 0) (Nat.le_of_ble_eq_true rfl) (Nat.le_of_ble_eq_true rfl) ?_
            exact W.iret (v := (-2)) hx hb hr (fun t ht hW => ⟨⟨(-2), (), rfl, (by have z0 : ¬ _ := fun h9 => c_1 ((fa_lt _ _).mpr h9); have z1 : ¬ _ := fun h9 => c_3 ((fa_lt _ _).mpr h9); have z2 : ¬ _ := fun h9 => c_5 ((fa_le _ _).mpr h9); have z3 : ¬ _ := fun h9 => c_8 ((fa_le _ _).mpr h9); have z4 := (fa_le _ _).mp c_10; have li0 : Int32.toInt 0 = 0 := (by decide); have li50 : Int32.toInt 50 = 50 := (by decide); have li60 : Int32.toInt 60 = 60 := (by decide); unfold sp_quota; (repeat' split) <;> first | rfl | omega | (refine Int32.toInt_inj.mp ?_; omega)), by rw [ht]; exact hP9, va_K.moved hW.alike hK9, hD9⟩, hS.F ht⟩) hS.2.2 dX11_quota_54
          · refine lv_aload_n hx hb dX11_quota_25 rfl (lv_at hl 0 rfl) ?_
            refine va_get (D := (dC, dI)) (ci := 11) (v := .ref rf) (C := RX11) (T := TX11) (N := 12) hx hb hts (fun _ h0_ => List.mem_cons_of_mem _ (List.mem_append_right _ (List.mem_append_left _ h0_))) hown hK hP 0 rfl rfl 10 (by decide) (hts (.fieldLink RX11 72 "DeadlineShare" "refusals" "LDeadlineShare$Refusals;") (List.mem_cons_of_mem _ (List.mem_append_left _ (List.mem_of_getElem? (i := 0) rfl)))) (fun _ h9 => h9) rfl dX11_quota_26 ?_
            refine lv_iconst (v := (-1)) hx hb dX11_quota_29 (by decide) ?_
            have hPc := hP.sub (ws' := [(rf, .inr (4, [.ref rc, .int 0])), (rc, .inl (ci2, 5, .inl (fun _ => 0)))]) [2, 3] rfl
            have hDc := hD.sub (ws' := [(rf, .inr (4, [.ref rc, .int 0])), (rc, .inl (ci2, 5, .inl (fun _ => 0)))]) [2, 3] (by decide) rfl
            have hKc := hK.sub (tys' := [(ci2, .int)]) [0] rfl
            have hFc := va_free (wc := [(rf, .inr (4, [.ref rc, .int 0])), (rc, .inl (ci2, 5, .inl (fun _ => 0)))]) hD hS hA [2, 3] rfl
            refine va_calli (va_runV (As := [.int (-1)]) (rest := []) ⟨hx, hb, hml, hown, hts⟩ (c_X4_add_1 l dC dI rf rc ci2 s.heap.size) (cwV 1 hts (gi_V (fun w_ h0_ => ⟨List.mem_cons_of_mem _ (List.mem_append_right _ (List.mem_append_right _ (List.mem_append_left _ h0_))), (tb_c_X4_add_1 w_ h0_).2⟩) (List.mem_cons_of_mem _ (List.mem_append_left _ (List.mem_of_getElem? (i := 1) rfl))) (List.mem_cons_of_mem _ (List.mem_append_left _ (List.mem_of_getElem? (i := 2) rfl))) (List.mem_cons_of_mem _ (List.mem_append_left _ (List.mem_of_getElem? (i := 3) rfl))) (List.mem_cons_of_mem _ (List.mem_append_left _ (List.mem_of_getElem? (i := 4) rfl)))) rfl rfl rfl (by decide +kernel) ⟨Nat.le_of_ble_eq_true rfl, Nat.le_of_ble_eq_true rfl⟩) ⟨fun a U g mk q => by obtain ⟨q0, q1, qP, qK, qD⟩ := q; exact ⟨q0, q1, qP, va_K.moved (u := U) (U := U.calling g mk a) (Vm.Alike.refl U.vm) qK, qD⟩, va_recv hKc hPc (ci := 4) (q0 := 0) rfl rfl, fun U hU hW => ⟨rfl, by rw [hU], by rw [hU]; exact hPc, va_K.moved hW.alike hKc, hDc.weaken (fun _ _ _ _ => trivial)⟩⟩ rfl rfl hl.1 rfl (lv_room (Nat.le_of_ble_eq_true rfl)) dX11_quota_30 ⟨Nat.le_of_ble_eq_true rfl, Nat.le_of_ble_eq_true rfl⟩) hS (fun q _ h => hFc q h) hFc (fun r_13 u t H1 locs ht hvm hw hB hz1 hk1 hS => ?_)
            obtain ⟨hP1, hK1, hD1⟩ := hB
            rw [ht] at hP1
            have hK1 := va_K.moved hvm.symm hK1
            obtain ⟨hP, hD⟩ := va_join (wr := [(h0, .inr (11, [.ref te, .ref ta, .ref re, .ref no, .ref pa, .ref ac, .ref op, .ref im, .ref ik, .ref hi, .ref rf, .int (-1)])), (no, .inr (6, [.ref te, .ref nt, .ref nl, .ref ns, .ref np, .int 0, .int 0, .long 0, .int (-1), .int (-1)]))]) (w1 := []) hP hD [2, 3] [0, 1] rfl rfl (by decide) (by decide) hk1 hFc hP1 hD1
            generalize H1 = H at hP hS ⊢
            have hP : va_P (dC, dI) vwCl [(h0, .inr (11, [.ref te, .ref ta, .ref re, .ref no, .ref pa, .ref ac, .ref op, .ref im, .ref ik, .ref hi, .ref rf, .int (-1)])), (no, .inr (6, [.ref te, .ref nt, .ref nl, .ref ns, .ref np, .int 0, .int 0, .long 0, .int (-1), .int (-1)]))] H := hP
            have hD : va_D A [(h0, .inr (11, [.ref te, .ref ta, .ref re, .ref no, .ref pa, .ref ac, .ref op, .ref im, .ref ik, .ref hi, .ref rf, .int (-1)])), (no, .inr (6, [.ref te, .ref nt, .ref nl, .ref ns, .ref np, .int 0, .int 0, .long 0, .int (-1), .int (-1)]))] := hD
            refine W.widen (k := 0) (n := 0) (Nat.le_of_ble_eq_true rfl) (Nat.le_of_ble_eq_true rfl) ?_
            have hw : r_13 = (-1) := hw
            subst hw
            have hP9 := hP.sub (ws' := []) [] rfl
            have hD9 := hD.sub (ws' := []) [] (by decide) rfl
            have hK9 := hK.sub (tys' := []) [] rfl
            refine W.widen (k := 0) (n := 0) (Nat.le_of_ble_eq_true rfl) (Nat.le_of_ble_eq_true rfl) ?_
            exact W.iret (v := (-1)) hx hb hr (fun t ht hW => ⟨⟨(-1), (), rfl, (by have z0 : ¬ _ := fun h9 => c_1 ((fa_lt _ _).mpr h9); have z1 : ¬ _ := fun h9 => c_3 ((fa_lt _ _).mpr h9); have z2 : ¬ _ := fun h9 => c_5 ((fa_le _ _).mpr h9); have z3 : ¬ _ := fun h9 => c_8 ((fa_le _ _).mpr h9); have z4 : ¬ _ := fun h9 => c_10 ((fa_le _ _).mpr h9); have li0 : Int32.toInt 0 = 0 := (by decide); have li50 : Int32.toInt 50 = 50 := (by decide); have li60 : Int32.toInt 60 = 60 := (by decide); unfold sp_quota; (repeat' split) <;> first | rfl | omega | (refine Int32.toInt_inj.mp ?_; omega)), by rw [ht]; exact hP9, va_K.moved hW.alike hK9, hD9⟩, hS.F ht⟩) hS.2.2 dX11_quota_33
def ow_c_X11_fault : List Cond := [.fieldLink RX11 76 "DeadlineShare" "faultPlace" "I"]
def wq_c_X11_fault : List Cond := .code yX11_fault cX11_fault 1 (some .int) :: (ow_c_X11_fault ++ (u_ws RX11 TX11 12 ++ ([] : List Cond)))
theorem tb_c_X11_fault : ∀ w ∈ wq_c_X11_fault, q_g w := by
  unfold wq_c_X11_fault ow_c_X11_fault
  exact q_cons tw_338 (q_app (q_cons tw_79 q_nil) (q_app tu_X11 q_nil))
set_option maxHeartbeats 4000000 in
set_option maxRecDepth 100000 in
theorem c_X11_fault (l : Launch) (dC : Nat → ClassId) (dI : Nat → Nat → Nat) (h0 : Nat) (te : Nat) (ta : Nat) (re : Nat) (no : Nat) (pa : Nat) (ac : Nat) (op : Nat) (im : Nat) (ik : Nat) (hi : Nat) (rf : Nat) (sz : Nat) : Met l yX11_fault wq_c_X11_fault ({ frames := 0, cells := 0, slots := 0, locals := 0 } : Room) (va_Pc [.ref h0] (fun U => U.heap.size = sz ∧ va_P (dC, dI) vwCl [(h0, .inr (11, [.ref te, .ref ta, .ref re, .ref no, .ref pa, .ref ac, .ref op, .ref im, .ref ik, .ref hi, .ref rf, .int (-1)]))] U.heap ∧ va_K (dC, dI) vwCl [] U ∧ va_D (fun _ => True) [(h0, .inr (11, [.ref te, .ref ta, .ref re, .ref no, .ref pa, .ref ac, .ref op, .ref im, .ref ik, .ref hi, .ref rf, .int (-1)]))])) (va_Qi (fun (r : Int32) (_ : Unit) => r = (-1)) (fun (_ : Unit) t => va_P (dC, dI) vwCl [] t.heap ∧ va_K (dC, dI) vwCl [] t ∧ va_D (va_A [(h0, .inr (11, [.ref te, .ref ta, .ref re, .ref no, .ref pa, .ref ac, .ref op, .ref im, .ref ik, .ref hi, .ref rf, .int (-1)]))] sz) []) (va_A [(h0, .inr (11, [.ref te, .ref ta, .ref re, .ref no, .ref pa, .ref ac, .ref op, .ref im, .ref ik, .ref hi, .ref rf, .int (-1)]))] sz)) 0 0 (va_A [(h0, .inr (11, [.ref te, .ref ta, .ref re, .ref no, .ref pa, .ref ac, .ref op, .ref im, .ref ik, .ref hi, .ref rf, .int (-1)]))] sz) := by
  refine Met.ofW (cc := cX11_fault) (maxL := 1) (ret := (some .int)) (by decide) rfl ?_
  intro p e s m args below meth c s₁ B hml hv
  obtain ⟨rfl, hsz, hP, hK, hD0⟩ := hv
  have hx := B.exec
  have hb := B.bytes
  have hr := B.returns
  have hts := atoms_spec (ws := wq_c_X11_fault) B.pre
  have hown : s.vm.findClass RX11 = some m.cls := findClass_of_methodNamed B.named
  have hlocks := B.notSynchronized
  subst hsz
  have hD := hD0.self (sz := s.heap.size)
  obtain ⟨A, hAe⟩ : ∃ A, A = va_A [(h0, .inr (11, [.ref te, .ref ta, .ref re, .ref no, .ref pa, .ref ac, .ref op, .ref im, .ref ik, .ref hi, .ref rf, .int (-1)]))] s.heap.size := ⟨_, rfl⟩
  rw [← hAe] at hD ⊢
  have hA : ∀ q : Nat, s.heap.size ≤ q → A q := fun q h => by rw [hAe]; exact Or.inr h
  have hS : va_S A s.heap s.heap [] := va_S.rf
  have hP : va_P (dC, dI) vwCl [(h0, .inr (11, [.ref te, .ref ta, .ref re, .ref no, .ref pa, .ref ac, .ref op, .ref im, .ref ik, .ref hi, .ref rf, .int (-1)]))] s.heap := hP
  have hl := lv_entry ([.ref h0]) (n := 1) (Nat.le_of_ble_eq_true rfl)
  rw [lg_entry_eq]
  generalize (lg_sl ([.ref h0]) ++ List.replicate (1 - (lg_sl ([.ref h0])).length) Slot.unset).toArray = ls at hl ⊢
  have hl : lv_has ls 1 [(0, .ref h0)] := hl
  refine lv_aload_n hx hb dX11_fault_0 rfl (lv_at hl 0 rfl) ?_
  refine va_get (D := (dC, dI)) (ci := 11) (v := .int (-1)) (C := RX11) (T := TX11) (N := 12) hx hb hts (fun _ h0_ => List.mem_cons_of_mem _ (List.mem_append_right _ (List.mem_append_left _ h0_))) hown hK hP 0 rfl rfl 11 (by decide) (hts (.fieldLink RX11 76 "DeadlineShare" "faultPlace" "I") (List.mem_cons_of_mem _ (List.mem_append_left _ (List.mem_of_getElem? (i := 0) rfl)))) (fun _ h9 => h9) rfl dX11_fault_1 ?_
  have hP9 := hP.sub (ws' := []) [] rfl
  have hD9 := hD.sub (ws' := []) [] (by decide) rfl
  have hK9 := hK.sub (tys' := []) [] rfl
  refine W.widen (k := 0) (n := 0) (Nat.le_of_ble_eq_true rfl) (Nat.le_of_ble_eq_true rfl) ?_
  exact W.iret (v := (-1)) hx hb hr (fun t ht hW => ⟨⟨(-1), (), rfl, rfl, by rw [ht]; exact hP9, va_K.moved hW.alike hK9, hD9⟩, hS.F ht⟩) hS.2.2 dX11_fault_4
def ow_c_X11_undo : List Cond := [.fieldLink RX11 65 "DeadlineShare" "history" "LDeadlineShare$History;", .fieldLink RX11 230 "DeadlineShare$History" "size" "I", .fieldLink RX11 72 "DeadlineShare" "refusals" "LDeadlineShare$Refusals;", .methodLink RX11 84 yX4_add, .instanceMethod yX4_add, .selects RX4 yX4_add yX4_add, .initialized RX4]
def wq_c_X11_undo : List Cond := .code yX11_undo cX11_undo 1 (some .int) :: (ow_c_X11_undo ++ (u_ws RX11 TX11 12 ++ (u_ws RX1 TX1 4 ++ (wq_c_X4_add_4 ++ ([] : List Cond)))))
theorem tb_c_X11_undo : ∀ w ∈ wq_c_X11_undo, q_g w := by
  unfold wq_c_X11_undo ow_c_X11_undo
  exact q_cons tw_340 (q_app (q_cons tw_84 (q_cons tw_339 (q_cons tw_80 (q_cons tw_280 (q_cons tw_279 (q_cons tw_278 (q_cons tw_1 q_nil))))))) (q_app tu_X11 (q_app tu_X1 (q_app tb_c_X4_add_4 q_nil))))
set_option maxHeartbeats 4000000 in
set_option maxRecDepth 100000 in
theorem c_X11_undo (l : Launch) (dC : Nat → ClassId) (dI : Nat → Nat → Nat) (h0 : Nat) (te : Nat) (ta : Nat) (re : Nat) (no : Nat) (pa : Nat) (ac : Nat) (op : Nat) (im : Nat) (ik : Nat) (hi : Nat) (rf : Nat) (hbf : Nat) (hac : Nat) (rc : Nat) (ci2 : ClassId) (sz : Nat) : Met l yX11_undo wq_c_X11_undo ({ frames := 2, cells := 0, slots := 0, locals := 41 } : Room) (va_Pc [.ref h0] (fun U => U.heap.size = sz ∧ va_P (dC, dI) vwCl [(h0, .inr (11, [.ref te, .ref ta, .ref re, .ref no, .ref pa, .ref ac, .ref op, .ref im, .ref ik, .ref hi, .ref rf, .int (-1)])), (hi, .inr (1, [.ref hbf, .ref hac, .int 0, .int 0])), (rf, .inr (4, [.ref rc, .int 0])), (rc, .inl (ci2, 5, .inl (fun _ => 0)))] U.heap ∧ va_K (dC, dI) vwCl [(ci2, .int)] U ∧ va_D (fun _ => True) [(h0, .inr (11, [.ref te, .ref ta, .ref re, .ref no, .ref pa, .ref ac, .ref op, .ref im, .ref ik, .ref hi, .ref rf, .int (-1)])), (hi, .inr (1, [.ref hbf, .ref hac, .int 0, .int 0])), (rf, .inr (4, [.ref rc, .int 0])), (rc, .inl (ci2, 5, .inl (fun _ => 0)))])) (va_Qi (fun (r : Int32) (_ : Unit) => r = (-4)) (fun (_ : Unit) t => va_P (dC, dI) vwCl [] t.heap ∧ va_K (dC, dI) vwCl [] t ∧ va_D (va_A [(h0, .inr (11, [.ref te, .ref ta, .ref re, .ref no, .ref pa, .ref ac, .ref op, .ref im, .ref ik, .ref hi, .ref rf, .int (-1)])), (hi, .inr (1, [.ref hbf, .ref hac, .int 0, .int 0])), (rf, .inr (4, [.ref rc, .int 0])), (rc, .inl (ci2, 5, .inl (fun _ => 0)))] sz) []) (va_A [(h0, .inr (11, [.ref te, .ref ta, .ref re, .ref no, .ref pa, .ref ac, .ref op, .ref im, .ref ik, .ref hi, .ref rf, .int (-1)])), (hi, .inr (1, [.ref hbf, .ref hac, .int 0, .int 0])), (rf, .inr (4, [.ref rc, .int 0])), (rc, .inl (ci2, 5, .inl (fun _ => 0)))] sz)) 0 0 (va_A [(h0, .inr (11, [.ref te, .ref ta, .ref re, .ref no, .ref pa, .ref ac, .ref op, .ref im, .ref ik, .ref hi, .ref rf, .int (-1)])), (hi, .inr (1, [.ref hbf, .ref hac, .int 0, .int 0])), (rf, .inr (4, [.ref rc, .int 0])), (rc, .inl (ci2, 5, .inl (fun _ => 0)))] sz) := by
  refine Met.ofW (cc := cX11_undo) (maxL := 1) (ret := (some .int)) (by decide) rfl ?_
  intro p e s m args below meth c s₁ B hml hv
  obtain ⟨rfl, hsz, hP, hK, hD0⟩ := hv
  have hx := B.exec
  have hb := B.bytes
  have hr := B.returns
  have hts := atoms_spec (ws := wq_c_X11_undo) B.pre
  have hown : s.vm.findClass RX11 = some m.cls := findClass_of_methodNamed B.named
  have hlocks := B.notSynchronized
  subst hsz
  have hD := hD0.self (sz := s.heap.size)
  obtain ⟨A, hAe⟩ : ∃ A, A = va_A [(h0, .inr (11, [.ref te, .ref ta, .ref re, .ref no, .ref pa, .ref ac, .ref op, .ref im, .ref ik, .ref hi, .ref rf, .int (-1)])), (hi, .inr (1, [.ref hbf, .ref hac, .int 0, .int 0])), (rf, .inr (4, [.ref rc, .int 0])), (rc, .inl (ci2, 5, .inl (fun _ => 0)))] s.heap.size := ⟨_, rfl⟩
  rw [← hAe] at hD ⊢
  have hA : ∀ q : Nat, s.heap.size ≤ q → A q := fun q h => by rw [hAe]; exact Or.inr h
  have hS : va_S A s.heap s.heap [] := va_S.rf
  have hP : va_P (dC, dI) vwCl [(h0, .inr (11, [.ref te, .ref ta, .ref re, .ref no, .ref pa, .ref ac, .ref op, .ref im, .ref ik, .ref hi, .ref rf, .int (-1)])), (hi, .inr (1, [.ref hbf, .ref hac, .int 0, .int 0])), (rf, .inr (4, [.ref rc, .int 0])), (rc, .inl (ci2, 5, .inl (fun _ => 0)))] s.heap := hP
  have hl := lv_entry ([.ref h0]) (n := 1) (Nat.le_of_ble_eq_true rfl)
  rw [lg_entry_eq]
  generalize (lg_sl ([.ref h0]) ++ List.replicate (1 - (lg_sl ([.ref h0])).length) Slot.unset).toArray = ls at hl ⊢
  have hl : lv_has ls 1 [(0, .ref h0)] := hl
  refine lv_aload_n hx hb dX11_undo_0 rfl (lv_at hl 0 rfl) ?_
  refine va_get (D := (dC, dI)) (ci := 11) (v := .ref hi) (C := RX11) (T := TX11) (N := 12) hx hb hts (fun _ h0_ => List.mem_cons_of_mem _ (List.mem_append_right _ (List.mem_append_left _ h0_))) hown hK hP 0 rfl rfl 9 (by decide) (hts (.fieldLink RX11 65 "DeadlineShare" "history" "LDeadlineShare$History;") (List.mem_cons_of_mem _ (List.mem_append_left _ (List.mem_of_getElem? (i := 0) rfl)))) (fun _ h9 => h9) rfl dX11_undo_1 ?_
  refine va_get (D := (dC, dI)) (ci := 1) (v := .int 0) (C := RX1) (T := TX1) (N := 4) hx hb hts (fun _ h0_ => List.mem_cons_of_mem _ (List.mem_append_right _ (List.mem_append_right _ (List.mem_append_left _ h0_)))) hown hK hP 1 rfl rfl 3 (by decide) (hts (.fieldLink RX11 230 "DeadlineShare$History" "size" "I") (List.mem_cons_of_mem _ (List.mem_append_left _ (List.mem_of_getElem? (i := 1) rfl)))) (fun _ h9 => h9) rfl dX11_undo_4 ?_
  refine lv_if_ne (tgt := 20) hx hb dX11_undo_7 (by decide) (fun c => absurd c (by decide)) (fun _ => ?_)
  refine lv_aload_n hx hb dX11_undo_10 rfl (lv_at hl 0 rfl) ?_
  refine va_get (D := (dC, dI)) (ci := 11) (v := .ref rf) (C := RX11) (T := TX11) (N := 12) hx hb hts (fun _ h0_ => List.mem_cons_of_mem _ (List.mem_append_right _ (List.mem_append_left _ h0_))) hown hK hP 0 rfl rfl 10 (by decide) (hts (.fieldLink RX11 72 "DeadlineShare" "refusals" "LDeadlineShare$Refusals;") (List.mem_cons_of_mem _ (List.mem_append_left _ (List.mem_of_getElem? (i := 2) rfl)))) (fun _ h9 => h9) rfl dX11_undo_11 ?_
  refine lv_bipush (v := (-4)) hx hb dX11_undo_14 (by decide) ?_
  have hPc := hP.sub (ws' := [(rf, .inr (4, [.ref rc, .int 0])), (rc, .inl (ci2, 5, .inl (fun _ => 0)))]) [2, 3] rfl
  have hDc := hD.sub (ws' := [(rf, .inr (4, [.ref rc, .int 0])), (rc, .inl (ci2, 5, .inl (fun _ => 0)))]) [2, 3] (by decide) rfl
  have hKc := hK.sub (tys' := [(ci2, .int)]) [0] rfl
  have hFc := va_free (wc := [(rf, .inr (4, [.ref rc, .int 0])), (rc, .inl (ci2, 5, .inl (fun _ => 0)))]) hD hS hA [2, 3] rfl
  refine va_calli (va_runV (As := [.int (-4)]) (rest := []) ⟨hx, hb, hml, hown, hts⟩ (c_X4_add_4 l dC dI rf rc ci2 s.heap.size) (cwV 1 hts (gi_V (fun w_ h0_ => ⟨List.mem_cons_of_mem _ (List.mem_append_right _ (List.mem_append_right _ (List.mem_append_right _ (List.mem_append_left _ h0_)))), (tb_c_X4_add_4 w_ h0_).2⟩) (List.mem_cons_of_mem _ (List.mem_append_left _ (List.mem_of_getElem? (i := 3) rfl))) (List.mem_cons_of_mem _ (List.mem_append_left _ (List.mem_of_getElem? (i := 4) rfl))) (List.mem_cons_of_mem _ (List.mem_append_left _ (List.mem_of_getElem? (i := 5) rfl))) (List.mem_cons_of_mem _ (List.mem_append_left _ (List.mem_of_getElem? (i := 6) rfl)))) rfl rfl rfl (by decide +kernel) ⟨Nat.le_of_ble_eq_true rfl, Nat.le_of_ble_eq_true rfl⟩) ⟨fun a U g mk q => by obtain ⟨q0, q1, qP, qK, qD⟩ := q; exact ⟨q0, q1, qP, va_K.moved (u := U) (U := U.calling g mk a) (Vm.Alike.refl U.vm) qK, qD⟩, va_recv hKc hPc (ci := 4) (q0 := 0) rfl rfl, fun U hU hW => ⟨rfl, by rw [hU], by rw [hU]; exact hPc, va_K.moved hW.alike hKc, hDc.weaken (fun _ _ _ _ => trivial)⟩⟩ rfl rfl hl.1 rfl (lv_room (Nat.le_of_ble_eq_true rfl)) dX11_undo_16 ⟨Nat.le_of_ble_eq_true rfl, Nat.le_of_ble_eq_true rfl⟩) hS (fun q _ h => hFc q h) hFc (fun r_1 u t H1 locs ht hvm hw hB hz1 hk1 hS => ?_)
  obtain ⟨hP1, hK1, hD1⟩ := hB
  rw [ht] at hP1
  have hK1 := va_K.moved hvm.symm hK1
  obtain ⟨hP, hD⟩ := va_join (wr := [(h0, .inr (11, [.ref te, .ref ta, .ref re, .ref no, .ref pa, .ref ac, .ref op, .ref im, .ref ik, .ref hi, .ref rf, .int (-1)])), (hi, .inr (1, [.ref hbf, .ref hac, .int 0, .int 0]))]) (w1 := []) hP hD [2, 3] [0, 1] rfl rfl (by decide) (by decide) hk1 hFc hP1 hD1
  generalize H1 = H at hP hS ⊢
  have hP : va_P (dC, dI) vwCl [(h0, .inr (11, [.ref te, .ref ta, .ref re, .ref no, .ref pa, .ref ac, .ref op, .ref im, .ref ik, .ref hi, .ref rf, .int (-1)])), (hi, .inr (1, [.ref hbf, .ref hac, .int 0, .int 0]))] H := hP
  have hD : va_D A [(h0, .inr (11, [.ref te, .ref ta, .ref re, .ref no, .ref pa, .ref ac, .ref op, .ref im, .ref ik, .ref hi, .ref rf, .int (-1)])), (hi, .inr (1, [.ref hbf, .ref hac, .int 0, .int 0]))] := hD
  refine W.widen (k := 0) (n := 0) (Nat.le_of_ble_eq_true rfl) (Nat.le_of_ble_eq_true rfl) ?_
  have hw : r_1 = (-4) := hw
  subst hw
  have hP9 := hP.sub (ws' := []) [] rfl
  have hD9 := hD.sub (ws' := []) [] (by decide) rfl
  have hK9 := hK.sub (tys' := []) [] rfl
  refine W.widen (k := 0) (n := 0) (Nat.le_of_ble_eq_true rfl) (Nat.le_of_ble_eq_true rfl) ?_
  exact W.iret (v := (-4)) hx hb hr (fun t ht hW => ⟨⟨(-4), (), rfl, rfl, by rw [ht]; exact hP9, va_K.moved hW.alike hK9, hD9⟩, hS.F ht⟩) hS.2.2 dX11_undo_19
def ow_c_X11_image : List Cond := [.methodLink RX11 235 yX11_isImage, .static yX11_isImage, .initialized RX11, .fieldLink RX11 54 "DeadlineShare" "images" "[LDeadlineShare$State;", .fieldLink RX11 37 "DeadlineShare" "now" "LDeadlineShare$State;", .methodLink RX11 238 yX6_copy, .instanceMethod yX6_copy, .selects RX6 yX6_copy yX6_copy, .initialized RX6, .fieldLink RX11 58 "DeadlineShare" "imageKept" "[Z", .fieldLink RX11 72 "DeadlineShare" "refusals" "LDeadlineShare$Refusals;", .fieldLink RX11 223 "DeadlineShare$State" "time" "I", .methodLink RX11 95 yX4_none, .instanceMethod yX4_none, .selects RX4 yX4_none yX4_none, .initialized RX4, .methodLink RX11 84 yX4_add, .instanceMethod yX4_add, .selects RX4 yX4_add yX4_add]
def wq_c_X11_image : List Cond := .code yX11_image cX11_image 2 (some .int) :: (ow_c_X11_image ++ (wq_c_X11_isImage ++ (u_ws RX11 TX11 12 ++ (wq_c_X6_copy ++ (u_ws RX6 TX6 10 ++ (wq_c_X4_none ++ (wq_c_X4_add_1 ++ ([] : List Cond))))))))
theorem tb_c_X11_image : ∀ w ∈ wq_c_X11_image, q_g w := by
  unfold wq_c_X11_image ow_c_X11_image
  exact q_cons tw_344 (q_app (q_cons tw_343 (q_cons tw_342 (q_cons tw_324 (q_cons tw_92 (q_cons tw_101 (q_cons tw_341 (q_cons tw_231 (q_cons tw_230 (q_cons tw_72 (q_cons tw_90 (q_cons tw_80 (q_cons tw_271 (q_cons tw_283 (q_cons tw_282 (q_cons tw_281 (q_cons tw_1 (q_cons tw_280 (q_cons tw_279 (q_cons tw_278 q_nil))))))))))))))))))) (q_app tb_c_X11_isImage (q_app tu_X11 (q_app tb_c_X6_copy (q_app tu_X6 (q_app tb_c_X4_none (q_app tb_c_X4_add_1 q_nil)))))))
set_option maxHeartbeats 4000000 in
set_option maxRecDepth 100000 in
theorem c_X11_image (l : Launch) (dC : Nat → ClassId) (dI : Nat → Nat → Nat) (h0 : Nat) (kk : Int32) (te : Nat) (ta : Nat) (re : Nat) (no : Nat) (pa : Nat) (ac : Nat) (op : Nat) (im : Nat) (ik : Nat) (hi : Nat) (rf : Nat) (nt : Nat) (nl : Nat) (ns : Nat) (np : Nat) (nr : Nat) (cl1 : ClassId) (cs1 : ClassId) (fm : Nat → Option Nat) (i0 : Nat) (it0 : Nat) (il0 : Nat) (is0 : Nat) (ip0 : Nat) (ir0 : Nat) (cl3 : ClassId) (i1 : Nat) (it1 : Nat) (il1 : Nat) (is1 : Nat) (ip1 : Nat) (ir1 : Nat) (cl4 : ClassId) (cz : ClassId) (rc : Nat) (ci2 : ClassId) (sz : Nat) (hfm0 : fm 0 = some i0) (hfm1 : fm 1 = some i1) : Met l yX11_image wq_c_X11_image ({ frames := 3, cells := 0, slots := 0, locals := 83 } : Room) (va_Pc [.ref h0, .int kk] (fun U => U.heap.size = sz ∧ va_P (dC, dI) vwCl [(h0, .inr (11, [.ref te, .ref ta, .ref re, .ref no, .ref pa, .ref ac, .ref op, .ref im, .ref ik, .ref hi, .ref rf, .int (-1)])), (no, .inr (6, [.ref te, .ref nt, .ref nl, .ref ns, .ref np, .int 0, .int 0, .long 0, .int (-1), .int (-1)])), (nl, .inr (2, [.ref nr])), (nr, .inl (cl1, 128, .inr (.inl (fun _ => 0)))), (im, .inl (cs1, 2, .inr (.inr (.inr (.inr fm))))), (i0, .inr (6, [.ref te, .ref it0, .ref il0, .ref is0, .ref ip0, .int 0, .int 0, .long 0, .int (-1), .int (-1)])), (il0, .inr (2, [.ref ir0])), (ir0, .inl (cl3, 128, .inr (.inl (fun _ => 0)))), (i1, .inr (6, [.ref te, .ref it1, .ref il1, .ref is1, .ref ip1, .int 0, .int 0, .long 0, .int (-1), .int (-1)])), (il1, .inr (2, [.ref ir1])), (ir1, .inl (cl4, 128, .inr (.inl (fun _ => 0)))), (ik, .inl (cz, 2, .inl (fun _ => 0))), (rf, .inr (4, [.ref rc, .int 0])), (rc, .inl (ci2, 5, .inl (fun _ => 0)))] U.heap ∧ va_K (dC, dI) vwCl [(cl1, .long), (cs1, .object "DeadlineShare$State"), (cl3, .long), (cl4, .long), (cz, .boolean), (ci2, .int)] U ∧ va_D (fun _ => True) [(h0, .inr (11, [.ref te, .ref ta, .ref re, .ref no, .ref pa, .ref ac, .ref op, .ref im, .ref ik, .ref hi, .ref rf, .int (-1)])), (no, .inr (6, [.ref te, .ref nt, .ref nl, .ref ns, .ref np, .int 0, .int 0, .long 0, .int (-1), .int (-1)])), (nl, .inr (2, [.ref nr])), (nr, .inl (cl1, 128, .inr (.inl (fun _ => 0)))), (im, .inl (cs1, 2, .inr (.inr (.inr (.inr fm))))), (i0, .inr (6, [.ref te, .ref it0, .ref il0, .ref is0, .ref ip0, .int 0, .int 0, .long 0, .int (-1), .int (-1)])), (il0, .inr (2, [.ref ir0])), (ir0, .inl (cl3, 128, .inr (.inl (fun _ => 0)))), (i1, .inr (6, [.ref te, .ref it1, .ref il1, .ref is1, .ref ip1, .int 0, .int 0, .long 0, .int (-1), .int (-1)])), (il1, .inr (2, [.ref ir1])), (ir1, .inl (cl4, 128, .inr (.inl (fun _ => 0)))), (ik, .inl (cz, 2, .inl (fun _ => 0))), (rf, .inr (4, [.ref rc, .int 0])), (rc, .inl (ci2, 5, .inl (fun _ => 0)))])) (va_Qi (fun (r : Int32) (_ : Unit) => r = sp_one kk 0 1 0) (fun (_ : Unit) t => va_P (dC, dI) vwCl [] t.heap ∧ va_K (dC, dI) vwCl [] t ∧ va_D (va_A [(h0, .inr (11, [.ref te, .ref ta, .ref re, .ref no, .ref pa, .ref ac, .ref op, .ref im, .ref ik, .ref hi, .ref rf, .int (-1)])), (no, .inr (6, [.ref te, .ref nt, .ref nl, .ref ns, .ref np, .int 0, .int 0, .long 0, .int (-1), .int (-1)])), (nl, .inr (2, [.ref nr])), (nr, .inl (cl1, 128, .inr (.inl (fun _ => 0)))), (im, .inl (cs1, 2, .inr (.inr (.inr (.inr fm))))), (i0, .inr (6, [.ref te, .ref it0, .ref il0, .ref is0, .ref ip0, .int 0, .int 0, .long 0, .int (-1), .int (-1)])), (il0, .inr (2, [.ref ir0])), (ir0, .inl (cl3, 128, .inr (.inl (fun _ => 0)))), (i1, .inr (6, [.ref te, .ref it1, .ref il1, .ref is1, .ref ip1, .int 0, .int 0, .long 0, .int (-1), .int (-1)])), (il1, .inr (2, [.ref ir1])), (ir1, .inl (cl4, 128, .inr (.inl (fun _ => 0)))), (ik, .inl (cz, 2, .inl (fun _ => 0))), (rf, .inr (4, [.ref rc, .int 0])), (rc, .inl (ci2, 5, .inl (fun _ => 0)))] sz) []) (va_A [(h0, .inr (11, [.ref te, .ref ta, .ref re, .ref no, .ref pa, .ref ac, .ref op, .ref im, .ref ik, .ref hi, .ref rf, .int (-1)])), (no, .inr (6, [.ref te, .ref nt, .ref nl, .ref ns, .ref np, .int 0, .int 0, .long 0, .int (-1), .int (-1)])), (nl, .inr (2, [.ref nr])), (nr, .inl (cl1, 128, .inr (.inl (fun _ => 0)))), (im, .inl (cs1, 2, .inr (.inr (.inr (.inr fm))))), (i0, .inr (6, [.ref te, .ref it0, .ref il0, .ref is0, .ref ip0, .int 0, .int 0, .long 0, .int (-1), .int (-1)])), (il0, .inr (2, [.ref ir0])), (ir0, .inl (cl3, 128, .inr (.inl (fun _ => 0)))), (i1, .inr (6, [.ref te, .ref it1, .ref il1, .ref is1, .ref ip1, .int 0, .int 0, .long 0, .int (-1), .int (-1)])), (il1, .inr (2, [.ref ir1])), (ir1, .inl (cl4, 128, .inr (.inl (fun _ => 0)))), (ik, .inl (cz, 2, .inl (fun _ => 0))), (rf, .inr (4, [.ref rc, .int 0])), (rc, .inl (ci2, 5, .inl (fun _ => 0)))] sz)) 0 0 (va_A [(h0, .inr (11, [.ref te, .ref ta, .ref re, .ref no, .ref pa, .ref ac, .ref op, .ref im, .ref ik, .ref hi, .ref rf, .int (-1)])), (no, .inr (6, [.ref te, .ref nt, .ref nl, .ref ns, .ref np, .int 0, .int 0, .long 0, .int (-1), .int (-1)])), (nl, .inr (2, [.ref nr])), (nr, .inl (cl1, 128, .inr (.inl (fun _ => 0)))), (im, .inl (cs1, 2, .inr (.inr (.inr (.inr fm))))), (i0, .inr (6, [.ref te, .ref it0, .ref il0, .ref is0, .ref ip0, .int 0, .int 0, .long 0, .int (-1), .int (-1)])), (il0, .inr (2, [.ref ir0])), (ir0, .inl (cl3, 128, .inr (.inl (fun _ => 0)))), (i1, .inr (6, [.ref te, .ref it1, .ref il1, .ref is1, .ref ip1, .int 0, .int 0, .long 0, .int (-1), .int (-1)])), (il1, .inr (2, [.ref ir1])), (ir1, .inl (cl4, 128, .inr (.inl (fun _ => 0)))), (ik, .inl (cz, 2, .inl (fun _ => 0))), (rf, .inr (4, [.ref rc, .int 0])), (rc, .inl (ci2, 5, .inl (fun _ => 0)))] sz) := by
  refine Met.ofW (cc := cX11_image) (maxL := 2) (ret := (some .int)) (by decide) rfl ?_
  intro p e s m args below meth c s₁ B hml hv
  obtain ⟨rfl, hsz, hP, hK, hD0⟩ := hv
  have hx := B.exec
  have hb := B.bytes
  have hr := B.returns
  have hts := atoms_spec (ws := wq_c_X11_image) B.pre
  have hown : s.vm.findClass RX11 = some m.cls := findClass_of_methodNamed B.named
  have hlocks := B.notSynchronized
  subst hsz
  have hD := hD0.self (sz := s.heap.size)
  obtain ⟨A, hAe⟩ : ∃ A, A = va_A [(h0, .inr (11, [.ref te, .ref ta, .ref re, .ref no, .ref pa, .ref ac, .ref op, .ref im, .ref ik, .ref hi, .ref rf, .int (-1)])), (no, .inr (6, [.ref te, .ref nt, .ref nl, .ref ns, .ref np, .int 0, .int 0, .long 0, .int (-1), .int (-1)])), (nl, .inr (2, [.ref nr])), (nr, .inl (cl1, 128, .inr (.inl (fun _ => 0)))), (im, .inl (cs1, 2, .inr (.inr (.inr (.inr fm))))), (i0, .inr (6, [.ref te, .ref it0, .ref il0, .ref is0, .ref ip0, .int 0, .int 0, .long 0, .int (-1), .int (-1)])), (il0, .inr (2, [.ref ir0])), (ir0, .inl (cl3, 128, .inr (.inl (fun _ => 0)))), (i1, .inr (6, [.ref te, .ref it1, .ref il1, .ref is1, .ref ip1, .int 0, .int 0, .long 0, .int (-1), .int (-1)])), (il1, .inr (2, [.ref ir1])), (ir1, .inl (cl4, 128, .inr (.inl (fun _ => 0)))), (ik, .inl (cz, 2, .inl (fun _ => 0))), (rf, .inr (4, [.ref rc, .int 0])), (rc, .inl (ci2, 5, .inl (fun _ => 0)))] s.heap.size := ⟨_, rfl⟩
  rw [← hAe] at hD ⊢
  have hA : ∀ q : Nat, s.heap.size ≤ q → A q := fun q h => by rw [hAe]; exact Or.inr h
  have hS : va_S A s.heap s.heap [] := va_S.rf
  have hP : va_P (dC, dI) vwCl [(h0, .inr (11, [.ref te, .ref ta, .ref re, .ref no, .ref pa, .ref ac, .ref op, .ref im, .ref ik, .ref hi, .ref rf, .int (-1)])), (no, .inr (6, [.ref te, .ref nt, .ref nl, .ref ns, .ref np, .int 0, .int 0, .long 0, .int (-1), .int (-1)])), (nl, .inr (2, [.ref nr])), (nr, .inl (cl1, 128, .inr (.inl (fun _ => 0)))), (im, .inl (cs1, 2, .inr (.inr (.inr (.inr fm))))), (i0, .inr (6, [.ref te, .ref it0, .ref il0, .ref is0, .ref ip0, .int 0, .int 0, .long 0, .int (-1), .int (-1)])), (il0, .inr (2, [.ref ir0])), (ir0, .inl (cl3, 128, .inr (.inl (fun _ => 0)))), (i1, .inr (6, [.ref te, .ref it1, .ref il1, .ref is1, .ref ip1, .int 0, .int 0, .long 0, .int (-1), .int (-1)])), (il1, .inr (2, [.ref ir1])), (ir1, .inl (cl4, 128, .inr (.inl (fun _ => 0)))), (ik, .inl (cz, 2, .inl (fun _ => 0))), (rf, .inr (4, [.ref rc, .int 0])), (rc, .inl (ci2, 5, .inl (fun _ => 0)))] s.heap := hP
  have hl := lv_entry ([.ref h0, .int kk]) (n := 2) (Nat.le_of_ble_eq_true rfl)
  rw [lg_entry_eq]
  generalize (lg_sl ([.ref h0, .int kk]) ++ List.replicate (2 - (lg_sl ([.ref h0, .int kk])).length) Slot.unset).toArray = ls at hl ⊢
  have hl : lv_has ls 2 [(0, .ref h0), (1, .int kk)] := hl
  by_cases h_1 : kk = 0
  · subst h_1
    refine lv_iload_n hx hb dX11_image_0 rfl (lv_at hl 1 rfl) ?_
    have hPc := hP.sub (ws' := []) [] rfl
    have hDc := hD.sub (ws' := []) [] (by decide) rfl
    have hKc := hK.sub (tys' := []) [] rfl
    have hFc := va_free (wc := []) hD hS hA [] rfl
    refine va_calli (va_runS (As := [.int 0]) (rest := []) ⟨hx, hb, hml, hown, hts⟩ (c_X11_isImage l dC dI 0 s.heap.size) (va_cwS 1 hts (gi_S (fun w_ h0_ => ⟨List.mem_cons_of_mem _ (List.mem_append_right _ (List.mem_append_left _ h0_)), (tb_c_X11_isImage w_ h0_).2⟩) (List.mem_cons_of_mem _ (List.mem_append_left _ (List.mem_of_getElem? (i := 0) rfl))) (List.mem_cons_of_mem _ (List.mem_append_left _ (List.mem_of_getElem? (i := 1) rfl))) (List.mem_cons_of_mem _ (List.mem_append_left _ (List.mem_of_getElem? (i := 2) rfl)))) rfl rfl rfl (by decide +kernel) ⟨Nat.le_of_ble_eq_true rfl, Nat.le_of_ble_eq_true rfl⟩) ⟨fun a U g mk q => by obtain ⟨q0, q1, qP, qK, qD⟩ := q; exact ⟨q0, q1, qP, va_K.moved (u := U) (U := U.calling g mk a) (Vm.Alike.refl U.vm) qK, qD⟩, fun U hU hW => ⟨rfl, by rw [hU], by rw [hU]; exact hPc, va_K.moved hW.alike hKc, hDc.weaken (fun _ _ _ _ => trivial)⟩⟩ rfl rfl hl.1 rfl (lv_room (Nat.le_of_ble_eq_true rfl)) dX11_image_1 ⟨Nat.le_of_ble_eq_true rfl, Nat.le_of_ble_eq_true rfl⟩) hS (fun q _ h => hFc q h) hFc (fun r_2 u t H1 locs ht hvm hw hB hz1 hk1 hS => ?_)
    obtain ⟨hP1, hK1, hD1⟩ := hB
    rw [ht] at hP1
    have hK1 := va_K.moved hvm.symm hK1
    obtain ⟨hP, hD⟩ := va_join (wr := [(h0, .inr (11, [.ref te, .ref ta, .ref re, .ref no, .ref pa, .ref ac, .ref op, .ref im, .ref ik, .ref hi, .ref rf, .int (-1)])), (no, .inr (6, [.ref te, .ref nt, .ref nl, .ref ns, .ref np, .int 0, .int 0, .long 0, .int (-1), .int (-1)])), (nl, .inr (2, [.ref nr])), (nr, .inl (cl1, 128, .inr (.inl (fun _ => 0)))), (im, .inl (cs1, 2, .inr (.inr (.inr (.inr fm))))), (i0, .inr (6, [.ref te, .ref it0, .ref il0, .ref is0, .ref ip0, .int 0, .int 0, .long 0, .int (-1), .int (-1)])), (il0, .inr (2, [.ref ir0])), (ir0, .inl (cl3, 128, .inr (.inl (fun _ => 0)))), (i1, .inr (6, [.ref te, .ref it1, .ref il1, .ref is1, .ref ip1, .int 0, .int 0, .long 0, .int (-1), .int (-1)])), (il1, .inr (2, [.ref ir1])), (ir1, .inl (cl4, 128, .inr (.inl (fun _ => 0)))), (ik, .inl (cz, 2, .inl (fun _ => 0))), (rf, .inr (4, [.ref rc, .int 0])), (rc, .inl (ci2, 5, .inl (fun _ => 0)))]) (w1 := []) hP hD [] [0, 1, 2, 3, 4, 5, 6, 7, 8, 9, 10, 11, 12, 13] rfl rfl (by decide) (by decide) hk1 hFc hP1 hD1
    generalize H1 = H at hP hS ⊢
    have hP : va_P (dC, dI) vwCl [(h0, .inr (11, [.ref te, .ref ta, .ref re, .ref no, .ref pa, .ref ac, .ref op, .ref im, .ref ik, .ref hi, .ref rf, .int (-1)])), (no, .inr (6, [.ref te, .ref nt, .ref nl, .ref ns, .ref np, .int 0, .int 0, .long 0, .int (-1), .int (-1)])), (nl, .inr (2, [.ref nr])), (nr, .inl (cl1, 128, .inr (.inl (fun _ => 0)))), (im, .inl (cs1, 2, .inr (.inr (.inr (.inr fm))))), (i0, .inr (6, [.ref te, .ref it0, .ref il0, .ref is0, .ref ip0, .int 0, .int 0, .long 0, .int (-1), .int (-1)])), (il0, .inr (2, [.ref ir0])), (ir0, .inl (cl3, 128, .inr (.inl (fun _ => 0)))), (i1, .inr (6, [.ref te, .ref it1, .ref il1, .ref is1, .ref ip1, .int 0, .int 0, .long 0, .int (-1), .int (-1)])), (il1, .inr (2, [.ref ir1])), (ir1, .inl (cl4, 128, .inr (.inl (fun _ => 0)))), (ik, .inl (cz, 2, .inl (fun _ => 0))), (rf, .inr (4, [.ref rc, .int 0])), (rc, .inl (ci2, 5, .inl (fun _ => 0)))] H := hP
    have hD : va_D A [(h0, .inr (11, [.ref te, .ref ta, .ref re, .ref no, .ref pa, .ref ac, .ref op, .ref im, .ref ik, .ref hi, .ref rf, .int (-1)])), (no, .inr (6, [.ref te, .ref nt, .ref nl, .ref ns, .ref np, .int 0, .int 0, .long 0, .int (-1), .int (-1)])), (nl, .inr (2, [.ref nr])), (nr, .inl (cl1, 128, .inr (.inl (fun _ => 0)))), (im, .inl (cs1, 2, .inr (.inr (.inr (.inr fm))))), (i0, .inr (6, [.ref te, .ref it0, .ref il0, .ref is0, .ref ip0, .int 0, .int 0, .long 0, .int (-1), .int (-1)])), (il0, .inr (2, [.ref ir0])), (ir0, .inl (cl3, 128, .inr (.inl (fun _ => 0)))), (i1, .inr (6, [.ref te, .ref it1, .ref il1, .ref is1, .ref ip1, .int 0, .int 0, .long 0, .int (-1), .int (-1)])), (il1, .inr (2, [.ref ir1])), (ir1, .inl (cl4, 128, .inr (.inl (fun _ => 0)))), (ik, .inl (cz, 2, .inl (fun _ => 0))), (rf, .inr (4, [.ref rc, .int 0])), (rc, .inl (ci2, 5, .inl (fun _ => 0)))] := hD
    refine W.widen (k := 0) (n := 0) (Nat.le_of_ble_eq_true rfl) (Nat.le_of_ble_eq_true rfl) ?_
    have hw : r_2 = sp_r 0 0 1 := hw
    subst hw
    refine k_topi (y := 1) (by decide) ?_
    refine lv_if_ne (tgt := 16) hx hb dX11_image_4 (by decide) (fun _ => ?_) (fun c => absurd c (by decide))
    refine lv_aload_n hx hb dX11_image_16 rfl (lv_at hl 0 rfl) ?_
    refine va_get (D := (dC, dI)) (ci := 11) (v := .ref im) (C := RX11) (T := TX11) (N := 12) hx hb hts (fun _ h0_ => List.mem_cons_of_mem _ (List.mem_append_right _ (List.mem_append_right _ (List.mem_append_left _ h0_)))) hown hK hP 0 rfl rfl 7 (by decide) (hts (.fieldLink RX11 54 "DeadlineShare" "images" "[LDeadlineShare$State;") (List.mem_cons_of_mem _ (List.mem_append_left _ (List.mem_of_getElem? (i := 3) rfl)))) (fun _ h9 => h9) rfl dX11_image_17 ?_
    refine lv_iload_n hx hb dX11_image_20 rfl (lv_at hl 1 rfl) ?_
    refine va_aldq hx hb hK hP 4 1 rfl rfl (by unfold vp_in; decide) dX11_image_21 ?_
    rw [show va_rf (fm (Int32.toNatClampNeg 0)) = .ref i0 from congrArg va_rf ((congrArg fm (show Int32.toNatClampNeg 0 = 0 by decide)).trans hfm0)]
    refine lv_aload_n hx hb dX11_image_22 rfl (lv_at hl 0 rfl) ?_
    refine va_get (D := (dC, dI)) (ci := 11) (v := .ref no) (C := RX11) (T := TX11) (N := 12) hx hb hts (fun _ h0_ => List.mem_cons_of_mem _ (List.mem_append_right _ (List.mem_append_right _ (List.mem_append_left _ h0_)))) hown hK hP 0 rfl rfl 3 (by decide) (hts (.fieldLink RX11 37 "DeadlineShare" "now" "LDeadlineShare$State;") (List.mem_cons_of_mem _ (List.mem_append_left _ (List.mem_of_getElem? (i := 4) rfl)))) (fun _ h9 => h9) rfl dX11_image_23 ?_
    have hPc := hP.sub (ws' := [(i0, .inr (6, [.ref te, .ref it0, .ref il0, .ref is0, .ref ip0, .int 0, .int 0, .long 0, .int (-1), .int (-1)])), (no, .inr (6, [.ref te, .ref nt, .ref nl, .ref ns, .ref np, .int 0, .int 0, .long 0, .int (-1), .int (-1)])), (il0, .inr (2, [.ref ir0])), (ir0, .inl (cl3, 128, .inr (.inl (fun _ => 0)))), (nl, .inr (2, [.ref nr])), (nr, .inl (cl1, 128, .inr (.inl (fun _ => 0))))]) [5, 1, 6, 7, 2, 3] rfl
    have hDc := hD.sub (ws' := [(i0, .inr (6, [.ref te, .ref it0, .ref il0, .ref is0, .ref ip0, .int 0, .int 0, .long 0, .int (-1), .int (-1)])), (no, .inr (6, [.ref te, .ref nt, .ref nl, .ref ns, .ref np, .int 0, .int 0, .long 0, .int (-1), .int (-1)])), (il0, .inr (2, [.ref ir0])), (ir0, .inl (cl3, 128, .inr (.inl (fun _ => 0)))), (nl, .inr (2, [.ref nr])), (nr, .inl (cl1, 128, .inr (.inl (fun _ => 0))))]) [5, 1, 6, 7, 2, 3] (by decide) rfl
    have hKc := hK.sub (tys' := [(cl3, .long), (cl1, .long)]) [2, 0] rfl
    have hFc := va_free (wc := [(i0, .inr (6, [.ref te, .ref it0, .ref il0, .ref is0, .ref ip0, .int 0, .int 0, .long 0, .int (-1), .int (-1)])), (no, .inr (6, [.ref te, .ref nt, .ref nl, .ref ns, .ref np, .int 0, .int 0, .long 0, .int (-1), .int (-1)])), (il0, .inr (2, [.ref ir0])), (ir0, .inl (cl3, 128, .inr (.inl (fun _ => 0)))), (nl, .inr (2, [.ref nr])), (nr, .inl (cl1, 128, .inr (.inl (fun _ => 0))))]) hD hS hA [5, 1, 6, 7, 2, 3] rfl
    refine va_callv (va_runV (As := [.ref no]) (rest := []) ⟨hx, hb, hml, hown, hts⟩ (c_X6_copy l dC dI i0 no te it0 il0 is0 ip0 0 te nt nl ns np 0 ir0 cl3 (fun _ => 0) nr cl1 (fun _ => 0) H.size) (cwV 1 hts (gi_V (fun w_ h0_ => ⟨List.mem_cons_of_mem _ (List.mem_append_right _ (List.mem_append_right _ (List.mem_append_right _ (List.mem_append_left _ h0_)))), (tb_c_X6_copy w_ h0_).2⟩) (List.mem_cons_of_mem _ (List.mem_append_left _ (List.mem_of_getElem? (i := 5) rfl))) (List.mem_cons_of_mem _ (List.mem_append_left _ (List.mem_of_getElem? (i := 6) rfl))) (List.mem_cons_of_mem _ (List.mem_append_left _ (List.mem_of_getElem? (i := 7) rfl))) (List.mem_cons_of_mem _ (List.mem_append_left _ (List.mem_of_getElem? (i := 8) rfl)))) rfl rfl rfl (by decide +kernel) ⟨Nat.le_of_ble_eq_true rfl, Nat.le_of_ble_eq_true rfl⟩) ⟨fun a U g mk q => by obtain ⟨q0, q1, qP, qK, qD⟩ := q; exact ⟨q0, q1, qP, va_K.moved (u := U) (U := U.calling g mk a) (Vm.Alike.refl U.vm) qK, qD⟩, va_recv hKc hPc (ci := 6) (q0 := 0) rfl rfl, fun U hU hW => ⟨rfl, by rw [hU], by rw [hU]; exact hPc, va_K.moved hW.alike hKc, hDc.weaken (fun _ _ _ _ => trivial)⟩⟩ rfl rfl hl.1 rfl (lv_room (Nat.le_of_ble_eq_true rfl)) dX11_image_26 ⟨Nat.le_of_ble_eq_true rfl, Nat.le_of_ble_eq_true rfl⟩) hS (fun q _ h => hFc q h) hFc (fun u t H1 locs ht hvm hw hB hz1 hk1 hS => ?_)
    obtain ⟨f_3, hP1, hK1, hD1⟩ := hB
    rw [ht] at hP1
    have hK1 := va_K.moved hvm.symm hK1
    obtain ⟨hP, hD⟩ := va_join (wr := [(h0, .inr (11, [.ref te, .ref ta, .ref re, .ref no, .ref pa, .ref ac, .ref op, .ref im, .ref ik, .ref hi, .ref rf, .int (-1)])), (im, .inl (cs1, 2, .inr (.inr (.inr (.inr fm))))), (i1, .inr (6, [.ref te, .ref it1, .ref il1, .ref is1, .ref ip1, .int 0, .int 0, .long 0, .int (-1), .int (-1)])), (il1, .inr (2, [.ref ir1])), (ir1, .inl (cl4, 128, .inr (.inl (fun _ => 0)))), (ik, .inl (cz, 2, .inl (fun _ => 0))), (rf, .inr (4, [.ref rc, .int 0])), (rc, .inl (ci2, 5, .inl (fun _ => 0)))]) (w1 := [(i0, .inr (6, [.ref te, .ref it0, .ref il0, .ref is0, .ref ip0, .int 0, .int 0, .long 0, .int (-1), .int (-1)])), (no, .inr (6, [.ref te, .ref nt, .ref nl, .ref ns, .ref np, .int 0, .int 0, .long 0, .int (-1), .int (-1)])), (il0, .inr (2, [.ref ir0])), (ir0, .inl (cl3, 128, .inr (.inl f_3))), (nl, .inr (2, [.ref nr])), (nr, .inl (cl1, 128, .inr (.inl (fun _ => 0))))]) hP hD [5, 1, 6, 7, 2, 3] [0, 4, 8, 9, 10, 11, 12, 13] rfl rfl (by decide) (by decide) hk1 hFc hP1 hD1
    generalize H1 = H at hP hS ⊢
    have hP : va_P (dC, dI) vwCl [(h0, .inr (11, [.ref te, .ref ta, .ref re, .ref no, .ref pa, .ref ac, .ref op, .ref im, .ref ik, .ref hi, .ref rf, .int (-1)])), (im, .inl (cs1, 2, .inr (.inr (.inr (.inr fm))))), (i1, .inr (6, [.ref te, .ref it1, .ref il1, .ref is1, .ref ip1, .int 0, .int 0, .long 0, .int (-1), .int (-1)])), (il1, .inr (2, [.ref ir1])), (ir1, .inl (cl4, 128, .inr (.inl (fun _ => 0)))), (ik, .inl (cz, 2, .inl (fun _ => 0))), (rf, .inr (4, [.ref rc, .int 0])), (rc, .inl (ci2, 5, .inl (fun _ => 0))), (i0, .inr (6, [.ref te, .ref it0, .ref il0, .ref is0, .ref ip0, .int 0, .int 0, .long 0, .int (-1), .int (-1)])), (no, .inr (6, [.ref te, .ref nt, .ref nl, .ref ns, .ref np, .int 0, .int 0, .long 0, .int (-1), .int (-1)])), (il0, .inr (2, [.ref ir0])), (ir0, .inl (cl3, 128, .inr (.inl f_3))), (nl, .inr (2, [.ref nr])), (nr, .inl (cl1, 128, .inr (.inl (fun _ => 0))))] H := hP
    have hD : va_D A [(h0, .inr (11, [.ref te, .ref ta, .ref re, .ref no, .ref pa, .ref ac, .ref op, .ref im, .ref ik, .ref hi, .ref rf, .int (-1)])), (im, .inl (cs1, 2, .inr (.inr (.inr (.inr fm))))), (i1, .inr (6, [.ref te, .ref it1, .ref il1, .ref is1, .ref ip1, .int 0, .int 0, .long 0, .int (-1), .int (-1)])), (il1, .inr (2, [.ref ir1])), (ir1, .inl (cl4, 128, .inr (.inl (fun _ => 0)))), (ik, .inl (cz, 2, .inl (fun _ => 0))), (rf, .inr (4, [.ref rc, .int 0])), (rc, .inl (ci2, 5, .inl (fun _ => 0))), (i0, .inr (6, [.ref te, .ref it0, .ref il0, .ref is0, .ref ip0, .int 0, .int 0, .long 0, .int (-1), .int (-1)])), (no, .inr (6, [.ref te, .ref nt, .ref nl, .ref ns, .ref np, .int 0, .int 0, .long 0, .int (-1), .int (-1)])), (il0, .inr (2, [.ref ir0])), (ir0, .inl (cl3, 128, .inr (.inl f_3))), (nl, .inr (2, [.ref nr])), (nr, .inl (cl1, 128, .inr (.inl (fun _ => 0))))] := hD
    refine W.widen (k := 0) (n := 0) (Nat.le_of_ble_eq_true rfl) (Nat.le_of_ble_eq_true rfl) ?_
    refine lv_aload_n hx hb dX11_image_29 rfl (lv_at hl 0 rfl) ?_
    refine va_get (D := (dC, dI)) (ci := 11) (v := .ref ik) (C := RX11) (T := TX11) (N := 12) hx hb hts (fun _ h0_ => List.mem_cons_of_mem _ (List.mem_append_right _ (List.mem_append_right _ (List.mem_append_left _ h0_)))) hown hK hP 0 rfl rfl 8 (by decide) (hts (.fieldLink RX11 58 "DeadlineShare" "imageKept" "[Z") (List.mem_cons_of_mem _ (List.mem_append_left _ (List.mem_of_getElem? (i := 9) rfl)))) (fun _ h9 => h9) rfl dX11_image_30 ?_
    refine lv_iload_n hx hb dX11_image_33 rfl (lv_at hl 1 rfl) ?_
    refine lv_iconst (v := 1) hx hb dX11_image_34 (by decide) ?_
    refine va_zast hx hb hK hP hD hS 5 4 rfl rfl (by unfold vp_in; decide) dX11_image_35 (fun H locs hP hD hS => ?_)
    have hP : va_P (dC, dI) vwCl [(h0, .inr (11, [.ref te, .ref ta, .ref re, .ref no, .ref pa, .ref ac, .ref op, .ref im, .ref ik, .ref hi, .ref rf, .int (-1)])), (im, .inl (cs1, 2, .inr (.inr (.inr (.inr fm))))), (i1, .inr (6, [.ref te, .ref it1, .ref il1, .ref is1, .ref ip1, .int 0, .int 0, .long 0, .int (-1), .int (-1)])), (il1, .inr (2, [.ref ir1])), (ir1, .inl (cl4, 128, .inr (.inl (fun _ => 0)))), (ik, .inl (cz, 2, .inl (upd (fun _ => 0) (Int32.toNatClampNeg 0) (vp_nar .boolean 1)))), (rf, .inr (4, [.ref rc, .int 0])), (rc, .inl (ci2, 5, .inl (fun _ => 0))), (i0, .inr (6, [.ref te, .ref it0, .ref il0, .ref is0, .ref ip0, .int 0, .int 0, .long 0, .int (-1), .int (-1)])), (no, .inr (6, [.ref te, .ref nt, .ref nl, .ref ns, .ref np, .int 0, .int 0, .long 0, .int (-1), .int (-1)])), (il0, .inr (2, [.ref ir0])), (ir0, .inl (cl3, 128, .inr (.inl f_3))), (nl, .inr (2, [.ref nr])), (nr, .inl (cl1, 128, .inr (.inl (fun _ => 0))))] H := hP
    have hD : va_D A [(h0, .inr (11, [.ref te, .ref ta, .ref re, .ref no, .ref pa, .ref ac, .ref op, .ref im, .ref ik, .ref hi, .ref rf, .int (-1)])), (im, .inl (cs1, 2, .inr (.inr (.inr (.inr fm))))), (i1, .inr (6, [.ref te, .ref it1, .ref il1, .ref is1, .ref ip1, .int 0, .int 0, .long 0, .int (-1), .int (-1)])), (il1, .inr (2, [.ref ir1])), (ir1, .inl (cl4, 128, .inr (.inl (fun _ => 0)))), (ik, .inl (cz, 2, .inl (upd (fun _ => 0) (Int32.toNatClampNeg 0) (vp_nar .boolean 1)))), (rf, .inr (4, [.ref rc, .int 0])), (rc, .inl (ci2, 5, .inl (fun _ => 0))), (i0, .inr (6, [.ref te, .ref it0, .ref il0, .ref is0, .ref ip0, .int 0, .int 0, .long 0, .int (-1), .int (-1)])), (no, .inr (6, [.ref te, .ref nt, .ref nl, .ref ns, .ref np, .int 0, .int 0, .long 0, .int (-1), .int (-1)])), (il0, .inr (2, [.ref ir0])), (ir0, .inl (cl3, 128, .inr (.inl f_3))), (nl, .inr (2, [.ref nr])), (nr, .inl (cl1, 128, .inr (.inl (fun _ => 0))))] := hD
    generalize ef_4 : upd (fun _ => 0) (Int32.toNatClampNeg 0) (vp_nar .boolean 1) = f_4 at hP hD
    refine lv_aload_n hx hb dX11_image_36 rfl (lv_at hl 0 rfl) ?_
    refine va_get (D := (dC, dI)) (ci := 11) (v := .ref rf) (C := RX11) (T := TX11) (N := 12) hx hb hts (fun _ h0_ => List.mem_cons_of_mem _ (List.mem_append_right _ (List.mem_append_right _ (List.mem_append_left _ h0_)))) hown hK hP 0 rfl rfl 10 (by decide) (hts (.fieldLink RX11 72 "DeadlineShare" "refusals" "LDeadlineShare$Refusals;") (List.mem_cons_of_mem _ (List.mem_append_left _ (List.mem_of_getElem? (i := 10) rfl)))) (fun _ h9 => h9) rfl dX11_image_37 ?_
    refine lv_aload_n hx hb dX11_image_40 rfl (lv_at hl 0 rfl) ?_
    refine va_get (D := (dC, dI)) (ci := 11) (v := .ref no) (C := RX11) (T := TX11) (N := 12) hx hb hts (fun _ h0_ => List.mem_cons_of_mem _ (List.mem_append_right _ (List.mem_append_right _ (List.mem_append_left _ h0_)))) hown hK hP 0 rfl rfl 3 (by decide) (hts (.fieldLink RX11 37 "DeadlineShare" "now" "LDeadlineShare$State;") (List.mem_cons_of_mem _ (List.mem_append_left _ (List.mem_of_getElem? (i := 4) rfl)))) (fun _ h9 => h9) rfl dX11_image_41 ?_
    refine va_get (D := (dC, dI)) (ci := 6) (v := .int 0) (C := RX6) (T := TX6) (N := 10) hx hb hts (fun _ h0_ => List.mem_cons_of_mem _ (List.mem_append_right _ (List.mem_append_right _ (List.mem_append_right _ (List.mem_append_right _ (List.mem_append_left _ h0_)))))) hown hK hP 9 rfl rfl 6 (by decide) (hts (.fieldLink RX11 223 "DeadlineShare$State" "time" "I") (List.mem_cons_of_mem _ (List.mem_append_left _ (List.mem_of_getElem? (i := 11) rfl)))) (fun _ h9 => h9) rfl dX11_image_44 ?_
    have hPc := hP.sub (ws' := [(rf, .inr (4, [.ref rc, .int 0]))]) [6] rfl
    have hDc := hD.sub (ws' := [(rf, .inr (4, [.ref rc, .int 0]))]) [6] (by decide) rfl
    have hKc := hK.sub (tys' := []) [] rfl
    have hFc := va_free (wc := [(rf, .inr (4, [.ref rc, .int 0]))]) hD hS hA [6] rfl
    refine va_calli (va_runV (As := [.int 0]) (rest := []) ⟨hx, hb, hml, hown, hts⟩ (c_X4_none l dC dI rf rc 0 0 H.size) (cwV 1 hts (gi_V (fun w_ h0_ => ⟨List.mem_cons_of_mem _ (List.mem_append_right _ (List.mem_append_right _ (List.mem_append_right _ (List.mem_append_right _ (List.mem_append_right _ (List.mem_append_left _ h0_)))))), (tb_c_X4_none w_ h0_).2⟩) (List.mem_cons_of_mem _ (List.mem_append_left _ (List.mem_of_getElem? (i := 12) rfl))) (List.mem_cons_of_mem _ (List.mem_append_left _ (List.mem_of_getElem? (i := 13) rfl))) (List.mem_cons_of_mem _ (List.mem_append_left _ (List.mem_of_getElem? (i := 14) rfl))) (List.mem_cons_of_mem _ (List.mem_append_left _ (List.mem_of_getElem? (i := 15) rfl)))) rfl rfl rfl (by decide +kernel) ⟨Nat.le_of_ble_eq_true rfl, Nat.le_of_ble_eq_true rfl⟩) ⟨fun a U g mk q => by obtain ⟨q0, q1, qP, qK, qD⟩ := q; exact ⟨q0, q1, qP, va_K.moved (u := U) (U := U.calling g mk a) (Vm.Alike.refl U.vm) qK, qD⟩, va_recv hKc hPc (ci := 4) (q0 := 0) rfl rfl, fun U hU hW => ⟨rfl, by rw [hU], by rw [hU]; exact hPc, va_K.moved hW.alike hKc, hDc.weaken (fun _ _ _ _ => trivial)⟩⟩ rfl rfl hl.1 rfl (lv_room (Nat.le_of_ble_eq_true rfl)) dX11_image_47 ⟨Nat.le_of_ble_eq_true rfl, Nat.le_of_ble_eq_true rfl⟩) hS (fun q _ h => hFc q h) hFc (fun r_5 u t H1 locs ht hvm hw hB hz1 hk1 hS => ?_)
    obtain ⟨hP1, hK1, hD1⟩ := hB
    rw [ht] at hP1
    have hK1 := va_K.moved hvm.symm hK1
    obtain ⟨hP, hD⟩ := va_join (wr := [(h0, .inr (11, [.ref te, .ref ta, .ref re, .ref no, .ref pa, .ref ac, .ref op, .ref im, .ref ik, .ref hi, .ref rf, .int (-1)])), (im, .inl (cs1, 2, .inr (.inr (.inr (.inr fm))))), (i1, .inr (6, [.ref te, .ref it1, .ref il1, .ref is1, .ref ip1, .int 0, .int 0, .long 0, .int (-1), .int (-1)])), (il1, .inr (2, [.ref ir1])), (ir1, .inl (cl4, 128, .inr (.inl (fun _ => 0)))), (ik, .inl (cz, 2, .inl f_4)), (rc, .inl (ci2, 5, .inl (fun _ => 0))), (i0, .inr (6, [.ref te, .ref it0, .ref il0, .ref is0, .ref ip0, .int 0, .int 0, .long 0, .int (-1), .int (-1)])), (no, .inr (6, [.ref te, .ref nt, .ref nl, .ref ns, .ref np, .int 0, .int 0, .long 0, .int (-1), .int (-1)])), (il0, .inr (2, [.ref ir0])), (ir0, .inl (cl3, 128, .inr (.inl f_3))), (nl, .inr (2, [.ref nr])), (nr, .inl (cl1, 128, .inr (.inl (fun _ => 0))))]) (w1 := []) hP hD [6] [0, 1, 2, 3, 4, 5, 7, 8, 9, 10, 11, 12, 13] rfl rfl (by decide) (by decide) hk1 hFc hP1 hD1
    generalize H1 = H at hP hS ⊢
    have hP : va_P (dC, dI) vwCl [(h0, .inr (11, [.ref te, .ref ta, .ref re, .ref no, .ref pa, .ref ac, .ref op, .ref im, .ref ik, .ref hi, .ref rf, .int (-1)])), (im, .inl (cs1, 2, .inr (.inr (.inr (.inr fm))))), (i1, .inr (6, [.ref te, .ref it1, .ref il1, .ref is1, .ref ip1, .int 0, .int 0, .long 0, .int (-1), .int (-1)])), (il1, .inr (2, [.ref ir1])), (ir1, .inl (cl4, 128, .inr (.inl (fun _ => 0)))), (ik, .inl (cz, 2, .inl f_4)), (rc, .inl (ci2, 5, .inl (fun _ => 0))), (i0, .inr (6, [.ref te, .ref it0, .ref il0, .ref is0, .ref ip0, .int 0, .int 0, .long 0, .int (-1), .int (-1)])), (no, .inr (6, [.ref te, .ref nt, .ref nl, .ref ns, .ref np, .int 0, .int 0, .long 0, .int (-1), .int (-1)])), (il0, .inr (2, [.ref ir0])), (ir0, .inl (cl3, 128, .inr (.inl f_3))), (nl, .inr (2, [.ref nr])), (nr, .inl (cl1, 128, .inr (.inl (fun _ => 0))))] H := hP
    have hD : va_D A [(h0, .inr (11, [.ref te, .ref ta, .ref re, .ref no, .ref pa, .ref ac, .ref op, .ref im, .ref ik, .ref hi, .ref rf, .int (-1)])), (im, .inl (cs1, 2, .inr (.inr (.inr (.inr fm))))), (i1, .inr (6, [.ref te, .ref it1, .ref il1, .ref is1, .ref ip1, .int 0, .int 0, .long 0, .int (-1), .int (-1)])), (il1, .inr (2, [.ref ir1])), (ir1, .inl (cl4, 128, .inr (.inl (fun _ => 0)))), (ik, .inl (cz, 2, .inl f_4)), (rc, .inl (ci2, 5, .inl (fun _ => 0))), (i0, .inr (6, [.ref te, .ref it0, .ref il0, .ref is0, .ref ip0, .int 0, .int 0, .long 0, .int (-1), .int (-1)])), (no, .inr (6, [.ref te, .ref nt, .ref nl, .ref ns, .ref np, .int 0, .int 0, .long 0, .int (-1), .int (-1)])), (il0, .inr (2, [.ref ir0])), (ir0, .inl (cl3, 128, .inr (.inl f_3))), (nl, .inr (2, [.ref nr])), (nr, .inl (cl1, 128, .inr (.inl (fun _ => 0))))] := hD
    refine W.widen (k := 0) (n := 0) (Nat.le_of_ble_eq_true rfl) (Nat.le_of_ble_eq_true rfl) ?_
    have hw : r_5 = 0 := hw
    subst hw
    have hP9 := hP.sub (ws' := []) [] rfl
    have hD9 := hD.sub (ws' := []) [] (by decide) rfl
    have hK9 := hK.sub (tys' := []) [] rfl
    refine W.widen (k := 0) (n := 0) (Nat.le_of_ble_eq_true rfl) (Nat.le_of_ble_eq_true rfl) ?_
    exact W.iret (v := 0) hx hb hr (fun t ht hW => ⟨⟨0, (), rfl, (by decide), by rw [ht]; exact hP9, va_K.moved hW.alike hK9, hD9⟩, hS.F ht⟩) hS.2.2 dX11_image_50
  by_cases h_6 : kk = 1
  · subst h_6
    refine lv_iload_n hx hb dX11_image_0 rfl (lv_at hl 1 rfl) ?_
    have hPc := hP.sub (ws' := []) [] rfl
    have hDc := hD.sub (ws' := []) [] (by decide) rfl
    have hKc := hK.sub (tys' := []) [] rfl
    have hFc := va_free (wc := []) hD hS hA [] rfl
    refine va_calli (va_runS (As := [.int 1]) (rest := []) ⟨hx, hb, hml, hown, hts⟩ (c_X11_isImage l dC dI 1 s.heap.size) (va_cwS 1 hts (gi_S (fun w_ h0_ => ⟨List.mem_cons_of_mem _ (List.mem_append_right _ (List.mem_append_left _ h0_)), (tb_c_X11_isImage w_ h0_).2⟩) (List.mem_cons_of_mem _ (List.mem_append_left _ (List.mem_of_getElem? (i := 0) rfl))) (List.mem_cons_of_mem _ (List.mem_append_left _ (List.mem_of_getElem? (i := 1) rfl))) (List.mem_cons_of_mem _ (List.mem_append_left _ (List.mem_of_getElem? (i := 2) rfl)))) rfl rfl rfl (by decide +kernel) ⟨Nat.le_of_ble_eq_true rfl, Nat.le_of_ble_eq_true rfl⟩) ⟨fun a U g mk q => by obtain ⟨q0, q1, qP, qK, qD⟩ := q; exact ⟨q0, q1, qP, va_K.moved (u := U) (U := U.calling g mk a) (Vm.Alike.refl U.vm) qK, qD⟩, fun U hU hW => ⟨rfl, by rw [hU], by rw [hU]; exact hPc, va_K.moved hW.alike hKc, hDc.weaken (fun _ _ _ _ => trivial)⟩⟩ rfl rfl hl.1 rfl (lv_room (Nat.le_of_ble_eq_true rfl)) dX11_image_1 ⟨Nat.le_of_ble_eq_true rfl, Nat.le_of_ble_eq_true rfl⟩) hS (fun q _ h => hFc q h) hFc (fun r_7 u t H1 locs ht hvm hw hB hz1 hk1 hS => ?_)
    obtain ⟨hP1, hK1, hD1⟩ := hB
    rw [ht] at hP1
    have hK1 := va_K.moved hvm.symm hK1
    obtain ⟨hP, hD⟩ := va_join (wr := [(h0, .inr (11, [.ref te, .ref ta, .ref re, .ref no, .ref pa, .ref ac, .ref op, .ref im, .ref ik, .ref hi, .ref rf, .int (-1)])), (no, .inr (6, [.ref te, .ref nt, .ref nl, .ref ns, .ref np, .int 0, .int 0, .long 0, .int (-1), .int (-1)])), (nl, .inr (2, [.ref nr])), (nr, .inl (cl1, 128, .inr (.inl (fun _ => 0)))), (im, .inl (cs1, 2, .inr (.inr (.inr (.inr fm))))), (i0, .inr (6, [.ref te, .ref it0, .ref il0, .ref is0, .ref ip0, .int 0, .int 0, .long 0, .int (-1), .int (-1)])), (il0, .inr (2, [.ref ir0])), (ir0, .inl (cl3, 128, .inr (.inl (fun _ => 0)))), (i1, .inr (6, [.ref te, .ref it1, .ref il1, .ref is1, .ref ip1, .int 0, .int 0, .long 0, .int (-1), .int (-1)])), (il1, .inr (2, [.ref ir1])), (ir1, .inl (cl4, 128, .inr (.inl (fun _ => 0)))), (ik, .inl (cz, 2, .inl (fun _ => 0))), (rf, .inr (4, [.ref rc, .int 0])), (rc, .inl (ci2, 5, .inl (fun _ => 0)))]) (w1 := []) hP hD [] [0, 1, 2, 3, 4, 5, 6, 7, 8, 9, 10, 11, 12, 13] rfl rfl (by decide) (by decide) hk1 hFc hP1 hD1
    generalize H1 = H at hP hS ⊢
    have hP : va_P (dC, dI) vwCl [(h0, .inr (11, [.ref te, .ref ta, .ref re, .ref no, .ref pa, .ref ac, .ref op, .ref im, .ref ik, .ref hi, .ref rf, .int (-1)])), (no, .inr (6, [.ref te, .ref nt, .ref nl, .ref ns, .ref np, .int 0, .int 0, .long 0, .int (-1), .int (-1)])), (nl, .inr (2, [.ref nr])), (nr, .inl (cl1, 128, .inr (.inl (fun _ => 0)))), (im, .inl (cs1, 2, .inr (.inr (.inr (.inr fm))))), (i0, .inr (6, [.ref te, .ref it0, .ref il0, .ref is0, .ref ip0, .int 0, .int 0, .long 0, .int (-1), .int (-1)])), (il0, .inr (2, [.ref ir0])), (ir0, .inl (cl3, 128, .inr (.inl (fun _ => 0)))), (i1, .inr (6, [.ref te, .ref it1, .ref il1, .ref is1, .ref ip1, .int 0, .int 0, .long 0, .int (-1), .int (-1)])), (il1, .inr (2, [.ref ir1])), (ir1, .inl (cl4, 128, .inr (.inl (fun _ => 0)))), (ik, .inl (cz, 2, .inl (fun _ => 0))), (rf, .inr (4, [.ref rc, .int 0])), (rc, .inl (ci2, 5, .inl (fun _ => 0)))] H := hP
    have hD : va_D A [(h0, .inr (11, [.ref te, .ref ta, .ref re, .ref no, .ref pa, .ref ac, .ref op, .ref im, .ref ik, .ref hi, .ref rf, .int (-1)])), (no, .inr (6, [.ref te, .ref nt, .ref nl, .ref ns, .ref np, .int 0, .int 0, .long 0, .int (-1), .int (-1)])), (nl, .inr (2, [.ref nr])), (nr, .inl (cl1, 128, .inr (.inl (fun _ => 0)))), (im, .inl (cs1, 2, .inr (.inr (.inr (.inr fm))))), (i0, .inr (6, [.ref te, .ref it0, .ref il0, .ref is0, .ref ip0, .int 0, .int 0, .long 0, .int (-1), .int (-1)])), (il0, .inr (2, [.ref ir0])), (ir0, .inl (cl3, 128, .inr (.inl (fun _ => 0)))), (i1, .inr (6, [.ref te, .ref it1, .ref il1, .ref is1, .ref ip1, .int 0, .int 0, .long 0, .int (-1), .int (-1)])), (il1, .inr (2, [.ref ir1])), (ir1, .inl (cl4, 128, .inr (.inl (fun _ => 0)))), (ik, .inl (cz, 2, .inl (fun _ => 0))), (rf, .inr (4, [.ref rc, .int 0])), (rc, .inl (ci2, 5, .inl (fun _ => 0)))] := hD
    refine W.widen (k := 0) (n := 0) (Nat.le_of_ble_eq_true rfl) (Nat.le_of_ble_eq_true rfl) ?_
    have hw : r_7 = sp_r 1 0 1 := hw
    subst hw
    refine k_topi (y := 1) (by decide) ?_
    refine lv_if_ne (tgt := 16) hx hb dX11_image_4 (by decide) (fun _ => ?_) (fun c => absurd c (by decide))
    refine lv_aload_n hx hb dX11_image_16 rfl (lv_at hl 0 rfl) ?_
    refine va_get (D := (dC, dI)) (ci := 11) (v := .ref im) (C := RX11) (T := TX11) (N := 12) hx hb hts (fun _ h0_ => List.mem_cons_of_mem _ (List.mem_append_right _ (List.mem_append_right _ (List.mem_append_left _ h0_)))) hown hK hP 0 rfl rfl 7 (by decide) (hts (.fieldLink RX11 54 "DeadlineShare" "images" "[LDeadlineShare$State;") (List.mem_cons_of_mem _ (List.mem_append_left _ (List.mem_of_getElem? (i := 3) rfl)))) (fun _ h9 => h9) rfl dX11_image_17 ?_
    refine lv_iload_n hx hb dX11_image_20 rfl (lv_at hl 1 rfl) ?_
    refine va_aldq hx hb hK hP 4 1 rfl rfl (by unfold vp_in; decide) dX11_image_21 ?_
    rw [show va_rf (fm (Int32.toNatClampNeg 1)) = .ref i1 from congrArg va_rf ((congrArg fm (show Int32.toNatClampNeg 1 = 1 by decide)).trans hfm1)]
    refine lv_aload_n hx hb dX11_image_22 rfl (lv_at hl 0 rfl) ?_
    refine va_get (D := (dC, dI)) (ci := 11) (v := .ref no) (C := RX11) (T := TX11) (N := 12) hx hb hts (fun _ h0_ => List.mem_cons_of_mem _ (List.mem_append_right _ (List.mem_append_right _ (List.mem_append_left _ h0_)))) hown hK hP 0 rfl rfl 3 (by decide) (hts (.fieldLink RX11 37 "DeadlineShare" "now" "LDeadlineShare$State;") (List.mem_cons_of_mem _ (List.mem_append_left _ (List.mem_of_getElem? (i := 4) rfl)))) (fun _ h9 => h9) rfl dX11_image_23 ?_
    have hPc := hP.sub (ws' := [(i1, .inr (6, [.ref te, .ref it1, .ref il1, .ref is1, .ref ip1, .int 0, .int 0, .long 0, .int (-1), .int (-1)])), (no, .inr (6, [.ref te, .ref nt, .ref nl, .ref ns, .ref np, .int 0, .int 0, .long 0, .int (-1), .int (-1)])), (il1, .inr (2, [.ref ir1])), (ir1, .inl (cl4, 128, .inr (.inl (fun _ => 0)))), (nl, .inr (2, [.ref nr])), (nr, .inl (cl1, 128, .inr (.inl (fun _ => 0))))]) [8, 1, 9, 10, 2, 3] rfl
    have hDc := hD.sub (ws' := [(i1, .inr (6, [.ref te, .ref it1, .ref il1, .ref is1, .ref ip1, .int 0, .int 0, .long 0, .int (-1), .int (-1)])), (no, .inr (6, [.ref te, .ref nt, .ref nl, .ref ns, .ref np, .int 0, .int 0, .long 0, .int (-1), .int (-1)])), (il1, .inr (2, [.ref ir1])), (ir1, .inl (cl4, 128, .inr (.inl (fun _ => 0)))), (nl, .inr (2, [.ref nr])), (nr, .inl (cl1, 128, .inr (.inl (fun _ => 0))))]) [8, 1, 9, 10, 2, 3] (by decide) rfl
    have hKc := hK.sub (tys' := [(cl4, .long), (cl1, .long)]) [3, 0] rfl
    have hFc := va_free (wc := [(i1, .inr (6, [.ref te, .ref it1, .ref il1, .ref is1, .ref ip1, .int 0, .int 0, .long 0, .int (-1), .int (-1)])), (no, .inr (6, [.ref te, .ref nt, .ref nl, .ref ns, .ref np, .int 0, .int 0, .long 0, .int (-1), .int (-1)])), (il1, .inr (2, [.ref ir1])), (ir1, .inl (cl4, 128, .inr (.inl (fun _ => 0)))), (nl, .inr (2, [.ref nr])), (nr, .inl (cl1, 128, .inr (.inl (fun _ => 0))))]) hD hS hA [8, 1, 9, 10, 2, 3] rfl
    refine va_callv (va_runV (As := [.ref no]) (rest := []) ⟨hx, hb, hml, hown, hts⟩ (c_X6_copy l dC dI i1 no te it1 il1 is1 ip1 0 te nt nl ns np 0 ir1 cl4 (fun _ => 0) nr cl1 (fun _ => 0) H.size) (cwV 1 hts (gi_V (fun w_ h0_ => ⟨List.mem_cons_of_mem _ (List.mem_append_right _ (List.mem_append_right _ (List.mem_append_right _ (List.mem_append_left _ h0_)))), (tb_c_X6_copy w_ h0_).2⟩) (List.mem_cons_of_mem _ (List.mem_append_left _ (List.mem_of_getElem? (i := 5) rfl))) (List.mem_cons_of_mem _ (List.mem_append_left _ (List.mem_of_getElem? (i := 6) rfl))) (List.mem_cons_of_mem _ (List.mem_append_left _ (List.mem_of_getElem? (i := 7) rfl))) (List.mem_cons_of_mem _ (List.mem_append_left _ (List.mem_of_getElem? (i := 8) rfl)))) rfl rfl rfl (by decide +kernel) ⟨Nat.le_of_ble_eq_true rfl, Nat.le_of_ble_eq_true rfl⟩) ⟨fun a U g mk q => by obtain ⟨q0, q1, qP, qK, qD⟩ := q; exact ⟨q0, q1, qP, va_K.moved (u := U) (U := U.calling g mk a) (Vm.Alike.refl U.vm) qK, qD⟩, va_recv hKc hPc (ci := 6) (q0 := 0) rfl rfl, fun U hU hW => ⟨rfl, by rw [hU], by rw [hU]; exact hPc, va_K.moved hW.alike hKc, hDc.weaken (fun _ _ _ _ => trivial)⟩⟩ rfl rfl hl.1 rfl (lv_room (Nat.le_of_ble_eq_true rfl)) dX11_image_26 ⟨Nat.le_of_ble_eq_true rfl, Nat.le_of_ble_eq_true rfl⟩) hS (fun q _ h => hFc q h) hFc (fun u t H1 locs ht hvm hw hB hz1 hk1 hS => ?_)
    obtain ⟨f_8, hP1, hK1, hD1⟩ := hB
    rw [ht] at hP1
    have hK1 := va_K.moved hvm.symm hK1
    obtain ⟨hP, hD⟩ := va_join (wr := [(h0, .inr (11, [.ref te, .ref ta, .ref re, .ref no, .ref pa, .ref ac, .ref op, .ref im, .ref ik, .ref hi, .ref rf, .int (-1)])), (im, .inl (cs1, 2, .inr (.inr (.inr (.inr fm))))), (i0, .inr (6, [.ref te, .ref it0, .ref il0, .ref is0, .ref ip0, .int 0, .int 0, .long 0, .int (-1), .int (-1)])), (il0, .inr (2, [.ref ir0])), (ir0, .inl (cl3, 128, .inr (.inl (fun _ => 0)))), (ik, .inl (cz, 2, .inl (fun _ => 0))), (rf, .inr (4, [.ref rc, .int 0])), (rc, .inl (ci2, 5, .inl (fun _ => 0)))]) (w1 := [(i1, .inr (6, [.ref te, .ref it1, .ref il1, .ref is1, .ref ip1, .int 0, .int 0, .long 0, .int (-1), .int (-1)])), (no, .inr (6, [.ref te, .ref nt, .ref nl, .ref ns, .ref np, .int 0, .int 0, .long 0, .int (-1), .int (-1)])), (il1, .inr (2, [.ref ir1])), (ir1, .inl (cl4, 128, .inr (.inl f_8))), (nl, .inr (2, [.ref nr])), (nr, .inl (cl1, 128, .inr (.inl (fun _ => 0))))]) hP hD [8, 1, 9, 10, 2, 3] [0, 4, 5, 6, 7, 11, 12, 13] rfl rfl (by decide) (by decide) hk1 hFc hP1 hD1
    generalize H1 = H at hP hS ⊢
    have hP : va_P (dC, dI) vwCl [(h0, .inr (11, [.ref te, .ref ta, .ref re, .ref no, .ref pa, .ref ac, .ref op, .ref im, .ref ik, .ref hi, .ref rf, .int (-1)])), (im, .inl (cs1, 2, .inr (.inr (.inr (.inr fm))))), (i0, .inr (6, [.ref te, .ref it0, .ref il0, .ref is0, .ref ip0, .int 0, .int 0, .long 0, .int (-1), .int (-1)])), (il0, .inr (2, [.ref ir0])), (ir0, .inl (cl3, 128, .inr (.inl (fun _ => 0)))), (ik, .inl (cz, 2, .inl (fun _ => 0))), (rf, .inr (4, [.ref rc, .int 0])), (rc, .inl (ci2, 5, .inl (fun _ => 0))), (i1, .inr (6, [.ref te, .ref it1, .ref il1, .ref is1, .ref ip1, .int 0, .int 0, .long 0, .int (-1), .int (-1)])), (no, .inr (6, [.ref te, .ref nt, .ref nl, .ref ns, .ref np, .int 0, .int 0, .long 0, .int (-1), .int (-1)])), (il1, .inr (2, [.ref ir1])), (ir1, .inl (cl4, 128, .inr (.inl f_8))), (nl, .inr (2, [.ref nr])), (nr, .inl (cl1, 128, .inr (.inl (fun _ => 0))))] H := hP
    have hD : va_D A [(h0, .inr (11, [.ref te, .ref ta, .ref re, .ref no, .ref pa, .ref ac, .ref op, .ref im, .ref ik, .ref hi, .ref rf, .int (-1)])), (im, .inl (cs1, 2, .inr (.inr (.inr (.inr fm))))), (i0, .inr (6, [.ref te, .ref it0, .ref il0, .ref is0, .ref ip0, .int 0, .int 0, .long 0, .int (-1), .int (-1)])), (il0, .inr (2, [.ref ir0])), (ir0, .inl (cl3, 128, .inr (.inl (fun _ => 0)))), (ik, .inl (cz, 2, .inl (fun _ => 0))), (rf, .inr (4, [.ref rc, .int 0])), (rc, .inl (ci2, 5, .inl (fun _ => 0))), (i1, .inr (6, [.ref te, .ref it1, .ref il1, .ref is1, .ref ip1, .int 0, .int 0, .long 0, .int (-1), .int (-1)])), (no, .inr (6, [.ref te, .ref nt, .ref nl, .ref ns, .ref np, .int 0, .int 0, .long 0, .int (-1), .int (-1)])), (il1, .inr (2, [.ref ir1])), (ir1, .inl (cl4, 128, .inr (.inl f_8))), (nl, .inr (2, [.ref nr])), (nr, .inl (cl1, 128, .inr (.inl (fun _ => 0))))] := hD
    refine W.widen (k := 0) (n := 0) (Nat.le_of_ble_eq_true rfl) (Nat.le_of_ble_eq_true rfl) ?_
    refine lv_aload_n hx hb dX11_image_29 rfl (lv_at hl 0 rfl) ?_
    refine va_get (D := (dC, dI)) (ci := 11) (v := .ref ik) (C := RX11) (T := TX11) (N := 12) hx hb hts (fun _ h0_ => List.mem_cons_of_mem _ (List.mem_append_right _ (List.mem_append_right _ (List.mem_append_left _ h0_)))) hown hK hP 0 rfl rfl 8 (by decide) (hts (.fieldLink RX11 58 "DeadlineShare" "imageKept" "[Z") (List.mem_cons_of_mem _ (List.mem_append_left _ (List.mem_of_getElem? (i := 9) rfl)))) (fun _ h9 => h9) rfl dX11_image_30 ?_
    refine lv_iload_n hx hb dX11_image_33 rfl (lv_at hl 1 rfl) ?_
    refine lv_iconst (v := 1) hx hb dX11_image_34 (by decide) ?_
    refine va_zast hx hb hK hP hD hS 5 4 rfl rfl (by unfold vp_in; decide) dX11_image_35 (fun H locs hP hD hS => ?_)
    have hP : va_P (dC, dI) vwCl [(h0, .inr (11, [.ref te, .ref ta, .ref re, .ref no, .ref pa, .ref ac, .ref op, .ref im, .ref ik, .ref hi, .ref rf, .int (-1)])), (im, .inl (cs1, 2, .inr (.inr (.inr (.inr fm))))), (i0, .inr (6, [.ref te, .ref it0, .ref il0, .ref is0, .ref ip0, .int 0, .int 0, .long 0, .int (-1), .int (-1)])), (il0, .inr (2, [.ref ir0])), (ir0, .inl (cl3, 128, .inr (.inl (fun _ => 0)))), (ik, .inl (cz, 2, .inl (upd (fun _ => 0) (Int32.toNatClampNeg 1) (vp_nar .boolean 1)))), (rf, .inr (4, [.ref rc, .int 0])), (rc, .inl (ci2, 5, .inl (fun _ => 0))), (i1, .inr (6, [.ref te, .ref it1, .ref il1, .ref is1, .ref ip1, .int 0, .int 0, .long 0, .int (-1), .int (-1)])), (no, .inr (6, [.ref te, .ref nt, .ref nl, .ref ns, .ref np, .int 0, .int 0, .long 0, .int (-1), .int (-1)])), (il1, .inr (2, [.ref ir1])), (ir1, .inl (cl4, 128, .inr (.inl f_8))), (nl, .inr (2, [.ref nr])), (nr, .inl (cl1, 128, .inr (.inl (fun _ => 0))))] H := hP
    have hD : va_D A [(h0, .inr (11, [.ref te, .ref ta, .ref re, .ref no, .ref pa, .ref ac, .ref op, .ref im, .ref ik, .ref hi, .ref rf, .int (-1)])), (im, .inl (cs1, 2, .inr (.inr (.inr (.inr fm))))), (i0, .inr (6, [.ref te, .ref it0, .ref il0, .ref is0, .ref ip0, .int 0, .int 0, .long 0, .int (-1), .int (-1)])), (il0, .inr (2, [.ref ir0])), (ir0, .inl (cl3, 128, .inr (.inl (fun _ => 0)))), (ik, .inl (cz, 2, .inl (upd (fun _ => 0) (Int32.toNatClampNeg 1) (vp_nar .boolean 1)))), (rf, .inr (4, [.ref rc, .int 0])), (rc, .inl (ci2, 5, .inl (fun _ => 0))), (i1, .inr (6, [.ref te, .ref it1, .ref il1, .ref is1, .ref ip1, .int 0, .int 0, .long 0, .int (-1), .int (-1)])), (no, .inr (6, [.ref te, .ref nt, .ref nl, .ref ns, .ref np, .int 0, .int 0, .long 0, .int (-1), .int (-1)])), (il1, .inr (2, [.ref ir1])), (ir1, .inl (cl4, 128, .inr (.inl f_8))), (nl, .inr (2, [.ref nr])), (nr, .inl (cl1, 128, .inr (.inl (fun _ => 0))))] := hD
    generalize ef_9 : upd (fun _ => 0) (Int32.toNatClampNeg 1) (vp_nar .boolean 1) = f_9 at hP hD
    refine lv_aload_n hx hb dX11_image_36 rfl (lv_at hl 0 rfl) ?_
    refine va_get (D := (dC, dI)) (ci := 11) (v := .ref rf) (C := RX11) (T := TX11) (N := 12) hx hb hts (fun _ h0_ => List.mem_cons_of_mem _ (List.mem_append_right _ (List.mem_append_right _ (List.mem_append_left _ h0_)))) hown hK hP 0 rfl rfl 10 (by decide) (hts (.fieldLink RX11 72 "DeadlineShare" "refusals" "LDeadlineShare$Refusals;") (List.mem_cons_of_mem _ (List.mem_append_left _ (List.mem_of_getElem? (i := 10) rfl)))) (fun _ h9 => h9) rfl dX11_image_37 ?_
    refine lv_aload_n hx hb dX11_image_40 rfl (lv_at hl 0 rfl) ?_
    refine va_get (D := (dC, dI)) (ci := 11) (v := .ref no) (C := RX11) (T := TX11) (N := 12) hx hb hts (fun _ h0_ => List.mem_cons_of_mem _ (List.mem_append_right _ (List.mem_append_right _ (List.mem_append_left _ h0_)))) hown hK hP 0 rfl rfl 3 (by decide) (hts (.fieldLink RX11 37 "DeadlineShare" "now" "LDeadlineShare$State;") (List.mem_cons_of_mem _ (List.mem_append_left _ (List.mem_of_getElem? (i := 4) rfl)))) (fun _ h9 => h9) rfl dX11_image_41 ?_
    refine va_get (D := (dC, dI)) (ci := 6) (v := .int 0) (C := RX6) (T := TX6) (N := 10) hx hb hts (fun _ h0_ => List.mem_cons_of_mem _ (List.mem_append_right _ (List.mem_append_right _ (List.mem_append_right _ (List.mem_append_right _ (List.mem_append_left _ h0_)))))) hown hK hP 9 rfl rfl 6 (by decide) (hts (.fieldLink RX11 223 "DeadlineShare$State" "time" "I") (List.mem_cons_of_mem _ (List.mem_append_left _ (List.mem_of_getElem? (i := 11) rfl)))) (fun _ h9 => h9) rfl dX11_image_44 ?_
    have hPc := hP.sub (ws' := [(rf, .inr (4, [.ref rc, .int 0]))]) [6] rfl
    have hDc := hD.sub (ws' := [(rf, .inr (4, [.ref rc, .int 0]))]) [6] (by decide) rfl
    have hKc := hK.sub (tys' := []) [] rfl
    have hFc := va_free (wc := [(rf, .inr (4, [.ref rc, .int 0]))]) hD hS hA [6] rfl
    refine va_calli (va_runV (As := [.int 0]) (rest := []) ⟨hx, hb, hml, hown, hts⟩ (c_X4_none l dC dI rf rc 0 0 H.size) (cwV 1 hts (gi_V (fun w_ h0_ => ⟨List.mem_cons_of_mem _ (List.mem_append_right _ (List.mem_append_right _ (List.mem_append_right _ (List.mem_append_right _ (List.mem_append_right _ (List.mem_append_left _ h0_)))))), (tb_c_X4_none w_ h0_).2⟩) (List.mem_cons_of_mem _ (List.mem_append_left _ (List.mem_of_getElem? (i := 12) rfl))) (List.mem_cons_of_mem _ (List.mem_append_left _ (List.mem_of_getElem? (i := 13) rfl))) (List.mem_cons_of_mem _ (List.mem_append_left _ (List.mem_of_getElem? (i := 14) rfl))) (List.mem_cons_of_mem _ (List.mem_append_left _ (List.mem_of_getElem? (i := 15) rfl)))) rfl rfl rfl (by decide +kernel) ⟨Nat.le_of_ble_eq_true rfl, Nat.le_of_ble_eq_true rfl⟩) ⟨fun a U g mk q => by obtain ⟨q0, q1, qP, qK, qD⟩ := q; exact ⟨q0, q1, qP, va_K.moved (u := U) (U := U.calling g mk a) (Vm.Alike.refl U.vm) qK, qD⟩, va_recv hKc hPc (ci := 4) (q0 := 0) rfl rfl, fun U hU hW => ⟨rfl, by rw [hU], by rw [hU]; exact hPc, va_K.moved hW.alike hKc, hDc.weaken (fun _ _ _ _ => trivial)⟩⟩ rfl rfl hl.1 rfl (lv_room (Nat.le_of_ble_eq_true rfl)) dX11_image_47 ⟨Nat.le_of_ble_eq_true rfl, Nat.le_of_ble_eq_true rfl⟩) hS (fun q _ h => hFc q h) hFc (fun r_10 u t H1 locs ht hvm hw hB hz1 hk1 hS => ?_)
    obtain ⟨hP1, hK1, hD1⟩ := hB
    rw [ht] at hP1
    have hK1 := va_K.moved hvm.symm hK1
    obtain ⟨hP, hD⟩ := va_join (wr := [(h0, .inr (11, [.ref te, .ref ta, .ref re, .ref no, .ref pa, .ref ac, .ref op, .ref im, .ref ik, .ref hi, .ref rf, .int (-1)])), (im, .inl (cs1, 2, .inr (.inr (.inr (.inr fm))))), (i0, .inr (6, [.ref te, .ref it0, .ref il0, .ref is0, .ref ip0, .int 0, .int 0, .long 0, .int (-1), .int (-1)])), (il0, .inr (2, [.ref ir0])), (ir0, .inl (cl3, 128, .inr (.inl (fun _ => 0)))), (ik, .inl (cz, 2, .inl f_9)), (rc, .inl (ci2, 5, .inl (fun _ => 0))), (i1, .inr (6, [.ref te, .ref it1, .ref il1, .ref is1, .ref ip1, .int 0, .int 0, .long 0, .int (-1), .int (-1)])), (no, .inr (6, [.ref te, .ref nt, .ref nl, .ref ns, .ref np, .int 0, .int 0, .long 0, .int (-1), .int (-1)])), (il1, .inr (2, [.ref ir1])), (ir1, .inl (cl4, 128, .inr (.inl f_8))), (nl, .inr (2, [.ref nr])), (nr, .inl (cl1, 128, .inr (.inl (fun _ => 0))))]) (w1 := []) hP hD [6] [0, 1, 2, 3, 4, 5, 7, 8, 9, 10, 11, 12, 13] rfl rfl (by decide) (by decide) hk1 hFc hP1 hD1
    generalize H1 = H at hP hS ⊢
    have hP : va_P (dC, dI) vwCl [(h0, .inr (11, [.ref te, .ref ta, .ref re, .ref no, .ref pa, .ref ac, .ref op, .ref im, .ref ik, .ref hi, .ref rf, .int (-1)])), (im, .inl (cs1, 2, .inr (.inr (.inr (.inr fm))))), (i0, .inr (6, [.ref te, .ref it0, .ref il0, .ref is0, .ref ip0, .int 0, .int 0, .long 0, .int (-1), .int (-1)])), (il0, .inr (2, [.ref ir0])), (ir0, .inl (cl3, 128, .inr (.inl (fun _ => 0)))), (ik, .inl (cz, 2, .inl f_9)), (rc, .inl (ci2, 5, .inl (fun _ => 0))), (i1, .inr (6, [.ref te, .ref it1, .ref il1, .ref is1, .ref ip1, .int 0, .int 0, .long 0, .int (-1), .int (-1)])), (no, .inr (6, [.ref te, .ref nt, .ref nl, .ref ns, .ref np, .int 0, .int 0, .long 0, .int (-1), .int (-1)])), (il1, .inr (2, [.ref ir1])), (ir1, .inl (cl4, 128, .inr (.inl f_8))), (nl, .inr (2, [.ref nr])), (nr, .inl (cl1, 128, .inr (.inl (fun _ => 0))))] H := hP
    have hD : va_D A [(h0, .inr (11, [.ref te, .ref ta, .ref re, .ref no, .ref pa, .ref ac, .ref op, .ref im, .ref ik, .ref hi, .ref rf, .int (-1)])), (im, .inl (cs1, 2, .inr (.inr (.inr (.inr fm))))), (i0, .inr (6, [.ref te, .ref it0, .ref il0, .ref is0, .ref ip0, .int 0, .int 0, .long 0, .int (-1), .int (-1)])), (il0, .inr (2, [.ref ir0])), (ir0, .inl (cl3, 128, .inr (.inl (fun _ => 0)))), (ik, .inl (cz, 2, .inl f_9)), (rc, .inl (ci2, 5, .inl (fun _ => 0))), (i1, .inr (6, [.ref te, .ref it1, .ref il1, .ref is1, .ref ip1, .int 0, .int 0, .long 0, .int (-1), .int (-1)])), (no, .inr (6, [.ref te, .ref nt, .ref nl, .ref ns, .ref np, .int 0, .int 0, .long 0, .int (-1), .int (-1)])), (il1, .inr (2, [.ref ir1])), (ir1, .inl (cl4, 128, .inr (.inl f_8))), (nl, .inr (2, [.ref nr])), (nr, .inl (cl1, 128, .inr (.inl (fun _ => 0))))] := hD
    refine W.widen (k := 0) (n := 0) (Nat.le_of_ble_eq_true rfl) (Nat.le_of_ble_eq_true rfl) ?_
    have hw : r_10 = 0 := hw
    subst hw
    have hP9 := hP.sub (ws' := []) [] rfl
    have hD9 := hD.sub (ws' := []) [] (by decide) rfl
    have hK9 := hK.sub (tys' := []) [] rfl
    refine W.widen (k := 0) (n := 0) (Nat.le_of_ble_eq_true rfl) (Nat.le_of_ble_eq_true rfl) ?_
    exact W.iret (v := 0) hx hb hr (fun t ht hW => ⟨⟨0, (), rfl, (by decide), by rw [ht]; exact hP9, va_K.moved hW.alike hK9, hD9⟩, hS.F ht⟩) hS.2.2 dX11_image_50
  refine lv_iload_n hx hb dX11_image_0 rfl (lv_at hl 1 rfl) ?_
  have hPc := hP.sub (ws' := []) [] rfl
  have hDc := hD.sub (ws' := []) [] (by decide) rfl
  have hKc := hK.sub (tys' := []) [] rfl
  have hFc := va_free (wc := []) hD hS hA [] rfl
  refine va_calli (va_runS (As := [.int kk]) (rest := []) ⟨hx, hb, hml, hown, hts⟩ (c_X11_isImage l dC dI kk s.heap.size) (va_cwS 1 hts (gi_S (fun w_ h0_ => ⟨List.mem_cons_of_mem _ (List.mem_append_right _ (List.mem_append_left _ h0_)), (tb_c_X11_isImage w_ h0_).2⟩) (List.mem_cons_of_mem _ (List.mem_append_left _ (List.mem_of_getElem? (i := 0) rfl))) (List.mem_cons_of_mem _ (List.mem_append_left _ (List.mem_of_getElem? (i := 1) rfl))) (List.mem_cons_of_mem _ (List.mem_append_left _ (List.mem_of_getElem? (i := 2) rfl)))) rfl rfl rfl (by decide +kernel) ⟨Nat.le_of_ble_eq_true rfl, Nat.le_of_ble_eq_true rfl⟩) ⟨fun a U g mk q => by obtain ⟨q0, q1, qP, qK, qD⟩ := q; exact ⟨q0, q1, qP, va_K.moved (u := U) (U := U.calling g mk a) (Vm.Alike.refl U.vm) qK, qD⟩, fun U hU hW => ⟨rfl, by rw [hU], by rw [hU]; exact hPc, va_K.moved hW.alike hKc, hDc.weaken (fun _ _ _ _ => trivial)⟩⟩ rfl rfl hl.1 rfl (lv_room (Nat.le_of_ble_eq_true rfl)) dX11_image_1 ⟨Nat.le_of_ble_eq_true rfl, Nat.le_of_ble_eq_true rfl⟩) hS (fun q _ h => hFc q h) hFc (fun r_11 u t H1 locs ht hvm hw hB hz1 hk1 hS => ?_)
  obtain ⟨hP1, hK1, hD1⟩ := hB
  rw [ht] at hP1
  have hK1 := va_K.moved hvm.symm hK1
  obtain ⟨hP, hD⟩ := va_join (wr := [(h0, .inr (11, [.ref te, .ref ta, .ref re, .ref no, .ref pa, .ref ac, .ref op, .ref im, .ref ik, .ref hi, .ref rf, .int (-1)])), (no, .inr (6, [.ref te, .ref nt, .ref nl, .ref ns, .ref np, .int 0, .int 0, .long 0, .int (-1), .int (-1)])), (nl, .inr (2, [.ref nr])), (nr, .inl (cl1, 128, .inr (.inl (fun _ => 0)))), (im, .inl (cs1, 2, .inr (.inr (.inr (.inr fm))))), (i0, .inr (6, [.ref te, .ref it0, .ref il0, .ref is0, .ref ip0, .int 0, .int 0, .long 0, .int (-1), .int (-1)])), (il0, .inr (2, [.ref ir0])), (ir0, .inl (cl3, 128, .inr (.inl (fun _ => 0)))), (i1, .inr (6, [.ref te, .ref it1, .ref il1, .ref is1, .ref ip1, .int 0, .int 0, .long 0, .int (-1), .int (-1)])), (il1, .inr (2, [.ref ir1])), (ir1, .inl (cl4, 128, .inr (.inl (fun _ => 0)))), (ik, .inl (cz, 2, .inl (fun _ => 0))), (rf, .inr (4, [.ref rc, .int 0])), (rc, .inl (ci2, 5, .inl (fun _ => 0)))]) (w1 := []) hP hD [] [0, 1, 2, 3, 4, 5, 6, 7, 8, 9, 10, 11, 12, 13] rfl rfl (by decide) (by decide) hk1 hFc hP1 hD1
  generalize H1 = H at hP hS ⊢
  have hP : va_P (dC, dI) vwCl [(h0, .inr (11, [.ref te, .ref ta, .ref re, .ref no, .ref pa, .ref ac, .ref op, .ref im, .ref ik, .ref hi, .ref rf, .int (-1)])), (no, .inr (6, [.ref te, .ref nt, .ref nl, .ref ns, .ref np, .int 0, .int 0, .long 0, .int (-1), .int (-1)])), (nl, .inr (2, [.ref nr])), (nr, .inl (cl1, 128, .inr (.inl (fun _ => 0)))), (im, .inl (cs1, 2, .inr (.inr (.inr (.inr fm))))), (i0, .inr (6, [.ref te, .ref it0, .ref il0, .ref is0, .ref ip0, .int 0, .int 0, .long 0, .int (-1), .int (-1)])), (il0, .inr (2, [.ref ir0])), (ir0, .inl (cl3, 128, .inr (.inl (fun _ => 0)))), (i1, .inr (6, [.ref te, .ref it1, .ref il1, .ref is1, .ref ip1, .int 0, .int 0, .long 0, .int (-1), .int (-1)])), (il1, .inr (2, [.ref ir1])), (ir1, .inl (cl4, 128, .inr (.inl (fun _ => 0)))), (ik, .inl (cz, 2, .inl (fun _ => 0))), (rf, .inr (4, [.ref rc, .int 0])), (rc, .inl (ci2, 5, .inl (fun _ => 0)))] H := hP
  have hD : va_D A [(h0, .inr (11, [.ref te, .ref ta, .ref re, .ref no, .ref pa, .ref ac, .ref op, .ref im, .ref ik, .ref hi, .ref rf, .int (-1)])), (no, .inr (6, [.ref te, .ref nt, .ref nl, .ref ns, .ref np, .int 0, .int 0, .long 0, .int (-1), .int (-1)])), (nl, .inr (2, [.ref nr])), (nr, .inl (cl1, 128, .inr (.inl (fun _ => 0)))), (im, .inl (cs1, 2, .inr (.inr (.inr (.inr fm))))), (i0, .inr (6, [.ref te, .ref it0, .ref il0, .ref is0, .ref ip0, .int 0, .int 0, .long 0, .int (-1), .int (-1)])), (il0, .inr (2, [.ref ir0])), (ir0, .inl (cl3, 128, .inr (.inl (fun _ => 0)))), (i1, .inr (6, [.ref te, .ref it1, .ref il1, .ref is1, .ref ip1, .int 0, .int 0, .long 0, .int (-1), .int (-1)])), (il1, .inr (2, [.ref ir1])), (ir1, .inl (cl4, 128, .inr (.inl (fun _ => 0)))), (ik, .inl (cz, 2, .inl (fun _ => 0))), (rf, .inr (4, [.ref rc, .int 0])), (rc, .inl (ci2, 5, .inl (fun _ => 0)))] := hD
  refine W.widen (k := 0) (n := 0) (Nat.le_of_ble_eq_true rfl) (Nat.le_of_ble_eq_true rfl) ?_
  have hw : r_11 = sp_r kk 0 1 := hw
  subst hw
  refine lv_if_ne (tgt := 16) hx hb dX11_image_4 (by decide) (fun c => absurd c (Classical.not_not.mpr ((sp_r0 _ _ _).mpr (by have nh_1 := lv_neT (a := 0) h_1 (by decide); have nh_6 := lv_neT (a := 1) h_6 (by decide); skip; omega)))) (fun _ => ?_)
  refine lv_aload_n hx hb dX11_image_7 rfl (lv_at hl 0 rfl) ?_
  refine va_get (D := (dC, dI)) (ci := 11) (v := .ref rf) (C := RX11) (T := TX11) (N := 12) hx hb hts (fun _ h0_ => List.mem_cons_of_mem _ (List.mem_append_right _ (List.mem_append_right _ (List.mem_append_left _ h0_)))) hown hK hP 0 rfl rfl 10 (by decide) (hts (.fieldLink RX11 72 "DeadlineShare" "refusals" "LDeadlineShare$Refusals;") (List.mem_cons_of_mem _ (List.mem_append_left _ (List.mem_of_getElem? (i := 10) rfl)))) (fun _ h9 => h9) rfl dX11_image_8 ?_
  refine lv_iconst (v := (-1)) hx hb dX11_image_11 (by decide) ?_
  have hPc := hP.sub (ws' := [(rf, .inr (4, [.ref rc, .int 0])), (rc, .inl (ci2, 5, .inl (fun _ => 0)))]) [12, 13] rfl
  have hDc := hD.sub (ws' := [(rf, .inr (4, [.ref rc, .int 0])), (rc, .inl (ci2, 5, .inl (fun _ => 0)))]) [12, 13] (by decide) rfl
  have hKc := hK.sub (tys' := [(ci2, .int)]) [5] rfl
  have hFc := va_free (wc := [(rf, .inr (4, [.ref rc, .int 0])), (rc, .inl (ci2, 5, .inl (fun _ => 0)))]) hD hS hA [12, 13] rfl
  refine va_calli (va_runV (As := [.int (-1)]) (rest := []) ⟨hx, hb, hml, hown, hts⟩ (c_X4_add_1 l dC dI rf rc ci2 H.size) (cwV 1 hts (gi_V (fun w_ h0_ => ⟨List.mem_cons_of_mem _ (List.mem_append_right _ (List.mem_append_right _ (List.mem_append_right _ (List.mem_append_right _ (List.mem_append_right _ (List.mem_append_right _ (List.mem_append_left _ h0_))))))), (tb_c_X4_add_1 w_ h0_).2⟩) (List.mem_cons_of_mem _ (List.mem_append_left _ (List.mem_of_getElem? (i := 16) rfl))) (List.mem_cons_of_mem _ (List.mem_append_left _ (List.mem_of_getElem? (i := 17) rfl))) (List.mem_cons_of_mem _ (List.mem_append_left _ (List.mem_of_getElem? (i := 18) rfl))) (List.mem_cons_of_mem _ (List.mem_append_left _ (List.mem_of_getElem? (i := 15) rfl)))) rfl rfl rfl (by decide +kernel) ⟨Nat.le_of_ble_eq_true rfl, Nat.le_of_ble_eq_true rfl⟩) ⟨fun a U g mk q => by obtain ⟨q0, q1, qP, qK, qD⟩ := q; exact ⟨q0, q1, qP, va_K.moved (u := U) (U := U.calling g mk a) (Vm.Alike.refl U.vm) qK, qD⟩, va_recv hKc hPc (ci := 4) (q0 := 0) rfl rfl, fun U hU hW => ⟨rfl, by rw [hU], by rw [hU]; exact hPc, va_K.moved hW.alike hKc, hDc.weaken (fun _ _ _ _ => trivial)⟩⟩ rfl rfl hl.1 rfl (lv_room (Nat.le_of_ble_eq_true rfl)) dX11_image_12 ⟨Nat.le_of_ble_eq_true rfl, Nat.le_of_ble_eq_true rfl⟩) hS (fun q _ h => hFc q h) hFc (fun r_12 u t H1 locs ht hvm hw hB hz1 hk1 hS => ?_)
  obtain ⟨hP1, hK1, hD1⟩ := hB
  rw [ht] at hP1
  have hK1 := va_K.moved hvm.symm hK1
  obtain ⟨hP, hD⟩ := va_join (wr := [(h0, .inr (11, [.ref te, .ref ta, .ref re, .ref no, .ref pa, .ref ac, .ref op, .ref im, .ref ik, .ref hi, .ref rf, .int (-1)])), (no, .inr (6, [.ref te, .ref nt, .ref nl, .ref ns, .ref np, .int 0, .int 0, .long 0, .int (-1), .int (-1)])), (nl, .inr (2, [.ref nr])), (nr, .inl (cl1, 128, .inr (.inl (fun _ => 0)))), (im, .inl (cs1, 2, .inr (.inr (.inr (.inr fm))))), (i0, .inr (6, [.ref te, .ref it0, .ref il0, .ref is0, .ref ip0, .int 0, .int 0, .long 0, .int (-1), .int (-1)])), (il0, .inr (2, [.ref ir0])), (ir0, .inl (cl3, 128, .inr (.inl (fun _ => 0)))), (i1, .inr (6, [.ref te, .ref it1, .ref il1, .ref is1, .ref ip1, .int 0, .int 0, .long 0, .int (-1), .int (-1)])), (il1, .inr (2, [.ref ir1])), (ir1, .inl (cl4, 128, .inr (.inl (fun _ => 0)))), (ik, .inl (cz, 2, .inl (fun _ => 0)))]) (w1 := []) hP hD [12, 13] [0, 1, 2, 3, 4, 5, 6, 7, 8, 9, 10, 11] rfl rfl (by decide) (by decide) hk1 hFc hP1 hD1
  generalize H1 = H at hP hS ⊢
  have hP : va_P (dC, dI) vwCl [(h0, .inr (11, [.ref te, .ref ta, .ref re, .ref no, .ref pa, .ref ac, .ref op, .ref im, .ref ik, .ref hi, .ref rf, .int (-1)])), (no, .inr (6, [.ref te, .ref nt, .ref nl, .ref ns, .ref np, .int 0, .int 0, .long 0, .int (-1), .int (-1)])), (nl, .inr (2, [.ref nr])), (nr, .inl (cl1, 128, .inr (.inl (fun _ => 0)))), (im, .inl (cs1, 2, .inr (.inr (.inr (.inr fm))))), (i0, .inr (6, [.ref te, .ref it0, .ref il0, .ref is0, .ref ip0, .int 0, .int 0, .long 0, .int (-1), .int (-1)])), (il0, .inr (2, [.ref ir0])), (ir0, .inl (cl3, 128, .inr (.inl (fun _ => 0)))), (i1, .inr (6, [.ref te, .ref it1, .ref il1, .ref is1, .ref ip1, .int 0, .int 0, .long 0, .int (-1), .int (-1)])), (il1, .inr (2, [.ref ir1])), (ir1, .inl (cl4, 128, .inr (.inl (fun _ => 0)))), (ik, .inl (cz, 2, .inl (fun _ => 0)))] H := hP
  have hD : va_D A [(h0, .inr (11, [.ref te, .ref ta, .ref re, .ref no, .ref pa, .ref ac, .ref op, .ref im, .ref ik, .ref hi, .ref rf, .int (-1)])), (no, .inr (6, [.ref te, .ref nt, .ref nl, .ref ns, .ref np, .int 0, .int 0, .long 0, .int (-1), .int (-1)])), (nl, .inr (2, [.ref nr])), (nr, .inl (cl1, 128, .inr (.inl (fun _ => 0)))), (im, .inl (cs1, 2, .inr (.inr (.inr (.inr fm))))), (i0, .inr (6, [.ref te, .ref it0, .ref il0, .ref is0, .ref ip0, .int 0, .int 0, .long 0, .int (-1), .int (-1)])), (il0, .inr (2, [.ref ir0])), (ir0, .inl (cl3, 128, .inr (.inl (fun _ => 0)))), (i1, .inr (6, [.ref te, .ref it1, .ref il1, .ref is1, .ref ip1, .int 0, .int 0, .long 0, .int (-1), .int (-1)])), (il1, .inr (2, [.ref ir1])), (ir1, .inl (cl4, 128, .inr (.inl (fun _ => 0)))), (ik, .inl (cz, 2, .inl (fun _ => 0)))] := hD
  refine W.widen (k := 0) (n := 0) (Nat.le_of_ble_eq_true rfl) (Nat.le_of_ble_eq_true rfl) ?_
  have hw : r_12 = (-1) := hw
  subst hw
  have hP9 := hP.sub (ws' := []) [] rfl
  have hD9 := hD.sub (ws' := []) [] (by decide) rfl
  have hK9 := hK.sub (tys' := []) [] rfl
  refine W.widen (k := 0) (n := 0) (Nat.le_of_ble_eq_true rfl) (Nat.le_of_ble_eq_true rfl) ?_
  exact W.iret (v := (-1)) hx hb hr (fun t ht hW => ⟨⟨(-1), (), rfl, (by have nh_1 := lv_neT (a := 0) h_1 (by decide); have nh_6 := lv_neT (a := 1) h_6 (by decide); unfold sp_one; (repeat' split) <;> first | rfl | omega | (refine Int32.toInt_inj.mp ?_; omega)), by rw [ht]; exact hP9, va_K.moved hW.alike hK9, hD9⟩, hS.F ht⟩) hS.2.2 dX11_image_15
def ow_c_X11_back : List Cond := [.methodLink RX11 235 yX11_isImage, .static yX11_isImage, .initialized RX11, .fieldLink RX11 58 "DeadlineShare" "imageKept" "[Z", .fieldLink RX11 72 "DeadlineShare" "refusals" "LDeadlineShare$Refusals;", .methodLink RX11 84 yX4_add, .instanceMethod yX4_add, .selects RX4 yX4_add yX4_add, .initialized RX4]
def wq_c_X11_back : List Cond := .code yX11_back cX11_back 2 (some .int) :: (ow_c_X11_back ++ (wq_c_X11_isImage ++ (u_ws RX11 TX11 12 ++ (wq_c_X4_add_4 ++ (wq_c_X4_add_1 ++ ([] : List Cond))))))
theorem tb_c_X11_back : ∀ w ∈ wq_c_X11_back, q_g w := by
  unfold wq_c_X11_back ow_c_X11_back
  exact q_cons tw_345 (q_app (q_cons tw_343 (q_cons tw_342 (q_cons tw_324 (q_cons tw_90 (q_cons tw_80 (q_cons tw_280 (q_cons tw_279 (q_cons tw_278 (q_cons tw_1 q_nil))))))))) (q_app tb_c_X11_isImage (q_app tu_X11 (q_app tb_c_X4_add_4 (q_app tb_c_X4_add_1 q_nil)))))
set_option maxHeartbeats 4000000 in
set_option maxRecDepth 100000 in
theorem c_X11_back (l : Launch) (dC : Nat → ClassId) (dI : Nat → Nat → Nat) (h0 : Nat) (kk : Int32) (te : Nat) (ta : Nat) (re : Nat) (no : Nat) (pa : Nat) (ac : Nat) (op : Nat) (im : Nat) (ik : Nat) (hi : Nat) (rf : Nat) (cz : ClassId) (rc : Nat) (ci2 : ClassId) (sz : Nat) : Met l yX11_back wq_c_X11_back ({ frames := 2, cells := 0, slots := 0, locals := 41 } : Room) (va_Pc [.ref h0, .int kk] (fun U => U.heap.size = sz ∧ va_P (dC, dI) vwCl [(h0, .inr (11, [.ref te, .ref ta, .ref re, .ref no, .ref pa, .ref ac, .ref op, .ref im, .ref ik, .ref hi, .ref rf, .int (-1)])), (ik, .inl (cz, 2, .inl (fun _ => 0))), (rf, .inr (4, [.ref rc, .int 0])), (rc, .inl (ci2, 5, .inl (fun _ => 0)))] U.heap ∧ va_K (dC, dI) vwCl [(cz, .boolean), (ci2, .int)] U ∧ va_D (fun _ => True) [(h0, .inr (11, [.ref te, .ref ta, .ref re, .ref no, .ref pa, .ref ac, .ref op, .ref im, .ref ik, .ref hi, .ref rf, .int (-1)])), (ik, .inl (cz, 2, .inl (fun _ => 0))), (rf, .inr (4, [.ref rc, .int 0])), (rc, .inl (ci2, 5, .inl (fun _ => 0)))])) (va_Qi (fun (r : Int32) (_ : Unit) => r = sp_one kk 0 1 (-4)) (fun (_ : Unit) t => va_P (dC, dI) vwCl [] t.heap ∧ va_K (dC, dI) vwCl [] t ∧ va_D (va_A [(h0, .inr (11, [.ref te, .ref ta, .ref re, .ref no, .ref pa, .ref ac, .ref op, .ref im, .ref ik, .ref hi, .ref rf, .int (-1)])), (ik, .inl (cz, 2, .inl (fun _ => 0))), (rf, .inr (4, [.ref rc, .int 0])), (rc, .inl (ci2, 5, .inl (fun _ => 0)))] sz) []) (va_A [(h0, .inr (11, [.ref te, .ref ta, .ref re, .ref no, .ref pa, .ref ac, .ref op, .ref im, .ref ik, .ref hi, .ref rf, .int (-1)])), (ik, .inl (cz, 2, .inl (fun _ => 0))), (rf, .inr (4, [.ref rc, .int 0])), (rc, .inl (ci2, 5, .inl (fun _ => 0)))] sz)) 0 0 (va_A [(h0, .inr (11, [.ref te, .ref ta, .ref re, .ref no, .ref pa, .ref ac, .ref op, .ref im, .ref ik, .ref hi, .ref rf, .int (-1)])), (ik, .inl (cz, 2, .inl (fun _ => 0))), (rf, .inr (4, [.ref rc, .int 0])), (rc, .inl (ci2, 5, .inl (fun _ => 0)))] sz) := by
  refine Met.ofW (cc := cX11_back) (maxL := 2) (ret := (some .int)) (by decide) rfl ?_
  intro p e s m args below meth c s₁ B hml hv
  obtain ⟨rfl, hsz, hP, hK, hD0⟩ := hv
  have hx := B.exec
  have hb := B.bytes
  have hr := B.returns
  have hts := atoms_spec (ws := wq_c_X11_back) B.pre
  have hown : s.vm.findClass RX11 = some m.cls := findClass_of_methodNamed B.named
  have hlocks := B.notSynchronized
  subst hsz
  have hD := hD0.self (sz := s.heap.size)
  obtain ⟨A, hAe⟩ : ∃ A, A = va_A [(h0, .inr (11, [.ref te, .ref ta, .ref re, .ref no, .ref pa, .ref ac, .ref op, .ref im, .ref ik, .ref hi, .ref rf, .int (-1)])), (ik, .inl (cz, 2, .inl (fun _ => 0))), (rf, .inr (4, [.ref rc, .int 0])), (rc, .inl (ci2, 5, .inl (fun _ => 0)))] s.heap.size := ⟨_, rfl⟩
  rw [← hAe] at hD ⊢
  have hA : ∀ q : Nat, s.heap.size ≤ q → A q := fun q h => by rw [hAe]; exact Or.inr h
  have hS : va_S A s.heap s.heap [] := va_S.rf
  have hP : va_P (dC, dI) vwCl [(h0, .inr (11, [.ref te, .ref ta, .ref re, .ref no, .ref pa, .ref ac, .ref op, .ref im, .ref ik, .ref hi, .ref rf, .int (-1)])), (ik, .inl (cz, 2, .inl (fun _ => 0))), (rf, .inr (4, [.ref rc, .int 0])), (rc, .inl (ci2, 5, .inl (fun _ => 0)))] s.heap := hP
  have hl := lv_entry ([.ref h0, .int kk]) (n := 2) (Nat.le_of_ble_eq_true rfl)
  rw [lg_entry_eq]
  generalize (lg_sl ([.ref h0, .int kk]) ++ List.replicate (2 - (lg_sl ([.ref h0, .int kk])).length) Slot.unset).toArray = ls at hl ⊢
  have hl : lv_has ls 2 [(0, .ref h0), (1, .int kk)] := hl
  by_cases h_1 : kk = 0
  · subst h_1
    refine lv_iload_n hx hb dX11_back_0 rfl (lv_at hl 1 rfl) ?_
    have hPc := hP.sub (ws' := []) [] rfl
    have hDc := hD.sub (ws' := []) [] (by decide) rfl
    have hKc := hK.sub (tys' := []) [] rfl
    have hFc := va_free (wc := []) hD hS hA [] rfl
    refine va_calli (va_runS (As := [.int 0]) (rest := []) ⟨hx, hb, hml, hown, hts⟩ (c_X11_isImage l dC dI 0 s.heap.size) (va_cwS 1 hts (gi_S (fun w_ h0_ => ⟨List.mem_cons_of_mem _ (List.mem_append_right _ (List.mem_append_left _ h0_)), (tb_c_X11_isImage w_ h0_).2⟩) (List.mem_cons_of_mem _ (List.mem_append_left _ (List.mem_of_getElem? (i := 0) rfl))) (List.mem_cons_of_mem _ (List.mem_append_left _ (List.mem_of_getElem? (i := 1) rfl))) (List.mem_cons_of_mem _ (List.mem_append_left _ (List.mem_of_getElem? (i := 2) rfl)))) rfl rfl rfl (by decide +kernel) ⟨Nat.le_of_ble_eq_true rfl, Nat.le_of_ble_eq_true rfl⟩) ⟨fun a U g mk q => by obtain ⟨q0, q1, qP, qK, qD⟩ := q; exact ⟨q0, q1, qP, va_K.moved (u := U) (U := U.calling g mk a) (Vm.Alike.refl U.vm) qK, qD⟩, fun U hU hW => ⟨rfl, by rw [hU], by rw [hU]; exact hPc, va_K.moved hW.alike hKc, hDc.weaken (fun _ _ _ _ => trivial)⟩⟩ rfl rfl hl.1 rfl (lv_room (Nat.le_of_ble_eq_true rfl)) dX11_back_1 ⟨Nat.le_of_ble_eq_true rfl, Nat.le_of_ble_eq_true rfl⟩) hS (fun q _ h => hFc q h) hFc (fun r_2 u t H1 locs ht hvm hw hB hz1 hk1 hS => ?_)
    obtain ⟨hP1, hK1, hD1⟩ := hB
    rw [ht] at hP1
    have hK1 := va_K.moved hvm.symm hK1
    obtain ⟨hP, hD⟩ := va_join (wr := [(h0, .inr (11, [.ref te, .ref ta, .ref re, .ref no, .ref pa, .ref ac, .ref op, .ref im, .ref ik, .ref hi, .ref rf, .int (-1)])), (ik, .inl (cz, 2, .inl (fun _ => 0))), (rf, .inr (4, [.ref rc, .int 0])), (rc, .inl (ci2, 5, .inl (fun _ => 0)))]) (w1 := []) hP hD [] [0, 1, 2, 3] rfl rfl (by decide) (by decide) hk1 hFc hP1 hD1
    generalize H1 = H at hP hS ⊢
    have hP : va_P (dC, dI) vwCl [(h0, .inr (11, [.ref te, .ref ta, .ref re, .ref no, .ref pa, .ref ac, .ref op, .ref im, .ref ik, .ref hi, .ref rf, .int (-1)])), (ik, .inl (cz, 2, .inl (fun _ => 0))), (rf, .inr (4, [.ref rc, .int 0])), (rc, .inl (ci2, 5, .inl (fun _ => 0)))] H := hP
    have hD : va_D A [(h0, .inr (11, [.ref te, .ref ta, .ref re, .ref no, .ref pa, .ref ac, .ref op, .ref im, .ref ik, .ref hi, .ref rf, .int (-1)])), (ik, .inl (cz, 2, .inl (fun _ => 0))), (rf, .inr (4, [.ref rc, .int 0])), (rc, .inl (ci2, 5, .inl (fun _ => 0)))] := hD
    refine W.widen (k := 0) (n := 0) (Nat.le_of_ble_eq_true rfl) (Nat.le_of_ble_eq_true rfl) ?_
    have hw : r_2 = sp_r 0 0 1 := hw
    subst hw
    refine k_topi (y := 1) (by decide) ?_
    refine lv_if_ne (tgt := 16) hx hb dX11_back_4 (by decide) (fun _ => ?_) (fun c => absurd c (by decide))
    refine lv_aload_n hx hb dX11_back_16 rfl (lv_at hl 0 rfl) ?_
    refine va_get (D := (dC, dI)) (ci := 11) (v := .ref ik) (C := RX11) (T := TX11) (N := 12) hx hb hts (fun _ h0_ => List.mem_cons_of_mem _ (List.mem_append_right _ (List.mem_append_right _ (List.mem_append_left _ h0_)))) hown hK hP 0 rfl rfl 8 (by decide) (hts (.fieldLink RX11 58 "DeadlineShare" "imageKept" "[Z") (List.mem_cons_of_mem _ (List.mem_append_left _ (List.mem_of_getElem? (i := 3) rfl)))) (fun _ h9 => h9) rfl dX11_back_17 ?_
    refine lv_iload_n hx hb dX11_back_20 rfl (lv_at hl 1 rfl) ?_
    refine va_zald hx hb hK hP 1 0 rfl rfl (by unfold vp_in; decide) dX11_back_21 ?_
    refine k_topi (y := 0) rfl ?_
    refine lv_if_ne (tgt := 35) hx hb dX11_back_22 (by decide) (fun c => absurd c (by decide)) (fun _ => ?_)
    refine lv_aload_n hx hb dX11_back_25 rfl (lv_at hl 0 rfl) ?_
    refine va_get (D := (dC, dI)) (ci := 11) (v := .ref rf) (C := RX11) (T := TX11) (N := 12) hx hb hts (fun _ h0_ => List.mem_cons_of_mem _ (List.mem_append_right _ (List.mem_append_right _ (List.mem_append_left _ h0_)))) hown hK hP 0 rfl rfl 10 (by decide) (hts (.fieldLink RX11 72 "DeadlineShare" "refusals" "LDeadlineShare$Refusals;") (List.mem_cons_of_mem _ (List.mem_append_left _ (List.mem_of_getElem? (i := 4) rfl)))) (fun _ h9 => h9) rfl dX11_back_26 ?_
    refine lv_bipush (v := (-4)) hx hb dX11_back_29 (by decide) ?_
    have hPc := hP.sub (ws' := [(rf, .inr (4, [.ref rc, .int 0])), (rc, .inl (ci2, 5, .inl (fun _ => 0)))]) [2, 3] rfl
    have hDc := hD.sub (ws' := [(rf, .inr (4, [.ref rc, .int 0])), (rc, .inl (ci2, 5, .inl (fun _ => 0)))]) [2, 3] (by decide) rfl
    have hKc := hK.sub (tys' := [(ci2, .int)]) [1] rfl
    have hFc := va_free (wc := [(rf, .inr (4, [.ref rc, .int 0])), (rc, .inl (ci2, 5, .inl (fun _ => 0)))]) hD hS hA [2, 3] rfl
    refine va_calli (va_runV (As := [.int (-4)]) (rest := []) ⟨hx, hb, hml, hown, hts⟩ (c_X4_add_4 l dC dI rf rc ci2 H.size) (cwV 1 hts (gi_V (fun w_ h0_ => ⟨List.mem_cons_of_mem _ (List.mem_append_right _ (List.mem_append_right _ (List.mem_append_right _ (List.mem_append_left _ h0_)))), (tb_c_X4_add_4 w_ h0_).2⟩) (List.mem_cons_of_mem _ (List.mem_append_left _ (List.mem_of_getElem? (i := 5) rfl))) (List.mem_cons_of_mem _ (List.mem_append_left _ (List.mem_of_getElem? (i := 6) rfl))) (List.mem_cons_of_mem _ (List.mem_append_left _ (List.mem_of_getElem? (i := 7) rfl))) (List.mem_cons_of_mem _ (List.mem_append_left _ (List.mem_of_getElem? (i := 8) rfl)))) rfl rfl rfl (by decide +kernel) ⟨Nat.le_of_ble_eq_true rfl, Nat.le_of_ble_eq_true rfl⟩) ⟨fun a U g mk q => by obtain ⟨q0, q1, qP, qK, qD⟩ := q; exact ⟨q0, q1, qP, va_K.moved (u := U) (U := U.calling g mk a) (Vm.Alike.refl U.vm) qK, qD⟩, va_recv hKc hPc (ci := 4) (q0 := 0) rfl rfl, fun U hU hW => ⟨rfl, by rw [hU], by rw [hU]; exact hPc, va_K.moved hW.alike hKc, hDc.weaken (fun _ _ _ _ => trivial)⟩⟩ rfl rfl hl.1 rfl (lv_room (Nat.le_of_ble_eq_true rfl)) dX11_back_31 ⟨Nat.le_of_ble_eq_true rfl, Nat.le_of_ble_eq_true rfl⟩) hS (fun q _ h => hFc q h) hFc (fun r_3 u t H1 locs ht hvm hw hB hz1 hk1 hS => ?_)
    obtain ⟨hP1, hK1, hD1⟩ := hB
    rw [ht] at hP1
    have hK1 := va_K.moved hvm.symm hK1
    obtain ⟨hP, hD⟩ := va_join (wr := [(h0, .inr (11, [.ref te, .ref ta, .ref re, .ref no, .ref pa, .ref ac, .ref op, .ref im, .ref ik, .ref hi, .ref rf, .int (-1)])), (ik, .inl (cz, 2, .inl (fun _ => 0)))]) (w1 := []) hP hD [2, 3] [0, 1] rfl rfl (by decide) (by decide) hk1 hFc hP1 hD1
    generalize H1 = H at hP hS ⊢
    have hP : va_P (dC, dI) vwCl [(h0, .inr (11, [.ref te, .ref ta, .ref re, .ref no, .ref pa, .ref ac, .ref op, .ref im, .ref ik, .ref hi, .ref rf, .int (-1)])), (ik, .inl (cz, 2, .inl (fun _ => 0)))] H := hP
    have hD : va_D A [(h0, .inr (11, [.ref te, .ref ta, .ref re, .ref no, .ref pa, .ref ac, .ref op, .ref im, .ref ik, .ref hi, .ref rf, .int (-1)])), (ik, .inl (cz, 2, .inl (fun _ => 0)))] := hD
    refine W.widen (k := 0) (n := 0) (Nat.le_of_ble_eq_true rfl) (Nat.le_of_ble_eq_true rfl) ?_
    have hw : r_3 = (-4) := hw
    subst hw
    have hP9 := hP.sub (ws' := []) [] rfl
    have hD9 := hD.sub (ws' := []) [] (by decide) rfl
    have hK9 := hK.sub (tys' := []) [] rfl
    refine W.widen (k := 0) (n := 0) (Nat.le_of_ble_eq_true rfl) (Nat.le_of_ble_eq_true rfl) ?_
    exact W.iret (v := (-4)) hx hb hr (fun t ht hW => ⟨⟨(-4), (), rfl, (by decide), by rw [ht]; exact hP9, va_K.moved hW.alike hK9, hD9⟩, hS.F ht⟩) hS.2.2 dX11_back_34
  by_cases h_4 : kk = 1
  · subst h_4
    refine lv_iload_n hx hb dX11_back_0 rfl (lv_at hl 1 rfl) ?_
    have hPc := hP.sub (ws' := []) [] rfl
    have hDc := hD.sub (ws' := []) [] (by decide) rfl
    have hKc := hK.sub (tys' := []) [] rfl
    have hFc := va_free (wc := []) hD hS hA [] rfl
    refine va_calli (va_runS (As := [.int 1]) (rest := []) ⟨hx, hb, hml, hown, hts⟩ (c_X11_isImage l dC dI 1 s.heap.size) (va_cwS 1 hts (gi_S (fun w_ h0_ => ⟨List.mem_cons_of_mem _ (List.mem_append_right _ (List.mem_append_left _ h0_)), (tb_c_X11_isImage w_ h0_).2⟩) (List.mem_cons_of_mem _ (List.mem_append_left _ (List.mem_of_getElem? (i := 0) rfl))) (List.mem_cons_of_mem _ (List.mem_append_left _ (List.mem_of_getElem? (i := 1) rfl))) (List.mem_cons_of_mem _ (List.mem_append_left _ (List.mem_of_getElem? (i := 2) rfl)))) rfl rfl rfl (by decide +kernel) ⟨Nat.le_of_ble_eq_true rfl, Nat.le_of_ble_eq_true rfl⟩) ⟨fun a U g mk q => by obtain ⟨q0, q1, qP, qK, qD⟩ := q; exact ⟨q0, q1, qP, va_K.moved (u := U) (U := U.calling g mk a) (Vm.Alike.refl U.vm) qK, qD⟩, fun U hU hW => ⟨rfl, by rw [hU], by rw [hU]; exact hPc, va_K.moved hW.alike hKc, hDc.weaken (fun _ _ _ _ => trivial)⟩⟩ rfl rfl hl.1 rfl (lv_room (Nat.le_of_ble_eq_true rfl)) dX11_back_1 ⟨Nat.le_of_ble_eq_true rfl, Nat.le_of_ble_eq_true rfl⟩) hS (fun q _ h => hFc q h) hFc (fun r_5 u t H1 locs ht hvm hw hB hz1 hk1 hS => ?_)
    obtain ⟨hP1, hK1, hD1⟩ := hB
    rw [ht] at hP1
    have hK1 := va_K.moved hvm.symm hK1
    obtain ⟨hP, hD⟩ := va_join (wr := [(h0, .inr (11, [.ref te, .ref ta, .ref re, .ref no, .ref pa, .ref ac, .ref op, .ref im, .ref ik, .ref hi, .ref rf, .int (-1)])), (ik, .inl (cz, 2, .inl (fun _ => 0))), (rf, .inr (4, [.ref rc, .int 0])), (rc, .inl (ci2, 5, .inl (fun _ => 0)))]) (w1 := []) hP hD [] [0, 1, 2, 3] rfl rfl (by decide) (by decide) hk1 hFc hP1 hD1
    generalize H1 = H at hP hS ⊢
    have hP : va_P (dC, dI) vwCl [(h0, .inr (11, [.ref te, .ref ta, .ref re, .ref no, .ref pa, .ref ac, .ref op, .ref im, .ref ik, .ref hi, .ref rf, .int (-1)])), (ik, .inl (cz, 2, .inl (fun _ => 0))), (rf, .inr (4, [.ref rc, .int 0])), (rc, .inl (ci2, 5, .inl (fun _ => 0)))] H := hP
    have hD : va_D A [(h0, .inr (11, [.ref te, .ref ta, .ref re, .ref no, .ref pa, .ref ac, .ref op, .ref im, .ref ik, .ref hi, .ref rf, .int (-1)])), (ik, .inl (cz, 2, .inl (fun _ => 0))), (rf, .inr (4, [.ref rc, .int 0])), (rc, .inl (ci2, 5, .inl (fun _ => 0)))] := hD
    refine W.widen (k := 0) (n := 0) (Nat.le_of_ble_eq_true rfl) (Nat.le_of_ble_eq_true rfl) ?_
    have hw : r_5 = sp_r 1 0 1 := hw
    subst hw
    refine k_topi (y := 1) (by decide) ?_
    refine lv_if_ne (tgt := 16) hx hb dX11_back_4 (by decide) (fun _ => ?_) (fun c => absurd c (by decide))
    refine lv_aload_n hx hb dX11_back_16 rfl (lv_at hl 0 rfl) ?_
    refine va_get (D := (dC, dI)) (ci := 11) (v := .ref ik) (C := RX11) (T := TX11) (N := 12) hx hb hts (fun _ h0_ => List.mem_cons_of_mem _ (List.mem_append_right _ (List.mem_append_right _ (List.mem_append_left _ h0_)))) hown hK hP 0 rfl rfl 8 (by decide) (hts (.fieldLink RX11 58 "DeadlineShare" "imageKept" "[Z") (List.mem_cons_of_mem _ (List.mem_append_left _ (List.mem_of_getElem? (i := 3) rfl)))) (fun _ h9 => h9) rfl dX11_back_17 ?_
    refine lv_iload_n hx hb dX11_back_20 rfl (lv_at hl 1 rfl) ?_
    refine va_zald hx hb hK hP 1 0 rfl rfl (by unfold vp_in; decide) dX11_back_21 ?_
    refine k_topi (y := 0) rfl ?_
    refine lv_if_ne (tgt := 35) hx hb dX11_back_22 (by decide) (fun c => absurd c (by decide)) (fun _ => ?_)
    refine lv_aload_n hx hb dX11_back_25 rfl (lv_at hl 0 rfl) ?_
    refine va_get (D := (dC, dI)) (ci := 11) (v := .ref rf) (C := RX11) (T := TX11) (N := 12) hx hb hts (fun _ h0_ => List.mem_cons_of_mem _ (List.mem_append_right _ (List.mem_append_right _ (List.mem_append_left _ h0_)))) hown hK hP 0 rfl rfl 10 (by decide) (hts (.fieldLink RX11 72 "DeadlineShare" "refusals" "LDeadlineShare$Refusals;") (List.mem_cons_of_mem _ (List.mem_append_left _ (List.mem_of_getElem? (i := 4) rfl)))) (fun _ h9 => h9) rfl dX11_back_26 ?_
    refine lv_bipush (v := (-4)) hx hb dX11_back_29 (by decide) ?_
    have hPc := hP.sub (ws' := [(rf, .inr (4, [.ref rc, .int 0])), (rc, .inl (ci2, 5, .inl (fun _ => 0)))]) [2, 3] rfl
    have hDc := hD.sub (ws' := [(rf, .inr (4, [.ref rc, .int 0])), (rc, .inl (ci2, 5, .inl (fun _ => 0)))]) [2, 3] (by decide) rfl
    have hKc := hK.sub (tys' := [(ci2, .int)]) [1] rfl
    have hFc := va_free (wc := [(rf, .inr (4, [.ref rc, .int 0])), (rc, .inl (ci2, 5, .inl (fun _ => 0)))]) hD hS hA [2, 3] rfl
    refine va_calli (va_runV (As := [.int (-4)]) (rest := []) ⟨hx, hb, hml, hown, hts⟩ (c_X4_add_4 l dC dI rf rc ci2 H.size) (cwV 1 hts (gi_V (fun w_ h0_ => ⟨List.mem_cons_of_mem _ (List.mem_append_right _ (List.mem_append_right _ (List.mem_append_right _ (List.mem_append_left _ h0_)))), (tb_c_X4_add_4 w_ h0_).2⟩) (List.mem_cons_of_mem _ (List.mem_append_left _ (List.mem_of_getElem? (i := 5) rfl))) (List.mem_cons_of_mem _ (List.mem_append_left _ (List.mem_of_getElem? (i := 6) rfl))) (List.mem_cons_of_mem _ (List.mem_append_left _ (List.mem_of_getElem? (i := 7) rfl))) (List.mem_cons_of_mem _ (List.mem_append_left _ (List.mem_of_getElem? (i := 8) rfl)))) rfl rfl rfl (by decide +kernel) ⟨Nat.le_of_ble_eq_true rfl, Nat.le_of_ble_eq_true rfl⟩) ⟨fun a U g mk q => by obtain ⟨q0, q1, qP, qK, qD⟩ := q; exact ⟨q0, q1, qP, va_K.moved (u := U) (U := U.calling g mk a) (Vm.Alike.refl U.vm) qK, qD⟩, va_recv hKc hPc (ci := 4) (q0 := 0) rfl rfl, fun U hU hW => ⟨rfl, by rw [hU], by rw [hU]; exact hPc, va_K.moved hW.alike hKc, hDc.weaken (fun _ _ _ _ => trivial)⟩⟩ rfl rfl hl.1 rfl (lv_room (Nat.le_of_ble_eq_true rfl)) dX11_back_31 ⟨Nat.le_of_ble_eq_true rfl, Nat.le_of_ble_eq_true rfl⟩) hS (fun q _ h => hFc q h) hFc (fun r_6 u t H1 locs ht hvm hw hB hz1 hk1 hS => ?_)
    obtain ⟨hP1, hK1, hD1⟩ := hB
    rw [ht] at hP1
    have hK1 := va_K.moved hvm.symm hK1
    obtain ⟨hP, hD⟩ := va_join (wr := [(h0, .inr (11, [.ref te, .ref ta, .ref re, .ref no, .ref pa, .ref ac, .ref op, .ref im, .ref ik, .ref hi, .ref rf, .int (-1)])), (ik, .inl (cz, 2, .inl (fun _ => 0)))]) (w1 := []) hP hD [2, 3] [0, 1] rfl rfl (by decide) (by decide) hk1 hFc hP1 hD1
    generalize H1 = H at hP hS ⊢
    have hP : va_P (dC, dI) vwCl [(h0, .inr (11, [.ref te, .ref ta, .ref re, .ref no, .ref pa, .ref ac, .ref op, .ref im, .ref ik, .ref hi, .ref rf, .int (-1)])), (ik, .inl (cz, 2, .inl (fun _ => 0)))] H := hP
    have hD : va_D A [(h0, .inr (11, [.ref te, .ref ta, .ref re, .ref no, .ref pa, .ref ac, .ref op, .ref im, .ref ik, .ref hi, .ref rf, .int (-1)])), (ik, .inl (cz, 2, .inl (fun _ => 0)))] := hD
    refine W.widen (k := 0) (n := 0) (Nat.le_of_ble_eq_true rfl) (Nat.le_of_ble_eq_true rfl) ?_
    have hw : r_6 = (-4) := hw
    subst hw
    have hP9 := hP.sub (ws' := []) [] rfl
    have hD9 := hD.sub (ws' := []) [] (by decide) rfl
    have hK9 := hK.sub (tys' := []) [] rfl
    refine W.widen (k := 0) (n := 0) (Nat.le_of_ble_eq_true rfl) (Nat.le_of_ble_eq_true rfl) ?_
    exact W.iret (v := (-4)) hx hb hr (fun t ht hW => ⟨⟨(-4), (), rfl, (by decide), by rw [ht]; exact hP9, va_K.moved hW.alike hK9, hD9⟩, hS.F ht⟩) hS.2.2 dX11_back_34
  refine lv_iload_n hx hb dX11_back_0 rfl (lv_at hl 1 rfl) ?_
  have hPc := hP.sub (ws' := []) [] rfl
  have hDc := hD.sub (ws' := []) [] (by decide) rfl
  have hKc := hK.sub (tys' := []) [] rfl
  have hFc := va_free (wc := []) hD hS hA [] rfl
  refine va_calli (va_runS (As := [.int kk]) (rest := []) ⟨hx, hb, hml, hown, hts⟩ (c_X11_isImage l dC dI kk s.heap.size) (va_cwS 1 hts (gi_S (fun w_ h0_ => ⟨List.mem_cons_of_mem _ (List.mem_append_right _ (List.mem_append_left _ h0_)), (tb_c_X11_isImage w_ h0_).2⟩) (List.mem_cons_of_mem _ (List.mem_append_left _ (List.mem_of_getElem? (i := 0) rfl))) (List.mem_cons_of_mem _ (List.mem_append_left _ (List.mem_of_getElem? (i := 1) rfl))) (List.mem_cons_of_mem _ (List.mem_append_left _ (List.mem_of_getElem? (i := 2) rfl)))) rfl rfl rfl (by decide +kernel) ⟨Nat.le_of_ble_eq_true rfl, Nat.le_of_ble_eq_true rfl⟩) ⟨fun a U g mk q => by obtain ⟨q0, q1, qP, qK, qD⟩ := q; exact ⟨q0, q1, qP, va_K.moved (u := U) (U := U.calling g mk a) (Vm.Alike.refl U.vm) qK, qD⟩, fun U hU hW => ⟨rfl, by rw [hU], by rw [hU]; exact hPc, va_K.moved hW.alike hKc, hDc.weaken (fun _ _ _ _ => trivial)⟩⟩ rfl rfl hl.1 rfl (lv_room (Nat.le_of_ble_eq_true rfl)) dX11_back_1 ⟨Nat.le_of_ble_eq_true rfl, Nat.le_of_ble_eq_true rfl⟩) hS (fun q _ h => hFc q h) hFc (fun r_7 u t H1 locs ht hvm hw hB hz1 hk1 hS => ?_)
  obtain ⟨hP1, hK1, hD1⟩ := hB
  rw [ht] at hP1
  have hK1 := va_K.moved hvm.symm hK1
  obtain ⟨hP, hD⟩ := va_join (wr := [(h0, .inr (11, [.ref te, .ref ta, .ref re, .ref no, .ref pa, .ref ac, .ref op, .ref im, .ref ik, .ref hi, .ref rf, .int (-1)])), (ik, .inl (cz, 2, .inl (fun _ => 0))), (rf, .inr (4, [.ref rc, .int 0])), (rc, .inl (ci2, 5, .inl (fun _ => 0)))]) (w1 := []) hP hD [] [0, 1, 2, 3] rfl rfl (by decide) (by decide) hk1 hFc hP1 hD1
  generalize H1 = H at hP hS ⊢
  have hP : va_P (dC, dI) vwCl [(h0, .inr (11, [.ref te, .ref ta, .ref re, .ref no, .ref pa, .ref ac, .ref op, .ref im, .ref ik, .ref hi, .ref rf, .int (-1)])), (ik, .inl (cz, 2, .inl (fun _ => 0))), (rf, .inr (4, [.ref rc, .int 0])), (rc, .inl (ci2, 5, .inl (fun _ => 0)))] H := hP
  have hD : va_D A [(h0, .inr (11, [.ref te, .ref ta, .ref re, .ref no, .ref pa, .ref ac, .ref op, .ref im, .ref ik, .ref hi, .ref rf, .int (-1)])), (ik, .inl (cz, 2, .inl (fun _ => 0))), (rf, .inr (4, [.ref rc, .int 0])), (rc, .inl (ci2, 5, .inl (fun _ => 0)))] := hD
  refine W.widen (k := 0) (n := 0) (Nat.le_of_ble_eq_true rfl) (Nat.le_of_ble_eq_true rfl) ?_
  have hw : r_7 = sp_r kk 0 1 := hw
  subst hw
  refine lv_if_ne (tgt := 16) hx hb dX11_back_4 (by decide) (fun c => absurd c (Classical.not_not.mpr ((sp_r0 _ _ _).mpr (by have nh_1 := lv_neT (a := 0) h_1 (by decide); have nh_4 := lv_neT (a := 1) h_4 (by decide); skip; omega)))) (fun _ => ?_)
  refine lv_aload_n hx hb dX11_back_7 rfl (lv_at hl 0 rfl) ?_
  refine va_get (D := (dC, dI)) (ci := 11) (v := .ref rf) (C := RX11) (T := TX11) (N := 12) hx hb hts (fun _ h0_ => List.mem_cons_of_mem _ (List.mem_append_right _ (List.mem_append_right _ (List.mem_append_left _ h0_)))) hown hK hP 0 rfl rfl 10 (by decide) (hts (.fieldLink RX11 72 "DeadlineShare" "refusals" "LDeadlineShare$Refusals;") (List.mem_cons_of_mem _ (List.mem_append_left _ (List.mem_of_getElem? (i := 4) rfl)))) (fun _ h9 => h9) rfl dX11_back_8 ?_
  refine lv_iconst (v := (-1)) hx hb dX11_back_11 (by decide) ?_
  have hPc := hP.sub (ws' := [(rf, .inr (4, [.ref rc, .int 0])), (rc, .inl (ci2, 5, .inl (fun _ => 0)))]) [2, 3] rfl
  have hDc := hD.sub (ws' := [(rf, .inr (4, [.ref rc, .int 0])), (rc, .inl (ci2, 5, .inl (fun _ => 0)))]) [2, 3] (by decide) rfl
  have hKc := hK.sub (tys' := [(ci2, .int)]) [1] rfl
  have hFc := va_free (wc := [(rf, .inr (4, [.ref rc, .int 0])), (rc, .inl (ci2, 5, .inl (fun _ => 0)))]) hD hS hA [2, 3] rfl
  refine va_calli (va_runV (As := [.int (-1)]) (rest := []) ⟨hx, hb, hml, hown, hts⟩ (c_X4_add_1 l dC dI rf rc ci2 H.size) (cwV 1 hts (gi_V (fun w_ h0_ => ⟨List.mem_cons_of_mem _ (List.mem_append_right _ (List.mem_append_right _ (List.mem_append_right _ (List.mem_append_right _ (List.mem_append_left _ h0_))))), (tb_c_X4_add_1 w_ h0_).2⟩) (List.mem_cons_of_mem _ (List.mem_append_left _ (List.mem_of_getElem? (i := 5) rfl))) (List.mem_cons_of_mem _ (List.mem_append_left _ (List.mem_of_getElem? (i := 6) rfl))) (List.mem_cons_of_mem _ (List.mem_append_left _ (List.mem_of_getElem? (i := 7) rfl))) (List.mem_cons_of_mem _ (List.mem_append_left _ (List.mem_of_getElem? (i := 8) rfl)))) rfl rfl rfl (by decide +kernel) ⟨Nat.le_of_ble_eq_true rfl, Nat.le_of_ble_eq_true rfl⟩) ⟨fun a U g mk q => by obtain ⟨q0, q1, qP, qK, qD⟩ := q; exact ⟨q0, q1, qP, va_K.moved (u := U) (U := U.calling g mk a) (Vm.Alike.refl U.vm) qK, qD⟩, va_recv hKc hPc (ci := 4) (q0 := 0) rfl rfl, fun U hU hW => ⟨rfl, by rw [hU], by rw [hU]; exact hPc, va_K.moved hW.alike hKc, hDc.weaken (fun _ _ _ _ => trivial)⟩⟩ rfl rfl hl.1 rfl (lv_room (Nat.le_of_ble_eq_true rfl)) dX11_back_12 ⟨Nat.le_of_ble_eq_true rfl, Nat.le_of_ble_eq_true rfl⟩) hS (fun q _ h => hFc q h) hFc (fun r_8 u t H1 locs ht hvm hw hB hz1 hk1 hS => ?_)
  obtain ⟨hP1, hK1, hD1⟩ := hB
  rw [ht] at hP1
  have hK1 := va_K.moved hvm.symm hK1
  obtain ⟨hP, hD⟩ := va_join (wr := [(h0, .inr (11, [.ref te, .ref ta, .ref re, .ref no, .ref pa, .ref ac, .ref op, .ref im, .ref ik, .ref hi, .ref rf, .int (-1)])), (ik, .inl (cz, 2, .inl (fun _ => 0)))]) (w1 := []) hP hD [2, 3] [0, 1] rfl rfl (by decide) (by decide) hk1 hFc hP1 hD1
  generalize H1 = H at hP hS ⊢
  have hP : va_P (dC, dI) vwCl [(h0, .inr (11, [.ref te, .ref ta, .ref re, .ref no, .ref pa, .ref ac, .ref op, .ref im, .ref ik, .ref hi, .ref rf, .int (-1)])), (ik, .inl (cz, 2, .inl (fun _ => 0)))] H := hP
  have hD : va_D A [(h0, .inr (11, [.ref te, .ref ta, .ref re, .ref no, .ref pa, .ref ac, .ref op, .ref im, .ref ik, .ref hi, .ref rf, .int (-1)])), (ik, .inl (cz, 2, .inl (fun _ => 0)))] := hD
  refine W.widen (k := 0) (n := 0) (Nat.le_of_ble_eq_true rfl) (Nat.le_of_ble_eq_true rfl) ?_
  have hw : r_8 = (-1) := hw
  subst hw
  have hP9 := hP.sub (ws' := []) [] rfl
  have hD9 := hD.sub (ws' := []) [] (by decide) rfl
  have hK9 := hK.sub (tys' := []) [] rfl
  refine W.widen (k := 0) (n := 0) (Nat.le_of_ble_eq_true rfl) (Nat.le_of_ble_eq_true rfl) ?_
  exact W.iret (v := (-1)) hx hb hr (fun t ht hW => ⟨⟨(-1), (), rfl, (by have nh_1 := lv_neT (a := 0) h_1 (by decide); have nh_4 := lv_neT (a := 1) h_4 (by decide); unfold sp_one; (repeat' split) <;> first | rfl | omega | (refine Int32.toInt_inj.mp ?_; omega)), by rw [ht]; exact hP9, va_K.moved hW.alike hK9, hD9⟩, hS.F ht⟩) hS.2.2 dX11_back_15
def ow_c_X11_of : List Cond := [.fieldLink RX11 37 "DeadlineShare" "now" "LDeadlineShare$State;", .methodLink RX11 130 yX6_has, .instanceMethod yX6_has, .selects RX6 yX6_has yX6_has, .initialized RX6]
def wq_c_X11_of : List Cond := .code yX11_of cX11_of 3 (some .int) :: (ow_c_X11_of ++ (u_ws RX11 TX11 12 ++ (wq_c_X6_has ++ ([] : List Cond))))
theorem tb_c_X11_of : ∀ w ∈ wq_c_X11_of, q_g w := by
  unfold wq_c_X11_of ow_c_X11_of
  exact q_cons tw_346 (q_app (q_cons tw_101 (q_cons tw_328 (q_cons tw_205 (q_cons tw_204 (q_cons tw_72 q_nil))))) (q_app tu_X11 (q_app tb_c_X6_has q_nil)))
set_option maxHeartbeats 4000000 in
set_option maxRecDepth 100000 in
theorem c_X11_of (l : Launch) (dC : Nat → ClassId) (dI : Nat → Nat → Nat) (h0 : Nat) (tk : Int32) (wh : Int32) (te : Nat) (ta : Nat) (re : Nat) (no : Nat) (pa : Nat) (ac : Nat) (op : Nat) (im : Nat) (ik : Nat) (hi : Nat) (rf : Nat) (nt : Nat) (nl : Nat) (ns : Nat) (np : Nat) (sz : Nat) : Met l yX11_of wq_c_X11_of ({ frames := 1, cells := 0, slots := 0, locals := 21 } : Room) (va_Pc [.ref h0, .int tk, .int wh] (fun U => U.heap.size = sz ∧ va_P (dC, dI) vwCl [(h0, .inr (11, [.ref te, .ref ta, .ref re, .ref no, .ref pa, .ref ac, .ref op, .ref im, .ref ik, .ref hi, .ref rf, .int (-1)])), (no, .inr (6, [.ref te, .ref nt, .ref nl, .ref ns, .ref np, .int 0, .int 0, .long 0, .int (-1), .int (-1)]))] U.heap ∧ va_K (dC, dI) vwCl [] U ∧ va_D (fun _ => True) [(h0, .inr (11, [.ref te, .ref ta, .ref re, .ref no, .ref pa, .ref ac, .ref op, .ref im, .ref ik, .ref hi, .ref rf, .int (-1)])), (no, .inr (6, [.ref te, .ref nt, .ref nl, .ref ns, .ref np, .int 0, .int 0, .long 0, .int (-1), .int (-1)]))])) (va_Qi (fun (r : Int32) (_ : Unit) => r = (-1)) (fun (_ : Unit) t => va_P (dC, dI) vwCl [] t.heap ∧ va_K (dC, dI) vwCl [] t ∧ va_D (va_A [(h0, .inr (11, [.ref te, .ref ta, .ref re, .ref no, .ref pa, .ref ac, .ref op, .ref im, .ref ik, .ref hi, .ref rf, .int (-1)])), (no, .inr (6, [.ref te, .ref nt, .ref nl, .ref ns, .ref np, .int 0, .int 0, .long 0, .int (-1), .int (-1)]))] sz) []) (va_A [(h0, .inr (11, [.ref te, .ref ta, .ref re, .ref no, .ref pa, .ref ac, .ref op, .ref im, .ref ik, .ref hi, .ref rf, .int (-1)])), (no, .inr (6, [.ref te, .ref nt, .ref nl, .ref ns, .ref np, .int 0, .int 0, .long 0, .int (-1), .int (-1)]))] sz)) 0 0 (va_A [(h0, .inr (11, [.ref te, .ref ta, .ref re, .ref no, .ref pa, .ref ac, .ref op, .ref im, .ref ik, .ref hi, .ref rf, .int (-1)])), (no, .inr (6, [.ref te, .ref nt, .ref nl, .ref ns, .ref np, .int 0, .int 0, .long 0, .int (-1), .int (-1)]))] sz) := by
  refine Met.ofW (cc := cX11_of) (maxL := 3) (ret := (some .int)) (by decide) rfl ?_
  intro p e s m args below meth c s₁ B hml hv
  obtain ⟨rfl, hsz, hP, hK, hD0⟩ := hv
  have hx := B.exec
  have hb := B.bytes
  have hr := B.returns
  have hts := atoms_spec (ws := wq_c_X11_of) B.pre
  have hown : s.vm.findClass RX11 = some m.cls := findClass_of_methodNamed B.named
  have hlocks := B.notSynchronized
  subst hsz
  have hD := hD0.self (sz := s.heap.size)
  obtain ⟨A, hAe⟩ : ∃ A, A = va_A [(h0, .inr (11, [.ref te, .ref ta, .ref re, .ref no, .ref pa, .ref ac, .ref op, .ref im, .ref ik, .ref hi, .ref rf, .int (-1)])), (no, .inr (6, [.ref te, .ref nt, .ref nl, .ref ns, .ref np, .int 0, .int 0, .long 0, .int (-1), .int (-1)]))] s.heap.size := ⟨_, rfl⟩
  rw [← hAe] at hD ⊢
  have hA : ∀ q : Nat, s.heap.size ≤ q → A q := fun q h => by rw [hAe]; exact Or.inr h
  have hS : va_S A s.heap s.heap [] := va_S.rf
  have hP : va_P (dC, dI) vwCl [(h0, .inr (11, [.ref te, .ref ta, .ref re, .ref no, .ref pa, .ref ac, .ref op, .ref im, .ref ik, .ref hi, .ref rf, .int (-1)])), (no, .inr (6, [.ref te, .ref nt, .ref nl, .ref ns, .ref np, .int 0, .int 0, .long 0, .int (-1), .int (-1)]))] s.heap := hP
  have hl := lv_entry ([.ref h0, .int tk, .int wh]) (n := 3) (Nat.le_of_ble_eq_true rfl)
  rw [lg_entry_eq]
  generalize (lg_sl ([.ref h0, .int tk, .int wh]) ++ List.replicate (3 - (lg_sl ([.ref h0, .int tk, .int wh])).length) Slot.unset).toArray = ls at hl ⊢
  have hl : lv_has ls 3 [(0, .ref h0), (1, .int tk), (2, .int wh)] := hl
  refine lv_aload_n hx hb dX11_of_0 rfl (lv_at hl 0 rfl) ?_
  refine va_get (D := (dC, dI)) (ci := 11) (v := .ref no) (C := RX11) (T := TX11) (N := 12) hx hb hts (fun _ h0_ => List.mem_cons_of_mem _ (List.mem_append_right _ (List.mem_append_left _ h0_))) hown hK hP 0 rfl rfl 3 (by decide) (hts (.fieldLink RX11 37 "DeadlineShare" "now" "LDeadlineShare$State;") (List.mem_cons_of_mem _ (List.mem_append_left _ (List.mem_of_getElem? (i := 0) rfl)))) (fun _ h9 => h9) rfl dX11_of_1 ?_
  refine lv_iload_n hx hb dX11_of_4 rfl (lv_at hl 1 rfl) ?_
  have hPc := hP.sub (ws' := [(no, .inr (6, [.ref te, .ref nt, .ref nl, .ref ns, .ref np, .int 0, .int 0, .long 0, .int (-1), .int (-1)]))]) [1] rfl
  have hDc := hD.sub (ws' := [(no, .inr (6, [.ref te, .ref nt, .ref nl, .ref ns, .ref np, .int 0, .int 0, .long 0, .int (-1), .int (-1)]))]) [1] (by decide) rfl
  have hKc := hK.sub (tys' := []) [] rfl
  have hFc := va_free (wc := [(no, .inr (6, [.ref te, .ref nt, .ref nl, .ref ns, .ref np, .int 0, .int 0, .long 0, .int (-1), .int (-1)]))]) hD hS hA [1] rfl
  refine va_calli (va_runV (As := [.int tk]) (rest := []) ⟨hx, hb, hml, hown, hts⟩ (c_X6_has l dC dI no tk te nt nl ns np 0 s.heap.size) (cwV 1 hts (gi_V (fun w_ h0_ => ⟨List.mem_cons_of_mem _ (List.mem_append_right _ (List.mem_append_right _ (List.mem_append_left _ h0_))), (tb_c_X6_has w_ h0_).2⟩) (List.mem_cons_of_mem _ (List.mem_append_left _ (List.mem_of_getElem? (i := 1) rfl))) (List.mem_cons_of_mem _ (List.mem_append_left _ (List.mem_of_getElem? (i := 2) rfl))) (List.mem_cons_of_mem _ (List.mem_append_left _ (List.mem_of_getElem? (i := 3) rfl))) (List.mem_cons_of_mem _ (List.mem_append_left _ (List.mem_of_getElem? (i := 4) rfl)))) rfl rfl rfl (by decide +kernel) ⟨Nat.le_of_ble_eq_true rfl, Nat.le_of_ble_eq_true rfl⟩) ⟨fun a U g mk q => by obtain ⟨q0, q1, qP, qK, qD⟩ := q; exact ⟨q0, q1, qP, va_K.moved (u := U) (U := U.calling g mk a) (Vm.Alike.refl U.vm) qK, qD⟩, va_recv hKc hPc (ci := 6) (q0 := 0) rfl rfl, fun U hU hW => ⟨rfl, by rw [hU], by rw [hU]; exact hPc, va_K.moved hW.alike hKc, hDc.weaken (fun _ _ _ _ => trivial)⟩⟩ rfl rfl hl.1 rfl (lv_room (Nat.le_of_ble_eq_true rfl)) dX11_of_5 ⟨Nat.le_of_ble_eq_true rfl, Nat.le_of_ble_eq_true rfl⟩) hS (fun q _ h => hFc q h) hFc (fun r_1 u t H1 locs ht hvm hw hB hz1 hk1 hS => ?_)
  obtain ⟨hP1, hK1, hD1⟩ := hB
  rw [ht] at hP1
  have hK1 := va_K.moved hvm.symm hK1
  obtain ⟨hP, hD⟩ := va_join (wr := [(h0, .inr (11, [.ref te, .ref ta, .ref re, .ref no, .ref pa, .ref ac, .ref op, .ref im, .ref ik, .ref hi, .ref rf, .int (-1)]))]) (w1 := [(no, .inr (6, [.ref te, .ref nt, .ref nl, .ref ns, .ref np, .int 0, .int 0, .long 0, .int (-1), .int (-1)]))]) hP hD [1] [0] rfl rfl (by decide) (by decide) hk1 hFc hP1 hD1
  generalize H1 = H at hP hS ⊢
  have hP : va_P (dC, dI) vwCl [(h0, .inr (11, [.ref te, .ref ta, .ref re, .ref no, .ref pa, .ref ac, .ref op, .ref im, .ref ik, .ref hi, .ref rf, .int (-1)])), (no, .inr (6, [.ref te, .ref nt, .ref nl, .ref ns, .ref np, .int 0, .int 0, .long 0, .int (-1), .int (-1)]))] H := hP
  have hD : va_D A [(h0, .inr (11, [.ref te, .ref ta, .ref re, .ref no, .ref pa, .ref ac, .ref op, .ref im, .ref ik, .ref hi, .ref rf, .int (-1)])), (no, .inr (6, [.ref te, .ref nt, .ref nl, .ref ns, .ref np, .int 0, .int 0, .long 0, .int (-1), .int (-1)]))] := hD
  refine W.widen (k := 0) (n := 0) (Nat.le_of_ble_eq_true rfl) (Nat.le_of_ble_eq_true rfl) ?_
  have hw : r_1 = 0 := hw
  subst hw
  refine lv_if_eq (tgt := 27) hx hb dX11_of_8 (by decide) (fun _ => ?_) (fun c => absurd (by decide) c)
  refine lv_iconst (v := (-1)) hx hb dX11_of_27 (by decide) ?_
  have hP9 := hP.sub (ws' := []) [] rfl
  have hD9 := hD.sub (ws' := []) [] (by decide) rfl
  have hK9 := hK.sub (tys' := []) [] rfl
  refine W.widen (k := 0) (n := 0) (Nat.le_of_ble_eq_true rfl) (Nat.le_of_ble_eq_true rfl) ?_
  exact W.iret (v := (-1)) hx hb hr (fun t ht hW => ⟨⟨(-1), (), rfl, rfl, by rw [ht]; exact hP9, va_K.moved hW.alike hK9, hD9⟩, hS.F ht⟩) hS.2.2 dX11_of_28
def ow_c_X11_exact : List Cond := [.fieldLink RX11 37 "DeadlineShare" "now" "LDeadlineShare$State;", .methodLink RX11 130 yX6_has, .instanceMethod yX6_has, .selects RX6 yX6_has yX6_has, .initialized RX6, .constantLong RX11 245 (-9223372036854775808)]
def wq_c_X11_exact : List Cond := .code yX11_exact cX11_exact 4 (some .long) :: (ow_c_X11_exact ++ (u_ws RX11 TX11 12 ++ (wq_c_X6_has ++ ([] : List Cond))))
theorem tb_c_X11_exact : ∀ w ∈ wq_c_X11_exact, q_g w := by
  unfold wq_c_X11_exact ow_c_X11_exact
  exact q_cons tw_348 (q_app (q_cons tw_101 (q_cons tw_328 (q_cons tw_205 (q_cons tw_204 (q_cons tw_72 (q_cons tw_347 q_nil)))))) (q_app tu_X11 (q_app tb_c_X6_has q_nil)))
set_option maxHeartbeats 4000000 in
set_option maxRecDepth 100000 in
theorem c_X11_exact (l : Launch) (dC : Nat → ClassId) (dI : Nat → Nat → Nat) (h0 : Nat) (tk : Int32) (wh : Int32) (te : Nat) (ta : Nat) (re : Nat) (no : Nat) (pa : Nat) (ac : Nat) (op : Nat) (im : Nat) (ik : Nat) (hi : Nat) (rf : Nat) (nt : Nat) (nl : Nat) (ns : Nat) (np : Nat) (sz : Nat) : Met l yX11_exact wq_c_X11_exact ({ frames := 1, cells := 0, slots := 0, locals := 21 } : Room) (va_Pc [.ref h0, .int tk, .int wh] (fun U => U.heap.size = sz ∧ va_P (dC, dI) vwCl [(h0, .inr (11, [.ref te, .ref ta, .ref re, .ref no, .ref pa, .ref ac, .ref op, .ref im, .ref ik, .ref hi, .ref rf, .int (-1)])), (no, .inr (6, [.ref te, .ref nt, .ref nl, .ref ns, .ref np, .int 0, .int 0, .long 0, .int (-1), .int (-1)]))] U.heap ∧ va_K (dC, dI) vwCl [] U ∧ va_D (fun _ => True) [(h0, .inr (11, [.ref te, .ref ta, .ref re, .ref no, .ref pa, .ref ac, .ref op, .ref im, .ref ik, .ref hi, .ref rf, .int (-1)])), (no, .inr (6, [.ref te, .ref nt, .ref nl, .ref ns, .ref np, .int 0, .int 0, .long 0, .int (-1), .int (-1)]))])) (va_Ql (fun (r : Int64) (_ : Unit) => r = (-9223372036854775808)) (fun (_ : Unit) t => va_P (dC, dI) vwCl [] t.heap ∧ va_K (dC, dI) vwCl [] t ∧ va_D (va_A [(h0, .inr (11, [.ref te, .ref ta, .ref re, .ref no, .ref pa, .ref ac, .ref op, .ref im, .ref ik, .ref hi, .ref rf, .int (-1)])), (no, .inr (6, [.ref te, .ref nt, .ref nl, .ref ns, .ref np, .int 0, .int 0, .long 0, .int (-1), .int (-1)]))] sz) []) (va_A [(h0, .inr (11, [.ref te, .ref ta, .ref re, .ref no, .ref pa, .ref ac, .ref op, .ref im, .ref ik, .ref hi, .ref rf, .int (-1)])), (no, .inr (6, [.ref te, .ref nt, .ref nl, .ref ns, .ref np, .int 0, .int 0, .long 0, .int (-1), .int (-1)]))] sz)) 0 0 (va_A [(h0, .inr (11, [.ref te, .ref ta, .ref re, .ref no, .ref pa, .ref ac, .ref op, .ref im, .ref ik, .ref hi, .ref rf, .int (-1)])), (no, .inr (6, [.ref te, .ref nt, .ref nl, .ref ns, .ref np, .int 0, .int 0, .long 0, .int (-1), .int (-1)]))] sz) := by
  refine Met.ofW (cc := cX11_exact) (maxL := 4) (ret := (some .long)) (by decide) rfl ?_
  intro p e s m args below meth c s₁ B hml hv
  obtain ⟨rfl, hsz, hP, hK, hD0⟩ := hv
  have hx := B.exec
  have hb := B.bytes
  have hr := B.returns
  have hts := atoms_spec (ws := wq_c_X11_exact) B.pre
  have hown : s.vm.findClass RX11 = some m.cls := findClass_of_methodNamed B.named
  have hlocks := B.notSynchronized
  subst hsz
  have hD := hD0.self (sz := s.heap.size)
  obtain ⟨A, hAe⟩ : ∃ A, A = va_A [(h0, .inr (11, [.ref te, .ref ta, .ref re, .ref no, .ref pa, .ref ac, .ref op, .ref im, .ref ik, .ref hi, .ref rf, .int (-1)])), (no, .inr (6, [.ref te, .ref nt, .ref nl, .ref ns, .ref np, .int 0, .int 0, .long 0, .int (-1), .int (-1)]))] s.heap.size := ⟨_, rfl⟩
  rw [← hAe] at hD ⊢
  have hA : ∀ q : Nat, s.heap.size ≤ q → A q := fun q h => by rw [hAe]; exact Or.inr h
  have hS : va_S A s.heap s.heap [] := va_S.rf
  have hP : va_P (dC, dI) vwCl [(h0, .inr (11, [.ref te, .ref ta, .ref re, .ref no, .ref pa, .ref ac, .ref op, .ref im, .ref ik, .ref hi, .ref rf, .int (-1)])), (no, .inr (6, [.ref te, .ref nt, .ref nl, .ref ns, .ref np, .int 0, .int 0, .long 0, .int (-1), .int (-1)]))] s.heap := hP
  have hl := lv_entry ([.ref h0, .int tk, .int wh]) (n := 4) (Nat.le_of_ble_eq_true rfl)
  rw [lg_entry_eq]
  generalize (lg_sl ([.ref h0, .int tk, .int wh]) ++ List.replicate (4 - (lg_sl ([.ref h0, .int tk, .int wh])).length) Slot.unset).toArray = ls at hl ⊢
  have hl : lv_has ls 4 [(0, .ref h0), (1, .int tk), (2, .int wh)] := hl
  refine lv_aload_n hx hb dX11_exact_0 rfl (lv_at hl 0 rfl) ?_
  refine va_get (D := (dC, dI)) (ci := 11) (v := .ref no) (C := RX11) (T := TX11) (N := 12) hx hb hts (fun _ h0_ => List.mem_cons_of_mem _ (List.mem_append_right _ (List.mem_append_left _ h0_))) hown hK hP 0 rfl rfl 3 (by decide) (hts (.fieldLink RX11 37 "DeadlineShare" "now" "LDeadlineShare$State;") (List.mem_cons_of_mem _ (List.mem_append_left _ (List.mem_of_getElem? (i := 0) rfl)))) (fun _ h9 => h9) rfl dX11_exact_1 ?_
  refine lv_iload_n hx hb dX11_exact_4 rfl (lv_at hl 1 rfl) ?_
  have hPc := hP.sub (ws' := [(no, .inr (6, [.ref te, .ref nt, .ref nl, .ref ns, .ref np, .int 0, .int 0, .long 0, .int (-1), .int (-1)]))]) [1] rfl
  have hDc := hD.sub (ws' := [(no, .inr (6, [.ref te, .ref nt, .ref nl, .ref ns, .ref np, .int 0, .int 0, .long 0, .int (-1), .int (-1)]))]) [1] (by decide) rfl
  have hKc := hK.sub (tys' := []) [] rfl
  have hFc := va_free (wc := [(no, .inr (6, [.ref te, .ref nt, .ref nl, .ref ns, .ref np, .int 0, .int 0, .long 0, .int (-1), .int (-1)]))]) hD hS hA [1] rfl
  refine va_calli (va_runV (As := [.int tk]) (rest := []) ⟨hx, hb, hml, hown, hts⟩ (c_X6_has l dC dI no tk te nt nl ns np 0 s.heap.size) (cwV 1 hts (gi_V (fun w_ h0_ => ⟨List.mem_cons_of_mem _ (List.mem_append_right _ (List.mem_append_right _ (List.mem_append_left _ h0_))), (tb_c_X6_has w_ h0_).2⟩) (List.mem_cons_of_mem _ (List.mem_append_left _ (List.mem_of_getElem? (i := 1) rfl))) (List.mem_cons_of_mem _ (List.mem_append_left _ (List.mem_of_getElem? (i := 2) rfl))) (List.mem_cons_of_mem _ (List.mem_append_left _ (List.mem_of_getElem? (i := 3) rfl))) (List.mem_cons_of_mem _ (List.mem_append_left _ (List.mem_of_getElem? (i := 4) rfl)))) rfl rfl rfl (by decide +kernel) ⟨Nat.le_of_ble_eq_true rfl, Nat.le_of_ble_eq_true rfl⟩) ⟨fun a U g mk q => by obtain ⟨q0, q1, qP, qK, qD⟩ := q; exact ⟨q0, q1, qP, va_K.moved (u := U) (U := U.calling g mk a) (Vm.Alike.refl U.vm) qK, qD⟩, va_recv hKc hPc (ci := 6) (q0 := 0) rfl rfl, fun U hU hW => ⟨rfl, by rw [hU], by rw [hU]; exact hPc, va_K.moved hW.alike hKc, hDc.weaken (fun _ _ _ _ => trivial)⟩⟩ rfl rfl hl.1 rfl (lv_room (Nat.le_of_ble_eq_true rfl)) dX11_exact_5 ⟨Nat.le_of_ble_eq_true rfl, Nat.le_of_ble_eq_true rfl⟩) hS (fun q _ h => hFc q h) hFc (fun r_1 u t H1 locs ht hvm hw hB hz1 hk1 hS => ?_)
  obtain ⟨hP1, hK1, hD1⟩ := hB
  rw [ht] at hP1
  have hK1 := va_K.moved hvm.symm hK1
  obtain ⟨hP, hD⟩ := va_join (wr := [(h0, .inr (11, [.ref te, .ref ta, .ref re, .ref no, .ref pa, .ref ac, .ref op, .ref im, .ref ik, .ref hi, .ref rf, .int (-1)]))]) (w1 := [(no, .inr (6, [.ref te, .ref nt, .ref nl, .ref ns, .ref np, .int 0, .int 0, .long 0, .int (-1), .int (-1)]))]) hP hD [1] [0] rfl rfl (by decide) (by decide) hk1 hFc hP1 hD1
  generalize H1 = H at hP hS ⊢
  have hP : va_P (dC, dI) vwCl [(h0, .inr (11, [.ref te, .ref ta, .ref re, .ref no, .ref pa, .ref ac, .ref op, .ref im, .ref ik, .ref hi, .ref rf, .int (-1)])), (no, .inr (6, [.ref te, .ref nt, .ref nl, .ref ns, .ref np, .int 0, .int 0, .long 0, .int (-1), .int (-1)]))] H := hP
  have hD : va_D A [(h0, .inr (11, [.ref te, .ref ta, .ref re, .ref no, .ref pa, .ref ac, .ref op, .ref im, .ref ik, .ref hi, .ref rf, .int (-1)])), (no, .inr (6, [.ref te, .ref nt, .ref nl, .ref ns, .ref np, .int 0, .int 0, .long 0, .int (-1), .int (-1)]))] := hD
  refine W.widen (k := 0) (n := 0) (Nat.le_of_ble_eq_true rfl) (Nat.le_of_ble_eq_true rfl) ?_
  have hw : r_1 = 0 := hw
  subst hw
  refine lv_if_ne (tgt := 15) hx hb dX11_exact_8 (by decide) (fun c => absurd c (by decide)) (fun _ => ?_)
  refine lv_ldc2 hx hb hown (hts (.constantLong RX11 245 (-9223372036854775808)) (List.mem_cons_of_mem _ (List.mem_append_left _ (List.mem_of_getElem? (i := 5) rfl)))) dX11_exact_11 ?_
  have hP9 := hP.sub (ws' := []) [] rfl
  have hD9 := hD.sub (ws' := []) [] (by decide) rfl
  have hK9 := hK.sub (tys' := []) [] rfl
  refine W.widen (k := 0) (n := 0) (Nat.le_of_ble_eq_true rfl) (Nat.le_of_ble_eq_true rfl) ?_
  exact W.lret (v := (-9223372036854775808)) hx hb hr (fun t ht hW => ⟨⟨(-9223372036854775808), (), rfl, rfl, by rw [ht]; exact hP9, va_K.moved hW.alike hK9, hD9⟩, hS.F ht⟩) hS.2.2 dX11_exact_14
def ow_c_X11_time : List Cond := [.fieldLink RX11 37 "DeadlineShare" "now" "LDeadlineShare$State;", .methodLink RX11 268 yX6_wholeV, .instanceMethod yX6_wholeV, .selects RX6 yX6_wholeV yX6_wholeV, .initialized RX6, .methodLink RX11 271 yX6_restOfV, .instanceMethod yX6_restOfV, .selects RX6 yX6_restOfV yX6_restOfV, .methodLink RX11 155 yX6_weightOfAll, .instanceMethod yX6_weightOfAll, .selects RX6 yX6_weightOfAll yX6_weightOfAll, .fieldLink RX11 223 "DeadlineShare$State" "time" "I", .constantLong RX11 245 (-9223372036854775808)]
def wq_c_X11_time : List Cond := .code yX11_time cX11_time 2 (some .long) :: (ow_c_X11_time ++ (u_ws RX11 TX11 12 ++ (wq_c_X6_wholeV ++ (wq_c_X6_restOfV ++ (wq_c_X6_weightOfAll ++ (u_ws RX6 TX6 10 ++ ([] : List Cond)))))))
theorem tb_c_X11_time : ∀ w ∈ wq_c_X11_time, q_g w := by
  unfold wq_c_X11_time ow_c_X11_time
  exact q_cons tw_354 (q_app (q_cons tw_101 (q_cons tw_353 (q_cons tw_160 (q_cons tw_159 (q_cons tw_72 (q_cons tw_352 (q_cons tw_351 (q_cons tw_350 (q_cons tw_349 (q_cons tw_183 (q_cons tw_182 (q_cons tw_271 (q_cons tw_347 q_nil))))))))))))) (q_app tu_X11 (q_app tb_c_X6_wholeV (q_app tb_c_X6_restOfV (q_app tb_c_X6_weightOfAll (q_app tu_X6 q_nil))))))
set_option maxHeartbeats 4000000 in
set_option maxRecDepth 100000 in
theorem c_X11_time (l : Launch) (dC : Nat → ClassId) (dI : Nat → Nat → Nat) (h0 : Nat) (wh : Int32) (te : Nat) (ta : Nat) (re : Nat) (no : Nat) (pa : Nat) (ac : Nat) (op : Nat) (im : Nat) (ik : Nat) (hi : Nat) (rf : Nat) (nt : Nat) (nl : Nat) (ns : Nat) (np : Nat) (sz : Nat) : Met l yX11_time wq_c_X11_time ({ frames := 3, cells := 0, slots := 0, locals := 68 } : Room) (va_Pc [.ref h0, .int wh] (fun U => U.heap.size = sz ∧ va_P (dC, dI) vwCl [(h0, .inr (11, [.ref te, .ref ta, .ref re, .ref no, .ref pa, .ref ac, .ref op, .ref im, .ref ik, .ref hi, .ref rf, .int (-1)])), (no, .inr (6, [.ref te, .ref nt, .ref nl, .ref ns, .ref np, .int 0, .int 0, .long 0, .int (-1), .int (-1)])), (ns, .inr (10, [.long 0, .long 0]))] U.heap ∧ va_K (dC, dI) vwCl [] U ∧ va_D (fun _ => True) [(h0, .inr (11, [.ref te, .ref ta, .ref re, .ref no, .ref pa, .ref ac, .ref op, .ref im, .ref ik, .ref hi, .ref rf, .int (-1)])), (no, .inr (6, [.ref te, .ref nt, .ref nl, .ref ns, .ref np, .int 0, .int 0, .long 0, .int (-1), .int (-1)])), (ns, .inr (10, [.long 0, .long 0]))])) (va_Ql (fun (r : Int64) (_ : Unit) => r = sp_time wh) (fun (_ : Unit) t => va_P (dC, dI) vwCl [] t.heap ∧ va_K (dC, dI) vwCl [] t ∧ va_D (va_A [(h0, .inr (11, [.ref te, .ref ta, .ref re, .ref no, .ref pa, .ref ac, .ref op, .ref im, .ref ik, .ref hi, .ref rf, .int (-1)])), (no, .inr (6, [.ref te, .ref nt, .ref nl, .ref ns, .ref np, .int 0, .int 0, .long 0, .int (-1), .int (-1)])), (ns, .inr (10, [.long 0, .long 0]))] sz) []) (va_A [(h0, .inr (11, [.ref te, .ref ta, .ref re, .ref no, .ref pa, .ref ac, .ref op, .ref im, .ref ik, .ref hi, .ref rf, .int (-1)])), (no, .inr (6, [.ref te, .ref nt, .ref nl, .ref ns, .ref np, .int 0, .int 0, .long 0, .int (-1), .int (-1)])), (ns, .inr (10, [.long 0, .long 0]))] sz)) 0 0 (va_A [(h0, .inr (11, [.ref te, .ref ta, .ref re, .ref no, .ref pa, .ref ac, .ref op, .ref im, .ref ik, .ref hi, .ref rf, .int (-1)])), (no, .inr (6, [.ref te, .ref nt, .ref nl, .ref ns, .ref np, .int 0, .int 0, .long 0, .int (-1), .int (-1)])), (ns, .inr (10, [.long 0, .long 0]))] sz) := by
  refine Met.ofW (cc := cX11_time) (maxL := 2) (ret := (some .long)) (by decide) rfl ?_
  intro p e s m args below meth c s₁ B hml hv
  obtain ⟨rfl, hsz, hP, hK, hD0⟩ := hv
  have hx := B.exec
  have hb := B.bytes
  have hr := B.returns
  have hts := atoms_spec (ws := wq_c_X11_time) B.pre
  have hown : s.vm.findClass RX11 = some m.cls := findClass_of_methodNamed B.named
  have hlocks := B.notSynchronized
  subst hsz
  have hD := hD0.self (sz := s.heap.size)
  obtain ⟨A, hAe⟩ : ∃ A, A = va_A [(h0, .inr (11, [.ref te, .ref ta, .ref re, .ref no, .ref pa, .ref ac, .ref op, .ref im, .ref ik, .ref hi, .ref rf, .int (-1)])), (no, .inr (6, [.ref te, .ref nt, .ref nl, .ref ns, .ref np, .int 0, .int 0, .long 0, .int (-1), .int (-1)])), (ns, .inr (10, [.long 0, .long 0]))] s.heap.size := ⟨_, rfl⟩
  rw [← hAe] at hD ⊢
  have hA : ∀ q : Nat, s.heap.size ≤ q → A q := fun q h => by rw [hAe]; exact Or.inr h
  have hS : va_S A s.heap s.heap [] := va_S.rf
  have hP : va_P (dC, dI) vwCl [(h0, .inr (11, [.ref te, .ref ta, .ref re, .ref no, .ref pa, .ref ac, .ref op, .ref im, .ref ik, .ref hi, .ref rf, .int (-1)])), (no, .inr (6, [.ref te, .ref nt, .ref nl, .ref ns, .ref np, .int 0, .int 0, .long 0, .int (-1), .int (-1)])), (ns, .inr (10, [.long 0, .long 0]))] s.heap := hP
  have hl := lv_entry ([.ref h0, .int wh]) (n := 2) (Nat.le_of_ble_eq_true rfl)
  rw [lg_entry_eq]
  generalize (lg_sl ([.ref h0, .int wh]) ++ List.replicate (2 - (lg_sl ([.ref h0, .int wh])).length) Slot.unset).toArray = ls at hl ⊢
  have hl : lv_has ls 2 [(0, .ref h0), (1, .int wh)] := hl
  refine lv_iload_n hx hb dX11_time_0 rfl (lv_at hl 1 rfl) ?_
  by_cases h_1 : wh = 0
  · subst h_1
    refine lv_tableIn (tgt := 32) hx hb dX11_time_1 (by decide) (by decide) rfl (by decide) ?_
    refine lv_aload_n hx hb dX11_time_32 rfl (lv_at hl 0 rfl) ?_
    refine va_get (D := (dC, dI)) (ci := 11) (v := .ref no) (C := RX11) (T := TX11) (N := 12) hx hb hts (fun _ h0_ => List.mem_cons_of_mem _ (List.mem_append_right _ (List.mem_append_left _ h0_))) hown hK hP 0 rfl rfl 3 (by decide) (hts (.fieldLink RX11 37 "DeadlineShare" "now" "LDeadlineShare$State;") (List.mem_cons_of_mem _ (List.mem_append_left _ (List.mem_of_getElem? (i := 0) rfl)))) (fun _ h9 => h9) rfl dX11_time_33 ?_
    have hPc := hP.sub (ws' := [(no, .inr (6, [.ref te, .ref nt, .ref nl, .ref ns, .ref np, .int 0, .int 0, .long 0, .int (-1), .int (-1)])), (ns, .inr (10, [.long 0, .long 0]))]) [1, 2] rfl
    have hDc := hD.sub (ws' := [(no, .inr (6, [.ref te, .ref nt, .ref nl, .ref ns, .ref np, .int 0, .int 0, .long 0, .int (-1), .int (-1)])), (ns, .inr (10, [.long 0, .long 0]))]) [1, 2] (by decide) rfl
    have hKc := hK.sub (tys' := []) [] rfl
    have hFc := va_free (wc := [(no, .inr (6, [.ref te, .ref nt, .ref nl, .ref ns, .ref np, .int 0, .int 0, .long 0, .int (-1), .int (-1)])), (ns, .inr (10, [.long 0, .long 0]))]) hD hS hA [1, 2] rfl
    refine va_calll (va_runV (As := []) (rest := []) ⟨hx, hb, hml, hown, hts⟩ (c_X6_wholeV l dC dI no te nt nl ns np 0 s.heap.size) (cwV 0 hts (gi_V (fun w_ h0_ => ⟨List.mem_cons_of_mem _ (List.mem_append_right _ (List.mem_append_right _ (List.mem_append_left _ h0_))), (tb_c_X6_wholeV w_ h0_).2⟩) (List.mem_cons_of_mem _ (List.mem_append_left _ (List.mem_of_getElem? (i := 1) rfl))) (List.mem_cons_of_mem _ (List.mem_append_left _ (List.mem_of_getElem? (i := 2) rfl))) (List.mem_cons_of_mem _ (List.mem_append_left _ (List.mem_of_getElem? (i := 3) rfl))) (List.mem_cons_of_mem _ (List.mem_append_left _ (List.mem_of_getElem? (i := 4) rfl)))) rfl rfl rfl (by decide +kernel) ⟨Nat.le_of_ble_eq_true rfl, Nat.le_of_ble_eq_true rfl⟩) ⟨fun a U g mk q => by obtain ⟨q0, q1, qP, qK, qD⟩ := q; exact ⟨q0, q1, qP, va_K.moved (u := U) (U := U.calling g mk a) (Vm.Alike.refl U.vm) qK, qD⟩, va_recv hKc hPc (ci := 6) (q0 := 0) rfl rfl, fun U hU hW => ⟨rfl, by rw [hU], by rw [hU]; exact hPc, va_K.moved hW.alike hKc, hDc.weaken (fun _ _ _ _ => trivial)⟩⟩ rfl rfl hl.1 rfl (lv_room (Nat.le_of_ble_eq_true rfl)) dX11_time_36 ⟨Nat.le_of_ble_eq_true rfl, Nat.le_of_ble_eq_true rfl⟩) hS (fun q _ h => hFc q h) hFc (fun r_2 u t H1 locs ht hvm hw hB hz1 hk1 hS => ?_)
    obtain ⟨hP1, hK1, hD1⟩ := hB
    rw [ht] at hP1
    have hK1 := va_K.moved hvm.symm hK1
    obtain ⟨hP, hD⟩ := va_join (wr := [(h0, .inr (11, [.ref te, .ref ta, .ref re, .ref no, .ref pa, .ref ac, .ref op, .ref im, .ref ik, .ref hi, .ref rf, .int (-1)]))]) (w1 := [(no, .inr (6, [.ref te, .ref nt, .ref nl, .ref ns, .ref np, .int 0, .int 0, .long 0, .int (-1), .int (-1)])), (ns, .inr (10, [.long 0, .long 0]))]) hP hD [1, 2] [0] rfl rfl (by decide) (by decide) hk1 hFc hP1 hD1
    generalize H1 = H at hP hS ⊢
    have hP : va_P (dC, dI) vwCl [(h0, .inr (11, [.ref te, .ref ta, .ref re, .ref no, .ref pa, .ref ac, .ref op, .ref im, .ref ik, .ref hi, .ref rf, .int (-1)])), (no, .inr (6, [.ref te, .ref nt, .ref nl, .ref ns, .ref np, .int 0, .int 0, .long 0, .int (-1), .int (-1)])), (ns, .inr (10, [.long 0, .long 0]))] H := hP
    have hD : va_D A [(h0, .inr (11, [.ref te, .ref ta, .ref re, .ref no, .ref pa, .ref ac, .ref op, .ref im, .ref ik, .ref hi, .ref rf, .int (-1)])), (no, .inr (6, [.ref te, .ref nt, .ref nl, .ref ns, .ref np, .int 0, .int 0, .long 0, .int (-1), .int (-1)])), (ns, .inr (10, [.long 0, .long 0]))] := hD
    refine W.widen (k := 0) (n := 0) (Nat.le_of_ble_eq_true rfl) (Nat.le_of_ble_eq_true rfl) ?_
    have hw : r_2 = 0 := hw
    subst hw
    have hP9 := hP.sub (ws' := []) [] rfl
    have hD9 := hD.sub (ws' := []) [] (by decide) rfl
    have hK9 := hK.sub (tys' := []) [] rfl
    refine W.widen (k := 0) (n := 0) (Nat.le_of_ble_eq_true rfl) (Nat.le_of_ble_eq_true rfl) ?_
    exact W.lret (v := 0) hx hb hr (fun t ht hW => ⟨⟨0, (), rfl, (by decide), by rw [ht]; exact hP9, va_K.moved hW.alike hK9, hD9⟩, hS.F ht⟩) hS.2.2 dX11_time_39
  by_cases h_3 : wh = 1
  · subst h_3
    refine lv_tableIn (tgt := 40) hx hb dX11_time_1 (by decide) (by decide) rfl (by decide) ?_
    refine lv_aload_n hx hb dX11_time_40 rfl (lv_at hl 0 rfl) ?_
    refine va_get (D := (dC, dI)) (ci := 11) (v := .ref no) (C := RX11) (T := TX11) (N := 12) hx hb hts (fun _ h0_ => List.mem_cons_of_mem _ (List.mem_append_right _ (List.mem_append_left _ h0_))) hown hK hP 0 rfl rfl 3 (by decide) (hts (.fieldLink RX11 37 "DeadlineShare" "now" "LDeadlineShare$State;") (List.mem_cons_of_mem _ (List.mem_append_left _ (List.mem_of_getElem? (i := 0) rfl)))) (fun _ h9 => h9) rfl dX11_time_41 ?_
    have hPc := hP.sub (ws' := [(no, .inr (6, [.ref te, .ref nt, .ref nl, .ref ns, .ref np, .int 0, .int 0, .long 0, .int (-1), .int (-1)])), (ns, .inr (10, [.long 0, .long 0]))]) [1, 2] rfl
    have hDc := hD.sub (ws' := [(no, .inr (6, [.ref te, .ref nt, .ref nl, .ref ns, .ref np, .int 0, .int 0, .long 0, .int (-1), .int (-1)])), (ns, .inr (10, [.long 0, .long 0]))]) [1, 2] (by decide) rfl
    have hKc := hK.sub (tys' := []) [] rfl
    have hFc := va_free (wc := [(no, .inr (6, [.ref te, .ref nt, .ref nl, .ref ns, .ref np, .int 0, .int 0, .long 0, .int (-1), .int (-1)])), (ns, .inr (10, [.long 0, .long 0]))]) hD hS hA [1, 2] rfl
    refine va_calll (va_runV (As := []) (rest := []) ⟨hx, hb, hml, hown, hts⟩ (c_X6_restOfV l dC dI no te nt nl ns np 0 s.heap.size) (cwV 0 hts (gi_V (fun w_ h0_ => ⟨List.mem_cons_of_mem _ (List.mem_append_right _ (List.mem_append_right _ (List.mem_append_right _ (List.mem_append_left _ h0_)))), (tb_c_X6_restOfV w_ h0_).2⟩) (List.mem_cons_of_mem _ (List.mem_append_left _ (List.mem_of_getElem? (i := 5) rfl))) (List.mem_cons_of_mem _ (List.mem_append_left _ (List.mem_of_getElem? (i := 6) rfl))) (List.mem_cons_of_mem _ (List.mem_append_left _ (List.mem_of_getElem? (i := 7) rfl))) (List.mem_cons_of_mem _ (List.mem_append_left _ (List.mem_of_getElem? (i := 4) rfl)))) rfl rfl rfl (by decide +kernel) ⟨Nat.le_of_ble_eq_true rfl, Nat.le_of_ble_eq_true rfl⟩) ⟨fun a U g mk q => by obtain ⟨q0, q1, qP, qK, qD⟩ := q; exact ⟨q0, q1, qP, va_K.moved (u := U) (U := U.calling g mk a) (Vm.Alike.refl U.vm) qK, qD⟩, va_recv hKc hPc (ci := 6) (q0 := 0) rfl rfl, fun U hU hW => ⟨rfl, by rw [hU], by rw [hU]; exact hPc, va_K.moved hW.alike hKc, hDc.weaken (fun _ _ _ _ => trivial)⟩⟩ rfl rfl hl.1 rfl (lv_room (Nat.le_of_ble_eq_true rfl)) dX11_time_44 ⟨Nat.le_of_ble_eq_true rfl, Nat.le_of_ble_eq_true rfl⟩) hS (fun q _ h => hFc q h) hFc (fun r_4 u t H1 locs ht hvm hw hB hz1 hk1 hS => ?_)
    obtain ⟨hP1, hK1, hD1⟩ := hB
    rw [ht] at hP1
    have hK1 := va_K.moved hvm.symm hK1
    obtain ⟨hP, hD⟩ := va_join (wr := [(h0, .inr (11, [.ref te, .ref ta, .ref re, .ref no, .ref pa, .ref ac, .ref op, .ref im, .ref ik, .ref hi, .ref rf, .int (-1)]))]) (w1 := [(no, .inr (6, [.ref te, .ref nt, .ref nl, .ref ns, .ref np, .int 0, .int 0, .long 0, .int (-1), .int (-1)])), (ns, .inr (10, [.long 0, .long 0]))]) hP hD [1, 2] [0] rfl rfl (by decide) (by decide) hk1 hFc hP1 hD1
    generalize H1 = H at hP hS ⊢
    have hP : va_P (dC, dI) vwCl [(h0, .inr (11, [.ref te, .ref ta, .ref re, .ref no, .ref pa, .ref ac, .ref op, .ref im, .ref ik, .ref hi, .ref rf, .int (-1)])), (no, .inr (6, [.ref te, .ref nt, .ref nl, .ref ns, .ref np, .int 0, .int 0, .long 0, .int (-1), .int (-1)])), (ns, .inr (10, [.long 0, .long 0]))] H := hP
    have hD : va_D A [(h0, .inr (11, [.ref te, .ref ta, .ref re, .ref no, .ref pa, .ref ac, .ref op, .ref im, .ref ik, .ref hi, .ref rf, .int (-1)])), (no, .inr (6, [.ref te, .ref nt, .ref nl, .ref ns, .ref np, .int 0, .int 0, .long 0, .int (-1), .int (-1)])), (ns, .inr (10, [.long 0, .long 0]))] := hD
    refine W.widen (k := 0) (n := 0) (Nat.le_of_ble_eq_true rfl) (Nat.le_of_ble_eq_true rfl) ?_
    have hw : r_4 = 0 := hw
    subst hw
    have hP9 := hP.sub (ws' := []) [] rfl
    have hD9 := hD.sub (ws' := []) [] (by decide) rfl
    have hK9 := hK.sub (tys' := []) [] rfl
    refine W.widen (k := 0) (n := 0) (Nat.le_of_ble_eq_true rfl) (Nat.le_of_ble_eq_true rfl) ?_
    exact W.lret (v := 0) hx hb hr (fun t ht hW => ⟨⟨0, (), rfl, (by decide), by rw [ht]; exact hP9, va_K.moved hW.alike hK9, hD9⟩, hS.F ht⟩) hS.2.2 dX11_time_47
  by_cases h_5 : wh = 2
  · subst h_5
    refine lv_tableIn (tgt := 48) hx hb dX11_time_1 (by decide) (by decide) rfl (by decide) ?_
    refine lv_aload_n hx hb dX11_time_48 rfl (lv_at hl 0 rfl) ?_
    refine va_get (D := (dC, dI)) (ci := 11) (v := .ref no) (C := RX11) (T := TX11) (N := 12) hx hb hts (fun _ h0_ => List.mem_cons_of_mem _ (List.mem_append_right _ (List.mem_append_left _ h0_))) hown hK hP 0 rfl rfl 3 (by decide) (hts (.fieldLink RX11 37 "DeadlineShare" "now" "LDeadlineShare$State;") (List.mem_cons_of_mem _ (List.mem_append_left _ (List.mem_of_getElem? (i := 0) rfl)))) (fun _ h9 => h9) rfl dX11_time_49 ?_
    have hPc := hP.sub (ws' := [(no, .inr (6, [.ref te, .ref nt, .ref nl, .ref ns, .ref np, .int 0, .int 0, .long 0, .int (-1), .int (-1)]))]) [1] rfl
    have hDc := hD.sub (ws' := [(no, .inr (6, [.ref te, .ref nt, .ref nl, .ref ns, .ref np, .int 0, .int 0, .long 0, .int (-1), .int (-1)]))]) [1] (by decide) rfl
    have hKc := hK.sub (tys' := []) [] rfl
    have hFc := va_free (wc := [(no, .inr (6, [.ref te, .ref nt, .ref nl, .ref ns, .ref np, .int 0, .int 0, .long 0, .int (-1), .int (-1)]))]) hD hS hA [1] rfl
    refine va_calli (va_runV (As := []) (rest := []) ⟨hx, hb, hml, hown, hts⟩ (c_X6_weightOfAll l dC dI no te nt nl ns np 0 s.heap.size) (cwV 0 hts (gi_V (fun w_ h0_ => ⟨List.mem_cons_of_mem _ (List.mem_append_right _ (List.mem_append_right _ (List.mem_append_right _ (List.mem_append_right _ (List.mem_append_left _ h0_))))), (tb_c_X6_weightOfAll w_ h0_).2⟩) (List.mem_cons_of_mem _ (List.mem_append_left _ (List.mem_of_getElem? (i := 8) rfl))) (List.mem_cons_of_mem _ (List.mem_append_left _ (List.mem_of_getElem? (i := 9) rfl))) (List.mem_cons_of_mem _ (List.mem_append_left _ (List.mem_of_getElem? (i := 10) rfl))) (List.mem_cons_of_mem _ (List.mem_append_left _ (List.mem_of_getElem? (i := 4) rfl)))) rfl rfl rfl (by decide +kernel) ⟨Nat.le_of_ble_eq_true rfl, Nat.le_of_ble_eq_true rfl⟩) ⟨fun a U g mk q => by obtain ⟨q0, q1, qP, qK, qD⟩ := q; exact ⟨q0, q1, qP, va_K.moved (u := U) (U := U.calling g mk a) (Vm.Alike.refl U.vm) qK, qD⟩, va_recv hKc hPc (ci := 6) (q0 := 0) rfl rfl, fun U hU hW => ⟨rfl, by rw [hU], by rw [hU]; exact hPc, va_K.moved hW.alike hKc, hDc.weaken (fun _ _ _ _ => trivial)⟩⟩ rfl rfl hl.1 rfl (lv_room (Nat.le_of_ble_eq_true rfl)) dX11_time_52 ⟨Nat.le_of_ble_eq_true rfl, Nat.le_of_ble_eq_true rfl⟩) hS (fun q _ h => hFc q h) hFc (fun r_6 u t H1 locs ht hvm hw hB hz1 hk1 hS => ?_)
    obtain ⟨hP1, hK1, hD1⟩ := hB
    rw [ht] at hP1
    have hK1 := va_K.moved hvm.symm hK1
    obtain ⟨hP, hD⟩ := va_join (wr := [(h0, .inr (11, [.ref te, .ref ta, .ref re, .ref no, .ref pa, .ref ac, .ref op, .ref im, .ref ik, .ref hi, .ref rf, .int (-1)])), (ns, .inr (10, [.long 0, .long 0]))]) (w1 := [(no, .inr (6, [.ref te, .ref nt, .ref nl, .ref ns, .ref np, .int 0, .int 0, .long 0, .int (-1), .int (-1)]))]) hP hD [1] [0, 2] rfl rfl (by decide) (by decide) hk1 hFc hP1 hD1
    generalize H1 = H at hP hS ⊢
    have hP : va_P (dC, dI) vwCl [(h0, .inr (11, [.ref te, .ref ta, .ref re, .ref no, .ref pa, .ref ac, .ref op, .ref im, .ref ik, .ref hi, .ref rf, .int (-1)])), (ns, .inr (10, [.long 0, .long 0])), (no, .inr (6, [.ref te, .ref nt, .ref nl, .ref ns, .ref np, .int 0, .int 0, .long 0, .int (-1), .int (-1)]))] H := hP
    have hD : va_D A [(h0, .inr (11, [.ref te, .ref ta, .ref re, .ref no, .ref pa, .ref ac, .ref op, .ref im, .ref ik, .ref hi, .ref rf, .int (-1)])), (ns, .inr (10, [.long 0, .long 0])), (no, .inr (6, [.ref te, .ref nt, .ref nl, .ref ns, .ref np, .int 0, .int 0, .long 0, .int (-1), .int (-1)]))] := hD
    refine W.widen (k := 0) (n := 0) (Nat.le_of_ble_eq_true rfl) (Nat.le_of_ble_eq_true rfl) ?_
    have hw : r_6 = 0 := hw
    subst hw
    refine lv_i2l (v := 0) hx hb dX11_time_55 (by decide) ?_
    have hP9 := hP.sub (ws' := []) [] rfl
    have hD9 := hD.sub (ws' := []) [] (by decide) rfl
    have hK9 := hK.sub (tys' := []) [] rfl
    refine W.widen (k := 0) (n := 0) (Nat.le_of_ble_eq_true rfl) (Nat.le_of_ble_eq_true rfl) ?_
    exact W.lret (v := 0) hx hb hr (fun t ht hW => ⟨⟨0, (), rfl, (by decide), by rw [ht]; exact hP9, va_K.moved hW.alike hK9, hD9⟩, hS.F ht⟩) hS.2.2 dX11_time_56
  by_cases h_7 : wh = 3
  · subst h_7
    refine lv_tableIn (tgt := 57) hx hb dX11_time_1 (by decide) (by decide) rfl (by decide) ?_
    refine lv_aload_n hx hb dX11_time_57 rfl (lv_at hl 0 rfl) ?_
    refine va_get (D := (dC, dI)) (ci := 11) (v := .ref no) (C := RX11) (T := TX11) (N := 12) hx hb hts (fun _ h0_ => List.mem_cons_of_mem _ (List.mem_append_right _ (List.mem_append_left _ h0_))) hown hK hP 0 rfl rfl 3 (by decide) (hts (.fieldLink RX11 37 "DeadlineShare" "now" "LDeadlineShare$State;") (List.mem_cons_of_mem _ (List.mem_append_left _ (List.mem_of_getElem? (i := 0) rfl)))) (fun _ h9 => h9) rfl dX11_time_58 ?_
    refine va_get (D := (dC, dI)) (ci := 6) (v := .int 0) (C := RX6) (T := TX6) (N := 10) hx hb hts (fun _ h0_ => List.mem_cons_of_mem _ (List.mem_append_right _ (List.mem_append_right _ (List.mem_append_right _ (List.mem_append_right _ (List.mem_append_right _ (List.mem_append_left _ h0_))))))) hown hK hP 1 rfl rfl 6 (by decide) (hts (.fieldLink RX11 223 "DeadlineShare$State" "time" "I") (List.mem_cons_of_mem _ (List.mem_append_left _ (List.mem_of_getElem? (i := 11) rfl)))) (fun _ h9 => h9) rfl dX11_time_61 ?_
    refine lv_i2l (v := 0) hx hb dX11_time_64 (by decide) ?_
    have hP9 := hP.sub (ws' := []) [] rfl
    have hD9 := hD.sub (ws' := []) [] (by decide) rfl
    have hK9 := hK.sub (tys' := []) [] rfl
    refine W.widen (k := 0) (n := 0) (Nat.le_of_ble_eq_true rfl) (Nat.le_of_ble_eq_true rfl) ?_
    exact W.lret (v := 0) hx hb hr (fun t ht hW => ⟨⟨0, (), rfl, (by decide), by rw [ht]; exact hP9, va_K.moved hW.alike hK9, hD9⟩, hS.F ht⟩) hS.2.2 dX11_time_65
  have z_8 := lv_neT (a := 0) h_1 (by decide)
  have z_9 := lv_neT (a := 1) h_3 (by decide)
  have z_10 := lv_neT (a := 2) h_5 (by decide)
  have z_11 := lv_neT (a := 3) h_7 (by decide)
  refine lv_tableOut (tgt := 66) hx hb dX11_time_1 (by omega) (by decide) ?_
  refine lv_ldc2 hx hb hown (hts (.constantLong RX11 245 (-9223372036854775808)) (List.mem_cons_of_mem _ (List.mem_append_left _ (List.mem_of_getElem? (i := 12) rfl)))) dX11_time_66 ?_
  have hP9 := hP.sub (ws' := []) [] rfl
  have hD9 := hD.sub (ws' := []) [] (by decide) rfl
  have hK9 := hK.sub (tys' := []) [] rfl
  refine W.widen (k := 0) (n := 0) (Nat.le_of_ble_eq_true rfl) (Nat.le_of_ble_eq_true rfl) ?_
  exact W.lret (v := (-9223372036854775808)) hx hb hr (fun t ht hW => ⟨⟨(-9223372036854775808), (), rfl, (by have nh_1 := lv_neT (a := 0) h_1 (by decide); have nh_3 := lv_neT (a := 1) h_3 (by decide); have nh_5 := lv_neT (a := 2) h_5 (by decide); have nh_7 := lv_neT (a := 3) h_7 (by decide); unfold sp_time; (repeat' split) <;> first | rfl | omega | (refine Int32.toInt_inj.mp ?_; omega)), by rw [ht]; exact hP9, va_K.moved hW.alike hK9, hD9⟩, hS.F ht⟩) hS.2.2 dX11_time_69
def ow_c_X11_eligible : List Cond := [.fieldLink RX11 37 "DeadlineShare" "now" "LDeadlineShare$State;", .methodLink RX11 274 yX6_eligibleBits, .instanceMethod yX6_eligibleBits, .selects RX6 yX6_eligibleBits yX6_eligibleBits, .initialized RX6]
def wq_c_X11_eligible : List Cond := .code yX11_eligible cX11_eligible 1 (some .int) :: (ow_c_X11_eligible ++ (u_ws RX11 TX11 12 ++ (wq_c_X6_eligibleBits ++ ([] : List Cond))))
theorem tb_c_X11_eligible : ∀ w ∈ wq_c_X11_eligible, q_g w := by
  unfold wq_c_X11_eligible ow_c_X11_eligible
  exact q_cons tw_356 (q_app (q_cons tw_101 (q_cons tw_355 (q_cons tw_164 (q_cons tw_163 (q_cons tw_72 q_nil))))) (q_app tu_X11 (q_app tb_c_X6_eligibleBits q_nil)))
set_option maxHeartbeats 4000000 in
set_option maxRecDepth 100000 in
theorem c_X11_eligible (l : Launch) (dC : Nat → ClassId) (dI : Nat → Nat → Nat) (h0 : Nat) (te : Nat) (ta : Nat) (re : Nat) (no : Nat) (pa : Nat) (ac : Nat) (op : Nat) (im : Nat) (ik : Nat) (hi : Nat) (rf : Nat) (nt : Nat) (nl : Nat) (ns : Nat) (np : Nat) (sz : Nat) : Met l yX11_eligible wq_c_X11_eligible ({ frames := 4, cells := 0, slots := 0, locals := 92 } : Room) (va_Pc [.ref h0] (fun U => U.heap.size = sz ∧ va_P (dC, dI) vwCl [(h0, .inr (11, [.ref te, .ref ta, .ref re, .ref no, .ref pa, .ref ac, .ref op, .ref im, .ref ik, .ref hi, .ref rf, .int (-1)])), (no, .inr (6, [.ref te, .ref nt, .ref nl, .ref ns, .ref np, .int 0, .int 0, .long 0, .int (-1), .int (-1)])), (ns, .inr (10, [.long 0, .long 0]))] U.heap ∧ va_K (dC, dI) vwCl [] U ∧ va_D (fun _ => True) [(h0, .inr (11, [.ref te, .ref ta, .ref re, .ref no, .ref pa, .ref ac, .ref op, .ref im, .ref ik, .ref hi, .ref rf, .int (-1)])), (no, .inr (6, [.ref te, .ref nt, .ref nl, .ref ns, .ref np, .int 0, .int 0, .long 0, .int (-1), .int (-1)])), (ns, .inr (10, [.long 0, .long 0]))])) (va_Qi (fun (r : Int32) (_ : Unit) => r = 0) (fun (_ : Unit) t => va_P (dC, dI) vwCl [] t.heap ∧ va_K (dC, dI) vwCl [] t ∧ va_D (va_A [(h0, .inr (11, [.ref te, .ref ta, .ref re, .ref no, .ref pa, .ref ac, .ref op, .ref im, .ref ik, .ref hi, .ref rf, .int (-1)])), (no, .inr (6, [.ref te, .ref nt, .ref nl, .ref ns, .ref np, .int 0, .int 0, .long 0, .int (-1), .int (-1)])), (ns, .inr (10, [.long 0, .long 0]))] sz) []) (va_A [(h0, .inr (11, [.ref te, .ref ta, .ref re, .ref no, .ref pa, .ref ac, .ref op, .ref im, .ref ik, .ref hi, .ref rf, .int (-1)])), (no, .inr (6, [.ref te, .ref nt, .ref nl, .ref ns, .ref np, .int 0, .int 0, .long 0, .int (-1), .int (-1)])), (ns, .inr (10, [.long 0, .long 0]))] sz)) 0 0 (va_A [(h0, .inr (11, [.ref te, .ref ta, .ref re, .ref no, .ref pa, .ref ac, .ref op, .ref im, .ref ik, .ref hi, .ref rf, .int (-1)])), (no, .inr (6, [.ref te, .ref nt, .ref nl, .ref ns, .ref np, .int 0, .int 0, .long 0, .int (-1), .int (-1)])), (ns, .inr (10, [.long 0, .long 0]))] sz) := by
  refine Met.ofW (cc := cX11_eligible) (maxL := 1) (ret := (some .int)) (by decide) rfl ?_
  intro p e s m args below meth c s₁ B hml hv
  obtain ⟨rfl, hsz, hP, hK, hD0⟩ := hv
  have hx := B.exec
  have hb := B.bytes
  have hr := B.returns
  have hts := atoms_spec (ws := wq_c_X11_eligible) B.pre
  have hown : s.vm.findClass RX11 = some m.cls := findClass_of_methodNamed B.named
  have hlocks := B.notSynchronized
  subst hsz
  have hD := hD0.self (sz := s.heap.size)
  obtain ⟨A, hAe⟩ : ∃ A, A = va_A [(h0, .inr (11, [.ref te, .ref ta, .ref re, .ref no, .ref pa, .ref ac, .ref op, .ref im, .ref ik, .ref hi, .ref rf, .int (-1)])), (no, .inr (6, [.ref te, .ref nt, .ref nl, .ref ns, .ref np, .int 0, .int 0, .long 0, .int (-1), .int (-1)])), (ns, .inr (10, [.long 0, .long 0]))] s.heap.size := ⟨_, rfl⟩
  rw [← hAe] at hD ⊢
  have hA : ∀ q : Nat, s.heap.size ≤ q → A q := fun q h => by rw [hAe]; exact Or.inr h
  have hS : va_S A s.heap s.heap [] := va_S.rf
  have hP : va_P (dC, dI) vwCl [(h0, .inr (11, [.ref te, .ref ta, .ref re, .ref no, .ref pa, .ref ac, .ref op, .ref im, .ref ik, .ref hi, .ref rf, .int (-1)])), (no, .inr (6, [.ref te, .ref nt, .ref nl, .ref ns, .ref np, .int 0, .int 0, .long 0, .int (-1), .int (-1)])), (ns, .inr (10, [.long 0, .long 0]))] s.heap := hP
  have hl := lv_entry ([.ref h0]) (n := 1) (Nat.le_of_ble_eq_true rfl)
  rw [lg_entry_eq]
  generalize (lg_sl ([.ref h0]) ++ List.replicate (1 - (lg_sl ([.ref h0])).length) Slot.unset).toArray = ls at hl ⊢
  have hl : lv_has ls 1 [(0, .ref h0)] := hl
  refine lv_aload_n hx hb dX11_eligible_0 rfl (lv_at hl 0 rfl) ?_
  refine va_get (D := (dC, dI)) (ci := 11) (v := .ref no) (C := RX11) (T := TX11) (N := 12) hx hb hts (fun _ h0_ => List.mem_cons_of_mem _ (List.mem_append_right _ (List.mem_append_left _ h0_))) hown hK hP 0 rfl rfl 3 (by decide) (hts (.fieldLink RX11 37 "DeadlineShare" "now" "LDeadlineShare$State;") (List.mem_cons_of_mem _ (List.mem_append_left _ (List.mem_of_getElem? (i := 0) rfl)))) (fun _ h9 => h9) rfl dX11_eligible_1 ?_
  have hPc := hP.sub (ws' := [(no, .inr (6, [.ref te, .ref nt, .ref nl, .ref ns, .ref np, .int 0, .int 0, .long 0, .int (-1), .int (-1)])), (ns, .inr (10, [.long 0, .long 0]))]) [1, 2] rfl
  have hDc := hD.sub (ws' := [(no, .inr (6, [.ref te, .ref nt, .ref nl, .ref ns, .ref np, .int 0, .int 0, .long 0, .int (-1), .int (-1)])), (ns, .inr (10, [.long 0, .long 0]))]) [1, 2] (by decide) rfl
  have hKc := hK.sub (tys' := []) [] rfl
  have hFc := va_free (wc := [(no, .inr (6, [.ref te, .ref nt, .ref nl, .ref ns, .ref np, .int 0, .int 0, .long 0, .int (-1), .int (-1)])), (ns, .inr (10, [.long 0, .long 0]))]) hD hS hA [1, 2] rfl
  refine va_calli (va_runV (As := []) (rest := []) ⟨hx, hb, hml, hown, hts⟩ (c_X6_eligibleBits l dC dI no te nt nl ns np 0 s.heap.size) (cwV 0 hts (gi_V (fun w_ h0_ => ⟨List.mem_cons_of_mem _ (List.mem_append_right _ (List.mem_append_right _ (List.mem_append_left _ h0_))), (tb_c_X6_eligibleBits w_ h0_).2⟩) (List.mem_cons_of_mem _ (List.mem_append_left _ (List.mem_of_getElem? (i := 1) rfl))) (List.mem_cons_of_mem _ (List.mem_append_left _ (List.mem_of_getElem? (i := 2) rfl))) (List.mem_cons_of_mem _ (List.mem_append_left _ (List.mem_of_getElem? (i := 3) rfl))) (List.mem_cons_of_mem _ (List.mem_append_left _ (List.mem_of_getElem? (i := 4) rfl)))) rfl rfl rfl (by decide +kernel) ⟨Nat.le_of_ble_eq_true rfl, Nat.le_of_ble_eq_true rfl⟩) ⟨fun a U g mk q => by obtain ⟨q0, q1, qP, qK, qD⟩ := q; exact ⟨q0, q1, qP, va_K.moved (u := U) (U := U.calling g mk a) (Vm.Alike.refl U.vm) qK, qD⟩, va_recv hKc hPc (ci := 6) (q0 := 0) rfl rfl, fun U hU hW => ⟨rfl, by rw [hU], by rw [hU]; exact hPc, va_K.moved hW.alike hKc, hDc.weaken (fun _ _ _ _ => trivial)⟩⟩ rfl rfl hl.1 rfl (lv_room (Nat.le_of_ble_eq_true rfl)) dX11_eligible_4 ⟨Nat.le_of_ble_eq_true rfl, Nat.le_of_ble_eq_true rfl⟩) hS (fun q _ h => hFc q h) hFc (fun r_1 u t H1 locs ht hvm hw hB hz1 hk1 hS => ?_)
  obtain ⟨hP1, hK1, hD1⟩ := hB
  rw [ht] at hP1
  have hK1 := va_K.moved hvm.symm hK1
  obtain ⟨hP, hD⟩ := va_join (wr := [(h0, .inr (11, [.ref te, .ref ta, .ref re, .ref no, .ref pa, .ref ac, .ref op, .ref im, .ref ik, .ref hi, .ref rf, .int (-1)]))]) (w1 := [(no, .inr (6, [.ref te, .ref nt, .ref nl, .ref ns, .ref np, .int 0, .int 0, .long 0, .int (-1), .int (-1)])), (ns, .inr (10, [.long 0, .long 0]))]) hP hD [1, 2] [0] rfl rfl (by decide) (by decide) hk1 hFc hP1 hD1
  generalize H1 = H at hP hS ⊢
  have hP : va_P (dC, dI) vwCl [(h0, .inr (11, [.ref te, .ref ta, .ref re, .ref no, .ref pa, .ref ac, .ref op, .ref im, .ref ik, .ref hi, .ref rf, .int (-1)])), (no, .inr (6, [.ref te, .ref nt, .ref nl, .ref ns, .ref np, .int 0, .int 0, .long 0, .int (-1), .int (-1)])), (ns, .inr (10, [.long 0, .long 0]))] H := hP
  have hD : va_D A [(h0, .inr (11, [.ref te, .ref ta, .ref re, .ref no, .ref pa, .ref ac, .ref op, .ref im, .ref ik, .ref hi, .ref rf, .int (-1)])), (no, .inr (6, [.ref te, .ref nt, .ref nl, .ref ns, .ref np, .int 0, .int 0, .long 0, .int (-1), .int (-1)])), (ns, .inr (10, [.long 0, .long 0]))] := hD
  refine W.widen (k := 0) (n := 0) (Nat.le_of_ble_eq_true rfl) (Nat.le_of_ble_eq_true rfl) ?_
  have hw : r_1 = 0 := hw
  subst hw
  have hP9 := hP.sub (ws' := []) [] rfl
  have hD9 := hD.sub (ws' := []) [] (by decide) rfl
  have hK9 := hK.sub (tys' := []) [] rfl
  refine W.widen (k := 0) (n := 0) (Nat.le_of_ble_eq_true rfl) (Nat.le_of_ble_eq_true rfl) ?_
  exact W.iret (v := 0) hx hb hr (fun t ht hW => ⟨⟨0, (), rfl, rfl, by rw [ht]; exact hP9, va_K.moved hW.alike hK9, hD9⟩, hS.F ht⟩) hS.2.2 dX11_eligible_7
def ow_c_X11_earliest : List Cond := [.fieldLink RX11 37 "DeadlineShare" "now" "LDeadlineShare$State;", .methodLink RX11 277 yX6_eligibleAt, .instanceMethod yX6_eligibleAt, .selects RX6 yX6_eligibleAt yX6_eligibleAt, .initialized RX6]
def wq_c_X11_earliest : List Cond := .code yX11_earliest cX11_earliest 2 (some .int) :: (ow_c_X11_earliest ++ (u_ws RX11 TX11 12 ++ (wq_c_X6_eligibleAt ++ ([] : List Cond))))
theorem tb_c_X11_earliest : ∀ w ∈ wq_c_X11_earliest, q_g w := by
  unfold wq_c_X11_earliest ow_c_X11_earliest
  exact q_cons tw_360 (q_app (q_cons tw_101 (q_cons tw_359 (q_cons tw_358 (q_cons tw_357 (q_cons tw_72 q_nil))))) (q_app tu_X11 (q_app tb_c_X6_eligibleAt q_nil)))
set_option maxHeartbeats 4000000 in
set_option maxRecDepth 100000 in
theorem c_X11_earliest (l : Launch) (dC : Nat → ClassId) (dI : Nat → Nat → Nat) (h0 : Nat) (kd : Int32) (te : Nat) (ta : Nat) (re : Nat) (no : Nat) (pa : Nat) (ac : Nat) (op : Nat) (im : Nat) (ik : Nat) (hi : Nat) (rf : Nat) (nt : Nat) (nl : Nat) (ns : Nat) (np : Nat) (sz : Nat) : Met l yX11_earliest wq_c_X11_earliest ({ frames := 5, cells := 0, slots := 0, locals := 115 } : Room) (va_Pc [.ref h0, .int kd] (fun U => U.heap.size = sz ∧ va_P (dC, dI) vwCl [(h0, .inr (11, [.ref te, .ref ta, .ref re, .ref no, .ref pa, .ref ac, .ref op, .ref im, .ref ik, .ref hi, .ref rf, .int (-1)])), (no, .inr (6, [.ref te, .ref nt, .ref nl, .ref ns, .ref np, .int 0, .int 0, .long 0, .int (-1), .int (-1)])), (ns, .inr (10, [.long 0, .long 0]))] U.heap ∧ va_K (dC, dI) vwCl [] U ∧ va_D (fun _ => True) [(h0, .inr (11, [.ref te, .ref ta, .ref re, .ref no, .ref pa, .ref ac, .ref op, .ref im, .ref ik, .ref hi, .ref rf, .int (-1)])), (no, .inr (6, [.ref te, .ref nt, .ref nl, .ref ns, .ref np, .int 0, .int 0, .long 0, .int (-1), .int (-1)])), (ns, .inr (10, [.long 0, .long 0]))])) (va_Qi (fun (r : Int32) (_ : Unit) => r = (-1)) (fun (_ : Unit) t => va_P (dC, dI) vwCl [] t.heap ∧ va_K (dC, dI) vwCl [] t ∧ va_D (va_A [(h0, .inr (11, [.ref te, .ref ta, .ref re, .ref no, .ref pa, .ref ac, .ref op, .ref im, .ref ik, .ref hi, .ref rf, .int (-1)])), (no, .inr (6, [.ref te, .ref nt, .ref nl, .ref ns, .ref np, .int 0, .int 0, .long 0, .int (-1), .int (-1)])), (ns, .inr (10, [.long 0, .long 0]))] sz) []) (va_A [(h0, .inr (11, [.ref te, .ref ta, .ref re, .ref no, .ref pa, .ref ac, .ref op, .ref im, .ref ik, .ref hi, .ref rf, .int (-1)])), (no, .inr (6, [.ref te, .ref nt, .ref nl, .ref ns, .ref np, .int 0, .int 0, .long 0, .int (-1), .int (-1)])), (ns, .inr (10, [.long 0, .long 0]))] sz)) 0 0 (va_A [(h0, .inr (11, [.ref te, .ref ta, .ref re, .ref no, .ref pa, .ref ac, .ref op, .ref im, .ref ik, .ref hi, .ref rf, .int (-1)])), (no, .inr (6, [.ref te, .ref nt, .ref nl, .ref ns, .ref np, .int 0, .int 0, .long 0, .int (-1), .int (-1)])), (ns, .inr (10, [.long 0, .long 0]))] sz) := by
  refine Met.ofW (cc := cX11_earliest) (maxL := 2) (ret := (some .int)) (by decide) rfl ?_
  intro p e s m args below meth c s₁ B hml hv
  obtain ⟨rfl, hsz, hP, hK, hD0⟩ := hv
  have hx := B.exec
  have hb := B.bytes
  have hr := B.returns
  have hts := atoms_spec (ws := wq_c_X11_earliest) B.pre
  have hown : s.vm.findClass RX11 = some m.cls := findClass_of_methodNamed B.named
  have hlocks := B.notSynchronized
  subst hsz
  have hD := hD0.self (sz := s.heap.size)
  obtain ⟨A, hAe⟩ : ∃ A, A = va_A [(h0, .inr (11, [.ref te, .ref ta, .ref re, .ref no, .ref pa, .ref ac, .ref op, .ref im, .ref ik, .ref hi, .ref rf, .int (-1)])), (no, .inr (6, [.ref te, .ref nt, .ref nl, .ref ns, .ref np, .int 0, .int 0, .long 0, .int (-1), .int (-1)])), (ns, .inr (10, [.long 0, .long 0]))] s.heap.size := ⟨_, rfl⟩
  rw [← hAe] at hD ⊢
  have hA : ∀ q : Nat, s.heap.size ≤ q → A q := fun q h => by rw [hAe]; exact Or.inr h
  have hS : va_S A s.heap s.heap [] := va_S.rf
  have hP : va_P (dC, dI) vwCl [(h0, .inr (11, [.ref te, .ref ta, .ref re, .ref no, .ref pa, .ref ac, .ref op, .ref im, .ref ik, .ref hi, .ref rf, .int (-1)])), (no, .inr (6, [.ref te, .ref nt, .ref nl, .ref ns, .ref np, .int 0, .int 0, .long 0, .int (-1), .int (-1)])), (ns, .inr (10, [.long 0, .long 0]))] s.heap := hP
  have hl := lv_entry ([.ref h0, .int kd]) (n := 2) (Nat.le_of_ble_eq_true rfl)
  rw [lg_entry_eq]
  generalize (lg_sl ([.ref h0, .int kd]) ++ List.replicate (2 - (lg_sl ([.ref h0, .int kd])).length) Slot.unset).toArray = ls at hl ⊢
  have hl : lv_has ls 2 [(0, .ref h0), (1, .int kd)] := hl
  refine lv_aload_n hx hb dX11_earliest_0 rfl (lv_at hl 0 rfl) ?_
  refine va_get (D := (dC, dI)) (ci := 11) (v := .ref no) (C := RX11) (T := TX11) (N := 12) hx hb hts (fun _ h0_ => List.mem_cons_of_mem _ (List.mem_append_right _ (List.mem_append_left _ h0_))) hown hK hP 0 rfl rfl 3 (by decide) (hts (.fieldLink RX11 37 "DeadlineShare" "now" "LDeadlineShare$State;") (List.mem_cons_of_mem _ (List.mem_append_left _ (List.mem_of_getElem? (i := 0) rfl)))) (fun _ h9 => h9) rfl dX11_earliest_1 ?_
  refine lv_iload_n hx hb dX11_earliest_4 rfl (lv_at hl 1 rfl) ?_
  have hPc := hP.sub (ws' := [(no, .inr (6, [.ref te, .ref nt, .ref nl, .ref ns, .ref np, .int 0, .int 0, .long 0, .int (-1), .int (-1)])), (ns, .inr (10, [.long 0, .long 0]))]) [1, 2] rfl
  have hDc := hD.sub (ws' := [(no, .inr (6, [.ref te, .ref nt, .ref nl, .ref ns, .ref np, .int 0, .int 0, .long 0, .int (-1), .int (-1)])), (ns, .inr (10, [.long 0, .long 0]))]) [1, 2] (by decide) rfl
  have hKc := hK.sub (tys' := []) [] rfl
  have hFc := va_free (wc := [(no, .inr (6, [.ref te, .ref nt, .ref nl, .ref ns, .ref np, .int 0, .int 0, .long 0, .int (-1), .int (-1)])), (ns, .inr (10, [.long 0, .long 0]))]) hD hS hA [1, 2] rfl
  refine va_calli (va_runV (As := [.int kd]) (rest := []) ⟨hx, hb, hml, hown, hts⟩ (c_X6_eligibleAt l dC dI no kd te nt nl ns np 0 s.heap.size) (cwV 1 hts (gi_V (fun w_ h0_ => ⟨List.mem_cons_of_mem _ (List.mem_append_right _ (List.mem_append_right _ (List.mem_append_left _ h0_))), (tb_c_X6_eligibleAt w_ h0_).2⟩) (List.mem_cons_of_mem _ (List.mem_append_left _ (List.mem_of_getElem? (i := 1) rfl))) (List.mem_cons_of_mem _ (List.mem_append_left _ (List.mem_of_getElem? (i := 2) rfl))) (List.mem_cons_of_mem _ (List.mem_append_left _ (List.mem_of_getElem? (i := 3) rfl))) (List.mem_cons_of_mem _ (List.mem_append_left _ (List.mem_of_getElem? (i := 4) rfl)))) rfl rfl rfl (by decide +kernel) ⟨Nat.le_of_ble_eq_true rfl, Nat.le_of_ble_eq_true rfl⟩) ⟨fun a U g mk q => by obtain ⟨q0, q1, qP, qK, qD⟩ := q; exact ⟨q0, q1, qP, va_K.moved (u := U) (U := U.calling g mk a) (Vm.Alike.refl U.vm) qK, qD⟩, va_recv hKc hPc (ci := 6) (q0 := 0) rfl rfl, fun U hU hW => ⟨rfl, by rw [hU], by rw [hU]; exact hPc, va_K.moved hW.alike hKc, hDc.weaken (fun _ _ _ _ => trivial)⟩⟩ rfl rfl hl.1 rfl (lv_room (Nat.le_of_ble_eq_true rfl)) dX11_earliest_5 ⟨Nat.le_of_ble_eq_true rfl, Nat.le_of_ble_eq_true rfl⟩) hS (fun q _ h => hFc q h) hFc (fun r_1 u t H1 locs ht hvm hw hB hz1 hk1 hS => ?_)
  obtain ⟨hP1, hK1, hD1⟩ := hB
  rw [ht] at hP1
  have hK1 := va_K.moved hvm.symm hK1
  obtain ⟨hP, hD⟩ := va_join (wr := [(h0, .inr (11, [.ref te, .ref ta, .ref re, .ref no, .ref pa, .ref ac, .ref op, .ref im, .ref ik, .ref hi, .ref rf, .int (-1)]))]) (w1 := [(no, .inr (6, [.ref te, .ref nt, .ref nl, .ref ns, .ref np, .int 0, .int 0, .long 0, .int (-1), .int (-1)])), (ns, .inr (10, [.long 0, .long 0]))]) hP hD [1, 2] [0] rfl rfl (by decide) (by decide) hk1 hFc hP1 hD1
  generalize H1 = H at hP hS ⊢
  have hP : va_P (dC, dI) vwCl [(h0, .inr (11, [.ref te, .ref ta, .ref re, .ref no, .ref pa, .ref ac, .ref op, .ref im, .ref ik, .ref hi, .ref rf, .int (-1)])), (no, .inr (6, [.ref te, .ref nt, .ref nl, .ref ns, .ref np, .int 0, .int 0, .long 0, .int (-1), .int (-1)])), (ns, .inr (10, [.long 0, .long 0]))] H := hP
  have hD : va_D A [(h0, .inr (11, [.ref te, .ref ta, .ref re, .ref no, .ref pa, .ref ac, .ref op, .ref im, .ref ik, .ref hi, .ref rf, .int (-1)])), (no, .inr (6, [.ref te, .ref nt, .ref nl, .ref ns, .ref np, .int 0, .int 0, .long 0, .int (-1), .int (-1)])), (ns, .inr (10, [.long 0, .long 0]))] := hD
  refine W.widen (k := 0) (n := 0) (Nat.le_of_ble_eq_true rfl) (Nat.le_of_ble_eq_true rfl) ?_
  have hw : r_1 = (-1) := hw
  subst hw
  have hP9 := hP.sub (ws' := []) [] rfl
  have hD9 := hD.sub (ws' := []) [] (by decide) rfl
  have hK9 := hK.sub (tys' := []) [] rfl
  refine W.widen (k := 0) (n := 0) (Nat.le_of_ble_eq_true rfl) (Nat.le_of_ble_eq_true rfl) ?_
  exact W.iret (v := (-1)) hx hb hr (fun t ht hW => ⟨⟨(-1), (), rfl, rfl, by rw [ht]; exact hP9, va_K.moved hW.alike hK9, hD9⟩, hS.F ht⟩) hS.2.2 dX11_earliest_8
def ow_c_X11_rank : List Cond := [.fieldLink RX11 37 "DeadlineShare" "now" "LDeadlineShare$State;", .methodLink RX11 130 yX6_has, .instanceMethod yX6_has, .selects RX6 yX6_has yX6_has, .initialized RX6]
def wq_c_X11_rank : List Cond := .code yX11_rank cX11_rank 2 (some .int) :: (ow_c_X11_rank ++ (u_ws RX11 TX11 12 ++ (wq_c_X6_has ++ ([] : List Cond))))
theorem tb_c_X11_rank : ∀ w ∈ wq_c_X11_rank, q_g w := by
  unfold wq_c_X11_rank ow_c_X11_rank
  exact q_cons tw_361 (q_app (q_cons tw_101 (q_cons tw_328 (q_cons tw_205 (q_cons tw_204 (q_cons tw_72 q_nil))))) (q_app tu_X11 (q_app tb_c_X6_has q_nil)))
set_option maxHeartbeats 4000000 in
set_option maxRecDepth 100000 in
theorem c_X11_rank (l : Launch) (dC : Nat → ClassId) (dI : Nat → Nat → Nat) (h0 : Nat) (tk : Int32) (te : Nat) (ta : Nat) (re : Nat) (no : Nat) (pa : Nat) (ac : Nat) (op : Nat) (im : Nat) (ik : Nat) (hi : Nat) (rf : Nat) (nt : Nat) (nl : Nat) (ns : Nat) (np : Nat) (sz : Nat) : Met l yX11_rank wq_c_X11_rank ({ frames := 1, cells := 0, slots := 0, locals := 21 } : Room) (va_Pc [.ref h0, .int tk] (fun U => U.heap.size = sz ∧ va_P (dC, dI) vwCl [(h0, .inr (11, [.ref te, .ref ta, .ref re, .ref no, .ref pa, .ref ac, .ref op, .ref im, .ref ik, .ref hi, .ref rf, .int (-1)])), (no, .inr (6, [.ref te, .ref nt, .ref nl, .ref ns, .ref np, .int 0, .int 0, .long 0, .int (-1), .int (-1)]))] U.heap ∧ va_K (dC, dI) vwCl [] U ∧ va_D (fun _ => True) [(h0, .inr (11, [.ref te, .ref ta, .ref re, .ref no, .ref pa, .ref ac, .ref op, .ref im, .ref ik, .ref hi, .ref rf, .int (-1)])), (no, .inr (6, [.ref te, .ref nt, .ref nl, .ref ns, .ref np, .int 0, .int 0, .long 0, .int (-1), .int (-1)]))])) (va_Qi (fun (r : Int32) (_ : Unit) => r = (-1)) (fun (_ : Unit) t => va_P (dC, dI) vwCl [] t.heap ∧ va_K (dC, dI) vwCl [] t ∧ va_D (va_A [(h0, .inr (11, [.ref te, .ref ta, .ref re, .ref no, .ref pa, .ref ac, .ref op, .ref im, .ref ik, .ref hi, .ref rf, .int (-1)])), (no, .inr (6, [.ref te, .ref nt, .ref nl, .ref ns, .ref np, .int 0, .int 0, .long 0, .int (-1), .int (-1)]))] sz) []) (va_A [(h0, .inr (11, [.ref te, .ref ta, .ref re, .ref no, .ref pa, .ref ac, .ref op, .ref im, .ref ik, .ref hi, .ref rf, .int (-1)])), (no, .inr (6, [.ref te, .ref nt, .ref nl, .ref ns, .ref np, .int 0, .int 0, .long 0, .int (-1), .int (-1)]))] sz)) 0 0 (va_A [(h0, .inr (11, [.ref te, .ref ta, .ref re, .ref no, .ref pa, .ref ac, .ref op, .ref im, .ref ik, .ref hi, .ref rf, .int (-1)])), (no, .inr (6, [.ref te, .ref nt, .ref nl, .ref ns, .ref np, .int 0, .int 0, .long 0, .int (-1), .int (-1)]))] sz) := by
  refine Met.ofW (cc := cX11_rank) (maxL := 2) (ret := (some .int)) (by decide) rfl ?_
  intro p e s m args below meth c s₁ B hml hv
  obtain ⟨rfl, hsz, hP, hK, hD0⟩ := hv
  have hx := B.exec
  have hb := B.bytes
  have hr := B.returns
  have hts := atoms_spec (ws := wq_c_X11_rank) B.pre
  have hown : s.vm.findClass RX11 = some m.cls := findClass_of_methodNamed B.named
  have hlocks := B.notSynchronized
  subst hsz
  have hD := hD0.self (sz := s.heap.size)
  obtain ⟨A, hAe⟩ : ∃ A, A = va_A [(h0, .inr (11, [.ref te, .ref ta, .ref re, .ref no, .ref pa, .ref ac, .ref op, .ref im, .ref ik, .ref hi, .ref rf, .int (-1)])), (no, .inr (6, [.ref te, .ref nt, .ref nl, .ref ns, .ref np, .int 0, .int 0, .long 0, .int (-1), .int (-1)]))] s.heap.size := ⟨_, rfl⟩
  rw [← hAe] at hD ⊢
  have hA : ∀ q : Nat, s.heap.size ≤ q → A q := fun q h => by rw [hAe]; exact Or.inr h
  have hS : va_S A s.heap s.heap [] := va_S.rf
  have hP : va_P (dC, dI) vwCl [(h0, .inr (11, [.ref te, .ref ta, .ref re, .ref no, .ref pa, .ref ac, .ref op, .ref im, .ref ik, .ref hi, .ref rf, .int (-1)])), (no, .inr (6, [.ref te, .ref nt, .ref nl, .ref ns, .ref np, .int 0, .int 0, .long 0, .int (-1), .int (-1)]))] s.heap := hP
  have hl := lv_entry ([.ref h0, .int tk]) (n := 2) (Nat.le_of_ble_eq_true rfl)
  rw [lg_entry_eq]
  generalize (lg_sl ([.ref h0, .int tk]) ++ List.replicate (2 - (lg_sl ([.ref h0, .int tk])).length) Slot.unset).toArray = ls at hl ⊢
  have hl : lv_has ls 2 [(0, .ref h0), (1, .int tk)] := hl
  refine lv_aload_n hx hb dX11_rank_0 rfl (lv_at hl 0 rfl) ?_
  refine va_get (D := (dC, dI)) (ci := 11) (v := .ref no) (C := RX11) (T := TX11) (N := 12) hx hb hts (fun _ h0_ => List.mem_cons_of_mem _ (List.mem_append_right _ (List.mem_append_left _ h0_))) hown hK hP 0 rfl rfl 3 (by decide) (hts (.fieldLink RX11 37 "DeadlineShare" "now" "LDeadlineShare$State;") (List.mem_cons_of_mem _ (List.mem_append_left _ (List.mem_of_getElem? (i := 0) rfl)))) (fun _ h9 => h9) rfl dX11_rank_1 ?_
  refine lv_iload_n hx hb dX11_rank_4 rfl (lv_at hl 1 rfl) ?_
  have hPc := hP.sub (ws' := [(no, .inr (6, [.ref te, .ref nt, .ref nl, .ref ns, .ref np, .int 0, .int 0, .long 0, .int (-1), .int (-1)]))]) [1] rfl
  have hDc := hD.sub (ws' := [(no, .inr (6, [.ref te, .ref nt, .ref nl, .ref ns, .ref np, .int 0, .int 0, .long 0, .int (-1), .int (-1)]))]) [1] (by decide) rfl
  have hKc := hK.sub (tys' := []) [] rfl
  have hFc := va_free (wc := [(no, .inr (6, [.ref te, .ref nt, .ref nl, .ref ns, .ref np, .int 0, .int 0, .long 0, .int (-1), .int (-1)]))]) hD hS hA [1] rfl
  refine va_calli (va_runV (As := [.int tk]) (rest := []) ⟨hx, hb, hml, hown, hts⟩ (c_X6_has l dC dI no tk te nt nl ns np 0 s.heap.size) (cwV 1 hts (gi_V (fun w_ h0_ => ⟨List.mem_cons_of_mem _ (List.mem_append_right _ (List.mem_append_right _ (List.mem_append_left _ h0_))), (tb_c_X6_has w_ h0_).2⟩) (List.mem_cons_of_mem _ (List.mem_append_left _ (List.mem_of_getElem? (i := 1) rfl))) (List.mem_cons_of_mem _ (List.mem_append_left _ (List.mem_of_getElem? (i := 2) rfl))) (List.mem_cons_of_mem _ (List.mem_append_left _ (List.mem_of_getElem? (i := 3) rfl))) (List.mem_cons_of_mem _ (List.mem_append_left _ (List.mem_of_getElem? (i := 4) rfl)))) rfl rfl rfl (by decide +kernel) ⟨Nat.le_of_ble_eq_true rfl, Nat.le_of_ble_eq_true rfl⟩) ⟨fun a U g mk q => by obtain ⟨q0, q1, qP, qK, qD⟩ := q; exact ⟨q0, q1, qP, va_K.moved (u := U) (U := U.calling g mk a) (Vm.Alike.refl U.vm) qK, qD⟩, va_recv hKc hPc (ci := 6) (q0 := 0) rfl rfl, fun U hU hW => ⟨rfl, by rw [hU], by rw [hU]; exact hPc, va_K.moved hW.alike hKc, hDc.weaken (fun _ _ _ _ => trivial)⟩⟩ rfl rfl hl.1 rfl (lv_room (Nat.le_of_ble_eq_true rfl)) dX11_rank_5 ⟨Nat.le_of_ble_eq_true rfl, Nat.le_of_ble_eq_true rfl⟩) hS (fun q _ h => hFc q h) hFc (fun r_1 u t H1 locs ht hvm hw hB hz1 hk1 hS => ?_)
  obtain ⟨hP1, hK1, hD1⟩ := hB
  rw [ht] at hP1
  have hK1 := va_K.moved hvm.symm hK1
  obtain ⟨hP, hD⟩ := va_join (wr := [(h0, .inr (11, [.ref te, .ref ta, .ref re, .ref no, .ref pa, .ref ac, .ref op, .ref im, .ref ik, .ref hi, .ref rf, .int (-1)]))]) (w1 := [(no, .inr (6, [.ref te, .ref nt, .ref nl, .ref ns, .ref np, .int 0, .int 0, .long 0, .int (-1), .int (-1)]))]) hP hD [1] [0] rfl rfl (by decide) (by decide) hk1 hFc hP1 hD1
  generalize H1 = H at hP hS ⊢
  have hP : va_P (dC, dI) vwCl [(h0, .inr (11, [.ref te, .ref ta, .ref re, .ref no, .ref pa, .ref ac, .ref op, .ref im, .ref ik, .ref hi, .ref rf, .int (-1)])), (no, .inr (6, [.ref te, .ref nt, .ref nl, .ref ns, .ref np, .int 0, .int 0, .long 0, .int (-1), .int (-1)]))] H := hP
  have hD : va_D A [(h0, .inr (11, [.ref te, .ref ta, .ref re, .ref no, .ref pa, .ref ac, .ref op, .ref im, .ref ik, .ref hi, .ref rf, .int (-1)])), (no, .inr (6, [.ref te, .ref nt, .ref nl, .ref ns, .ref np, .int 0, .int 0, .long 0, .int (-1), .int (-1)]))] := hD
  refine W.widen (k := 0) (n := 0) (Nat.le_of_ble_eq_true rfl) (Nat.le_of_ble_eq_true rfl) ?_
  have hw : r_1 = 0 := hw
  subst hw
  refine lv_if_eq (tgt := 45) hx hb dX11_rank_8 (by decide) (fun _ => ?_) (fun c => absurd (by decide) c)
  refine lv_iconst (v := (-1)) hx hb dX11_rank_45 (by decide) ?_
  have hP9 := hP.sub (ws' := []) [] rfl
  have hD9 := hD.sub (ws' := []) [] (by decide) rfl
  have hK9 := hK.sub (tys' := []) [] rfl
  refine W.widen (k := 0) (n := 0) (Nat.le_of_ble_eq_true rfl) (Nat.le_of_ble_eq_true rfl) ?_
  exact W.iret (v := (-1)) hx hb hr (fun t ht hW => ⟨⟨(-1), (), rfl, rfl, by rw [ht]; exact hP9, va_K.moved hW.alike hK9, hD9⟩, hS.F ht⟩) hS.2.2 dX11_rank_46
def ow_c_X11_ran : List Cond := [.fieldLink RX11 37 "DeadlineShare" "now" "LDeadlineShare$State;", .methodLink RX11 284 yX6_logHolds, .instanceMethod yX6_logHolds, .selects RX6 yX6_logHolds yX6_logHolds, .initialized RX6]
def wq_c_X11_ran : List Cond := .code yX11_ran cX11_ran 2 (some .int) :: (ow_c_X11_ran ++ (u_ws RX11 TX11 12 ++ (wq_c_X6_logHolds0 ++ ([] : List Cond))))
theorem tb_c_X11_ran : ∀ w ∈ wq_c_X11_ran, q_g w := by
  unfold wq_c_X11_ran ow_c_X11_ran
  exact q_cons tw_365 (q_app (q_cons tw_101 (q_cons tw_364 (q_cons tw_363 (q_cons tw_362 (q_cons tw_72 q_nil))))) (q_app tu_X11 (q_app tb_c_X6_logHolds0 q_nil)))
set_option maxHeartbeats 4000000 in
set_option maxRecDepth 100000 in
theorem c_X11_ran (l : Launch) (dC : Nat → ClassId) (dI : Nat → Nat → Nat) (h0 : Nat) (wh : Int32) (te : Nat) (ta : Nat) (re : Nat) (no : Nat) (pa : Nat) (ac : Nat) (op : Nat) (im : Nat) (ik : Nat) (hi : Nat) (rf : Nat) (nt : Nat) (nl : Nat) (ns : Nat) (np : Nat) (sz : Nat) : Met l yX11_ran wq_c_X11_ran ({ frames := 3, cells := 0, slots := 0, locals := 56 } : Room) (va_Pc [.ref h0, .int wh] (fun U => U.heap.size = sz ∧ va_P (dC, dI) vwCl [(h0, .inr (11, [.ref te, .ref ta, .ref re, .ref no, .ref pa, .ref ac, .ref op, .ref im, .ref ik, .ref hi, .ref rf, .int (-1)])), (no, .inr (6, [.ref te, .ref nt, .ref nl, .ref ns, .ref np, .int 0, .int 0, .long 0, .int (-1), .int (-1)]))] U.heap ∧ va_K (dC, dI) vwCl [] U ∧ va_D (fun _ => True) [(h0, .inr (11, [.ref te, .ref ta, .ref re, .ref no, .ref pa, .ref ac, .ref op, .ref im, .ref ik, .ref hi, .ref rf, .int (-1)])), (no, .inr (6, [.ref te, .ref nt, .ref nl, .ref ns, .ref np, .int 0, .int 0, .long 0, .int (-1), .int (-1)]))])) (va_Qi (fun (r : Int32) (_ : Unit) => r = (-1)) (fun (_ : Unit) t => va_P (dC, dI) vwCl [] t.heap ∧ va_K (dC, dI) vwCl [] t ∧ va_D (va_A [(h0, .inr (11, [.ref te, .ref ta, .ref re, .ref no, .ref pa, .ref ac, .ref op, .ref im, .ref ik, .ref hi, .ref rf, .int (-1)])), (no, .inr (6, [.ref te, .ref nt, .ref nl, .ref ns, .ref np, .int 0, .int 0, .long 0, .int (-1), .int (-1)]))] sz) []) (va_A [(h0, .inr (11, [.ref te, .ref ta, .ref re, .ref no, .ref pa, .ref ac, .ref op, .ref im, .ref ik, .ref hi, .ref rf, .int (-1)])), (no, .inr (6, [.ref te, .ref nt, .ref nl, .ref ns, .ref np, .int 0, .int 0, .long 0, .int (-1), .int (-1)]))] sz)) 0 0 (va_A [(h0, .inr (11, [.ref te, .ref ta, .ref re, .ref no, .ref pa, .ref ac, .ref op, .ref im, .ref ik, .ref hi, .ref rf, .int (-1)])), (no, .inr (6, [.ref te, .ref nt, .ref nl, .ref ns, .ref np, .int 0, .int 0, .long 0, .int (-1), .int (-1)]))] sz) := by
  refine Met.ofW (cc := cX11_ran) (maxL := 2) (ret := (some .int)) (by decide) rfl ?_
  intro p e s m args below meth c s₁ B hml hv
  obtain ⟨rfl, hsz, hP, hK, hD0⟩ := hv
  have hx := B.exec
  have hb := B.bytes
  have hr := B.returns
  have hts := atoms_spec (ws := wq_c_X11_ran) B.pre
  have hown : s.vm.findClass RX11 = some m.cls := findClass_of_methodNamed B.named
  have hlocks := B.notSynchronized
  subst hsz
  have hD := hD0.self (sz := s.heap.size)
  obtain ⟨A, hAe⟩ : ∃ A, A = va_A [(h0, .inr (11, [.ref te, .ref ta, .ref re, .ref no, .ref pa, .ref ac, .ref op, .ref im, .ref ik, .ref hi, .ref rf, .int (-1)])), (no, .inr (6, [.ref te, .ref nt, .ref nl, .ref ns, .ref np, .int 0, .int 0, .long 0, .int (-1), .int (-1)]))] s.heap.size := ⟨_, rfl⟩
  rw [← hAe] at hD ⊢
  have hA : ∀ q : Nat, s.heap.size ≤ q → A q := fun q h => by rw [hAe]; exact Or.inr h
  have hS : va_S A s.heap s.heap [] := va_S.rf
  have hP : va_P (dC, dI) vwCl [(h0, .inr (11, [.ref te, .ref ta, .ref re, .ref no, .ref pa, .ref ac, .ref op, .ref im, .ref ik, .ref hi, .ref rf, .int (-1)])), (no, .inr (6, [.ref te, .ref nt, .ref nl, .ref ns, .ref np, .int 0, .int 0, .long 0, .int (-1), .int (-1)]))] s.heap := hP
  have hl := lv_entry ([.ref h0, .int wh]) (n := 2) (Nat.le_of_ble_eq_true rfl)
  rw [lg_entry_eq]
  generalize (lg_sl ([.ref h0, .int wh]) ++ List.replicate (2 - (lg_sl ([.ref h0, .int wh])).length) Slot.unset).toArray = ls at hl ⊢
  have hl : lv_has ls 2 [(0, .ref h0), (1, .int wh)] := hl
  refine lv_aload_n hx hb dX11_ran_0 rfl (lv_at hl 0 rfl) ?_
  refine va_get (D := (dC, dI)) (ci := 11) (v := .ref no) (C := RX11) (T := TX11) (N := 12) hx hb hts (fun _ h0_ => List.mem_cons_of_mem _ (List.mem_append_right _ (List.mem_append_left _ h0_))) hown hK hP 0 rfl rfl 3 (by decide) (hts (.fieldLink RX11 37 "DeadlineShare" "now" "LDeadlineShare$State;") (List.mem_cons_of_mem _ (List.mem_append_left _ (List.mem_of_getElem? (i := 0) rfl)))) (fun _ h9 => h9) rfl dX11_ran_1 ?_
  refine lv_iload_n hx hb dX11_ran_4 rfl (lv_at hl 1 rfl) ?_
  have hPc := hP.sub (ws' := [(no, .inr (6, [.ref te, .ref nt, .ref nl, .ref ns, .ref np, .int 0, .int 0, .long 0, .int (-1), .int (-1)]))]) [1] rfl
  have hDc := hD.sub (ws' := [(no, .inr (6, [.ref te, .ref nt, .ref nl, .ref ns, .ref np, .int 0, .int 0, .long 0, .int (-1), .int (-1)]))]) [1] (by decide) rfl
  have hKc := hK.sub (tys' := []) [] rfl
  have hFc := va_free (wc := [(no, .inr (6, [.ref te, .ref nt, .ref nl, .ref ns, .ref np, .int 0, .int 0, .long 0, .int (-1), .int (-1)]))]) hD hS hA [1] rfl
  refine va_calli (va_runV (As := [.int wh]) (rest := []) ⟨hx, hb, hml, hown, hts⟩ (c_X6_logHolds0 l dC dI no wh te nt nl ns np s.heap.size) (cwV 1 hts (gi_V (fun w_ h0_ => ⟨List.mem_cons_of_mem _ (List.mem_append_right _ (List.mem_append_right _ (List.mem_append_left _ h0_))), (tb_c_X6_logHolds0 w_ h0_).2⟩) (List.mem_cons_of_mem _ (List.mem_append_left _ (List.mem_of_getElem? (i := 1) rfl))) (List.mem_cons_of_mem _ (List.mem_append_left _ (List.mem_of_getElem? (i := 2) rfl))) (List.mem_cons_of_mem _ (List.mem_append_left _ (List.mem_of_getElem? (i := 3) rfl))) (List.mem_cons_of_mem _ (List.mem_append_left _ (List.mem_of_getElem? (i := 4) rfl)))) rfl rfl rfl (by decide +kernel) ⟨Nat.le_of_ble_eq_true rfl, Nat.le_of_ble_eq_true rfl⟩) ⟨fun a U g mk q => by obtain ⟨q0, q1, qP, qK, qD⟩ := q; exact ⟨q0, q1, qP, va_K.moved (u := U) (U := U.calling g mk a) (Vm.Alike.refl U.vm) qK, qD⟩, va_recv hKc hPc (ci := 6) (q0 := 0) rfl rfl, fun U hU hW => ⟨rfl, by rw [hU], by rw [hU]; exact hPc, va_K.moved hW.alike hKc, hDc.weaken (fun _ _ _ _ => trivial)⟩⟩ rfl rfl hl.1 rfl (lv_room (Nat.le_of_ble_eq_true rfl)) dX11_ran_5 ⟨Nat.le_of_ble_eq_true rfl, Nat.le_of_ble_eq_true rfl⟩) hS (fun q _ h => hFc q h) hFc (fun r_1 u t H1 locs ht hvm hw hB hz1 hk1 hS => ?_)
  obtain ⟨hP1, hK1, hD1⟩ := hB
  rw [ht] at hP1
  have hK1 := va_K.moved hvm.symm hK1
  obtain ⟨hP, hD⟩ := va_join (wr := [(h0, .inr (11, [.ref te, .ref ta, .ref re, .ref no, .ref pa, .ref ac, .ref op, .ref im, .ref ik, .ref hi, .ref rf, .int (-1)]))]) (w1 := [(no, .inr (6, [.ref te, .ref nt, .ref nl, .ref ns, .ref np, .int 0, .int 0, .long 0, .int (-1), .int (-1)]))]) hP hD [1] [0] rfl rfl (by decide) (by decide) hk1 hFc hP1 hD1
  generalize H1 = H at hP hS ⊢
  have hP : va_P (dC, dI) vwCl [(h0, .inr (11, [.ref te, .ref ta, .ref re, .ref no, .ref pa, .ref ac, .ref op, .ref im, .ref ik, .ref hi, .ref rf, .int (-1)])), (no, .inr (6, [.ref te, .ref nt, .ref nl, .ref ns, .ref np, .int 0, .int 0, .long 0, .int (-1), .int (-1)]))] H := hP
  have hD : va_D A [(h0, .inr (11, [.ref te, .ref ta, .ref re, .ref no, .ref pa, .ref ac, .ref op, .ref im, .ref ik, .ref hi, .ref rf, .int (-1)])), (no, .inr (6, [.ref te, .ref nt, .ref nl, .ref ns, .ref np, .int 0, .int 0, .long 0, .int (-1), .int (-1)]))] := hD
  refine W.widen (k := 0) (n := 0) (Nat.le_of_ble_eq_true rfl) (Nat.le_of_ble_eq_true rfl) ?_
  have hw : r_1 = 0 := hw
  subst hw
  refine lv_if_eq (tgt := 25) hx hb dX11_ran_8 (by decide) (fun _ => ?_) (fun c => absurd (by decide) c)
  refine lv_iconst (v := (-1)) hx hb dX11_ran_25 (by decide) ?_
  have hP9 := hP.sub (ws' := []) [] rfl
  have hD9 := hD.sub (ws' := []) [] (by decide) rfl
  have hK9 := hK.sub (tys' := []) [] rfl
  refine W.widen (k := 0) (n := 0) (Nat.le_of_ble_eq_true rfl) (Nat.le_of_ble_eq_true rfl) ?_
  exact W.iret (v := (-1)) hx hb hr (fun t ht hW => ⟨⟨(-1), (), rfl, rfl, by rw [ht]; exact hP9, va_K.moved hW.alike hK9, hD9⟩, hS.F ht⟩) hS.2.2 dX11_ran_26
def ow_c_X11_service : List Cond := [.fieldLink RX11 37 "DeadlineShare" "now" "LDeadlineShare$State;", .methodLink RX11 130 yX6_has, .instanceMethod yX6_has, .selects RX6 yX6_has yX6_has, .initialized RX6]
def wq_c_X11_service : List Cond := .code yX11_service cX11_service 4 (some .int) :: (ow_c_X11_service ++ (u_ws RX11 TX11 12 ++ (wq_c_X6_has ++ ([] : List Cond))))
theorem tb_c_X11_service : ∀ w ∈ wq_c_X11_service, q_g w := by
  unfold wq_c_X11_service ow_c_X11_service
  exact q_cons tw_366 (q_app (q_cons tw_101 (q_cons tw_328 (q_cons tw_205 (q_cons tw_204 (q_cons tw_72 q_nil))))) (q_app tu_X11 (q_app tb_c_X6_has q_nil)))
set_option maxHeartbeats 4000000 in
set_option maxRecDepth 100000 in
theorem c_X11_service (l : Launch) (dC : Nat → ClassId) (dI : Nat → Nat → Nat) (h0 : Nat) (tk : Int32) (wa : Int32) (wb : Int32) (te : Nat) (ta : Nat) (re : Nat) (no : Nat) (pa : Nat) (ac : Nat) (op : Nat) (im : Nat) (ik : Nat) (hi : Nat) (rf : Nat) (nt : Nat) (nl : Nat) (ns : Nat) (np : Nat) (sz : Nat) : Met l yX11_service wq_c_X11_service ({ frames := 1, cells := 0, slots := 0, locals := 21 } : Room) (va_Pc [.ref h0, .int tk, .int wa, .int wb] (fun U => U.heap.size = sz ∧ va_P (dC, dI) vwCl [(h0, .inr (11, [.ref te, .ref ta, .ref re, .ref no, .ref pa, .ref ac, .ref op, .ref im, .ref ik, .ref hi, .ref rf, .int (-1)])), (no, .inr (6, [.ref te, .ref nt, .ref nl, .ref ns, .ref np, .int 0, .int 0, .long 0, .int (-1), .int (-1)]))] U.heap ∧ va_K (dC, dI) vwCl [] U ∧ va_D (fun _ => True) [(h0, .inr (11, [.ref te, .ref ta, .ref re, .ref no, .ref pa, .ref ac, .ref op, .ref im, .ref ik, .ref hi, .ref rf, .int (-1)])), (no, .inr (6, [.ref te, .ref nt, .ref nl, .ref ns, .ref np, .int 0, .int 0, .long 0, .int (-1), .int (-1)]))])) (va_Qi (fun (r : Int32) (_ : Unit) => r = (-1)) (fun (_ : Unit) t => va_P (dC, dI) vwCl [] t.heap ∧ va_K (dC, dI) vwCl [] t ∧ va_D (va_A [(h0, .inr (11, [.ref te, .ref ta, .ref re, .ref no, .ref pa, .ref ac, .ref op, .ref im, .ref ik, .ref hi, .ref rf, .int (-1)])), (no, .inr (6, [.ref te, .ref nt, .ref nl, .ref ns, .ref np, .int 0, .int 0, .long 0, .int (-1), .int (-1)]))] sz) []) (va_A [(h0, .inr (11, [.ref te, .ref ta, .ref re, .ref no, .ref pa, .ref ac, .ref op, .ref im, .ref ik, .ref hi, .ref rf, .int (-1)])), (no, .inr (6, [.ref te, .ref nt, .ref nl, .ref ns, .ref np, .int 0, .int 0, .long 0, .int (-1), .int (-1)]))] sz)) 0 0 (va_A [(h0, .inr (11, [.ref te, .ref ta, .ref re, .ref no, .ref pa, .ref ac, .ref op, .ref im, .ref ik, .ref hi, .ref rf, .int (-1)])), (no, .inr (6, [.ref te, .ref nt, .ref nl, .ref ns, .ref np, .int 0, .int 0, .long 0, .int (-1), .int (-1)]))] sz) := by
  refine Met.ofW (cc := cX11_service) (maxL := 4) (ret := (some .int)) (by decide) rfl ?_
  intro p e s m args below meth c s₁ B hml hv
  obtain ⟨rfl, hsz, hP, hK, hD0⟩ := hv
  have hx := B.exec
  have hb := B.bytes
  have hr := B.returns
  have hts := atoms_spec (ws := wq_c_X11_service) B.pre
  have hown : s.vm.findClass RX11 = some m.cls := findClass_of_methodNamed B.named
  have hlocks := B.notSynchronized
  subst hsz
  have hD := hD0.self (sz := s.heap.size)
  obtain ⟨A, hAe⟩ : ∃ A, A = va_A [(h0, .inr (11, [.ref te, .ref ta, .ref re, .ref no, .ref pa, .ref ac, .ref op, .ref im, .ref ik, .ref hi, .ref rf, .int (-1)])), (no, .inr (6, [.ref te, .ref nt, .ref nl, .ref ns, .ref np, .int 0, .int 0, .long 0, .int (-1), .int (-1)]))] s.heap.size := ⟨_, rfl⟩
  rw [← hAe] at hD ⊢
  have hA : ∀ q : Nat, s.heap.size ≤ q → A q := fun q h => by rw [hAe]; exact Or.inr h
  have hS : va_S A s.heap s.heap [] := va_S.rf
  have hP : va_P (dC, dI) vwCl [(h0, .inr (11, [.ref te, .ref ta, .ref re, .ref no, .ref pa, .ref ac, .ref op, .ref im, .ref ik, .ref hi, .ref rf, .int (-1)])), (no, .inr (6, [.ref te, .ref nt, .ref nl, .ref ns, .ref np, .int 0, .int 0, .long 0, .int (-1), .int (-1)]))] s.heap := hP
  have hl := lv_entry ([.ref h0, .int tk, .int wa, .int wb]) (n := 4) (Nat.le_of_ble_eq_true rfl)
  rw [lg_entry_eq]
  generalize (lg_sl ([.ref h0, .int tk, .int wa, .int wb]) ++ List.replicate (4 - (lg_sl ([.ref h0, .int tk, .int wa, .int wb])).length) Slot.unset).toArray = ls at hl ⊢
  have hl : lv_has ls 4 [(0, .ref h0), (1, .int tk), (2, .int wa), (3, .int wb)] := hl
  refine lv_aload_n hx hb dX11_service_0 rfl (lv_at hl 0 rfl) ?_
  refine va_get (D := (dC, dI)) (ci := 11) (v := .ref no) (C := RX11) (T := TX11) (N := 12) hx hb hts (fun _ h0_ => List.mem_cons_of_mem _ (List.mem_append_right _ (List.mem_append_left _ h0_))) hown hK hP 0 rfl rfl 3 (by decide) (hts (.fieldLink RX11 37 "DeadlineShare" "now" "LDeadlineShare$State;") (List.mem_cons_of_mem _ (List.mem_append_left _ (List.mem_of_getElem? (i := 0) rfl)))) (fun _ h9 => h9) rfl dX11_service_1 ?_
  refine lv_iload_n hx hb dX11_service_4 rfl (lv_at hl 1 rfl) ?_
  have hPc := hP.sub (ws' := [(no, .inr (6, [.ref te, .ref nt, .ref nl, .ref ns, .ref np, .int 0, .int 0, .long 0, .int (-1), .int (-1)]))]) [1] rfl
  have hDc := hD.sub (ws' := [(no, .inr (6, [.ref te, .ref nt, .ref nl, .ref ns, .ref np, .int 0, .int 0, .long 0, .int (-1), .int (-1)]))]) [1] (by decide) rfl
  have hKc := hK.sub (tys' := []) [] rfl
  have hFc := va_free (wc := [(no, .inr (6, [.ref te, .ref nt, .ref nl, .ref ns, .ref np, .int 0, .int 0, .long 0, .int (-1), .int (-1)]))]) hD hS hA [1] rfl
  refine va_calli (va_runV (As := [.int tk]) (rest := []) ⟨hx, hb, hml, hown, hts⟩ (c_X6_has l dC dI no tk te nt nl ns np 0 s.heap.size) (cwV 1 hts (gi_V (fun w_ h0_ => ⟨List.mem_cons_of_mem _ (List.mem_append_right _ (List.mem_append_right _ (List.mem_append_left _ h0_))), (tb_c_X6_has w_ h0_).2⟩) (List.mem_cons_of_mem _ (List.mem_append_left _ (List.mem_of_getElem? (i := 1) rfl))) (List.mem_cons_of_mem _ (List.mem_append_left _ (List.mem_of_getElem? (i := 2) rfl))) (List.mem_cons_of_mem _ (List.mem_append_left _ (List.mem_of_getElem? (i := 3) rfl))) (List.mem_cons_of_mem _ (List.mem_append_left _ (List.mem_of_getElem? (i := 4) rfl)))) rfl rfl rfl (by decide +kernel) ⟨Nat.le_of_ble_eq_true rfl, Nat.le_of_ble_eq_true rfl⟩) ⟨fun a U g mk q => by obtain ⟨q0, q1, qP, qK, qD⟩ := q; exact ⟨q0, q1, qP, va_K.moved (u := U) (U := U.calling g mk a) (Vm.Alike.refl U.vm) qK, qD⟩, va_recv hKc hPc (ci := 6) (q0 := 0) rfl rfl, fun U hU hW => ⟨rfl, by rw [hU], by rw [hU]; exact hPc, va_K.moved hW.alike hKc, hDc.weaken (fun _ _ _ _ => trivial)⟩⟩ rfl rfl hl.1 rfl (lv_room (Nat.le_of_ble_eq_true rfl)) dX11_service_5 ⟨Nat.le_of_ble_eq_true rfl, Nat.le_of_ble_eq_true rfl⟩) hS (fun q _ h => hFc q h) hFc (fun r_1 u t H1 locs ht hvm hw hB hz1 hk1 hS => ?_)
  obtain ⟨hP1, hK1, hD1⟩ := hB
  rw [ht] at hP1
  have hK1 := va_K.moved hvm.symm hK1
  obtain ⟨hP, hD⟩ := va_join (wr := [(h0, .inr (11, [.ref te, .ref ta, .ref re, .ref no, .ref pa, .ref ac, .ref op, .ref im, .ref ik, .ref hi, .ref rf, .int (-1)]))]) (w1 := [(no, .inr (6, [.ref te, .ref nt, .ref nl, .ref ns, .ref np, .int 0, .int 0, .long 0, .int (-1), .int (-1)]))]) hP hD [1] [0] rfl rfl (by decide) (by decide) hk1 hFc hP1 hD1
  generalize H1 = H at hP hS ⊢
  have hP : va_P (dC, dI) vwCl [(h0, .inr (11, [.ref te, .ref ta, .ref re, .ref no, .ref pa, .ref ac, .ref op, .ref im, .ref ik, .ref hi, .ref rf, .int (-1)])), (no, .inr (6, [.ref te, .ref nt, .ref nl, .ref ns, .ref np, .int 0, .int 0, .long 0, .int (-1), .int (-1)]))] H := hP
  have hD : va_D A [(h0, .inr (11, [.ref te, .ref ta, .ref re, .ref no, .ref pa, .ref ac, .ref op, .ref im, .ref ik, .ref hi, .ref rf, .int (-1)])), (no, .inr (6, [.ref te, .ref nt, .ref nl, .ref ns, .ref np, .int 0, .int 0, .long 0, .int (-1), .int (-1)]))] := hD
  refine W.widen (k := 0) (n := 0) (Nat.le_of_ble_eq_true rfl) (Nat.le_of_ble_eq_true rfl) ?_
  have hw : r_1 = 0 := hw
  subst hw
  refine lv_if_eq (tgt := 23) hx hb dX11_service_8 (by decide) (fun _ => ?_) (fun c => absurd (by decide) c)
  refine lv_iconst (v := (-1)) hx hb dX11_service_23 (by decide) ?_
  have hP9 := hP.sub (ws' := []) [] rfl
  have hD9 := hD.sub (ws' := []) [] (by decide) rfl
  have hK9 := hK.sub (tys' := []) [] rfl
  refine W.widen (k := 0) (n := 0) (Nat.le_of_ble_eq_true rfl) (Nat.le_of_ble_eq_true rfl) ?_
  exact W.iret (v := (-1)) hx hb hr (fun t ht hW => ⟨⟨(-1), (), rfl, rfl, by rw [ht]; exact hP9, va_K.moved hW.alike hK9, hD9⟩, hS.F ht⟩) hS.2.2 dX11_service_24
def ow_c_X11_share : List Cond := [.fieldLink RX11 37 "DeadlineShare" "now" "LDeadlineShare$State;", .methodLink RX11 130 yX6_has, .instanceMethod yX6_has, .selects RX6 yX6_has yX6_has, .initialized RX6, .constantLong RX11 245 (-9223372036854775808)]
def wq_c_X11_share : List Cond := .code yX11_share cX11_share 4 (some .long) :: (ow_c_X11_share ++ (u_ws RX11 TX11 12 ++ (wq_c_X6_has ++ ([] : List Cond))))
theorem tb_c_X11_share : ∀ w ∈ wq_c_X11_share, q_g w := by
  unfold wq_c_X11_share ow_c_X11_share
  exact q_cons tw_367 (q_app (q_cons tw_101 (q_cons tw_328 (q_cons tw_205 (q_cons tw_204 (q_cons tw_72 (q_cons tw_347 q_nil)))))) (q_app tu_X11 (q_app tb_c_X6_has q_nil)))
set_option maxHeartbeats 4000000 in
set_option maxRecDepth 100000 in
theorem c_X11_share (l : Launch) (dC : Nat → ClassId) (dI : Nat → Nat → Nat) (h0 : Nat) (tk : Int32) (wa : Int32) (wb : Int32) (te : Nat) (ta : Nat) (re : Nat) (no : Nat) (pa : Nat) (ac : Nat) (op : Nat) (im : Nat) (ik : Nat) (hi : Nat) (rf : Nat) (nt : Nat) (nl : Nat) (ns : Nat) (np : Nat) (sz : Nat) : Met l yX11_share wq_c_X11_share ({ frames := 1, cells := 0, slots := 0, locals := 21 } : Room) (va_Pc [.ref h0, .int tk, .int wa, .int wb] (fun U => U.heap.size = sz ∧ va_P (dC, dI) vwCl [(h0, .inr (11, [.ref te, .ref ta, .ref re, .ref no, .ref pa, .ref ac, .ref op, .ref im, .ref ik, .ref hi, .ref rf, .int (-1)])), (no, .inr (6, [.ref te, .ref nt, .ref nl, .ref ns, .ref np, .int 0, .int 0, .long 0, .int (-1), .int (-1)]))] U.heap ∧ va_K (dC, dI) vwCl [] U ∧ va_D (fun _ => True) [(h0, .inr (11, [.ref te, .ref ta, .ref re, .ref no, .ref pa, .ref ac, .ref op, .ref im, .ref ik, .ref hi, .ref rf, .int (-1)])), (no, .inr (6, [.ref te, .ref nt, .ref nl, .ref ns, .ref np, .int 0, .int 0, .long 0, .int (-1), .int (-1)]))])) (va_Ql (fun (r : Int64) (_ : Unit) => r = (-9223372036854775808)) (fun (_ : Unit) t => va_P (dC, dI) vwCl [] t.heap ∧ va_K (dC, dI) vwCl [] t ∧ va_D (va_A [(h0, .inr (11, [.ref te, .ref ta, .ref re, .ref no, .ref pa, .ref ac, .ref op, .ref im, .ref ik, .ref hi, .ref rf, .int (-1)])), (no, .inr (6, [.ref te, .ref nt, .ref nl, .ref ns, .ref np, .int 0, .int 0, .long 0, .int (-1), .int (-1)]))] sz) []) (va_A [(h0, .inr (11, [.ref te, .ref ta, .ref re, .ref no, .ref pa, .ref ac, .ref op, .ref im, .ref ik, .ref hi, .ref rf, .int (-1)])), (no, .inr (6, [.ref te, .ref nt, .ref nl, .ref ns, .ref np, .int 0, .int 0, .long 0, .int (-1), .int (-1)]))] sz)) 0 0 (va_A [(h0, .inr (11, [.ref te, .ref ta, .ref re, .ref no, .ref pa, .ref ac, .ref op, .ref im, .ref ik, .ref hi, .ref rf, .int (-1)])), (no, .inr (6, [.ref te, .ref nt, .ref nl, .ref ns, .ref np, .int 0, .int 0, .long 0, .int (-1), .int (-1)]))] sz) := by
  refine Met.ofW (cc := cX11_share) (maxL := 4) (ret := (some .long)) (by decide) rfl ?_
  intro p e s m args below meth c s₁ B hml hv
  obtain ⟨rfl, hsz, hP, hK, hD0⟩ := hv
  have hx := B.exec
  have hb := B.bytes
  have hr := B.returns
  have hts := atoms_spec (ws := wq_c_X11_share) B.pre
  have hown : s.vm.findClass RX11 = some m.cls := findClass_of_methodNamed B.named
  have hlocks := B.notSynchronized
  subst hsz
  have hD := hD0.self (sz := s.heap.size)
  obtain ⟨A, hAe⟩ : ∃ A, A = va_A [(h0, .inr (11, [.ref te, .ref ta, .ref re, .ref no, .ref pa, .ref ac, .ref op, .ref im, .ref ik, .ref hi, .ref rf, .int (-1)])), (no, .inr (6, [.ref te, .ref nt, .ref nl, .ref ns, .ref np, .int 0, .int 0, .long 0, .int (-1), .int (-1)]))] s.heap.size := ⟨_, rfl⟩
  rw [← hAe] at hD ⊢
  have hA : ∀ q : Nat, s.heap.size ≤ q → A q := fun q h => by rw [hAe]; exact Or.inr h
  have hS : va_S A s.heap s.heap [] := va_S.rf
  have hP : va_P (dC, dI) vwCl [(h0, .inr (11, [.ref te, .ref ta, .ref re, .ref no, .ref pa, .ref ac, .ref op, .ref im, .ref ik, .ref hi, .ref rf, .int (-1)])), (no, .inr (6, [.ref te, .ref nt, .ref nl, .ref ns, .ref np, .int 0, .int 0, .long 0, .int (-1), .int (-1)]))] s.heap := hP
  have hl := lv_entry ([.ref h0, .int tk, .int wa, .int wb]) (n := 4) (Nat.le_of_ble_eq_true rfl)
  rw [lg_entry_eq]
  generalize (lg_sl ([.ref h0, .int tk, .int wa, .int wb]) ++ List.replicate (4 - (lg_sl ([.ref h0, .int tk, .int wa, .int wb])).length) Slot.unset).toArray = ls at hl ⊢
  have hl : lv_has ls 4 [(0, .ref h0), (1, .int tk), (2, .int wa), (3, .int wb)] := hl
  refine lv_aload_n hx hb dX11_share_0 rfl (lv_at hl 0 rfl) ?_
  refine va_get (D := (dC, dI)) (ci := 11) (v := .ref no) (C := RX11) (T := TX11) (N := 12) hx hb hts (fun _ h0_ => List.mem_cons_of_mem _ (List.mem_append_right _ (List.mem_append_left _ h0_))) hown hK hP 0 rfl rfl 3 (by decide) (hts (.fieldLink RX11 37 "DeadlineShare" "now" "LDeadlineShare$State;") (List.mem_cons_of_mem _ (List.mem_append_left _ (List.mem_of_getElem? (i := 0) rfl)))) (fun _ h9 => h9) rfl dX11_share_1 ?_
  refine lv_iload_n hx hb dX11_share_4 rfl (lv_at hl 1 rfl) ?_
  have hPc := hP.sub (ws' := [(no, .inr (6, [.ref te, .ref nt, .ref nl, .ref ns, .ref np, .int 0, .int 0, .long 0, .int (-1), .int (-1)]))]) [1] rfl
  have hDc := hD.sub (ws' := [(no, .inr (6, [.ref te, .ref nt, .ref nl, .ref ns, .ref np, .int 0, .int 0, .long 0, .int (-1), .int (-1)]))]) [1] (by decide) rfl
  have hKc := hK.sub (tys' := []) [] rfl
  have hFc := va_free (wc := [(no, .inr (6, [.ref te, .ref nt, .ref nl, .ref ns, .ref np, .int 0, .int 0, .long 0, .int (-1), .int (-1)]))]) hD hS hA [1] rfl
  refine va_calli (va_runV (As := [.int tk]) (rest := []) ⟨hx, hb, hml, hown, hts⟩ (c_X6_has l dC dI no tk te nt nl ns np 0 s.heap.size) (cwV 1 hts (gi_V (fun w_ h0_ => ⟨List.mem_cons_of_mem _ (List.mem_append_right _ (List.mem_append_right _ (List.mem_append_left _ h0_))), (tb_c_X6_has w_ h0_).2⟩) (List.mem_cons_of_mem _ (List.mem_append_left _ (List.mem_of_getElem? (i := 1) rfl))) (List.mem_cons_of_mem _ (List.mem_append_left _ (List.mem_of_getElem? (i := 2) rfl))) (List.mem_cons_of_mem _ (List.mem_append_left _ (List.mem_of_getElem? (i := 3) rfl))) (List.mem_cons_of_mem _ (List.mem_append_left _ (List.mem_of_getElem? (i := 4) rfl)))) rfl rfl rfl (by decide +kernel) ⟨Nat.le_of_ble_eq_true rfl, Nat.le_of_ble_eq_true rfl⟩) ⟨fun a U g mk q => by obtain ⟨q0, q1, qP, qK, qD⟩ := q; exact ⟨q0, q1, qP, va_K.moved (u := U) (U := U.calling g mk a) (Vm.Alike.refl U.vm) qK, qD⟩, va_recv hKc hPc (ci := 6) (q0 := 0) rfl rfl, fun U hU hW => ⟨rfl, by rw [hU], by rw [hU]; exact hPc, va_K.moved hW.alike hKc, hDc.weaken (fun _ _ _ _ => trivial)⟩⟩ rfl rfl hl.1 rfl (lv_room (Nat.le_of_ble_eq_true rfl)) dX11_share_5 ⟨Nat.le_of_ble_eq_true rfl, Nat.le_of_ble_eq_true rfl⟩) hS (fun q _ h => hFc q h) hFc (fun r_1 u t H1 locs ht hvm hw hB hz1 hk1 hS => ?_)
  obtain ⟨hP1, hK1, hD1⟩ := hB
  rw [ht] at hP1
  have hK1 := va_K.moved hvm.symm hK1
  obtain ⟨hP, hD⟩ := va_join (wr := [(h0, .inr (11, [.ref te, .ref ta, .ref re, .ref no, .ref pa, .ref ac, .ref op, .ref im, .ref ik, .ref hi, .ref rf, .int (-1)]))]) (w1 := [(no, .inr (6, [.ref te, .ref nt, .ref nl, .ref ns, .ref np, .int 0, .int 0, .long 0, .int (-1), .int (-1)]))]) hP hD [1] [0] rfl rfl (by decide) (by decide) hk1 hFc hP1 hD1
  generalize H1 = H at hP hS ⊢
  have hP : va_P (dC, dI) vwCl [(h0, .inr (11, [.ref te, .ref ta, .ref re, .ref no, .ref pa, .ref ac, .ref op, .ref im, .ref ik, .ref hi, .ref rf, .int (-1)])), (no, .inr (6, [.ref te, .ref nt, .ref nl, .ref ns, .ref np, .int 0, .int 0, .long 0, .int (-1), .int (-1)]))] H := hP
  have hD : va_D A [(h0, .inr (11, [.ref te, .ref ta, .ref re, .ref no, .ref pa, .ref ac, .ref op, .ref im, .ref ik, .ref hi, .ref rf, .int (-1)])), (no, .inr (6, [.ref te, .ref nt, .ref nl, .ref ns, .ref np, .int 0, .int 0, .long 0, .int (-1), .int (-1)]))] := hD
  refine W.widen (k := 0) (n := 0) (Nat.le_of_ble_eq_true rfl) (Nat.le_of_ble_eq_true rfl) ?_
  have hw : r_1 = 0 := hw
  subst hw
  refine lv_if_eq (tgt := 23) hx hb dX11_share_8 (by decide) (fun _ => ?_) (fun c => absurd (by decide) c)
  refine lv_ldc2 hx hb hown (hts (.constantLong RX11 245 (-9223372036854775808)) (List.mem_cons_of_mem _ (List.mem_append_left _ (List.mem_of_getElem? (i := 5) rfl)))) dX11_share_23 ?_
  have hP9 := hP.sub (ws' := []) [] rfl
  have hD9 := hD.sub (ws' := []) [] (by decide) rfl
  have hK9 := hK.sub (tys' := []) [] rfl
  refine W.widen (k := 0) (n := 0) (Nat.le_of_ble_eq_true rfl) (Nat.le_of_ble_eq_true rfl) ?_
  exact W.lret (v := (-9223372036854775808)) hx hb hr (fun t ht hW => ⟨⟨(-9223372036854775808), (), rfl, rfl, by rw [ht]; exact hP9, va_K.moved hW.alike hK9, hD9⟩, hS.F ht⟩) hS.2.2 dX11_share_26
def ow_c_X11_worst : List Cond := [.fieldLink RX11 37 "DeadlineShare" "now" "LDeadlineShare$State;", .methodLink RX11 130 yX6_has, .instanceMethod yX6_has, .selects RX6 yX6_has yX6_has, .initialized RX6, .constantLong RX11 245 (-9223372036854775808)]
def wq_c_X11_worst : List Cond := .code yX11_worst cX11_worst 3 (some .long) :: (ow_c_X11_worst ++ (u_ws RX11 TX11 12 ++ (wq_c_X6_has ++ ([] : List Cond))))
theorem tb_c_X11_worst : ∀ w ∈ wq_c_X11_worst, q_g w := by
  unfold wq_c_X11_worst ow_c_X11_worst
  exact q_cons tw_368 (q_app (q_cons tw_101 (q_cons tw_328 (q_cons tw_205 (q_cons tw_204 (q_cons tw_72 (q_cons tw_347 q_nil)))))) (q_app tu_X11 (q_app tb_c_X6_has q_nil)))
set_option maxHeartbeats 4000000 in
set_option maxRecDepth 100000 in
theorem c_X11_worst (l : Launch) (dC : Nat → ClassId) (dI : Nat → Nat → Nat) (h0 : Nat) (tk : Int32) (wh : Int32) (te : Nat) (ta : Nat) (re : Nat) (no : Nat) (pa : Nat) (ac : Nat) (op : Nat) (im : Nat) (ik : Nat) (hi : Nat) (rf : Nat) (nt : Nat) (nl : Nat) (ns : Nat) (np : Nat) (sz : Nat) : Met l yX11_worst wq_c_X11_worst ({ frames := 1, cells := 0, slots := 0, locals := 21 } : Room) (va_Pc [.ref h0, .int tk, .int wh] (fun U => U.heap.size = sz ∧ va_P (dC, dI) vwCl [(h0, .inr (11, [.ref te, .ref ta, .ref re, .ref no, .ref pa, .ref ac, .ref op, .ref im, .ref ik, .ref hi, .ref rf, .int (-1)])), (no, .inr (6, [.ref te, .ref nt, .ref nl, .ref ns, .ref np, .int 0, .int 0, .long 0, .int (-1), .int (-1)]))] U.heap ∧ va_K (dC, dI) vwCl [] U ∧ va_D (fun _ => True) [(h0, .inr (11, [.ref te, .ref ta, .ref re, .ref no, .ref pa, .ref ac, .ref op, .ref im, .ref ik, .ref hi, .ref rf, .int (-1)])), (no, .inr (6, [.ref te, .ref nt, .ref nl, .ref ns, .ref np, .int 0, .int 0, .long 0, .int (-1), .int (-1)]))])) (va_Ql (fun (r : Int64) (_ : Unit) => r = (-9223372036854775808)) (fun (_ : Unit) t => va_P (dC, dI) vwCl [] t.heap ∧ va_K (dC, dI) vwCl [] t ∧ va_D (va_A [(h0, .inr (11, [.ref te, .ref ta, .ref re, .ref no, .ref pa, .ref ac, .ref op, .ref im, .ref ik, .ref hi, .ref rf, .int (-1)])), (no, .inr (6, [.ref te, .ref nt, .ref nl, .ref ns, .ref np, .int 0, .int 0, .long 0, .int (-1), .int (-1)]))] sz) []) (va_A [(h0, .inr (11, [.ref te, .ref ta, .ref re, .ref no, .ref pa, .ref ac, .ref op, .ref im, .ref ik, .ref hi, .ref rf, .int (-1)])), (no, .inr (6, [.ref te, .ref nt, .ref nl, .ref ns, .ref np, .int 0, .int 0, .long 0, .int (-1), .int (-1)]))] sz)) 0 0 (va_A [(h0, .inr (11, [.ref te, .ref ta, .ref re, .ref no, .ref pa, .ref ac, .ref op, .ref im, .ref ik, .ref hi, .ref rf, .int (-1)])), (no, .inr (6, [.ref te, .ref nt, .ref nl, .ref ns, .ref np, .int 0, .int 0, .long 0, .int (-1), .int (-1)]))] sz) := by
  refine Met.ofW (cc := cX11_worst) (maxL := 3) (ret := (some .long)) (by decide) rfl ?_
  intro p e s m args below meth c s₁ B hml hv
  obtain ⟨rfl, hsz, hP, hK, hD0⟩ := hv
  have hx := B.exec
  have hb := B.bytes
  have hr := B.returns
  have hts := atoms_spec (ws := wq_c_X11_worst) B.pre
  have hown : s.vm.findClass RX11 = some m.cls := findClass_of_methodNamed B.named
  have hlocks := B.notSynchronized
  subst hsz
  have hD := hD0.self (sz := s.heap.size)
  obtain ⟨A, hAe⟩ : ∃ A, A = va_A [(h0, .inr (11, [.ref te, .ref ta, .ref re, .ref no, .ref pa, .ref ac, .ref op, .ref im, .ref ik, .ref hi, .ref rf, .int (-1)])), (no, .inr (6, [.ref te, .ref nt, .ref nl, .ref ns, .ref np, .int 0, .int 0, .long 0, .int (-1), .int (-1)]))] s.heap.size := ⟨_, rfl⟩
  rw [← hAe] at hD ⊢
  have hA : ∀ q : Nat, s.heap.size ≤ q → A q := fun q h => by rw [hAe]; exact Or.inr h
  have hS : va_S A s.heap s.heap [] := va_S.rf
  have hP : va_P (dC, dI) vwCl [(h0, .inr (11, [.ref te, .ref ta, .ref re, .ref no, .ref pa, .ref ac, .ref op, .ref im, .ref ik, .ref hi, .ref rf, .int (-1)])), (no, .inr (6, [.ref te, .ref nt, .ref nl, .ref ns, .ref np, .int 0, .int 0, .long 0, .int (-1), .int (-1)]))] s.heap := hP
  have hl := lv_entry ([.ref h0, .int tk, .int wh]) (n := 3) (Nat.le_of_ble_eq_true rfl)
  rw [lg_entry_eq]
  generalize (lg_sl ([.ref h0, .int tk, .int wh]) ++ List.replicate (3 - (lg_sl ([.ref h0, .int tk, .int wh])).length) Slot.unset).toArray = ls at hl ⊢
  have hl : lv_has ls 3 [(0, .ref h0), (1, .int tk), (2, .int wh)] := hl
  refine lv_aload_n hx hb dX11_worst_0 rfl (lv_at hl 0 rfl) ?_
  refine va_get (D := (dC, dI)) (ci := 11) (v := .ref no) (C := RX11) (T := TX11) (N := 12) hx hb hts (fun _ h0_ => List.mem_cons_of_mem _ (List.mem_append_right _ (List.mem_append_left _ h0_))) hown hK hP 0 rfl rfl 3 (by decide) (hts (.fieldLink RX11 37 "DeadlineShare" "now" "LDeadlineShare$State;") (List.mem_cons_of_mem _ (List.mem_append_left _ (List.mem_of_getElem? (i := 0) rfl)))) (fun _ h9 => h9) rfl dX11_worst_1 ?_
  refine lv_iload_n hx hb dX11_worst_4 rfl (lv_at hl 1 rfl) ?_
  have hPc := hP.sub (ws' := [(no, .inr (6, [.ref te, .ref nt, .ref nl, .ref ns, .ref np, .int 0, .int 0, .long 0, .int (-1), .int (-1)]))]) [1] rfl
  have hDc := hD.sub (ws' := [(no, .inr (6, [.ref te, .ref nt, .ref nl, .ref ns, .ref np, .int 0, .int 0, .long 0, .int (-1), .int (-1)]))]) [1] (by decide) rfl
  have hKc := hK.sub (tys' := []) [] rfl
  have hFc := va_free (wc := [(no, .inr (6, [.ref te, .ref nt, .ref nl, .ref ns, .ref np, .int 0, .int 0, .long 0, .int (-1), .int (-1)]))]) hD hS hA [1] rfl
  refine va_calli (va_runV (As := [.int tk]) (rest := []) ⟨hx, hb, hml, hown, hts⟩ (c_X6_has l dC dI no tk te nt nl ns np 0 s.heap.size) (cwV 1 hts (gi_V (fun w_ h0_ => ⟨List.mem_cons_of_mem _ (List.mem_append_right _ (List.mem_append_right _ (List.mem_append_left _ h0_))), (tb_c_X6_has w_ h0_).2⟩) (List.mem_cons_of_mem _ (List.mem_append_left _ (List.mem_of_getElem? (i := 1) rfl))) (List.mem_cons_of_mem _ (List.mem_append_left _ (List.mem_of_getElem? (i := 2) rfl))) (List.mem_cons_of_mem _ (List.mem_append_left _ (List.mem_of_getElem? (i := 3) rfl))) (List.mem_cons_of_mem _ (List.mem_append_left _ (List.mem_of_getElem? (i := 4) rfl)))) rfl rfl rfl (by decide +kernel) ⟨Nat.le_of_ble_eq_true rfl, Nat.le_of_ble_eq_true rfl⟩) ⟨fun a U g mk q => by obtain ⟨q0, q1, qP, qK, qD⟩ := q; exact ⟨q0, q1, qP, va_K.moved (u := U) (U := U.calling g mk a) (Vm.Alike.refl U.vm) qK, qD⟩, va_recv hKc hPc (ci := 6) (q0 := 0) rfl rfl, fun U hU hW => ⟨rfl, by rw [hU], by rw [hU]; exact hPc, va_K.moved hW.alike hKc, hDc.weaken (fun _ _ _ _ => trivial)⟩⟩ rfl rfl hl.1 rfl (lv_room (Nat.le_of_ble_eq_true rfl)) dX11_worst_5 ⟨Nat.le_of_ble_eq_true rfl, Nat.le_of_ble_eq_true rfl⟩) hS (fun q _ h => hFc q h) hFc (fun r_1 u t H1 locs ht hvm hw hB hz1 hk1 hS => ?_)
  obtain ⟨hP1, hK1, hD1⟩ := hB
  rw [ht] at hP1
  have hK1 := va_K.moved hvm.symm hK1
  obtain ⟨hP, hD⟩ := va_join (wr := [(h0, .inr (11, [.ref te, .ref ta, .ref re, .ref no, .ref pa, .ref ac, .ref op, .ref im, .ref ik, .ref hi, .ref rf, .int (-1)]))]) (w1 := [(no, .inr (6, [.ref te, .ref nt, .ref nl, .ref ns, .ref np, .int 0, .int 0, .long 0, .int (-1), .int (-1)]))]) hP hD [1] [0] rfl rfl (by decide) (by decide) hk1 hFc hP1 hD1
  generalize H1 = H at hP hS ⊢
  have hP : va_P (dC, dI) vwCl [(h0, .inr (11, [.ref te, .ref ta, .ref re, .ref no, .ref pa, .ref ac, .ref op, .ref im, .ref ik, .ref hi, .ref rf, .int (-1)])), (no, .inr (6, [.ref te, .ref nt, .ref nl, .ref ns, .ref np, .int 0, .int 0, .long 0, .int (-1), .int (-1)]))] H := hP
  have hD : va_D A [(h0, .inr (11, [.ref te, .ref ta, .ref re, .ref no, .ref pa, .ref ac, .ref op, .ref im, .ref ik, .ref hi, .ref rf, .int (-1)])), (no, .inr (6, [.ref te, .ref nt, .ref nl, .ref ns, .ref np, .int 0, .int 0, .long 0, .int (-1), .int (-1)]))] := hD
  refine W.widen (k := 0) (n := 0) (Nat.le_of_ble_eq_true rfl) (Nat.le_of_ble_eq_true rfl) ?_
  have hw : r_1 = 0 := hw
  subst hw
  refine lv_if_eq (tgt := 20) hx hb dX11_worst_8 (by decide) (fun _ => ?_) (fun c => absurd (by decide) c)
  refine lv_ldc2 hx hb hown (hts (.constantLong RX11 245 (-9223372036854775808)) (List.mem_cons_of_mem _ (List.mem_append_left _ (List.mem_of_getElem? (i := 5) rfl)))) dX11_worst_20 ?_
  have hP9 := hP.sub (ws' := []) [] rfl
  have hD9 := hD.sub (ws' := []) [] (by decide) rfl
  have hK9 := hK.sub (tys' := []) [] rfl
  refine W.widen (k := 0) (n := 0) (Nat.le_of_ble_eq_true rfl) (Nat.le_of_ble_eq_true rfl) ?_
  exact W.lret (v := (-9223372036854775808)) hx hb hr (fun t ht hW => ⟨⟨(-9223372036854775808), (), rfl, rfl, by rw [ht]; exact hP9, va_K.moved hW.alike hK9, hD9⟩, hS.F ht⟩) hS.2.2 dX11_worst_23
def ow_c_X11_finish : List Cond := [.fieldLink RX11 37 "DeadlineShare" "now" "LDeadlineShare$State;", .methodLink RX11 130 yX6_has, .instanceMethod yX6_has, .selects RX6 yX6_has yX6_has, .initialized RX6]
def wq_c_X11_finish : List Cond := .code yX11_finish cX11_finish 4 (some .int) :: (ow_c_X11_finish ++ (u_ws RX11 TX11 12 ++ (wq_c_X6_has ++ ([] : List Cond))))
theorem tb_c_X11_finish : ∀ w ∈ wq_c_X11_finish, q_g w := by
  unfold wq_c_X11_finish ow_c_X11_finish
  exact q_cons tw_369 (q_app (q_cons tw_101 (q_cons tw_328 (q_cons tw_205 (q_cons tw_204 (q_cons tw_72 q_nil))))) (q_app tu_X11 (q_app tb_c_X6_has q_nil)))
set_option maxHeartbeats 4000000 in
set_option maxRecDepth 100000 in
theorem c_X11_finish (l : Launch) (dC : Nat → ClassId) (dI : Nat → Nat → Nat) (h0 : Nat) (tk : Int32) (te : Nat) (ta : Nat) (re : Nat) (no : Nat) (pa : Nat) (ac : Nat) (op : Nat) (im : Nat) (ik : Nat) (hi : Nat) (rf : Nat) (nt : Nat) (nl : Nat) (ns : Nat) (np : Nat) (sz : Nat) : Met l yX11_finish wq_c_X11_finish ({ frames := 1, cells := 0, slots := 0, locals := 21 } : Room) (va_Pc [.ref h0, .int tk] (fun U => U.heap.size = sz ∧ va_P (dC, dI) vwCl [(h0, .inr (11, [.ref te, .ref ta, .ref re, .ref no, .ref pa, .ref ac, .ref op, .ref im, .ref ik, .ref hi, .ref rf, .int (-1)])), (no, .inr (6, [.ref te, .ref nt, .ref nl, .ref ns, .ref np, .int 0, .int 0, .long 0, .int (-1), .int (-1)]))] U.heap ∧ va_K (dC, dI) vwCl [] U ∧ va_D (fun _ => True) [(h0, .inr (11, [.ref te, .ref ta, .ref re, .ref no, .ref pa, .ref ac, .ref op, .ref im, .ref ik, .ref hi, .ref rf, .int (-1)])), (no, .inr (6, [.ref te, .ref nt, .ref nl, .ref ns, .ref np, .int 0, .int 0, .long 0, .int (-1), .int (-1)]))])) (va_Qi (fun (r : Int32) (_ : Unit) => r = (-1)) (fun (_ : Unit) t => va_P (dC, dI) vwCl [] t.heap ∧ va_K (dC, dI) vwCl [] t ∧ va_D (va_A [(h0, .inr (11, [.ref te, .ref ta, .ref re, .ref no, .ref pa, .ref ac, .ref op, .ref im, .ref ik, .ref hi, .ref rf, .int (-1)])), (no, .inr (6, [.ref te, .ref nt, .ref nl, .ref ns, .ref np, .int 0, .int 0, .long 0, .int (-1), .int (-1)]))] sz) []) (va_A [(h0, .inr (11, [.ref te, .ref ta, .ref re, .ref no, .ref pa, .ref ac, .ref op, .ref im, .ref ik, .ref hi, .ref rf, .int (-1)])), (no, .inr (6, [.ref te, .ref nt, .ref nl, .ref ns, .ref np, .int 0, .int 0, .long 0, .int (-1), .int (-1)]))] sz)) 0 0 (va_A [(h0, .inr (11, [.ref te, .ref ta, .ref re, .ref no, .ref pa, .ref ac, .ref op, .ref im, .ref ik, .ref hi, .ref rf, .int (-1)])), (no, .inr (6, [.ref te, .ref nt, .ref nl, .ref ns, .ref np, .int 0, .int 0, .long 0, .int (-1), .int (-1)]))] sz) := by
  refine Met.ofW (cc := cX11_finish) (maxL := 4) (ret := (some .int)) (by decide) rfl ?_
  intro p e s m args below meth c s₁ B hml hv
  obtain ⟨rfl, hsz, hP, hK, hD0⟩ := hv
  have hx := B.exec
  have hb := B.bytes
  have hr := B.returns
  have hts := atoms_spec (ws := wq_c_X11_finish) B.pre
  have hown : s.vm.findClass RX11 = some m.cls := findClass_of_methodNamed B.named
  have hlocks := B.notSynchronized
  subst hsz
  have hD := hD0.self (sz := s.heap.size)
  obtain ⟨A, hAe⟩ : ∃ A, A = va_A [(h0, .inr (11, [.ref te, .ref ta, .ref re, .ref no, .ref pa, .ref ac, .ref op, .ref im, .ref ik, .ref hi, .ref rf, .int (-1)])), (no, .inr (6, [.ref te, .ref nt, .ref nl, .ref ns, .ref np, .int 0, .int 0, .long 0, .int (-1), .int (-1)]))] s.heap.size := ⟨_, rfl⟩
  rw [← hAe] at hD ⊢
  have hA : ∀ q : Nat, s.heap.size ≤ q → A q := fun q h => by rw [hAe]; exact Or.inr h
  have hS : va_S A s.heap s.heap [] := va_S.rf
  have hP : va_P (dC, dI) vwCl [(h0, .inr (11, [.ref te, .ref ta, .ref re, .ref no, .ref pa, .ref ac, .ref op, .ref im, .ref ik, .ref hi, .ref rf, .int (-1)])), (no, .inr (6, [.ref te, .ref nt, .ref nl, .ref ns, .ref np, .int 0, .int 0, .long 0, .int (-1), .int (-1)]))] s.heap := hP
  have hl := lv_entry ([.ref h0, .int tk]) (n := 4) (Nat.le_of_ble_eq_true rfl)
  rw [lg_entry_eq]
  generalize (lg_sl ([.ref h0, .int tk]) ++ List.replicate (4 - (lg_sl ([.ref h0, .int tk])).length) Slot.unset).toArray = ls at hl ⊢
  have hl : lv_has ls 4 [(0, .ref h0), (1, .int tk)] := hl
  refine lv_aload_n hx hb dX11_finish_0 rfl (lv_at hl 0 rfl) ?_
  refine va_get (D := (dC, dI)) (ci := 11) (v := .ref no) (C := RX11) (T := TX11) (N := 12) hx hb hts (fun _ h0_ => List.mem_cons_of_mem _ (List.mem_append_right _ (List.mem_append_left _ h0_))) hown hK hP 0 rfl rfl 3 (by decide) (hts (.fieldLink RX11 37 "DeadlineShare" "now" "LDeadlineShare$State;") (List.mem_cons_of_mem _ (List.mem_append_left _ (List.mem_of_getElem? (i := 0) rfl)))) (fun _ h9 => h9) rfl dX11_finish_1 ?_
  refine lv_iload_n hx hb dX11_finish_4 rfl (lv_at hl 1 rfl) ?_
  have hPc := hP.sub (ws' := [(no, .inr (6, [.ref te, .ref nt, .ref nl, .ref ns, .ref np, .int 0, .int 0, .long 0, .int (-1), .int (-1)]))]) [1] rfl
  have hDc := hD.sub (ws' := [(no, .inr (6, [.ref te, .ref nt, .ref nl, .ref ns, .ref np, .int 0, .int 0, .long 0, .int (-1), .int (-1)]))]) [1] (by decide) rfl
  have hKc := hK.sub (tys' := []) [] rfl
  have hFc := va_free (wc := [(no, .inr (6, [.ref te, .ref nt, .ref nl, .ref ns, .ref np, .int 0, .int 0, .long 0, .int (-1), .int (-1)]))]) hD hS hA [1] rfl
  refine va_calli (va_runV (As := [.int tk]) (rest := []) ⟨hx, hb, hml, hown, hts⟩ (c_X6_has l dC dI no tk te nt nl ns np 0 s.heap.size) (cwV 1 hts (gi_V (fun w_ h0_ => ⟨List.mem_cons_of_mem _ (List.mem_append_right _ (List.mem_append_right _ (List.mem_append_left _ h0_))), (tb_c_X6_has w_ h0_).2⟩) (List.mem_cons_of_mem _ (List.mem_append_left _ (List.mem_of_getElem? (i := 1) rfl))) (List.mem_cons_of_mem _ (List.mem_append_left _ (List.mem_of_getElem? (i := 2) rfl))) (List.mem_cons_of_mem _ (List.mem_append_left _ (List.mem_of_getElem? (i := 3) rfl))) (List.mem_cons_of_mem _ (List.mem_append_left _ (List.mem_of_getElem? (i := 4) rfl)))) rfl rfl rfl (by decide +kernel) ⟨Nat.le_of_ble_eq_true rfl, Nat.le_of_ble_eq_true rfl⟩) ⟨fun a U g mk q => by obtain ⟨q0, q1, qP, qK, qD⟩ := q; exact ⟨q0, q1, qP, va_K.moved (u := U) (U := U.calling g mk a) (Vm.Alike.refl U.vm) qK, qD⟩, va_recv hKc hPc (ci := 6) (q0 := 0) rfl rfl, fun U hU hW => ⟨rfl, by rw [hU], by rw [hU]; exact hPc, va_K.moved hW.alike hKc, hDc.weaken (fun _ _ _ _ => trivial)⟩⟩ rfl rfl hl.1 rfl (lv_room (Nat.le_of_ble_eq_true rfl)) dX11_finish_5 ⟨Nat.le_of_ble_eq_true rfl, Nat.le_of_ble_eq_true rfl⟩) hS (fun q _ h => hFc q h) hFc (fun r_1 u t H1 locs ht hvm hw hB hz1 hk1 hS => ?_)
  obtain ⟨hP1, hK1, hD1⟩ := hB
  rw [ht] at hP1
  have hK1 := va_K.moved hvm.symm hK1
  obtain ⟨hP, hD⟩ := va_join (wr := [(h0, .inr (11, [.ref te, .ref ta, .ref re, .ref no, .ref pa, .ref ac, .ref op, .ref im, .ref ik, .ref hi, .ref rf, .int (-1)]))]) (w1 := [(no, .inr (6, [.ref te, .ref nt, .ref nl, .ref ns, .ref np, .int 0, .int 0, .long 0, .int (-1), .int (-1)]))]) hP hD [1] [0] rfl rfl (by decide) (by decide) hk1 hFc hP1 hD1
  generalize H1 = H at hP hS ⊢
  have hP : va_P (dC, dI) vwCl [(h0, .inr (11, [.ref te, .ref ta, .ref re, .ref no, .ref pa, .ref ac, .ref op, .ref im, .ref ik, .ref hi, .ref rf, .int (-1)])), (no, .inr (6, [.ref te, .ref nt, .ref nl, .ref ns, .ref np, .int 0, .int 0, .long 0, .int (-1), .int (-1)]))] H := hP
  have hD : va_D A [(h0, .inr (11, [.ref te, .ref ta, .ref re, .ref no, .ref pa, .ref ac, .ref op, .ref im, .ref ik, .ref hi, .ref rf, .int (-1)])), (no, .inr (6, [.ref te, .ref nt, .ref nl, .ref ns, .ref np, .int 0, .int 0, .long 0, .int (-1), .int (-1)]))] := hD
  refine W.widen (k := 0) (n := 0) (Nat.le_of_ble_eq_true rfl) (Nat.le_of_ble_eq_true rfl) ?_
  have hw : r_1 = 0 := hw
  subst hw
  refine lv_if_eq (tgt := 29) hx hb dX11_finish_8 (by decide) (fun _ => ?_) (fun c => absurd (by decide) c)
  refine lv_iconst (v := (-1)) hx hb dX11_finish_29 (by decide) ?_
  have hP9 := hP.sub (ws' := []) [] rfl
  have hD9 := hD.sub (ws' := []) [] (by decide) rfl
  have hK9 := hK.sub (tys' := []) [] rfl
  refine W.widen (k := 0) (n := 0) (Nat.le_of_ble_eq_true rfl) (Nat.le_of_ble_eq_true rfl) ?_
  exact W.iret (v := (-1)) hx hb hr (fun t ht hW => ⟨⟨(-1), (), rfl, rfl, by rw [ht]; exact hP9, va_K.moved hW.alike hK9, hD9⟩, hS.F ht⟩) hS.2.2 dX11_finish_30
def ow_c_X11_due : List Cond := [.fieldLink RX11 37 "DeadlineShare" "now" "LDeadlineShare$State;", .methodLink RX11 130 yX6_has, .instanceMethod yX6_has, .selects RX6 yX6_has yX6_has, .initialized RX6]
def wq_c_X11_due : List Cond := .code yX11_due cX11_due 5 (some .int) :: (ow_c_X11_due ++ (u_ws RX11 TX11 12 ++ (wq_c_X6_has ++ ([] : List Cond))))
theorem tb_c_X11_due : ∀ w ∈ wq_c_X11_due, q_g w := by
  unfold wq_c_X11_due ow_c_X11_due
  exact q_cons tw_370 (q_app (q_cons tw_101 (q_cons tw_328 (q_cons tw_205 (q_cons tw_204 (q_cons tw_72 q_nil))))) (q_app tu_X11 (q_app tb_c_X6_has q_nil)))
set_option maxHeartbeats 4000000 in
set_option maxRecDepth 100000 in
theorem c_X11_due (l : Launch) (dC : Nat → ClassId) (dI : Nat → Nat → Nat) (h0 : Nat) (tk : Int32) (te : Nat) (ta : Nat) (re : Nat) (no : Nat) (pa : Nat) (ac : Nat) (op : Nat) (im : Nat) (ik : Nat) (hi : Nat) (rf : Nat) (nt : Nat) (nl : Nat) (ns : Nat) (np : Nat) (sz : Nat) : Met l yX11_due wq_c_X11_due ({ frames := 1, cells := 0, slots := 0, locals := 21 } : Room) (va_Pc [.ref h0, .int tk] (fun U => U.heap.size = sz ∧ va_P (dC, dI) vwCl [(h0, .inr (11, [.ref te, .ref ta, .ref re, .ref no, .ref pa, .ref ac, .ref op, .ref im, .ref ik, .ref hi, .ref rf, .int (-1)])), (no, .inr (6, [.ref te, .ref nt, .ref nl, .ref ns, .ref np, .int 0, .int 0, .long 0, .int (-1), .int (-1)]))] U.heap ∧ va_K (dC, dI) vwCl [] U ∧ va_D (fun _ => True) [(h0, .inr (11, [.ref te, .ref ta, .ref re, .ref no, .ref pa, .ref ac, .ref op, .ref im, .ref ik, .ref hi, .ref rf, .int (-1)])), (no, .inr (6, [.ref te, .ref nt, .ref nl, .ref ns, .ref np, .int 0, .int 0, .long 0, .int (-1), .int (-1)]))])) (va_Qi (fun (r : Int32) (_ : Unit) => r = (-1)) (fun (_ : Unit) t => va_P (dC, dI) vwCl [] t.heap ∧ va_K (dC, dI) vwCl [] t ∧ va_D (va_A [(h0, .inr (11, [.ref te, .ref ta, .ref re, .ref no, .ref pa, .ref ac, .ref op, .ref im, .ref ik, .ref hi, .ref rf, .int (-1)])), (no, .inr (6, [.ref te, .ref nt, .ref nl, .ref ns, .ref np, .int 0, .int 0, .long 0, .int (-1), .int (-1)]))] sz) []) (va_A [(h0, .inr (11, [.ref te, .ref ta, .ref re, .ref no, .ref pa, .ref ac, .ref op, .ref im, .ref ik, .ref hi, .ref rf, .int (-1)])), (no, .inr (6, [.ref te, .ref nt, .ref nl, .ref ns, .ref np, .int 0, .int 0, .long 0, .int (-1), .int (-1)]))] sz)) 0 0 (va_A [(h0, .inr (11, [.ref te, .ref ta, .ref re, .ref no, .ref pa, .ref ac, .ref op, .ref im, .ref ik, .ref hi, .ref rf, .int (-1)])), (no, .inr (6, [.ref te, .ref nt, .ref nl, .ref ns, .ref np, .int 0, .int 0, .long 0, .int (-1), .int (-1)]))] sz) := by
  refine Met.ofW (cc := cX11_due) (maxL := 5) (ret := (some .int)) (by decide) rfl ?_
  intro p e s m args below meth c s₁ B hml hv
  obtain ⟨rfl, hsz, hP, hK, hD0⟩ := hv
  have hx := B.exec
  have hb := B.bytes
  have hr := B.returns
  have hts := atoms_spec (ws := wq_c_X11_due) B.pre
  have hown : s.vm.findClass RX11 = some m.cls := findClass_of_methodNamed B.named
  have hlocks := B.notSynchronized
  subst hsz
  have hD := hD0.self (sz := s.heap.size)
  obtain ⟨A, hAe⟩ : ∃ A, A = va_A [(h0, .inr (11, [.ref te, .ref ta, .ref re, .ref no, .ref pa, .ref ac, .ref op, .ref im, .ref ik, .ref hi, .ref rf, .int (-1)])), (no, .inr (6, [.ref te, .ref nt, .ref nl, .ref ns, .ref np, .int 0, .int 0, .long 0, .int (-1), .int (-1)]))] s.heap.size := ⟨_, rfl⟩
  rw [← hAe] at hD ⊢
  have hA : ∀ q : Nat, s.heap.size ≤ q → A q := fun q h => by rw [hAe]; exact Or.inr h
  have hS : va_S A s.heap s.heap [] := va_S.rf
  have hP : va_P (dC, dI) vwCl [(h0, .inr (11, [.ref te, .ref ta, .ref re, .ref no, .ref pa, .ref ac, .ref op, .ref im, .ref ik, .ref hi, .ref rf, .int (-1)])), (no, .inr (6, [.ref te, .ref nt, .ref nl, .ref ns, .ref np, .int 0, .int 0, .long 0, .int (-1), .int (-1)]))] s.heap := hP
  have hl := lv_entry ([.ref h0, .int tk]) (n := 5) (Nat.le_of_ble_eq_true rfl)
  rw [lg_entry_eq]
  generalize (lg_sl ([.ref h0, .int tk]) ++ List.replicate (5 - (lg_sl ([.ref h0, .int tk])).length) Slot.unset).toArray = ls at hl ⊢
  have hl : lv_has ls 5 [(0, .ref h0), (1, .int tk)] := hl
  refine lv_aload_n hx hb dX11_due_0 rfl (lv_at hl 0 rfl) ?_
  refine va_get (D := (dC, dI)) (ci := 11) (v := .ref no) (C := RX11) (T := TX11) (N := 12) hx hb hts (fun _ h0_ => List.mem_cons_of_mem _ (List.mem_append_right _ (List.mem_append_left _ h0_))) hown hK hP 0 rfl rfl 3 (by decide) (hts (.fieldLink RX11 37 "DeadlineShare" "now" "LDeadlineShare$State;") (List.mem_cons_of_mem _ (List.mem_append_left _ (List.mem_of_getElem? (i := 0) rfl)))) (fun _ h9 => h9) rfl dX11_due_1 ?_
  refine lv_iload_n hx hb dX11_due_4 rfl (lv_at hl 1 rfl) ?_
  have hPc := hP.sub (ws' := [(no, .inr (6, [.ref te, .ref nt, .ref nl, .ref ns, .ref np, .int 0, .int 0, .long 0, .int (-1), .int (-1)]))]) [1] rfl
  have hDc := hD.sub (ws' := [(no, .inr (6, [.ref te, .ref nt, .ref nl, .ref ns, .ref np, .int 0, .int 0, .long 0, .int (-1), .int (-1)]))]) [1] (by decide) rfl
  have hKc := hK.sub (tys' := []) [] rfl
  have hFc := va_free (wc := [(no, .inr (6, [.ref te, .ref nt, .ref nl, .ref ns, .ref np, .int 0, .int 0, .long 0, .int (-1), .int (-1)]))]) hD hS hA [1] rfl
  refine va_calli (va_runV (As := [.int tk]) (rest := []) ⟨hx, hb, hml, hown, hts⟩ (c_X6_has l dC dI no tk te nt nl ns np 0 s.heap.size) (cwV 1 hts (gi_V (fun w_ h0_ => ⟨List.mem_cons_of_mem _ (List.mem_append_right _ (List.mem_append_right _ (List.mem_append_left _ h0_))), (tb_c_X6_has w_ h0_).2⟩) (List.mem_cons_of_mem _ (List.mem_append_left _ (List.mem_of_getElem? (i := 1) rfl))) (List.mem_cons_of_mem _ (List.mem_append_left _ (List.mem_of_getElem? (i := 2) rfl))) (List.mem_cons_of_mem _ (List.mem_append_left _ (List.mem_of_getElem? (i := 3) rfl))) (List.mem_cons_of_mem _ (List.mem_append_left _ (List.mem_of_getElem? (i := 4) rfl)))) rfl rfl rfl (by decide +kernel) ⟨Nat.le_of_ble_eq_true rfl, Nat.le_of_ble_eq_true rfl⟩) ⟨fun a U g mk q => by obtain ⟨q0, q1, qP, qK, qD⟩ := q; exact ⟨q0, q1, qP, va_K.moved (u := U) (U := U.calling g mk a) (Vm.Alike.refl U.vm) qK, qD⟩, va_recv hKc hPc (ci := 6) (q0 := 0) rfl rfl, fun U hU hW => ⟨rfl, by rw [hU], by rw [hU]; exact hPc, va_K.moved hW.alike hKc, hDc.weaken (fun _ _ _ _ => trivial)⟩⟩ rfl rfl hl.1 rfl (lv_room (Nat.le_of_ble_eq_true rfl)) dX11_due_5 ⟨Nat.le_of_ble_eq_true rfl, Nat.le_of_ble_eq_true rfl⟩) hS (fun q _ h => hFc q h) hFc (fun r_1 u t H1 locs ht hvm hw hB hz1 hk1 hS => ?_)
  obtain ⟨hP1, hK1, hD1⟩ := hB
  rw [ht] at hP1
  have hK1 := va_K.moved hvm.symm hK1
  obtain ⟨hP, hD⟩ := va_join (wr := [(h0, .inr (11, [.ref te, .ref ta, .ref re, .ref no, .ref pa, .ref ac, .ref op, .ref im, .ref ik, .ref hi, .ref rf, .int (-1)]))]) (w1 := [(no, .inr (6, [.ref te, .ref nt, .ref nl, .ref ns, .ref np, .int 0, .int 0, .long 0, .int (-1), .int (-1)]))]) hP hD [1] [0] rfl rfl (by decide) (by decide) hk1 hFc hP1 hD1
  generalize H1 = H at hP hS ⊢
  have hP : va_P (dC, dI) vwCl [(h0, .inr (11, [.ref te, .ref ta, .ref re, .ref no, .ref pa, .ref ac, .ref op, .ref im, .ref ik, .ref hi, .ref rf, .int (-1)])), (no, .inr (6, [.ref te, .ref nt, .ref nl, .ref ns, .ref np, .int 0, .int 0, .long 0, .int (-1), .int (-1)]))] H := hP
  have hD : va_D A [(h0, .inr (11, [.ref te, .ref ta, .ref re, .ref no, .ref pa, .ref ac, .ref op, .ref im, .ref ik, .ref hi, .ref rf, .int (-1)])), (no, .inr (6, [.ref te, .ref nt, .ref nl, .ref ns, .ref np, .int 0, .int 0, .long 0, .int (-1), .int (-1)]))] := hD
  refine W.widen (k := 0) (n := 0) (Nat.le_of_ble_eq_true rfl) (Nat.le_of_ble_eq_true rfl) ?_
  have hw : r_1 = 0 := hw
  subst hw
  refine lv_if_ne (tgt := 13) hx hb dX11_due_8 (by decide) (fun c => absurd c (by decide)) (fun _ => ?_)
  refine lv_iconst (v := (-1)) hx hb dX11_due_11 (by decide) ?_
  have hP9 := hP.sub (ws' := []) [] rfl
  have hD9 := hD.sub (ws' := []) [] (by decide) rfl
  have hK9 := hK.sub (tys' := []) [] rfl
  refine W.widen (k := 0) (n := 0) (Nat.le_of_ble_eq_true rfl) (Nat.le_of_ble_eq_true rfl) ?_
  exact W.iret (v := (-1)) hx hb hr (fun t ht hW => ⟨⟨(-1), (), rfl, rfl, by rw [ht]; exact hP9, va_K.moved hW.alike hK9, hD9⟩, hS.F ht⟩) hS.2.2 dX11_due_12
def ow_c_X11_least : List Cond := [.fieldLink RX11 37 "DeadlineShare" "now" "LDeadlineShare$State;", .methodLink RX11 130 yX6_has, .instanceMethod yX6_has, .selects RX6 yX6_has yX6_has, .initialized RX6]
def wq_c_X11_least : List Cond := .code yX11_least cX11_least 5 (some .int) :: (ow_c_X11_least ++ (u_ws RX11 TX11 12 ++ (wq_c_X6_has ++ ([] : List Cond))))
theorem tb_c_X11_least : ∀ w ∈ wq_c_X11_least, q_g w := by
  unfold wq_c_X11_least ow_c_X11_least
  exact q_cons tw_371 (q_app (q_cons tw_101 (q_cons tw_328 (q_cons tw_205 (q_cons tw_204 (q_cons tw_72 q_nil))))) (q_app tu_X11 (q_app tb_c_X6_has q_nil)))
set_option maxHeartbeats 4000000 in
set_option maxRecDepth 100000 in
theorem c_X11_least (l : Launch) (dC : Nat → ClassId) (dI : Nat → Nat → Nat) (h0 : Nat) (tk : Int32) (nw : Int32) (mw : Int32) (te : Nat) (ta : Nat) (re : Nat) (no : Nat) (pa : Nat) (ac : Nat) (op : Nat) (im : Nat) (ik : Nat) (hi : Nat) (rf : Nat) (nt : Nat) (nl : Nat) (ns : Nat) (np : Nat) (sz : Nat) : Met l yX11_least wq_c_X11_least ({ frames := 1, cells := 0, slots := 0, locals := 21 } : Room) (va_Pc [.ref h0, .int tk, .int nw, .int mw] (fun U => U.heap.size = sz ∧ va_P (dC, dI) vwCl [(h0, .inr (11, [.ref te, .ref ta, .ref re, .ref no, .ref pa, .ref ac, .ref op, .ref im, .ref ik, .ref hi, .ref rf, .int (-1)])), (no, .inr (6, [.ref te, .ref nt, .ref nl, .ref ns, .ref np, .int 0, .int 0, .long 0, .int (-1), .int (-1)]))] U.heap ∧ va_K (dC, dI) vwCl [] U ∧ va_D (fun _ => True) [(h0, .inr (11, [.ref te, .ref ta, .ref re, .ref no, .ref pa, .ref ac, .ref op, .ref im, .ref ik, .ref hi, .ref rf, .int (-1)])), (no, .inr (6, [.ref te, .ref nt, .ref nl, .ref ns, .ref np, .int 0, .int 0, .long 0, .int (-1), .int (-1)]))])) (va_Qi (fun (r : Int32) (_ : Unit) => r = (-1)) (fun (_ : Unit) t => va_P (dC, dI) vwCl [] t.heap ∧ va_K (dC, dI) vwCl [] t ∧ va_D (va_A [(h0, .inr (11, [.ref te, .ref ta, .ref re, .ref no, .ref pa, .ref ac, .ref op, .ref im, .ref ik, .ref hi, .ref rf, .int (-1)])), (no, .inr (6, [.ref te, .ref nt, .ref nl, .ref ns, .ref np, .int 0, .int 0, .long 0, .int (-1), .int (-1)]))] sz) []) (va_A [(h0, .inr (11, [.ref te, .ref ta, .ref re, .ref no, .ref pa, .ref ac, .ref op, .ref im, .ref ik, .ref hi, .ref rf, .int (-1)])), (no, .inr (6, [.ref te, .ref nt, .ref nl, .ref ns, .ref np, .int 0, .int 0, .long 0, .int (-1), .int (-1)]))] sz)) 0 0 (va_A [(h0, .inr (11, [.ref te, .ref ta, .ref re, .ref no, .ref pa, .ref ac, .ref op, .ref im, .ref ik, .ref hi, .ref rf, .int (-1)])), (no, .inr (6, [.ref te, .ref nt, .ref nl, .ref ns, .ref np, .int 0, .int 0, .long 0, .int (-1), .int (-1)]))] sz) := by
  refine Met.ofW (cc := cX11_least) (maxL := 5) (ret := (some .int)) (by decide) rfl ?_
  intro p e s m args below meth c s₁ B hml hv
  obtain ⟨rfl, hsz, hP, hK, hD0⟩ := hv
  have hx := B.exec
  have hb := B.bytes
  have hr := B.returns
  have hts := atoms_spec (ws := wq_c_X11_least) B.pre
  have hown : s.vm.findClass RX11 = some m.cls := findClass_of_methodNamed B.named
  have hlocks := B.notSynchronized
  subst hsz
  have hD := hD0.self (sz := s.heap.size)
  obtain ⟨A, hAe⟩ : ∃ A, A = va_A [(h0, .inr (11, [.ref te, .ref ta, .ref re, .ref no, .ref pa, .ref ac, .ref op, .ref im, .ref ik, .ref hi, .ref rf, .int (-1)])), (no, .inr (6, [.ref te, .ref nt, .ref nl, .ref ns, .ref np, .int 0, .int 0, .long 0, .int (-1), .int (-1)]))] s.heap.size := ⟨_, rfl⟩
  rw [← hAe] at hD ⊢
  have hA : ∀ q : Nat, s.heap.size ≤ q → A q := fun q h => by rw [hAe]; exact Or.inr h
  have hS : va_S A s.heap s.heap [] := va_S.rf
  have hP : va_P (dC, dI) vwCl [(h0, .inr (11, [.ref te, .ref ta, .ref re, .ref no, .ref pa, .ref ac, .ref op, .ref im, .ref ik, .ref hi, .ref rf, .int (-1)])), (no, .inr (6, [.ref te, .ref nt, .ref nl, .ref ns, .ref np, .int 0, .int 0, .long 0, .int (-1), .int (-1)]))] s.heap := hP
  have hl := lv_entry ([.ref h0, .int tk, .int nw, .int mw]) (n := 5) (Nat.le_of_ble_eq_true rfl)
  rw [lg_entry_eq]
  generalize (lg_sl ([.ref h0, .int tk, .int nw, .int mw]) ++ List.replicate (5 - (lg_sl ([.ref h0, .int tk, .int nw, .int mw])).length) Slot.unset).toArray = ls at hl ⊢
  have hl : lv_has ls 5 [(0, .ref h0), (1, .int tk), (2, .int nw), (3, .int mw)] := hl
  refine lv_aload_n hx hb dX11_least_0 rfl (lv_at hl 0 rfl) ?_
  refine va_get (D := (dC, dI)) (ci := 11) (v := .ref no) (C := RX11) (T := TX11) (N := 12) hx hb hts (fun _ h0_ => List.mem_cons_of_mem _ (List.mem_append_right _ (List.mem_append_left _ h0_))) hown hK hP 0 rfl rfl 3 (by decide) (hts (.fieldLink RX11 37 "DeadlineShare" "now" "LDeadlineShare$State;") (List.mem_cons_of_mem _ (List.mem_append_left _ (List.mem_of_getElem? (i := 0) rfl)))) (fun _ h9 => h9) rfl dX11_least_1 ?_
  refine lv_iload_n hx hb dX11_least_4 rfl (lv_at hl 1 rfl) ?_
  have hPc := hP.sub (ws' := [(no, .inr (6, [.ref te, .ref nt, .ref nl, .ref ns, .ref np, .int 0, .int 0, .long 0, .int (-1), .int (-1)]))]) [1] rfl
  have hDc := hD.sub (ws' := [(no, .inr (6, [.ref te, .ref nt, .ref nl, .ref ns, .ref np, .int 0, .int 0, .long 0, .int (-1), .int (-1)]))]) [1] (by decide) rfl
  have hKc := hK.sub (tys' := []) [] rfl
  have hFc := va_free (wc := [(no, .inr (6, [.ref te, .ref nt, .ref nl, .ref ns, .ref np, .int 0, .int 0, .long 0, .int (-1), .int (-1)]))]) hD hS hA [1] rfl
  refine va_calli (va_runV (As := [.int tk]) (rest := []) ⟨hx, hb, hml, hown, hts⟩ (c_X6_has l dC dI no tk te nt nl ns np 0 s.heap.size) (cwV 1 hts (gi_V (fun w_ h0_ => ⟨List.mem_cons_of_mem _ (List.mem_append_right _ (List.mem_append_right _ (List.mem_append_left _ h0_))), (tb_c_X6_has w_ h0_).2⟩) (List.mem_cons_of_mem _ (List.mem_append_left _ (List.mem_of_getElem? (i := 1) rfl))) (List.mem_cons_of_mem _ (List.mem_append_left _ (List.mem_of_getElem? (i := 2) rfl))) (List.mem_cons_of_mem _ (List.mem_append_left _ (List.mem_of_getElem? (i := 3) rfl))) (List.mem_cons_of_mem _ (List.mem_append_left _ (List.mem_of_getElem? (i := 4) rfl)))) rfl rfl rfl (by decide +kernel) ⟨Nat.le_of_ble_eq_true rfl, Nat.le_of_ble_eq_true rfl⟩) ⟨fun a U g mk q => by obtain ⟨q0, q1, qP, qK, qD⟩ := q; exact ⟨q0, q1, qP, va_K.moved (u := U) (U := U.calling g mk a) (Vm.Alike.refl U.vm) qK, qD⟩, va_recv hKc hPc (ci := 6) (q0 := 0) rfl rfl, fun U hU hW => ⟨rfl, by rw [hU], by rw [hU]; exact hPc, va_K.moved hW.alike hKc, hDc.weaken (fun _ _ _ _ => trivial)⟩⟩ rfl rfl hl.1 rfl (lv_room (Nat.le_of_ble_eq_true rfl)) dX11_least_5 ⟨Nat.le_of_ble_eq_true rfl, Nat.le_of_ble_eq_true rfl⟩) hS (fun q _ h => hFc q h) hFc (fun r_1 u t H1 locs ht hvm hw hB hz1 hk1 hS => ?_)
  obtain ⟨hP1, hK1, hD1⟩ := hB
  rw [ht] at hP1
  have hK1 := va_K.moved hvm.symm hK1
  obtain ⟨hP, hD⟩ := va_join (wr := [(h0, .inr (11, [.ref te, .ref ta, .ref re, .ref no, .ref pa, .ref ac, .ref op, .ref im, .ref ik, .ref hi, .ref rf, .int (-1)]))]) (w1 := [(no, .inr (6, [.ref te, .ref nt, .ref nl, .ref ns, .ref np, .int 0, .int 0, .long 0, .int (-1), .int (-1)]))]) hP hD [1] [0] rfl rfl (by decide) (by decide) hk1 hFc hP1 hD1
  generalize H1 = H at hP hS ⊢
  have hP : va_P (dC, dI) vwCl [(h0, .inr (11, [.ref te, .ref ta, .ref re, .ref no, .ref pa, .ref ac, .ref op, .ref im, .ref ik, .ref hi, .ref rf, .int (-1)])), (no, .inr (6, [.ref te, .ref nt, .ref nl, .ref ns, .ref np, .int 0, .int 0, .long 0, .int (-1), .int (-1)]))] H := hP
  have hD : va_D A [(h0, .inr (11, [.ref te, .ref ta, .ref re, .ref no, .ref pa, .ref ac, .ref op, .ref im, .ref ik, .ref hi, .ref rf, .int (-1)])), (no, .inr (6, [.ref te, .ref nt, .ref nl, .ref ns, .ref np, .int 0, .int 0, .long 0, .int (-1), .int (-1)]))] := hD
  refine W.widen (k := 0) (n := 0) (Nat.le_of_ble_eq_true rfl) (Nat.le_of_ble_eq_true rfl) ?_
  have hw : r_1 = 0 := hw
  subst hw
  refine lv_if_eq (tgt := 28) hx hb dX11_least_8 (by decide) (fun _ => ?_) (fun c => absurd (by decide) c)
  refine lv_iconst (v := (-1)) hx hb dX11_least_28 (by decide) ?_
  have hP9 := hP.sub (ws' := []) [] rfl
  have hD9 := hD.sub (ws' := []) [] (by decide) rfl
  have hK9 := hK.sub (tys' := []) [] rfl
  refine W.widen (k := 0) (n := 0) (Nat.le_of_ble_eq_true rfl) (Nat.le_of_ble_eq_true rfl) ?_
  exact W.iret (v := (-1)) hx hb hr (fun t ht hW => ⟨⟨(-1), (), rfl, rfl, by rw [ht]; exact hP9, va_K.moved hW.alike hK9, hD9⟩, hS.F ht⟩) hS.2.2 dX11_least_29
def ow_c_X11_count : List Cond := [.fieldLink RX11 37 "DeadlineShare" "now" "LDeadlineShare$State;", .fieldLink RX11 119 "DeadlineShare$State" "count" "I", .methodLink RX11 336 yX6_howManyAre, .instanceMethod yX6_howManyAre, .selects RX6 yX6_howManyAre yX6_howManyAre, .initialized RX6, .methodLink RX11 339 yX6_howManyHaveScripts, .instanceMethod yX6_howManyHaveScripts, .selects RX6 yX6_howManyHaveScripts yX6_howManyHaveScripts, .fieldLink RX11 329 "DeadlineShare$State" "last" "I", .fieldLink RX11 223 "DeadlineShare$State" "time" "I", .methodLink RX11 307 yX6_firstInLog, .instanceMethod yX6_firstInLog, .selects RX6 yX6_firstInLog yX6_firstInLog, .fieldLink RX11 65 "DeadlineShare" "history" "LDeadlineShare$History;", .fieldLink RX11 230 "DeadlineShare$History" "size" "I", .fieldLink RX11 21 "DeadlineShare" "tape" "LDeadlineShare$Tape;", .fieldLink RX11 106 "DeadlineShare$Tape" "length" "I", .fieldLink RX11 72 "DeadlineShare" "refusals" "LDeadlineShare$Refusals;", .methodLink RX11 342 yX4_countOf, .instanceMethod yX4_countOf, .selects RX4 yX4_countOf yX4_countOf, .initialized RX4, .fieldLink RX11 12 "DeadlineShare" "terms" "LDeadlineShare$Terms;", .fieldLink RX11 345 "DeadlineShare$Terms" "mode" "I", .fieldLink RX11 348 "DeadlineShare$Terms" "carry" "I", .fieldLink RX11 351 "DeadlineShare$Terms" "seed" "I"]
def wq_c_X11_count : List Cond := .code yX11_count cX11_count 2 (some .int) :: (ow_c_X11_count ++ (u_ws RX11 TX11 12 ++ (u_ws RX6 TX6 10 ++ (wq_c_X6_howManyAre ++ (wq_c_X6_howManyHaveScripts ++ (wq_c_X6_firstInLog0 ++ (u_ws RX1 TX1 4 ++ (u_ws RX7 TX7 2 ++ (wq_c_X4_countOf_1 ++ (wq_c_X4_countOf_2 ++ (wq_c_X4_countOf_4 ++ (wq_c_X4_countOf_5 ++ (wq_c_X4_countOf_6 ++ (u_ws RX9 TX9 3 ++ ([] : List Cond)))))))))))))))
theorem tb_c_X11_count : ∀ w ∈ wq_c_X11_count, q_g w := by
  unfold wq_c_X11_count ow_c_X11_count
  exact q_cons tw_386 (q_app (q_cons tw_101 (q_cons tw_321 (q_cons tw_385 (q_cons tw_384 (q_cons tw_383 (q_cons tw_72 (q_cons tw_382 (q_cons tw_381 (q_cons tw_380 (q_cons tw_379 (q_cons tw_271 (q_cons tw_378 (q_cons tw_179 (q_cons tw_178 (q_cons tw_84 (q_cons tw_339 (q_cons tw_109 (q_cons tw_302 (q_cons tw_80 (q_cons tw_377 (q_cons tw_376 (q_cons tw_375 (q_cons tw_1 (q_cons tw_114 (q_cons tw_374 (q_cons tw_373 (q_cons tw_372 q_nil))))))))))))))))))))))))))) (q_app tu_X11 (q_app tu_X6 (q_app tb_c_X6_howManyAre (q_app tb_c_X6_howManyHaveScripts (q_app tb_c_X6_firstInLog0 (q_app tu_X1 (q_app tu_X7 (q_app tb_c_X4_countOf_1 (q_app tb_c_X4_countOf_2 (q_app tb_c_X4_countOf_4 (q_app tb_c_X4_countOf_5 (q_app tb_c_X4_countOf_6 (q_app tu_X9 q_nil))))))))))))))
set_option maxHeartbeats 4000000 in
set_option maxRecDepth 100000 in
theorem c_X11_count (l : Launch) (dC : Nat → ClassId) (dI : Nat → Nat → Nat) (h0 : Nat) (wh : Int32) (te : Nat) (ta : Nat) (re : Nat) (no : Nat) (pa : Nat) (ac : Nat) (op : Nat) (im : Nat) (ik : Nat) (hi : Nat) (rf : Nat) (tb : Nat) (nt : Nat) (nl : Nat) (ns : Nat) (np : Nat) (hbf : Nat) (hac : Nat) (rc : Nat) (ci2 : ClassId) (sz : Nat) : Met l yX11_count wq_c_X11_count ({ frames := 2, cells := 0, slots := 0, locals := 41 } : Room) (va_Pc [.ref h0, .int wh] (fun U => U.heap.size = sz ∧ va_P (dC, dI) vwCl [(h0, .inr (11, [.ref te, .ref ta, .ref re, .ref no, .ref pa, .ref ac, .ref op, .ref im, .ref ik, .ref hi, .ref rf, .int (-1)])), (te, .inr (9, [.int 0, .int 1, .int 1])), (ta, .inr (7, [.ref tb, .int 0])), (no, .inr (6, [.ref te, .ref nt, .ref nl, .ref ns, .ref np, .int 0, .int 0, .long 0, .int (-1), .int (-1)])), (hi, .inr (1, [.ref hbf, .ref hac, .int 0, .int 0])), (rf, .inr (4, [.ref rc, .int 0])), (rc, .inl (ci2, 5, .inl (fun _ => 0)))] U.heap ∧ va_K (dC, dI) vwCl [(ci2, .int)] U ∧ va_D (fun _ => True) [(h0, .inr (11, [.ref te, .ref ta, .ref re, .ref no, .ref pa, .ref ac, .ref op, .ref im, .ref ik, .ref hi, .ref rf, .int (-1)])), (te, .inr (9, [.int 0, .int 1, .int 1])), (ta, .inr (7, [.ref tb, .int 0])), (no, .inr (6, [.ref te, .ref nt, .ref nl, .ref ns, .ref np, .int 0, .int 0, .long 0, .int (-1), .int (-1)])), (hi, .inr (1, [.ref hbf, .ref hac, .int 0, .int 0])), (rf, .inr (4, [.ref rc, .int 0])), (rc, .inl (ci2, 5, .inl (fun _ => 0)))])) (va_Qi (fun (r : Int32) (_ : Unit) => r = sp_count wh) (fun (_ : Unit) t => va_P (dC, dI) vwCl [] t.heap ∧ va_K (dC, dI) vwCl [] t ∧ va_D (va_A [(h0, .inr (11, [.ref te, .ref ta, .ref re, .ref no, .ref pa, .ref ac, .ref op, .ref im, .ref ik, .ref hi, .ref rf, .int (-1)])), (te, .inr (9, [.int 0, .int 1, .int 1])), (ta, .inr (7, [.ref tb, .int 0])), (no, .inr (6, [.ref te, .ref nt, .ref nl, .ref ns, .ref np, .int 0, .int 0, .long 0, .int (-1), .int (-1)])), (hi, .inr (1, [.ref hbf, .ref hac, .int 0, .int 0])), (rf, .inr (4, [.ref rc, .int 0])), (rc, .inl (ci2, 5, .inl (fun _ => 0)))] sz) []) (va_A [(h0, .inr (11, [.ref te, .ref ta, .ref re, .ref no, .ref pa, .ref ac, .ref op, .ref im, .ref ik, .ref hi, .ref rf, .int (-1)])), (te, .inr (9, [.int 0, .int 1, .int 1])), (ta, .inr (7, [.ref tb, .int 0])), (no, .inr (6, [.ref te, .ref nt, .ref nl, .ref ns, .ref np, .int 0, .int 0, .long 0, .int (-1), .int (-1)])), (hi, .inr (1, [.ref hbf, .ref hac, .int 0, .int 0])), (rf, .inr (4, [.ref rc, .int 0])), (rc, .inl (ci2, 5, .inl (fun _ => 0)))] sz)) 0 0 (va_A [(h0, .inr (11, [.ref te, .ref ta, .ref re, .ref no, .ref pa, .ref ac, .ref op, .ref im, .ref ik, .ref hi, .ref rf, .int (-1)])), (te, .inr (9, [.int 0, .int 1, .int 1])), (ta, .inr (7, [.ref tb, .int 0])), (no, .inr (6, [.ref te, .ref nt, .ref nl, .ref ns, .ref np, .int 0, .int 0, .long 0, .int (-1), .int (-1)])), (hi, .inr (1, [.ref hbf, .ref hac, .int 0, .int 0])), (rf, .inr (4, [.ref rc, .int 0])), (rc, .inl (ci2, 5, .inl (fun _ => 0)))] sz) := by
  refine Met.ofW (cc := cX11_count) (maxL := 2) (ret := (some .int)) (by decide) rfl ?_
  intro p e s m args below meth c s₁ B hml hv
  obtain ⟨rfl, hsz, hP, hK, hD0⟩ := hv
  have hx := B.exec
  have hb := B.bytes
  have hr := B.returns
  have hts := atoms_spec (ws := wq_c_X11_count) B.pre
  have hown : s.vm.findClass RX11 = some m.cls := findClass_of_methodNamed B.named
  have hlocks := B.notSynchronized
  subst hsz
  have hD := hD0.self (sz := s.heap.size)
  obtain ⟨A, hAe⟩ : ∃ A, A = va_A [(h0, .inr (11, [.ref te, .ref ta, .ref re, .ref no, .ref pa, .ref ac, .ref op, .ref im, .ref ik, .ref hi, .ref rf, .int (-1)])), (te, .inr (9, [.int 0, .int 1, .int 1])), (ta, .inr (7, [.ref tb, .int 0])), (no, .inr (6, [.ref te, .ref nt, .ref nl, .ref ns, .ref np, .int 0, .int 0, .long 0, .int (-1), .int (-1)])), (hi, .inr (1, [.ref hbf, .ref hac, .int 0, .int 0])), (rf, .inr (4, [.ref rc, .int 0])), (rc, .inl (ci2, 5, .inl (fun _ => 0)))] s.heap.size := ⟨_, rfl⟩
  rw [← hAe] at hD ⊢
  have hA : ∀ q : Nat, s.heap.size ≤ q → A q := fun q h => by rw [hAe]; exact Or.inr h
  have hS : va_S A s.heap s.heap [] := va_S.rf
  have hP : va_P (dC, dI) vwCl [(h0, .inr (11, [.ref te, .ref ta, .ref re, .ref no, .ref pa, .ref ac, .ref op, .ref im, .ref ik, .ref hi, .ref rf, .int (-1)])), (te, .inr (9, [.int 0, .int 1, .int 1])), (ta, .inr (7, [.ref tb, .int 0])), (no, .inr (6, [.ref te, .ref nt, .ref nl, .ref ns, .ref np, .int 0, .int 0, .long 0, .int (-1), .int (-1)])), (hi, .inr (1, [.ref hbf, .ref hac, .int 0, .int 0])), (rf, .inr (4, [.ref rc, .int 0])), (rc, .inl (ci2, 5, .inl (fun _ => 0)))] s.heap := hP
  have hl := lv_entry ([.ref h0, .int wh]) (n := 2) (Nat.le_of_ble_eq_true rfl)
  rw [lg_entry_eq]
  generalize (lg_sl ([.ref h0, .int wh]) ++ List.replicate (2 - (lg_sl ([.ref h0, .int wh])).length) Slot.unset).toArray = ls at hl ⊢
  have hl : lv_has ls 2 [(0, .ref h0), (1, .int wh)] := hl
  refine lv_iload_n hx hb dX11_count_0 rfl (lv_at hl 1 rfl) ?_
  by_cases h_1 : wh = 0
  · subst h_1
    refine lv_tableIn (tgt := 84) hx hb dX11_count_1 (by decide) (by decide) rfl (by decide) ?_
    refine lv_aload_n hx hb dX11_count_84 rfl (lv_at hl 0 rfl) ?_
    refine va_get (D := (dC, dI)) (ci := 11) (v := .ref no) (C := RX11) (T := TX11) (N := 12) hx hb hts (fun _ h0_ => List.mem_cons_of_mem _ (List.mem_append_right _ (List.mem_append_left _ h0_))) hown hK hP 0 rfl rfl 3 (by decide) (hts (.fieldLink RX11 37 "DeadlineShare" "now" "LDeadlineShare$State;") (List.mem_cons_of_mem _ (List.mem_append_left _ (List.mem_of_getElem? (i := 0) rfl)))) (fun _ h9 => h9) rfl dX11_count_85 ?_
    refine va_get (D := (dC, dI)) (ci := 6) (v := .int 0) (C := RX6) (T := TX6) (N := 10) hx hb hts (fun _ h0_ => List.mem_cons_of_mem _ (List.mem_append_right _ (List.mem_append_right _ (List.mem_append_left _ h0_)))) hown hK hP 3 rfl rfl 5 (by decide) (hts (.fieldLink RX11 119 "DeadlineShare$State" "count" "I") (List.mem_cons_of_mem _ (List.mem_append_left _ (List.mem_of_getElem? (i := 1) rfl)))) (fun _ h9 => h9) rfl dX11_count_88 ?_
    have hP9 := hP.sub (ws' := []) [] rfl
    have hD9 := hD.sub (ws' := []) [] (by decide) rfl
    have hK9 := hK.sub (tys' := []) [] rfl
    refine W.widen (k := 0) (n := 0) (Nat.le_of_ble_eq_true rfl) (Nat.le_of_ble_eq_true rfl) ?_
    exact W.iret (v := 0) hx hb hr (fun t ht hW => ⟨⟨0, (), rfl, (by decide), by rw [ht]; exact hP9, va_K.moved hW.alike hK9, hD9⟩, hS.F ht⟩) hS.2.2 dX11_count_91
  by_cases h_2 : wh = 1
  · subst h_2
    refine lv_tableIn (tgt := 92) hx hb dX11_count_1 (by decide) (by decide) rfl (by decide) ?_
    refine lv_aload_n hx hb dX11_count_92 rfl (lv_at hl 0 rfl) ?_
    refine va_get (D := (dC, dI)) (ci := 11) (v := .ref no) (C := RX11) (T := TX11) (N := 12) hx hb hts (fun _ h0_ => List.mem_cons_of_mem _ (List.mem_append_right _ (List.mem_append_left _ h0_))) hown hK hP 0 rfl rfl 3 (by decide) (hts (.fieldLink RX11 37 "DeadlineShare" "now" "LDeadlineShare$State;") (List.mem_cons_of_mem _ (List.mem_append_left _ (List.mem_of_getElem? (i := 0) rfl)))) (fun _ h9 => h9) rfl dX11_count_93 ?_
    refine lv_iconst (v := 1) hx hb dX11_count_96 (by decide) ?_
    have hPc := hP.sub (ws' := [(no, .inr (6, [.ref te, .ref nt, .ref nl, .ref ns, .ref np, .int 0, .int 0, .long 0, .int (-1), .int (-1)]))]) [3] rfl
    have hDc := hD.sub (ws' := [(no, .inr (6, [.ref te, .ref nt, .ref nl, .ref ns, .ref np, .int 0, .int 0, .long 0, .int (-1), .int (-1)]))]) [3] (by decide) rfl
    have hKc := hK.sub (tys' := []) [] rfl
    have hFc := va_free (wc := [(no, .inr (6, [.ref te, .ref nt, .ref nl, .ref ns, .ref np, .int 0, .int 0, .long 0, .int (-1), .int (-1)]))]) hD hS hA [3] rfl
    refine va_calli (va_runV (As := [.int 1]) (rest := []) ⟨hx, hb, hml, hown, hts⟩ (c_X6_howManyAre l dC dI no 1 te nt nl ns np 0 s.heap.size) (cwV 1 hts (gi_V (fun w_ h0_ => ⟨List.mem_cons_of_mem _ (List.mem_append_right _ (List.mem_append_right _ (List.mem_append_right _ (List.mem_append_left _ h0_)))), (tb_c_X6_howManyAre w_ h0_).2⟩) (List.mem_cons_of_mem _ (List.mem_append_left _ (List.mem_of_getElem? (i := 2) rfl))) (List.mem_cons_of_mem _ (List.mem_append_left _ (List.mem_of_getElem? (i := 3) rfl))) (List.mem_cons_of_mem _ (List.mem_append_left _ (List.mem_of_getElem? (i := 4) rfl))) (List.mem_cons_of_mem _ (List.mem_append_left _ (List.mem_of_getElem? (i := 5) rfl)))) rfl rfl rfl (by decide +kernel) ⟨Nat.le_of_ble_eq_true rfl, Nat.le_of_ble_eq_true rfl⟩) ⟨fun a U g mk q => by obtain ⟨q0, q1, qP, qK, qD⟩ := q; exact ⟨q0, q1, qP, va_K.moved (u := U) (U := U.calling g mk a) (Vm.Alike.refl U.vm) qK, qD⟩, va_recv hKc hPc (ci := 6) (q0 := 0) rfl rfl, fun U hU hW => ⟨rfl, by rw [hU], by rw [hU]; exact hPc, va_K.moved hW.alike hKc, hDc.weaken (fun _ _ _ _ => trivial)⟩⟩ rfl rfl hl.1 rfl (lv_room (Nat.le_of_ble_eq_true rfl)) dX11_count_97 ⟨Nat.le_of_ble_eq_true rfl, Nat.le_of_ble_eq_true rfl⟩) hS (fun q _ h => hFc q h) hFc (fun r_3 u t H1 locs ht hvm hw hB hz1 hk1 hS => ?_)
    obtain ⟨hP1, hK1, hD1⟩ := hB
    rw [ht] at hP1
    have hK1 := va_K.moved hvm.symm hK1
    obtain ⟨hP, hD⟩ := va_join (wr := [(h0, .inr (11, [.ref te, .ref ta, .ref re, .ref no, .ref pa, .ref ac, .ref op, .ref im, .ref ik, .ref hi, .ref rf, .int (-1)])), (te, .inr (9, [.int 0, .int 1, .int 1])), (ta, .inr (7, [.ref tb, .int 0])), (hi, .inr (1, [.ref hbf, .ref hac, .int 0, .int 0])), (rf, .inr (4, [.ref rc, .int 0])), (rc, .inl (ci2, 5, .inl (fun _ => 0)))]) (w1 := [(no, .inr (6, [.ref te, .ref nt, .ref nl, .ref ns, .ref np, .int 0, .int 0, .long 0, .int (-1), .int (-1)]))]) hP hD [3] [0, 1, 2, 4, 5, 6] rfl rfl (by decide) (by decide) hk1 hFc hP1 hD1
    generalize H1 = H at hP hS ⊢
    have hP : va_P (dC, dI) vwCl [(h0, .inr (11, [.ref te, .ref ta, .ref re, .ref no, .ref pa, .ref ac, .ref op, .ref im, .ref ik, .ref hi, .ref rf, .int (-1)])), (te, .inr (9, [.int 0, .int 1, .int 1])), (ta, .inr (7, [.ref tb, .int 0])), (hi, .inr (1, [.ref hbf, .ref hac, .int 0, .int 0])), (rf, .inr (4, [.ref rc, .int 0])), (rc, .inl (ci2, 5, .inl (fun _ => 0))), (no, .inr (6, [.ref te, .ref nt, .ref nl, .ref ns, .ref np, .int 0, .int 0, .long 0, .int (-1), .int (-1)]))] H := hP
    have hD : va_D A [(h0, .inr (11, [.ref te, .ref ta, .ref re, .ref no, .ref pa, .ref ac, .ref op, .ref im, .ref ik, .ref hi, .ref rf, .int (-1)])), (te, .inr (9, [.int 0, .int 1, .int 1])), (ta, .inr (7, [.ref tb, .int 0])), (hi, .inr (1, [.ref hbf, .ref hac, .int 0, .int 0])), (rf, .inr (4, [.ref rc, .int 0])), (rc, .inl (ci2, 5, .inl (fun _ => 0))), (no, .inr (6, [.ref te, .ref nt, .ref nl, .ref ns, .ref np, .int 0, .int 0, .long 0, .int (-1), .int (-1)]))] := hD
    refine W.widen (k := 0) (n := 0) (Nat.le_of_ble_eq_true rfl) (Nat.le_of_ble_eq_true rfl) ?_
    have hw : r_3 = 0 := hw
    subst hw
    have hP9 := hP.sub (ws' := []) [] rfl
    have hD9 := hD.sub (ws' := []) [] (by decide) rfl
    have hK9 := hK.sub (tys' := []) [] rfl
    refine W.widen (k := 0) (n := 0) (Nat.le_of_ble_eq_true rfl) (Nat.le_of_ble_eq_true rfl) ?_
    exact W.iret (v := 0) hx hb hr (fun t ht hW => ⟨⟨0, (), rfl, (by decide), by rw [ht]; exact hP9, va_K.moved hW.alike hK9, hD9⟩, hS.F ht⟩) hS.2.2 dX11_count_100
  by_cases h_4 : wh = 2
  · subst h_4
    refine lv_tableIn (tgt := 101) hx hb dX11_count_1 (by decide) (by decide) rfl (by decide) ?_
    refine lv_aload_n hx hb dX11_count_101 rfl (lv_at hl 0 rfl) ?_
    refine va_get (D := (dC, dI)) (ci := 11) (v := .ref no) (C := RX11) (T := TX11) (N := 12) hx hb hts (fun _ h0_ => List.mem_cons_of_mem _ (List.mem_append_right _ (List.mem_append_left _ h0_))) hown hK hP 0 rfl rfl 3 (by decide) (hts (.fieldLink RX11 37 "DeadlineShare" "now" "LDeadlineShare$State;") (List.mem_cons_of_mem _ (List.mem_append_left _ (List.mem_of_getElem? (i := 0) rfl)))) (fun _ h9 => h9) rfl dX11_count_102 ?_
    refine lv_iconst (v := 2) hx hb dX11_count_105 (by decide) ?_
    have hPc := hP.sub (ws' := [(no, .inr (6, [.ref te, .ref nt, .ref nl, .ref ns, .ref np, .int 0, .int 0, .long 0, .int (-1), .int (-1)]))]) [3] rfl
    have hDc := hD.sub (ws' := [(no, .inr (6, [.ref te, .ref nt, .ref nl, .ref ns, .ref np, .int 0, .int 0, .long 0, .int (-1), .int (-1)]))]) [3] (by decide) rfl
    have hKc := hK.sub (tys' := []) [] rfl
    have hFc := va_free (wc := [(no, .inr (6, [.ref te, .ref nt, .ref nl, .ref ns, .ref np, .int 0, .int 0, .long 0, .int (-1), .int (-1)]))]) hD hS hA [3] rfl
    refine va_calli (va_runV (As := [.int 2]) (rest := []) ⟨hx, hb, hml, hown, hts⟩ (c_X6_howManyAre l dC dI no 2 te nt nl ns np 0 s.heap.size) (cwV 1 hts (gi_V (fun w_ h0_ => ⟨List.mem_cons_of_mem _ (List.mem_append_right _ (List.mem_append_right _ (List.mem_append_right _ (List.mem_append_left _ h0_)))), (tb_c_X6_howManyAre w_ h0_).2⟩) (List.mem_cons_of_mem _ (List.mem_append_left _ (List.mem_of_getElem? (i := 2) rfl))) (List.mem_cons_of_mem _ (List.mem_append_left _ (List.mem_of_getElem? (i := 3) rfl))) (List.mem_cons_of_mem _ (List.mem_append_left _ (List.mem_of_getElem? (i := 4) rfl))) (List.mem_cons_of_mem _ (List.mem_append_left _ (List.mem_of_getElem? (i := 5) rfl)))) rfl rfl rfl (by decide +kernel) ⟨Nat.le_of_ble_eq_true rfl, Nat.le_of_ble_eq_true rfl⟩) ⟨fun a U g mk q => by obtain ⟨q0, q1, qP, qK, qD⟩ := q; exact ⟨q0, q1, qP, va_K.moved (u := U) (U := U.calling g mk a) (Vm.Alike.refl U.vm) qK, qD⟩, va_recv hKc hPc (ci := 6) (q0 := 0) rfl rfl, fun U hU hW => ⟨rfl, by rw [hU], by rw [hU]; exact hPc, va_K.moved hW.alike hKc, hDc.weaken (fun _ _ _ _ => trivial)⟩⟩ rfl rfl hl.1 rfl (lv_room (Nat.le_of_ble_eq_true rfl)) dX11_count_106 ⟨Nat.le_of_ble_eq_true rfl, Nat.le_of_ble_eq_true rfl⟩) hS (fun q _ h => hFc q h) hFc (fun r_5 u t H1 locs ht hvm hw hB hz1 hk1 hS => ?_)
    obtain ⟨hP1, hK1, hD1⟩ := hB
    rw [ht] at hP1
    have hK1 := va_K.moved hvm.symm hK1
    obtain ⟨hP, hD⟩ := va_join (wr := [(h0, .inr (11, [.ref te, .ref ta, .ref re, .ref no, .ref pa, .ref ac, .ref op, .ref im, .ref ik, .ref hi, .ref rf, .int (-1)])), (te, .inr (9, [.int 0, .int 1, .int 1])), (ta, .inr (7, [.ref tb, .int 0])), (hi, .inr (1, [.ref hbf, .ref hac, .int 0, .int 0])), (rf, .inr (4, [.ref rc, .int 0])), (rc, .inl (ci2, 5, .inl (fun _ => 0)))]) (w1 := [(no, .inr (6, [.ref te, .ref nt, .ref nl, .ref ns, .ref np, .int 0, .int 0, .long 0, .int (-1), .int (-1)]))]) hP hD [3] [0, 1, 2, 4, 5, 6] rfl rfl (by decide) (by decide) hk1 hFc hP1 hD1
    generalize H1 = H at hP hS ⊢
    have hP : va_P (dC, dI) vwCl [(h0, .inr (11, [.ref te, .ref ta, .ref re, .ref no, .ref pa, .ref ac, .ref op, .ref im, .ref ik, .ref hi, .ref rf, .int (-1)])), (te, .inr (9, [.int 0, .int 1, .int 1])), (ta, .inr (7, [.ref tb, .int 0])), (hi, .inr (1, [.ref hbf, .ref hac, .int 0, .int 0])), (rf, .inr (4, [.ref rc, .int 0])), (rc, .inl (ci2, 5, .inl (fun _ => 0))), (no, .inr (6, [.ref te, .ref nt, .ref nl, .ref ns, .ref np, .int 0, .int 0, .long 0, .int (-1), .int (-1)]))] H := hP
    have hD : va_D A [(h0, .inr (11, [.ref te, .ref ta, .ref re, .ref no, .ref pa, .ref ac, .ref op, .ref im, .ref ik, .ref hi, .ref rf, .int (-1)])), (te, .inr (9, [.int 0, .int 1, .int 1])), (ta, .inr (7, [.ref tb, .int 0])), (hi, .inr (1, [.ref hbf, .ref hac, .int 0, .int 0])), (rf, .inr (4, [.ref rc, .int 0])), (rc, .inl (ci2, 5, .inl (fun _ => 0))), (no, .inr (6, [.ref te, .ref nt, .ref nl, .ref ns, .ref np, .int 0, .int 0, .long 0, .int (-1), .int (-1)]))] := hD
    refine W.widen (k := 0) (n := 0) (Nat.le_of_ble_eq_true rfl) (Nat.le_of_ble_eq_true rfl) ?_
    have hw : r_5 = 0 := hw
    subst hw
    have hP9 := hP.sub (ws' := []) [] rfl
    have hD9 := hD.sub (ws' := []) [] (by decide) rfl
    have hK9 := hK.sub (tys' := []) [] rfl
    refine W.widen (k := 0) (n := 0) (Nat.le_of_ble_eq_true rfl) (Nat.le_of_ble_eq_true rfl) ?_
    exact W.iret (v := 0) hx hb hr (fun t ht hW => ⟨⟨0, (), rfl, (by decide), by rw [ht]; exact hP9, va_K.moved hW.alike hK9, hD9⟩, hS.F ht⟩) hS.2.2 dX11_count_109
  by_cases h_6 : wh = 3
  · subst h_6
    refine lv_tableIn (tgt := 110) hx hb dX11_count_1 (by decide) (by decide) rfl (by decide) ?_
    refine lv_aload_n hx hb dX11_count_110 rfl (lv_at hl 0 rfl) ?_
    refine va_get (D := (dC, dI)) (ci := 11) (v := .ref no) (C := RX11) (T := TX11) (N := 12) hx hb hts (fun _ h0_ => List.mem_cons_of_mem _ (List.mem_append_right _ (List.mem_append_left _ h0_))) hown hK hP 0 rfl rfl 3 (by decide) (hts (.fieldLink RX11 37 "DeadlineShare" "now" "LDeadlineShare$State;") (List.mem_cons_of_mem _ (List.mem_append_left _ (List.mem_of_getElem? (i := 0) rfl)))) (fun _ h9 => h9) rfl dX11_count_111 ?_
    have hPc := hP.sub (ws' := [(no, .inr (6, [.ref te, .ref nt, .ref nl, .ref ns, .ref np, .int 0, .int 0, .long 0, .int (-1), .int (-1)]))]) [3] rfl
    have hDc := hD.sub (ws' := [(no, .inr (6, [.ref te, .ref nt, .ref nl, .ref ns, .ref np, .int 0, .int 0, .long 0, .int (-1), .int (-1)]))]) [3] (by decide) rfl
    have hKc := hK.sub (tys' := []) [] rfl
    have hFc := va_free (wc := [(no, .inr (6, [.ref te, .ref nt, .ref nl, .ref ns, .ref np, .int 0, .int 0, .long 0, .int (-1), .int (-1)]))]) hD hS hA [3] rfl
    refine va_calli (va_runV (As := []) (rest := []) ⟨hx, hb, hml, hown, hts⟩ (c_X6_howManyHaveScripts l dC dI no te nt nl ns np 0 s.heap.size) (cwV 0 hts (gi_V (fun w_ h0_ => ⟨List.mem_cons_of_mem _ (List.mem_append_right _ (List.mem_append_right _ (List.mem_append_right _ (List.mem_append_right _ (List.mem_append_left _ h0_))))), (tb_c_X6_howManyHaveScripts w_ h0_).2⟩) (List.mem_cons_of_mem _ (List.mem_append_left _ (List.mem_of_getElem? (i := 6) rfl))) (List.mem_cons_of_mem _ (List.mem_append_left _ (List.mem_of_getElem? (i := 7) rfl))) (List.mem_cons_of_mem _ (List.mem_append_left _ (List.mem_of_getElem? (i := 8) rfl))) (List.mem_cons_of_mem _ (List.mem_append_left _ (List.mem_of_getElem? (i := 5) rfl)))) rfl rfl rfl (by decide +kernel) ⟨Nat.le_of_ble_eq_true rfl, Nat.le_of_ble_eq_true rfl⟩) ⟨fun a U g mk q => by obtain ⟨q0, q1, qP, qK, qD⟩ := q; exact ⟨q0, q1, qP, va_K.moved (u := U) (U := U.calling g mk a) (Vm.Alike.refl U.vm) qK, qD⟩, va_recv hKc hPc (ci := 6) (q0 := 0) rfl rfl, fun U hU hW => ⟨rfl, by rw [hU], by rw [hU]; exact hPc, va_K.moved hW.alike hKc, hDc.weaken (fun _ _ _ _ => trivial)⟩⟩ rfl rfl hl.1 rfl (lv_room (Nat.le_of_ble_eq_true rfl)) dX11_count_114 ⟨Nat.le_of_ble_eq_true rfl, Nat.le_of_ble_eq_true rfl⟩) hS (fun q _ h => hFc q h) hFc (fun r_7 u t H1 locs ht hvm hw hB hz1 hk1 hS => ?_)
    obtain ⟨hP1, hK1, hD1⟩ := hB
    rw [ht] at hP1
    have hK1 := va_K.moved hvm.symm hK1
    obtain ⟨hP, hD⟩ := va_join (wr := [(h0, .inr (11, [.ref te, .ref ta, .ref re, .ref no, .ref pa, .ref ac, .ref op, .ref im, .ref ik, .ref hi, .ref rf, .int (-1)])), (te, .inr (9, [.int 0, .int 1, .int 1])), (ta, .inr (7, [.ref tb, .int 0])), (hi, .inr (1, [.ref hbf, .ref hac, .int 0, .int 0])), (rf, .inr (4, [.ref rc, .int 0])), (rc, .inl (ci2, 5, .inl (fun _ => 0)))]) (w1 := [(no, .inr (6, [.ref te, .ref nt, .ref nl, .ref ns, .ref np, .int 0, .int 0, .long 0, .int (-1), .int (-1)]))]) hP hD [3] [0, 1, 2, 4, 5, 6] rfl rfl (by decide) (by decide) hk1 hFc hP1 hD1
    generalize H1 = H at hP hS ⊢
    have hP : va_P (dC, dI) vwCl [(h0, .inr (11, [.ref te, .ref ta, .ref re, .ref no, .ref pa, .ref ac, .ref op, .ref im, .ref ik, .ref hi, .ref rf, .int (-1)])), (te, .inr (9, [.int 0, .int 1, .int 1])), (ta, .inr (7, [.ref tb, .int 0])), (hi, .inr (1, [.ref hbf, .ref hac, .int 0, .int 0])), (rf, .inr (4, [.ref rc, .int 0])), (rc, .inl (ci2, 5, .inl (fun _ => 0))), (no, .inr (6, [.ref te, .ref nt, .ref nl, .ref ns, .ref np, .int 0, .int 0, .long 0, .int (-1), .int (-1)]))] H := hP
    have hD : va_D A [(h0, .inr (11, [.ref te, .ref ta, .ref re, .ref no, .ref pa, .ref ac, .ref op, .ref im, .ref ik, .ref hi, .ref rf, .int (-1)])), (te, .inr (9, [.int 0, .int 1, .int 1])), (ta, .inr (7, [.ref tb, .int 0])), (hi, .inr (1, [.ref hbf, .ref hac, .int 0, .int 0])), (rf, .inr (4, [.ref rc, .int 0])), (rc, .inl (ci2, 5, .inl (fun _ => 0))), (no, .inr (6, [.ref te, .ref nt, .ref nl, .ref ns, .ref np, .int 0, .int 0, .long 0, .int (-1), .int (-1)]))] := hD
    refine W.widen (k := 0) (n := 0) (Nat.le_of_ble_eq_true rfl) (Nat.le_of_ble_eq_true rfl) ?_
    have hw : r_7 = 0 := hw
    subst hw
    have hP9 := hP.sub (ws' := []) [] rfl
    have hD9 := hD.sub (ws' := []) [] (by decide) rfl
    have hK9 := hK.sub (tys' := []) [] rfl
    refine W.widen (k := 0) (n := 0) (Nat.le_of_ble_eq_true rfl) (Nat.le_of_ble_eq_true rfl) ?_
    exact W.iret (v := 0) hx hb hr (fun t ht hW => ⟨⟨0, (), rfl, (by decide), by rw [ht]; exact hP9, va_K.moved hW.alike hK9, hD9⟩, hS.F ht⟩) hS.2.2 dX11_count_117
  by_cases h_8 : wh = 4
  · subst h_8
    refine lv_tableIn (tgt := 118) hx hb dX11_count_1 (by decide) (by decide) rfl (by decide) ?_
    refine lv_aload_n hx hb dX11_count_118 rfl (lv_at hl 0 rfl) ?_
    refine va_get (D := (dC, dI)) (ci := 11) (v := .ref no) (C := RX11) (T := TX11) (N := 12) hx hb hts (fun _ h0_ => List.mem_cons_of_mem _ (List.mem_append_right _ (List.mem_append_left _ h0_))) hown hK hP 0 rfl rfl 3 (by decide) (hts (.fieldLink RX11 37 "DeadlineShare" "now" "LDeadlineShare$State;") (List.mem_cons_of_mem _ (List.mem_append_left _ (List.mem_of_getElem? (i := 0) rfl)))) (fun _ h9 => h9) rfl dX11_count_119 ?_
    refine va_get (D := (dC, dI)) (ci := 6) (v := .int (-1)) (C := RX6) (T := TX6) (N := 10) hx hb hts (fun _ h0_ => List.mem_cons_of_mem _ (List.mem_append_right _ (List.mem_append_right _ (List.mem_append_left _ h0_)))) hown hK hP 3 rfl rfl 8 (by decide) (hts (.fieldLink RX11 329 "DeadlineShare$State" "last" "I") (List.mem_cons_of_mem _ (List.mem_append_left _ (List.mem_of_getElem? (i := 9) rfl)))) (fun _ h9 => h9) rfl dX11_count_122 ?_
    have hP9 := hP.sub (ws' := []) [] rfl
    have hD9 := hD.sub (ws' := []) [] (by decide) rfl
    have hK9 := hK.sub (tys' := []) [] rfl
    refine W.widen (k := 0) (n := 0) (Nat.le_of_ble_eq_true rfl) (Nat.le_of_ble_eq_true rfl) ?_
    exact W.iret (v := (-1)) hx hb hr (fun t ht hW => ⟨⟨(-1), (), rfl, (by decide), by rw [ht]; exact hP9, va_K.moved hW.alike hK9, hD9⟩, hS.F ht⟩) hS.2.2 dX11_count_125
  by_cases h_9 : wh = 5
  · subst h_9
    refine lv_tableIn (tgt := 126) hx hb dX11_count_1 (by decide) (by decide) rfl (by decide) ?_
    refine lv_aload_n hx hb dX11_count_126 rfl (lv_at hl 0 rfl) ?_
    refine va_get (D := (dC, dI)) (ci := 11) (v := .ref no) (C := RX11) (T := TX11) (N := 12) hx hb hts (fun _ h0_ => List.mem_cons_of_mem _ (List.mem_append_right _ (List.mem_append_left _ h0_))) hown hK hP 0 rfl rfl 3 (by decide) (hts (.fieldLink RX11 37 "DeadlineShare" "now" "LDeadlineShare$State;") (List.mem_cons_of_mem _ (List.mem_append_left _ (List.mem_of_getElem? (i := 0) rfl)))) (fun _ h9 => h9) rfl dX11_count_127 ?_
    refine va_get (D := (dC, dI)) (ci := 6) (v := .int 0) (C := RX6) (T := TX6) (N := 10) hx hb hts (fun _ h0_ => List.mem_cons_of_mem _ (List.mem_append_right _ (List.mem_append_right _ (List.mem_append_left _ h0_)))) hown hK hP 3 rfl rfl 6 (by decide) (hts (.fieldLink RX11 223 "DeadlineShare$State" "time" "I") (List.mem_cons_of_mem _ (List.mem_append_left _ (List.mem_of_getElem? (i := 10) rfl)))) (fun _ h9 => h9) rfl dX11_count_130 ?_
    refine lv_aload_n hx hb dX11_count_133 rfl (lv_at hl 0 rfl) ?_
    refine va_get (D := (dC, dI)) (ci := 11) (v := .ref no) (C := RX11) (T := TX11) (N := 12) hx hb hts (fun _ h0_ => List.mem_cons_of_mem _ (List.mem_append_right _ (List.mem_append_left _ h0_))) hown hK hP 0 rfl rfl 3 (by decide) (hts (.fieldLink RX11 37 "DeadlineShare" "now" "LDeadlineShare$State;") (List.mem_cons_of_mem _ (List.mem_append_left _ (List.mem_of_getElem? (i := 0) rfl)))) (fun _ h9 => h9) rfl dX11_count_134 ?_
    have hPc := hP.sub (ws' := [(no, .inr (6, [.ref te, .ref nt, .ref nl, .ref ns, .ref np, .int 0, .int 0, .long 0, .int (-1), .int (-1)]))]) [3] rfl
    have hDc := hD.sub (ws' := [(no, .inr (6, [.ref te, .ref nt, .ref nl, .ref ns, .ref np, .int 0, .int 0, .long 0, .int (-1), .int (-1)]))]) [3] (by decide) rfl
    have hKc := hK.sub (tys' := []) [] rfl
    have hFc := va_free (wc := [(no, .inr (6, [.ref te, .ref nt, .ref nl, .ref ns, .ref np, .int 0, .int 0, .long 0, .int (-1), .int (-1)]))]) hD hS hA [3] rfl
    refine va_calli (va_runV (As := []) (rest := [.int 0]) ⟨hx, hb, hml, hown, hts⟩ (c_X6_firstInLog0 l dC dI no te nt nl ns np s.heap.size) (cwV 0 hts (gi_V (fun w_ h0_ => ⟨List.mem_cons_of_mem _ (List.mem_append_right _ (List.mem_append_right _ (List.mem_append_right _ (List.mem_append_right _ (List.mem_append_right _ (List.mem_append_left _ h0_)))))), (tb_c_X6_firstInLog0 w_ h0_).2⟩) (List.mem_cons_of_mem _ (List.mem_append_left _ (List.mem_of_getElem? (i := 11) rfl))) (List.mem_cons_of_mem _ (List.mem_append_left _ (List.mem_of_getElem? (i := 12) rfl))) (List.mem_cons_of_mem _ (List.mem_append_left _ (List.mem_of_getElem? (i := 13) rfl))) (List.mem_cons_of_mem _ (List.mem_append_left _ (List.mem_of_getElem? (i := 5) rfl)))) rfl rfl rfl (by decide +kernel) ⟨Nat.le_of_ble_eq_true rfl, Nat.le_of_ble_eq_true rfl⟩) ⟨fun a U g mk q => by obtain ⟨q0, q1, qP, qK, qD⟩ := q; exact ⟨q0, q1, qP, va_K.moved (u := U) (U := U.calling g mk a) (Vm.Alike.refl U.vm) qK, qD⟩, va_recv hKc hPc (ci := 6) (q0 := 0) rfl rfl, fun U hU hW => ⟨rfl, by rw [hU], by rw [hU]; exact hPc, va_K.moved hW.alike hKc, hDc.weaken (fun _ _ _ _ => trivial)⟩⟩ rfl rfl hl.1 rfl (lv_room (Nat.le_of_ble_eq_true rfl)) dX11_count_137 ⟨Nat.le_of_ble_eq_true rfl, Nat.le_of_ble_eq_true rfl⟩) hS (fun q _ h => hFc q h) hFc (fun r_10 u t H1 locs ht hvm hw hB hz1 hk1 hS => ?_)
    obtain ⟨hP1, hK1, hD1⟩ := hB
    rw [ht] at hP1
    have hK1 := va_K.moved hvm.symm hK1
    obtain ⟨hP, hD⟩ := va_join (wr := [(h0, .inr (11, [.ref te, .ref ta, .ref re, .ref no, .ref pa, .ref ac, .ref op, .ref im, .ref ik, .ref hi, .ref rf, .int (-1)])), (te, .inr (9, [.int 0, .int 1, .int 1])), (ta, .inr (7, [.ref tb, .int 0])), (hi, .inr (1, [.ref hbf, .ref hac, .int 0, .int 0])), (rf, .inr (4, [.ref rc, .int 0])), (rc, .inl (ci2, 5, .inl (fun _ => 0)))]) (w1 := [(no, .inr (6, [.ref te, .ref nt, .ref nl, .ref ns, .ref np, .int 0, .int 0, .long 0, .int (-1), .int (-1)]))]) hP hD [3] [0, 1, 2, 4, 5, 6] rfl rfl (by decide) (by decide) hk1 hFc hP1 hD1
    generalize H1 = H at hP hS ⊢
    have hP : va_P (dC, dI) vwCl [(h0, .inr (11, [.ref te, .ref ta, .ref re, .ref no, .ref pa, .ref ac, .ref op, .ref im, .ref ik, .ref hi, .ref rf, .int (-1)])), (te, .inr (9, [.int 0, .int 1, .int 1])), (ta, .inr (7, [.ref tb, .int 0])), (hi, .inr (1, [.ref hbf, .ref hac, .int 0, .int 0])), (rf, .inr (4, [.ref rc, .int 0])), (rc, .inl (ci2, 5, .inl (fun _ => 0))), (no, .inr (6, [.ref te, .ref nt, .ref nl, .ref ns, .ref np, .int 0, .int 0, .long 0, .int (-1), .int (-1)]))] H := hP
    have hD : va_D A [(h0, .inr (11, [.ref te, .ref ta, .ref re, .ref no, .ref pa, .ref ac, .ref op, .ref im, .ref ik, .ref hi, .ref rf, .int (-1)])), (te, .inr (9, [.int 0, .int 1, .int 1])), (ta, .inr (7, [.ref tb, .int 0])), (hi, .inr (1, [.ref hbf, .ref hac, .int 0, .int 0])), (rf, .inr (4, [.ref rc, .int 0])), (rc, .inl (ci2, 5, .inl (fun _ => 0))), (no, .inr (6, [.ref te, .ref nt, .ref nl, .ref ns, .ref np, .int 0, .int 0, .long 0, .int (-1), .int (-1)]))] := hD
    refine W.widen (k := 0) (n := 0) (Nat.le_of_ble_eq_true rfl) (Nat.le_of_ble_eq_true rfl) ?_
    have hw : r_10 = 0 := hw
    subst hw
    refine lv_isub hx hb dX11_count_140 ?_
    refine k_topi (y := 0) (by decide) ?_
    have hP9 := hP.sub (ws' := []) [] rfl
    have hD9 := hD.sub (ws' := []) [] (by decide) rfl
    have hK9 := hK.sub (tys' := []) [] rfl
    refine W.widen (k := 0) (n := 0) (Nat.le_of_ble_eq_true rfl) (Nat.le_of_ble_eq_true rfl) ?_
    exact W.iret (v := 0) hx hb hr (fun t ht hW => ⟨⟨0, (), rfl, (by decide), by rw [ht]; exact hP9, va_K.moved hW.alike hK9, hD9⟩, hS.F ht⟩) hS.2.2 dX11_count_141
  by_cases h_11 : wh = 6
  · subst h_11
    refine lv_tableIn (tgt := 142) hx hb dX11_count_1 (by decide) (by decide) rfl (by decide) ?_
    refine lv_aload_n hx hb dX11_count_142 rfl (lv_at hl 0 rfl) ?_
    refine va_get (D := (dC, dI)) (ci := 11) (v := .ref hi) (C := RX11) (T := TX11) (N := 12) hx hb hts (fun _ h0_ => List.mem_cons_of_mem _ (List.mem_append_right _ (List.mem_append_left _ h0_))) hown hK hP 0 rfl rfl 9 (by decide) (hts (.fieldLink RX11 65 "DeadlineShare" "history" "LDeadlineShare$History;") (List.mem_cons_of_mem _ (List.mem_append_left _ (List.mem_of_getElem? (i := 14) rfl)))) (fun _ h9 => h9) rfl dX11_count_143 ?_
    refine va_get (D := (dC, dI)) (ci := 1) (v := .int 0) (C := RX1) (T := TX1) (N := 4) hx hb hts (fun _ h0_ => List.mem_cons_of_mem _ (List.mem_append_right _ (List.mem_append_right _ (List.mem_append_right _ (List.mem_append_right _ (List.mem_append_right _ (List.mem_append_right _ (List.mem_append_left _ h0_)))))))) hown hK hP 4 rfl rfl 3 (by decide) (hts (.fieldLink RX11 230 "DeadlineShare$History" "size" "I") (List.mem_cons_of_mem _ (List.mem_append_left _ (List.mem_of_getElem? (i := 15) rfl)))) (fun _ h9 => h9) rfl dX11_count_146 ?_
    have hP9 := hP.sub (ws' := []) [] rfl
    have hD9 := hD.sub (ws' := []) [] (by decide) rfl
    have hK9 := hK.sub (tys' := []) [] rfl
    refine W.widen (k := 0) (n := 0) (Nat.le_of_ble_eq_true rfl) (Nat.le_of_ble_eq_true rfl) ?_
    exact W.iret (v := 0) hx hb hr (fun t ht hW => ⟨⟨0, (), rfl, (by decide), by rw [ht]; exact hP9, va_K.moved hW.alike hK9, hD9⟩, hS.F ht⟩) hS.2.2 dX11_count_149
  by_cases h_12 : wh = 7
  · subst h_12
    refine lv_tableIn (tgt := 150) hx hb dX11_count_1 (by decide) (by decide) rfl (by decide) ?_
    refine lv_aload_n hx hb dX11_count_150 rfl (lv_at hl 0 rfl) ?_
    refine va_get (D := (dC, dI)) (ci := 11) (v := .ref ta) (C := RX11) (T := TX11) (N := 12) hx hb hts (fun _ h0_ => List.mem_cons_of_mem _ (List.mem_append_right _ (List.mem_append_left _ h0_))) hown hK hP 0 rfl rfl 1 (by decide) (hts (.fieldLink RX11 21 "DeadlineShare" "tape" "LDeadlineShare$Tape;") (List.mem_cons_of_mem _ (List.mem_append_left _ (List.mem_of_getElem? (i := 16) rfl)))) (fun _ h9 => h9) rfl dX11_count_151 ?_
    refine va_get (D := (dC, dI)) (ci := 7) (v := .int 0) (C := RX7) (T := TX7) (N := 2) hx hb hts (fun _ h0_ => List.mem_cons_of_mem _ (List.mem_append_right _ (List.mem_append_right _ (List.mem_append_right _ (List.mem_append_right _ (List.mem_append_right _ (List.mem_append_right _ (List.mem_append_right _ (List.mem_append_left _ h0_))))))))) hown hK hP 2 rfl rfl 1 (by decide) (hts (.fieldLink RX11 106 "DeadlineShare$Tape" "length" "I") (List.mem_cons_of_mem _ (List.mem_append_left _ (List.mem_of_getElem? (i := 17) rfl)))) (fun _ h9 => h9) rfl dX11_count_154 ?_
    have hP9 := hP.sub (ws' := []) [] rfl
    have hD9 := hD.sub (ws' := []) [] (by decide) rfl
    have hK9 := hK.sub (tys' := []) [] rfl
    refine W.widen (k := 0) (n := 0) (Nat.le_of_ble_eq_true rfl) (Nat.le_of_ble_eq_true rfl) ?_
    exact W.iret (v := 0) hx hb hr (fun t ht hW => ⟨⟨0, (), rfl, (by decide), by rw [ht]; exact hP9, va_K.moved hW.alike hK9, hD9⟩, hS.F ht⟩) hS.2.2 dX11_count_157
  by_cases h_13 : wh = 8
  · subst h_13
    refine lv_tableIn (tgt := 158) hx hb dX11_count_1 (by decide) (by decide) rfl (by decide) ?_
    refine lv_aload_n hx hb dX11_count_158 rfl (lv_at hl 0 rfl) ?_
    refine va_get (D := (dC, dI)) (ci := 11) (v := .ref rf) (C := RX11) (T := TX11) (N := 12) hx hb hts (fun _ h0_ => List.mem_cons_of_mem _ (List.mem_append_right _ (List.mem_append_left _ h0_))) hown hK hP 0 rfl rfl 10 (by decide) (hts (.fieldLink RX11 72 "DeadlineShare" "refusals" "LDeadlineShare$Refusals;") (List.mem_cons_of_mem _ (List.mem_append_left _ (List.mem_of_getElem? (i := 18) rfl)))) (fun _ h9 => h9) rfl dX11_count_159 ?_
    refine lv_iconst (v := (-1)) hx hb dX11_count_162 (by decide) ?_
    have hPc := hP.sub (ws' := [(rf, .inr (4, [.ref rc, .int 0])), (rc, .inl (ci2, 5, .inl (fun _ => 0)))]) [5, 6] rfl
    have hDc := hD.sub (ws' := [(rf, .inr (4, [.ref rc, .int 0])), (rc, .inl (ci2, 5, .inl (fun _ => 0)))]) [5, 6] (by decide) rfl
    have hKc := hK.sub (tys' := [(ci2, .int)]) [0] rfl
    have hFc := va_free (wc := [(rf, .inr (4, [.ref rc, .int 0])), (rc, .inl (ci2, 5, .inl (fun _ => 0)))]) hD hS hA [5, 6] rfl
    refine va_calli (va_runV (As := [.int (-1)]) (rest := []) ⟨hx, hb, hml, hown, hts⟩ (c_X4_countOf_1 l dC dI rf rc ci2 0 s.heap.size) (cwV 1 hts (gi_V (fun w_ h0_ => ⟨List.mem_cons_of_mem _ (List.mem_append_right _ (List.mem_append_right _ (List.mem_append_right _ (List.mem_append_right _ (List.mem_append_right _ (List.mem_append_right _ (List.mem_append_right _ (List.mem_append_right _ (List.mem_append_left _ h0_))))))))), (tb_c_X4_countOf_1 w_ h0_).2⟩) (List.mem_cons_of_mem _ (List.mem_append_left _ (List.mem_of_getElem? (i := 19) rfl))) (List.mem_cons_of_mem _ (List.mem_append_left _ (List.mem_of_getElem? (i := 20) rfl))) (List.mem_cons_of_mem _ (List.mem_append_left _ (List.mem_of_getElem? (i := 21) rfl))) (List.mem_cons_of_mem _ (List.mem_append_left _ (List.mem_of_getElem? (i := 22) rfl)))) rfl rfl rfl (by decide +kernel) ⟨Nat.le_of_ble_eq_true rfl, Nat.le_of_ble_eq_true rfl⟩) ⟨fun a U g mk q => by obtain ⟨q0, q1, qP, qK, qD⟩ := q; exact ⟨q0, q1, qP, va_K.moved (u := U) (U := U.calling g mk a) (Vm.Alike.refl U.vm) qK, qD⟩, va_recv hKc hPc (ci := 4) (q0 := 0) rfl rfl, fun U hU hW => ⟨rfl, by rw [hU], by rw [hU]; exact hPc, va_K.moved hW.alike hKc, hDc.weaken (fun _ _ _ _ => trivial)⟩⟩ rfl rfl hl.1 rfl (lv_room (Nat.le_of_ble_eq_true rfl)) dX11_count_163 ⟨Nat.le_of_ble_eq_true rfl, Nat.le_of_ble_eq_true rfl⟩) hS (fun q _ h => hFc q h) hFc (fun r_14 u t H1 locs ht hvm hw hB hz1 hk1 hS => ?_)
    obtain ⟨hP1, hK1, hD1⟩ := hB
    rw [ht] at hP1
    have hK1 := va_K.moved hvm.symm hK1
    obtain ⟨hP, hD⟩ := va_join (wr := [(h0, .inr (11, [.ref te, .ref ta, .ref re, .ref no, .ref pa, .ref ac, .ref op, .ref im, .ref ik, .ref hi, .ref rf, .int (-1)])), (te, .inr (9, [.int 0, .int 1, .int 1])), (ta, .inr (7, [.ref tb, .int 0])), (no, .inr (6, [.ref te, .ref nt, .ref nl, .ref ns, .ref np, .int 0, .int 0, .long 0, .int (-1), .int (-1)])), (hi, .inr (1, [.ref hbf, .ref hac, .int 0, .int 0]))]) (w1 := []) hP hD [5, 6] [0, 1, 2, 3, 4] rfl rfl (by decide) (by decide) hk1 hFc hP1 hD1
    generalize H1 = H at hP hS ⊢
    have hP : va_P (dC, dI) vwCl [(h0, .inr (11, [.ref te, .ref ta, .ref re, .ref no, .ref pa, .ref ac, .ref op, .ref im, .ref ik, .ref hi, .ref rf, .int (-1)])), (te, .inr (9, [.int 0, .int 1, .int 1])), (ta, .inr (7, [.ref tb, .int 0])), (no, .inr (6, [.ref te, .ref nt, .ref nl, .ref ns, .ref np, .int 0, .int 0, .long 0, .int (-1), .int (-1)])), (hi, .inr (1, [.ref hbf, .ref hac, .int 0, .int 0]))] H := hP
    have hD : va_D A [(h0, .inr (11, [.ref te, .ref ta, .ref re, .ref no, .ref pa, .ref ac, .ref op, .ref im, .ref ik, .ref hi, .ref rf, .int (-1)])), (te, .inr (9, [.int 0, .int 1, .int 1])), (ta, .inr (7, [.ref tb, .int 0])), (no, .inr (6, [.ref te, .ref nt, .ref nl, .ref ns, .ref np, .int 0, .int 0, .long 0, .int (-1), .int (-1)])), (hi, .inr (1, [.ref hbf, .ref hac, .int 0, .int 0]))] := hD
    refine W.widen (k := 0) (n := 0) (Nat.le_of_ble_eq_true rfl) (Nat.le_of_ble_eq_true rfl) ?_
    have hw : r_14 = 0 := hw
    subst hw
    have hP9 := hP.sub (ws' := []) [] rfl
    have hD9 := hD.sub (ws' := []) [] (by decide) rfl
    have hK9 := hK.sub (tys' := []) [] rfl
    refine W.widen (k := 0) (n := 0) (Nat.le_of_ble_eq_true rfl) (Nat.le_of_ble_eq_true rfl) ?_
    exact W.iret (v := 0) hx hb hr (fun t ht hW => ⟨⟨0, (), rfl, (by decide), by rw [ht]; exact hP9, va_K.moved hW.alike hK9, hD9⟩, hS.F ht⟩) hS.2.2 dX11_count_166
  by_cases h_15 : wh = 9
  · subst h_15
    refine lv_tableIn (tgt := 167) hx hb dX11_count_1 (by decide) (by decide) rfl (by decide) ?_
    refine lv_aload_n hx hb dX11_count_167 rfl (lv_at hl 0 rfl) ?_
    refine va_get (D := (dC, dI)) (ci := 11) (v := .ref rf) (C := RX11) (T := TX11) (N := 12) hx hb hts (fun _ h0_ => List.mem_cons_of_mem _ (List.mem_append_right _ (List.mem_append_left _ h0_))) hown hK hP 0 rfl rfl 10 (by decide) (hts (.fieldLink RX11 72 "DeadlineShare" "refusals" "LDeadlineShare$Refusals;") (List.mem_cons_of_mem _ (List.mem_append_left _ (List.mem_of_getElem? (i := 18) rfl)))) (fun _ h9 => h9) rfl dX11_count_168 ?_
    refine lv_bipush (v := (-2)) hx hb dX11_count_171 (by decide) ?_
    have hPc := hP.sub (ws' := [(rf, .inr (4, [.ref rc, .int 0])), (rc, .inl (ci2, 5, .inl (fun _ => 0)))]) [5, 6] rfl
    have hDc := hD.sub (ws' := [(rf, .inr (4, [.ref rc, .int 0])), (rc, .inl (ci2, 5, .inl (fun _ => 0)))]) [5, 6] (by decide) rfl
    have hKc := hK.sub (tys' := [(ci2, .int)]) [0] rfl
    have hFc := va_free (wc := [(rf, .inr (4, [.ref rc, .int 0])), (rc, .inl (ci2, 5, .inl (fun _ => 0)))]) hD hS hA [5, 6] rfl
    refine va_calli (va_runV (As := [.int (-2)]) (rest := []) ⟨hx, hb, hml, hown, hts⟩ (c_X4_countOf_2 l dC dI rf rc ci2 0 s.heap.size) (cwV 1 hts (gi_V (fun w_ h0_ => ⟨List.mem_cons_of_mem _ (List.mem_append_right _ (List.mem_append_right _ (List.mem_append_right _ (List.mem_append_right _ (List.mem_append_right _ (List.mem_append_right _ (List.mem_append_right _ (List.mem_append_right _ (List.mem_append_right _ (List.mem_append_left _ h0_)))))))))), (tb_c_X4_countOf_2 w_ h0_).2⟩) (List.mem_cons_of_mem _ (List.mem_append_left _ (List.mem_of_getElem? (i := 19) rfl))) (List.mem_cons_of_mem _ (List.mem_append_left _ (List.mem_of_getElem? (i := 20) rfl))) (List.mem_cons_of_mem _ (List.mem_append_left _ (List.mem_of_getElem? (i := 21) rfl))) (List.mem_cons_of_mem _ (List.mem_append_left _ (List.mem_of_getElem? (i := 22) rfl)))) rfl rfl rfl (by decide +kernel) ⟨Nat.le_of_ble_eq_true rfl, Nat.le_of_ble_eq_true rfl⟩) ⟨fun a U g mk q => by obtain ⟨q0, q1, qP, qK, qD⟩ := q; exact ⟨q0, q1, qP, va_K.moved (u := U) (U := U.calling g mk a) (Vm.Alike.refl U.vm) qK, qD⟩, va_recv hKc hPc (ci := 4) (q0 := 0) rfl rfl, fun U hU hW => ⟨rfl, by rw [hU], by rw [hU]; exact hPc, va_K.moved hW.alike hKc, hDc.weaken (fun _ _ _ _ => trivial)⟩⟩ rfl rfl hl.1 rfl (lv_room (Nat.le_of_ble_eq_true rfl)) dX11_count_173 ⟨Nat.le_of_ble_eq_true rfl, Nat.le_of_ble_eq_true rfl⟩) hS (fun q _ h => hFc q h) hFc (fun r_16 u t H1 locs ht hvm hw hB hz1 hk1 hS => ?_)
    obtain ⟨hP1, hK1, hD1⟩ := hB
    rw [ht] at hP1
    have hK1 := va_K.moved hvm.symm hK1
    obtain ⟨hP, hD⟩ := va_join (wr := [(h0, .inr (11, [.ref te, .ref ta, .ref re, .ref no, .ref pa, .ref ac, .ref op, .ref im, .ref ik, .ref hi, .ref rf, .int (-1)])), (te, .inr (9, [.int 0, .int 1, .int 1])), (ta, .inr (7, [.ref tb, .int 0])), (no, .inr (6, [.ref te, .ref nt, .ref nl, .ref ns, .ref np, .int 0, .int 0, .long 0, .int (-1), .int (-1)])), (hi, .inr (1, [.ref hbf, .ref hac, .int 0, .int 0]))]) (w1 := []) hP hD [5, 6] [0, 1, 2, 3, 4] rfl rfl (by decide) (by decide) hk1 hFc hP1 hD1
    generalize H1 = H at hP hS ⊢
    have hP : va_P (dC, dI) vwCl [(h0, .inr (11, [.ref te, .ref ta, .ref re, .ref no, .ref pa, .ref ac, .ref op, .ref im, .ref ik, .ref hi, .ref rf, .int (-1)])), (te, .inr (9, [.int 0, .int 1, .int 1])), (ta, .inr (7, [.ref tb, .int 0])), (no, .inr (6, [.ref te, .ref nt, .ref nl, .ref ns, .ref np, .int 0, .int 0, .long 0, .int (-1), .int (-1)])), (hi, .inr (1, [.ref hbf, .ref hac, .int 0, .int 0]))] H := hP
    have hD : va_D A [(h0, .inr (11, [.ref te, .ref ta, .ref re, .ref no, .ref pa, .ref ac, .ref op, .ref im, .ref ik, .ref hi, .ref rf, .int (-1)])), (te, .inr (9, [.int 0, .int 1, .int 1])), (ta, .inr (7, [.ref tb, .int 0])), (no, .inr (6, [.ref te, .ref nt, .ref nl, .ref ns, .ref np, .int 0, .int 0, .long 0, .int (-1), .int (-1)])), (hi, .inr (1, [.ref hbf, .ref hac, .int 0, .int 0]))] := hD
    refine W.widen (k := 0) (n := 0) (Nat.le_of_ble_eq_true rfl) (Nat.le_of_ble_eq_true rfl) ?_
    have hw : r_16 = 0 := hw
    subst hw
    have hP9 := hP.sub (ws' := []) [] rfl
    have hD9 := hD.sub (ws' := []) [] (by decide) rfl
    have hK9 := hK.sub (tys' := []) [] rfl
    refine W.widen (k := 0) (n := 0) (Nat.le_of_ble_eq_true rfl) (Nat.le_of_ble_eq_true rfl) ?_
    exact W.iret (v := 0) hx hb hr (fun t ht hW => ⟨⟨0, (), rfl, (by decide), by rw [ht]; exact hP9, va_K.moved hW.alike hK9, hD9⟩, hS.F ht⟩) hS.2.2 dX11_count_176
  by_cases h_17 : wh = 10
  · subst h_17
    refine lv_tableIn (tgt := 177) hx hb dX11_count_1 (by decide) (by decide) rfl (by decide) ?_
    refine lv_aload_n hx hb dX11_count_177 rfl (lv_at hl 0 rfl) ?_
    refine va_get (D := (dC, dI)) (ci := 11) (v := .ref rf) (C := RX11) (T := TX11) (N := 12) hx hb hts (fun _ h0_ => List.mem_cons_of_mem _ (List.mem_append_right _ (List.mem_append_left _ h0_))) hown hK hP 0 rfl rfl 10 (by decide) (hts (.fieldLink RX11 72 "DeadlineShare" "refusals" "LDeadlineShare$Refusals;") (List.mem_cons_of_mem _ (List.mem_append_left _ (List.mem_of_getElem? (i := 18) rfl)))) (fun _ h9 => h9) rfl dX11_count_178 ?_
    refine lv_bipush (v := (-4)) hx hb dX11_count_181 (by decide) ?_
    have hPc := hP.sub (ws' := [(rf, .inr (4, [.ref rc, .int 0])), (rc, .inl (ci2, 5, .inl (fun _ => 0)))]) [5, 6] rfl
    have hDc := hD.sub (ws' := [(rf, .inr (4, [.ref rc, .int 0])), (rc, .inl (ci2, 5, .inl (fun _ => 0)))]) [5, 6] (by decide) rfl
    have hKc := hK.sub (tys' := [(ci2, .int)]) [0] rfl
    have hFc := va_free (wc := [(rf, .inr (4, [.ref rc, .int 0])), (rc, .inl (ci2, 5, .inl (fun _ => 0)))]) hD hS hA [5, 6] rfl
    refine va_calli (va_runV (As := [.int (-4)]) (rest := []) ⟨hx, hb, hml, hown, hts⟩ (c_X4_countOf_4 l dC dI rf rc ci2 0 s.heap.size) (cwV 1 hts (gi_V (fun w_ h0_ => ⟨List.mem_cons_of_mem _ (List.mem_append_right _ (List.mem_append_right _ (List.mem_append_right _ (List.mem_append_right _ (List.mem_append_right _ (List.mem_append_right _ (List.mem_append_right _ (List.mem_append_right _ (List.mem_append_right _ (List.mem_append_right _ (List.mem_append_left _ h0_))))))))))), (tb_c_X4_countOf_4 w_ h0_).2⟩) (List.mem_cons_of_mem _ (List.mem_append_left _ (List.mem_of_getElem? (i := 19) rfl))) (List.mem_cons_of_mem _ (List.mem_append_left _ (List.mem_of_getElem? (i := 20) rfl))) (List.mem_cons_of_mem _ (List.mem_append_left _ (List.mem_of_getElem? (i := 21) rfl))) (List.mem_cons_of_mem _ (List.mem_append_left _ (List.mem_of_getElem? (i := 22) rfl)))) rfl rfl rfl (by decide +kernel) ⟨Nat.le_of_ble_eq_true rfl, Nat.le_of_ble_eq_true rfl⟩) ⟨fun a U g mk q => by obtain ⟨q0, q1, qP, qK, qD⟩ := q; exact ⟨q0, q1, qP, va_K.moved (u := U) (U := U.calling g mk a) (Vm.Alike.refl U.vm) qK, qD⟩, va_recv hKc hPc (ci := 4) (q0 := 0) rfl rfl, fun U hU hW => ⟨rfl, by rw [hU], by rw [hU]; exact hPc, va_K.moved hW.alike hKc, hDc.weaken (fun _ _ _ _ => trivial)⟩⟩ rfl rfl hl.1 rfl (lv_room (Nat.le_of_ble_eq_true rfl)) dX11_count_183 ⟨Nat.le_of_ble_eq_true rfl, Nat.le_of_ble_eq_true rfl⟩) hS (fun q _ h => hFc q h) hFc (fun r_18 u t H1 locs ht hvm hw hB hz1 hk1 hS => ?_)
    obtain ⟨hP1, hK1, hD1⟩ := hB
    rw [ht] at hP1
    have hK1 := va_K.moved hvm.symm hK1
    obtain ⟨hP, hD⟩ := va_join (wr := [(h0, .inr (11, [.ref te, .ref ta, .ref re, .ref no, .ref pa, .ref ac, .ref op, .ref im, .ref ik, .ref hi, .ref rf, .int (-1)])), (te, .inr (9, [.int 0, .int 1, .int 1])), (ta, .inr (7, [.ref tb, .int 0])), (no, .inr (6, [.ref te, .ref nt, .ref nl, .ref ns, .ref np, .int 0, .int 0, .long 0, .int (-1), .int (-1)])), (hi, .inr (1, [.ref hbf, .ref hac, .int 0, .int 0]))]) (w1 := []) hP hD [5, 6] [0, 1, 2, 3, 4] rfl rfl (by decide) (by decide) hk1 hFc hP1 hD1
    generalize H1 = H at hP hS ⊢
    have hP : va_P (dC, dI) vwCl [(h0, .inr (11, [.ref te, .ref ta, .ref re, .ref no, .ref pa, .ref ac, .ref op, .ref im, .ref ik, .ref hi, .ref rf, .int (-1)])), (te, .inr (9, [.int 0, .int 1, .int 1])), (ta, .inr (7, [.ref tb, .int 0])), (no, .inr (6, [.ref te, .ref nt, .ref nl, .ref ns, .ref np, .int 0, .int 0, .long 0, .int (-1), .int (-1)])), (hi, .inr (1, [.ref hbf, .ref hac, .int 0, .int 0]))] H := hP
    have hD : va_D A [(h0, .inr (11, [.ref te, .ref ta, .ref re, .ref no, .ref pa, .ref ac, .ref op, .ref im, .ref ik, .ref hi, .ref rf, .int (-1)])), (te, .inr (9, [.int 0, .int 1, .int 1])), (ta, .inr (7, [.ref tb, .int 0])), (no, .inr (6, [.ref te, .ref nt, .ref nl, .ref ns, .ref np, .int 0, .int 0, .long 0, .int (-1), .int (-1)])), (hi, .inr (1, [.ref hbf, .ref hac, .int 0, .int 0]))] := hD
    refine W.widen (k := 0) (n := 0) (Nat.le_of_ble_eq_true rfl) (Nat.le_of_ble_eq_true rfl) ?_
    have hw : r_18 = 0 := hw
    subst hw
    have hP9 := hP.sub (ws' := []) [] rfl
    have hD9 := hD.sub (ws' := []) [] (by decide) rfl
    have hK9 := hK.sub (tys' := []) [] rfl
    refine W.widen (k := 0) (n := 0) (Nat.le_of_ble_eq_true rfl) (Nat.le_of_ble_eq_true rfl) ?_
    exact W.iret (v := 0) hx hb hr (fun t ht hW => ⟨⟨0, (), rfl, (by decide), by rw [ht]; exact hP9, va_K.moved hW.alike hK9, hD9⟩, hS.F ht⟩) hS.2.2 dX11_count_186
  by_cases h_19 : wh = 11
  · subst h_19
    refine lv_tableIn (tgt := 187) hx hb dX11_count_1 (by decide) (by decide) rfl (by decide) ?_
    refine lv_aload_n hx hb dX11_count_187 rfl (lv_at hl 0 rfl) ?_
    refine va_get (D := (dC, dI)) (ci := 11) (v := .ref rf) (C := RX11) (T := TX11) (N := 12) hx hb hts (fun _ h0_ => List.mem_cons_of_mem _ (List.mem_append_right _ (List.mem_append_left _ h0_))) hown hK hP 0 rfl rfl 10 (by decide) (hts (.fieldLink RX11 72 "DeadlineShare" "refusals" "LDeadlineShare$Refusals;") (List.mem_cons_of_mem _ (List.mem_append_left _ (List.mem_of_getElem? (i := 18) rfl)))) (fun _ h9 => h9) rfl dX11_count_188 ?_
    refine lv_bipush (v := (-5)) hx hb dX11_count_191 (by decide) ?_
    have hPc := hP.sub (ws' := [(rf, .inr (4, [.ref rc, .int 0])), (rc, .inl (ci2, 5, .inl (fun _ => 0)))]) [5, 6] rfl
    have hDc := hD.sub (ws' := [(rf, .inr (4, [.ref rc, .int 0])), (rc, .inl (ci2, 5, .inl (fun _ => 0)))]) [5, 6] (by decide) rfl
    have hKc := hK.sub (tys' := [(ci2, .int)]) [0] rfl
    have hFc := va_free (wc := [(rf, .inr (4, [.ref rc, .int 0])), (rc, .inl (ci2, 5, .inl (fun _ => 0)))]) hD hS hA [5, 6] rfl
    refine va_calli (va_runV (As := [.int (-5)]) (rest := []) ⟨hx, hb, hml, hown, hts⟩ (c_X4_countOf_5 l dC dI rf rc ci2 0 s.heap.size) (cwV 1 hts (gi_V (fun w_ h0_ => ⟨List.mem_cons_of_mem _ (List.mem_append_right _ (List.mem_append_right _ (List.mem_append_right _ (List.mem_append_right _ (List.mem_append_right _ (List.mem_append_right _ (List.mem_append_right _ (List.mem_append_right _ (List.mem_append_right _ (List.mem_append_right _ (List.mem_append_right _ (List.mem_append_left _ h0_)))))))))))), (tb_c_X4_countOf_5 w_ h0_).2⟩) (List.mem_cons_of_mem _ (List.mem_append_left _ (List.mem_of_getElem? (i := 19) rfl))) (List.mem_cons_of_mem _ (List.mem_append_left _ (List.mem_of_getElem? (i := 20) rfl))) (List.mem_cons_of_mem _ (List.mem_append_left _ (List.mem_of_getElem? (i := 21) rfl))) (List.mem_cons_of_mem _ (List.mem_append_left _ (List.mem_of_getElem? (i := 22) rfl)))) rfl rfl rfl (by decide +kernel) ⟨Nat.le_of_ble_eq_true rfl, Nat.le_of_ble_eq_true rfl⟩) ⟨fun a U g mk q => by obtain ⟨q0, q1, qP, qK, qD⟩ := q; exact ⟨q0, q1, qP, va_K.moved (u := U) (U := U.calling g mk a) (Vm.Alike.refl U.vm) qK, qD⟩, va_recv hKc hPc (ci := 4) (q0 := 0) rfl rfl, fun U hU hW => ⟨rfl, by rw [hU], by rw [hU]; exact hPc, va_K.moved hW.alike hKc, hDc.weaken (fun _ _ _ _ => trivial)⟩⟩ rfl rfl hl.1 rfl (lv_room (Nat.le_of_ble_eq_true rfl)) dX11_count_193 ⟨Nat.le_of_ble_eq_true rfl, Nat.le_of_ble_eq_true rfl⟩) hS (fun q _ h => hFc q h) hFc (fun r_20 u t H1 locs ht hvm hw hB hz1 hk1 hS => ?_)
    obtain ⟨hP1, hK1, hD1⟩ := hB
    rw [ht] at hP1
    have hK1 := va_K.moved hvm.symm hK1
    obtain ⟨hP, hD⟩ := va_join (wr := [(h0, .inr (11, [.ref te, .ref ta, .ref re, .ref no, .ref pa, .ref ac, .ref op, .ref im, .ref ik, .ref hi, .ref rf, .int (-1)])), (te, .inr (9, [.int 0, .int 1, .int 1])), (ta, .inr (7, [.ref tb, .int 0])), (no, .inr (6, [.ref te, .ref nt, .ref nl, .ref ns, .ref np, .int 0, .int 0, .long 0, .int (-1), .int (-1)])), (hi, .inr (1, [.ref hbf, .ref hac, .int 0, .int 0]))]) (w1 := []) hP hD [5, 6] [0, 1, 2, 3, 4] rfl rfl (by decide) (by decide) hk1 hFc hP1 hD1
    generalize H1 = H at hP hS ⊢
    have hP : va_P (dC, dI) vwCl [(h0, .inr (11, [.ref te, .ref ta, .ref re, .ref no, .ref pa, .ref ac, .ref op, .ref im, .ref ik, .ref hi, .ref rf, .int (-1)])), (te, .inr (9, [.int 0, .int 1, .int 1])), (ta, .inr (7, [.ref tb, .int 0])), (no, .inr (6, [.ref te, .ref nt, .ref nl, .ref ns, .ref np, .int 0, .int 0, .long 0, .int (-1), .int (-1)])), (hi, .inr (1, [.ref hbf, .ref hac, .int 0, .int 0]))] H := hP
    have hD : va_D A [(h0, .inr (11, [.ref te, .ref ta, .ref re, .ref no, .ref pa, .ref ac, .ref op, .ref im, .ref ik, .ref hi, .ref rf, .int (-1)])), (te, .inr (9, [.int 0, .int 1, .int 1])), (ta, .inr (7, [.ref tb, .int 0])), (no, .inr (6, [.ref te, .ref nt, .ref nl, .ref ns, .ref np, .int 0, .int 0, .long 0, .int (-1), .int (-1)])), (hi, .inr (1, [.ref hbf, .ref hac, .int 0, .int 0]))] := hD
    refine W.widen (k := 0) (n := 0) (Nat.le_of_ble_eq_true rfl) (Nat.le_of_ble_eq_true rfl) ?_
    have hw : r_20 = 0 := hw
    subst hw
    have hP9 := hP.sub (ws' := []) [] rfl
    have hD9 := hD.sub (ws' := []) [] (by decide) rfl
    have hK9 := hK.sub (tys' := []) [] rfl
    refine W.widen (k := 0) (n := 0) (Nat.le_of_ble_eq_true rfl) (Nat.le_of_ble_eq_true rfl) ?_
    exact W.iret (v := 0) hx hb hr (fun t ht hW => ⟨⟨0, (), rfl, (by decide), by rw [ht]; exact hP9, va_K.moved hW.alike hK9, hD9⟩, hS.F ht⟩) hS.2.2 dX11_count_196
  by_cases h_21 : wh = 12
  · subst h_21
    refine lv_tableIn (tgt := 197) hx hb dX11_count_1 (by decide) (by decide) rfl (by decide) ?_
    refine lv_aload_n hx hb dX11_count_197 rfl (lv_at hl 0 rfl) ?_
    refine va_get (D := (dC, dI)) (ci := 11) (v := .ref rf) (C := RX11) (T := TX11) (N := 12) hx hb hts (fun _ h0_ => List.mem_cons_of_mem _ (List.mem_append_right _ (List.mem_append_left _ h0_))) hown hK hP 0 rfl rfl 10 (by decide) (hts (.fieldLink RX11 72 "DeadlineShare" "refusals" "LDeadlineShare$Refusals;") (List.mem_cons_of_mem _ (List.mem_append_left _ (List.mem_of_getElem? (i := 18) rfl)))) (fun _ h9 => h9) rfl dX11_count_198 ?_
    refine lv_bipush (v := (-6)) hx hb dX11_count_201 (by decide) ?_
    have hPc := hP.sub (ws' := [(rf, .inr (4, [.ref rc, .int 0])), (rc, .inl (ci2, 5, .inl (fun _ => 0)))]) [5, 6] rfl
    have hDc := hD.sub (ws' := [(rf, .inr (4, [.ref rc, .int 0])), (rc, .inl (ci2, 5, .inl (fun _ => 0)))]) [5, 6] (by decide) rfl
    have hKc := hK.sub (tys' := [(ci2, .int)]) [0] rfl
    have hFc := va_free (wc := [(rf, .inr (4, [.ref rc, .int 0])), (rc, .inl (ci2, 5, .inl (fun _ => 0)))]) hD hS hA [5, 6] rfl
    refine va_calli (va_runV (As := [.int (-6)]) (rest := []) ⟨hx, hb, hml, hown, hts⟩ (c_X4_countOf_6 l dC dI rf rc ci2 0 s.heap.size) (cwV 1 hts (gi_V (fun w_ h0_ => ⟨List.mem_cons_of_mem _ (List.mem_append_right _ (List.mem_append_right _ (List.mem_append_right _ (List.mem_append_right _ (List.mem_append_right _ (List.mem_append_right _ (List.mem_append_right _ (List.mem_append_right _ (List.mem_append_right _ (List.mem_append_right _ (List.mem_append_right _ (List.mem_append_right _ (List.mem_append_left _ h0_))))))))))))), (tb_c_X4_countOf_6 w_ h0_).2⟩) (List.mem_cons_of_mem _ (List.mem_append_left _ (List.mem_of_getElem? (i := 19) rfl))) (List.mem_cons_of_mem _ (List.mem_append_left _ (List.mem_of_getElem? (i := 20) rfl))) (List.mem_cons_of_mem _ (List.mem_append_left _ (List.mem_of_getElem? (i := 21) rfl))) (List.mem_cons_of_mem _ (List.mem_append_left _ (List.mem_of_getElem? (i := 22) rfl)))) rfl rfl rfl (by decide +kernel) ⟨Nat.le_of_ble_eq_true rfl, Nat.le_of_ble_eq_true rfl⟩) ⟨fun a U g mk q => by obtain ⟨q0, q1, qP, qK, qD⟩ := q; exact ⟨q0, q1, qP, va_K.moved (u := U) (U := U.calling g mk a) (Vm.Alike.refl U.vm) qK, qD⟩, va_recv hKc hPc (ci := 4) (q0 := 0) rfl rfl, fun U hU hW => ⟨rfl, by rw [hU], by rw [hU]; exact hPc, va_K.moved hW.alike hKc, hDc.weaken (fun _ _ _ _ => trivial)⟩⟩ rfl rfl hl.1 rfl (lv_room (Nat.le_of_ble_eq_true rfl)) dX11_count_203 ⟨Nat.le_of_ble_eq_true rfl, Nat.le_of_ble_eq_true rfl⟩) hS (fun q _ h => hFc q h) hFc (fun r_22 u t H1 locs ht hvm hw hB hz1 hk1 hS => ?_)
    obtain ⟨hP1, hK1, hD1⟩ := hB
    rw [ht] at hP1
    have hK1 := va_K.moved hvm.symm hK1
    obtain ⟨hP, hD⟩ := va_join (wr := [(h0, .inr (11, [.ref te, .ref ta, .ref re, .ref no, .ref pa, .ref ac, .ref op, .ref im, .ref ik, .ref hi, .ref rf, .int (-1)])), (te, .inr (9, [.int 0, .int 1, .int 1])), (ta, .inr (7, [.ref tb, .int 0])), (no, .inr (6, [.ref te, .ref nt, .ref nl, .ref ns, .ref np, .int 0, .int 0, .long 0, .int (-1), .int (-1)])), (hi, .inr (1, [.ref hbf, .ref hac, .int 0, .int 0]))]) (w1 := []) hP hD [5, 6] [0, 1, 2, 3, 4] rfl rfl (by decide) (by decide) hk1 hFc hP1 hD1
    generalize H1 = H at hP hS ⊢
    have hP : va_P (dC, dI) vwCl [(h0, .inr (11, [.ref te, .ref ta, .ref re, .ref no, .ref pa, .ref ac, .ref op, .ref im, .ref ik, .ref hi, .ref rf, .int (-1)])), (te, .inr (9, [.int 0, .int 1, .int 1])), (ta, .inr (7, [.ref tb, .int 0])), (no, .inr (6, [.ref te, .ref nt, .ref nl, .ref ns, .ref np, .int 0, .int 0, .long 0, .int (-1), .int (-1)])), (hi, .inr (1, [.ref hbf, .ref hac, .int 0, .int 0]))] H := hP
    have hD : va_D A [(h0, .inr (11, [.ref te, .ref ta, .ref re, .ref no, .ref pa, .ref ac, .ref op, .ref im, .ref ik, .ref hi, .ref rf, .int (-1)])), (te, .inr (9, [.int 0, .int 1, .int 1])), (ta, .inr (7, [.ref tb, .int 0])), (no, .inr (6, [.ref te, .ref nt, .ref nl, .ref ns, .ref np, .int 0, .int 0, .long 0, .int (-1), .int (-1)])), (hi, .inr (1, [.ref hbf, .ref hac, .int 0, .int 0]))] := hD
    refine W.widen (k := 0) (n := 0) (Nat.le_of_ble_eq_true rfl) (Nat.le_of_ble_eq_true rfl) ?_
    have hw : r_22 = 0 := hw
    subst hw
    have hP9 := hP.sub (ws' := []) [] rfl
    have hD9 := hD.sub (ws' := []) [] (by decide) rfl
    have hK9 := hK.sub (tys' := []) [] rfl
    refine W.widen (k := 0) (n := 0) (Nat.le_of_ble_eq_true rfl) (Nat.le_of_ble_eq_true rfl) ?_
    exact W.iret (v := 0) hx hb hr (fun t ht hW => ⟨⟨0, (), rfl, (by decide), by rw [ht]; exact hP9, va_K.moved hW.alike hK9, hD9⟩, hS.F ht⟩) hS.2.2 dX11_count_206
  by_cases h_23 : wh = 13
  · subst h_23
    refine lv_tableIn (tgt := 207) hx hb dX11_count_1 (by decide) (by decide) rfl (by decide) ?_
    refine lv_aload_n hx hb dX11_count_207 rfl (lv_at hl 0 rfl) ?_
    refine va_get (D := (dC, dI)) (ci := 11) (v := .ref te) (C := RX11) (T := TX11) (N := 12) hx hb hts (fun _ h0_ => List.mem_cons_of_mem _ (List.mem_append_right _ (List.mem_append_left _ h0_))) hown hK hP 0 rfl rfl 0 (by decide) (hts (.fieldLink RX11 12 "DeadlineShare" "terms" "LDeadlineShare$Terms;") (List.mem_cons_of_mem _ (List.mem_append_left _ (List.mem_of_getElem? (i := 23) rfl)))) (fun _ h9 => h9) rfl dX11_count_208 ?_
    refine va_get (D := (dC, dI)) (ci := 9) (v := .int 0) (C := RX9) (T := TX9) (N := 3) hx hb hts (fun _ h0_ => List.mem_cons_of_mem _ (List.mem_append_right _ (List.mem_append_right _ (List.mem_append_right _ (List.mem_append_right _ (List.mem_append_right _ (List.mem_append_right _ (List.mem_append_right _ (List.mem_append_right _ (List.mem_append_right _ (List.mem_append_right _ (List.mem_append_right _ (List.mem_append_right _ (List.mem_append_right _ (List.mem_append_left _ h0_))))))))))))))) hown hK hP 1 rfl rfl 0 (by decide) (hts (.fieldLink RX11 345 "DeadlineShare$Terms" "mode" "I") (List.mem_cons_of_mem _ (List.mem_append_left _ (List.mem_of_getElem? (i := 24) rfl)))) (fun _ h9 => h9) rfl dX11_count_211 ?_
    have hP9 := hP.sub (ws' := []) [] rfl
    have hD9 := hD.sub (ws' := []) [] (by decide) rfl
    have hK9 := hK.sub (tys' := []) [] rfl
    refine W.widen (k := 0) (n := 0) (Nat.le_of_ble_eq_true rfl) (Nat.le_of_ble_eq_true rfl) ?_
    exact W.iret (v := 0) hx hb hr (fun t ht hW => ⟨⟨0, (), rfl, (by decide), by rw [ht]; exact hP9, va_K.moved hW.alike hK9, hD9⟩, hS.F ht⟩) hS.2.2 dX11_count_214
  by_cases h_24 : wh = 14
  · subst h_24
    refine lv_tableIn (tgt := 215) hx hb dX11_count_1 (by decide) (by decide) rfl (by decide) ?_
    refine lv_aload_n hx hb dX11_count_215 rfl (lv_at hl 0 rfl) ?_
    refine va_get (D := (dC, dI)) (ci := 11) (v := .ref te) (C := RX11) (T := TX11) (N := 12) hx hb hts (fun _ h0_ => List.mem_cons_of_mem _ (List.mem_append_right _ (List.mem_append_left _ h0_))) hown hK hP 0 rfl rfl 0 (by decide) (hts (.fieldLink RX11 12 "DeadlineShare" "terms" "LDeadlineShare$Terms;") (List.mem_cons_of_mem _ (List.mem_append_left _ (List.mem_of_getElem? (i := 23) rfl)))) (fun _ h9 => h9) rfl dX11_count_216 ?_
    refine va_get (D := (dC, dI)) (ci := 9) (v := .int 1) (C := RX9) (T := TX9) (N := 3) hx hb hts (fun _ h0_ => List.mem_cons_of_mem _ (List.mem_append_right _ (List.mem_append_right _ (List.mem_append_right _ (List.mem_append_right _ (List.mem_append_right _ (List.mem_append_right _ (List.mem_append_right _ (List.mem_append_right _ (List.mem_append_right _ (List.mem_append_right _ (List.mem_append_right _ (List.mem_append_right _ (List.mem_append_right _ (List.mem_append_left _ h0_))))))))))))))) hown hK hP 1 rfl rfl 1 (by decide) (hts (.fieldLink RX11 348 "DeadlineShare$Terms" "carry" "I") (List.mem_cons_of_mem _ (List.mem_append_left _ (List.mem_of_getElem? (i := 25) rfl)))) (fun _ h9 => h9) rfl dX11_count_219 ?_
    have hP9 := hP.sub (ws' := []) [] rfl
    have hD9 := hD.sub (ws' := []) [] (by decide) rfl
    have hK9 := hK.sub (tys' := []) [] rfl
    refine W.widen (k := 0) (n := 0) (Nat.le_of_ble_eq_true rfl) (Nat.le_of_ble_eq_true rfl) ?_
    exact W.iret (v := 1) hx hb hr (fun t ht hW => ⟨⟨1, (), rfl, (by decide), by rw [ht]; exact hP9, va_K.moved hW.alike hK9, hD9⟩, hS.F ht⟩) hS.2.2 dX11_count_222
  by_cases h_25 : wh = 15
  · subst h_25
    refine lv_tableIn (tgt := 223) hx hb dX11_count_1 (by decide) (by decide) rfl (by decide) ?_
    refine lv_aload_n hx hb dX11_count_223 rfl (lv_at hl 0 rfl) ?_
    refine va_get (D := (dC, dI)) (ci := 11) (v := .ref te) (C := RX11) (T := TX11) (N := 12) hx hb hts (fun _ h0_ => List.mem_cons_of_mem _ (List.mem_append_right _ (List.mem_append_left _ h0_))) hown hK hP 0 rfl rfl 0 (by decide) (hts (.fieldLink RX11 12 "DeadlineShare" "terms" "LDeadlineShare$Terms;") (List.mem_cons_of_mem _ (List.mem_append_left _ (List.mem_of_getElem? (i := 23) rfl)))) (fun _ h9 => h9) rfl dX11_count_224 ?_
    refine va_get (D := (dC, dI)) (ci := 9) (v := .int 1) (C := RX9) (T := TX9) (N := 3) hx hb hts (fun _ h0_ => List.mem_cons_of_mem _ (List.mem_append_right _ (List.mem_append_right _ (List.mem_append_right _ (List.mem_append_right _ (List.mem_append_right _ (List.mem_append_right _ (List.mem_append_right _ (List.mem_append_right _ (List.mem_append_right _ (List.mem_append_right _ (List.mem_append_right _ (List.mem_append_right _ (List.mem_append_right _ (List.mem_append_left _ h0_))))))))))))))) hown hK hP 1 rfl rfl 2 (by decide) (hts (.fieldLink RX11 351 "DeadlineShare$Terms" "seed" "I") (List.mem_cons_of_mem _ (List.mem_append_left _ (List.mem_of_getElem? (i := 26) rfl)))) (fun _ h9 => h9) rfl dX11_count_227 ?_
    have hP9 := hP.sub (ws' := []) [] rfl
    have hD9 := hD.sub (ws' := []) [] (by decide) rfl
    have hK9 := hK.sub (tys' := []) [] rfl
    refine W.widen (k := 0) (n := 0) (Nat.le_of_ble_eq_true rfl) (Nat.le_of_ble_eq_true rfl) ?_
    exact W.iret (v := 1) hx hb hr (fun t ht hW => ⟨⟨1, (), rfl, (by decide), by rw [ht]; exact hP9, va_K.moved hW.alike hK9, hD9⟩, hS.F ht⟩) hS.2.2 dX11_count_230
  by_cases h_26 : wh = 16
  · subst h_26
    refine lv_tableIn (tgt := 231) hx hb dX11_count_1 (by decide) (by decide) rfl (by decide) ?_
    refine lv_aload_n hx hb dX11_count_231 rfl (lv_at hl 0 rfl) ?_
    refine va_get (D := (dC, dI)) (ci := 11) (v := .ref no) (C := RX11) (T := TX11) (N := 12) hx hb hts (fun _ h0_ => List.mem_cons_of_mem _ (List.mem_append_right _ (List.mem_append_left _ h0_))) hown hK hP 0 rfl rfl 3 (by decide) (hts (.fieldLink RX11 37 "DeadlineShare" "now" "LDeadlineShare$State;") (List.mem_cons_of_mem _ (List.mem_append_left _ (List.mem_of_getElem? (i := 0) rfl)))) (fun _ h9 => h9) rfl dX11_count_232 ?_
    refine lv_iconst (v := 3) hx hb dX11_count_235 (by decide) ?_
    have hPc := hP.sub (ws' := [(no, .inr (6, [.ref te, .ref nt, .ref nl, .ref ns, .ref np, .int 0, .int 0, .long 0, .int (-1), .int (-1)]))]) [3] rfl
    have hDc := hD.sub (ws' := [(no, .inr (6, [.ref te, .ref nt, .ref nl, .ref ns, .ref np, .int 0, .int 0, .long 0, .int (-1), .int (-1)]))]) [3] (by decide) rfl
    have hKc := hK.sub (tys' := []) [] rfl
    have hFc := va_free (wc := [(no, .inr (6, [.ref te, .ref nt, .ref nl, .ref ns, .ref np, .int 0, .int 0, .long 0, .int (-1), .int (-1)]))]) hD hS hA [3] rfl
    refine va_calli (va_runV (As := [.int 3]) (rest := []) ⟨hx, hb, hml, hown, hts⟩ (c_X6_howManyAre l dC dI no 3 te nt nl ns np 0 s.heap.size) (cwV 1 hts (gi_V (fun w_ h0_ => ⟨List.mem_cons_of_mem _ (List.mem_append_right _ (List.mem_append_right _ (List.mem_append_right _ (List.mem_append_left _ h0_)))), (tb_c_X6_howManyAre w_ h0_).2⟩) (List.mem_cons_of_mem _ (List.mem_append_left _ (List.mem_of_getElem? (i := 2) rfl))) (List.mem_cons_of_mem _ (List.mem_append_left _ (List.mem_of_getElem? (i := 3) rfl))) (List.mem_cons_of_mem _ (List.mem_append_left _ (List.mem_of_getElem? (i := 4) rfl))) (List.mem_cons_of_mem _ (List.mem_append_left _ (List.mem_of_getElem? (i := 5) rfl)))) rfl rfl rfl (by decide +kernel) ⟨Nat.le_of_ble_eq_true rfl, Nat.le_of_ble_eq_true rfl⟩) ⟨fun a U g mk q => by obtain ⟨q0, q1, qP, qK, qD⟩ := q; exact ⟨q0, q1, qP, va_K.moved (u := U) (U := U.calling g mk a) (Vm.Alike.refl U.vm) qK, qD⟩, va_recv hKc hPc (ci := 6) (q0 := 0) rfl rfl, fun U hU hW => ⟨rfl, by rw [hU], by rw [hU]; exact hPc, va_K.moved hW.alike hKc, hDc.weaken (fun _ _ _ _ => trivial)⟩⟩ rfl rfl hl.1 rfl (lv_room (Nat.le_of_ble_eq_true rfl)) dX11_count_236 ⟨Nat.le_of_ble_eq_true rfl, Nat.le_of_ble_eq_true rfl⟩) hS (fun q _ h => hFc q h) hFc (fun r_27 u t H1 locs ht hvm hw hB hz1 hk1 hS => ?_)
    obtain ⟨hP1, hK1, hD1⟩ := hB
    rw [ht] at hP1
    have hK1 := va_K.moved hvm.symm hK1
    obtain ⟨hP, hD⟩ := va_join (wr := [(h0, .inr (11, [.ref te, .ref ta, .ref re, .ref no, .ref pa, .ref ac, .ref op, .ref im, .ref ik, .ref hi, .ref rf, .int (-1)])), (te, .inr (9, [.int 0, .int 1, .int 1])), (ta, .inr (7, [.ref tb, .int 0])), (hi, .inr (1, [.ref hbf, .ref hac, .int 0, .int 0])), (rf, .inr (4, [.ref rc, .int 0])), (rc, .inl (ci2, 5, .inl (fun _ => 0)))]) (w1 := [(no, .inr (6, [.ref te, .ref nt, .ref nl, .ref ns, .ref np, .int 0, .int 0, .long 0, .int (-1), .int (-1)]))]) hP hD [3] [0, 1, 2, 4, 5, 6] rfl rfl (by decide) (by decide) hk1 hFc hP1 hD1
    generalize H1 = H at hP hS ⊢
    have hP : va_P (dC, dI) vwCl [(h0, .inr (11, [.ref te, .ref ta, .ref re, .ref no, .ref pa, .ref ac, .ref op, .ref im, .ref ik, .ref hi, .ref rf, .int (-1)])), (te, .inr (9, [.int 0, .int 1, .int 1])), (ta, .inr (7, [.ref tb, .int 0])), (hi, .inr (1, [.ref hbf, .ref hac, .int 0, .int 0])), (rf, .inr (4, [.ref rc, .int 0])), (rc, .inl (ci2, 5, .inl (fun _ => 0))), (no, .inr (6, [.ref te, .ref nt, .ref nl, .ref ns, .ref np, .int 0, .int 0, .long 0, .int (-1), .int (-1)]))] H := hP
    have hD : va_D A [(h0, .inr (11, [.ref te, .ref ta, .ref re, .ref no, .ref pa, .ref ac, .ref op, .ref im, .ref ik, .ref hi, .ref rf, .int (-1)])), (te, .inr (9, [.int 0, .int 1, .int 1])), (ta, .inr (7, [.ref tb, .int 0])), (hi, .inr (1, [.ref hbf, .ref hac, .int 0, .int 0])), (rf, .inr (4, [.ref rc, .int 0])), (rc, .inl (ci2, 5, .inl (fun _ => 0))), (no, .inr (6, [.ref te, .ref nt, .ref nl, .ref ns, .ref np, .int 0, .int 0, .long 0, .int (-1), .int (-1)]))] := hD
    refine W.widen (k := 0) (n := 0) (Nat.le_of_ble_eq_true rfl) (Nat.le_of_ble_eq_true rfl) ?_
    have hw : r_27 = 0 := hw
    subst hw
    have hP9 := hP.sub (ws' := []) [] rfl
    have hD9 := hD.sub (ws' := []) [] (by decide) rfl
    have hK9 := hK.sub (tys' := []) [] rfl
    refine W.widen (k := 0) (n := 0) (Nat.le_of_ble_eq_true rfl) (Nat.le_of_ble_eq_true rfl) ?_
    exact W.iret (v := 0) hx hb hr (fun t ht hW => ⟨⟨0, (), rfl, (by decide), by rw [ht]; exact hP9, va_K.moved hW.alike hK9, hD9⟩, hS.F ht⟩) hS.2.2 dX11_count_239
  have z_28 := lv_neT (a := 0) h_1 (by decide)
  have z_29 := lv_neT (a := 1) h_2 (by decide)
  have z_30 := lv_neT (a := 2) h_4 (by decide)
  have z_31 := lv_neT (a := 3) h_6 (by decide)
  have z_32 := lv_neT (a := 4) h_8 (by decide)
  have z_33 := lv_neT (a := 5) h_9 (by decide)
  have z_34 := lv_neT (a := 6) h_11 (by decide)
  have z_35 := lv_neT (a := 7) h_12 (by decide)
  have z_36 := lv_neT (a := 8) h_13 (by decide)
  have z_37 := lv_neT (a := 9) h_15 (by decide)
  have z_38 := lv_neT (a := 10) h_17 (by decide)
  have z_39 := lv_neT (a := 11) h_19 (by decide)
  have z_40 := lv_neT (a := 12) h_21 (by decide)
  have z_41 := lv_neT (a := 13) h_23 (by decide)
  have z_42 := lv_neT (a := 14) h_24 (by decide)
  have z_43 := lv_neT (a := 15) h_25 (by decide)
  have z_44 := lv_neT (a := 16) h_26 (by decide)
  refine lv_tableOut (tgt := 240) hx hb dX11_count_1 (by omega) (by decide) ?_
  refine lv_iconst (v := (-1)) hx hb dX11_count_240 (by decide) ?_
  have hP9 := hP.sub (ws' := []) [] rfl
  have hD9 := hD.sub (ws' := []) [] (by decide) rfl
  have hK9 := hK.sub (tys' := []) [] rfl
  refine W.widen (k := 0) (n := 0) (Nat.le_of_ble_eq_true rfl) (Nat.le_of_ble_eq_true rfl) ?_
  exact W.iret (v := (-1)) hx hb hr (fun t ht hW => ⟨⟨(-1), (), rfl, (by have nh_1 := lv_neT (a := 0) h_1 (by decide); have nh_2 := lv_neT (a := 1) h_2 (by decide); have nh_4 := lv_neT (a := 2) h_4 (by decide); have nh_6 := lv_neT (a := 3) h_6 (by decide); have nh_8 := lv_neT (a := 4) h_8 (by decide); have nh_9 := lv_neT (a := 5) h_9 (by decide); have nh_11 := lv_neT (a := 6) h_11 (by decide); have nh_12 := lv_neT (a := 7) h_12 (by decide); have nh_13 := lv_neT (a := 8) h_13 (by decide); have nh_15 := lv_neT (a := 9) h_15 (by decide); have nh_17 := lv_neT (a := 10) h_17 (by decide); have nh_19 := lv_neT (a := 11) h_19 (by decide); have nh_21 := lv_neT (a := 12) h_21 (by decide); have nh_23 := lv_neT (a := 13) h_23 (by decide); have nh_24 := lv_neT (a := 14) h_24 (by decide); have nh_25 := lv_neT (a := 15) h_25 (by decide); have nh_26 := lv_neT (a := 16) h_26 (by decide); unfold sp_count; (repeat' split) <;> first | rfl | omega | (refine Int32.toInt_inj.mp ?_; omega)), by rw [ht]; exact hP9, va_K.moved hW.alike hK9, hD9⟩, hS.F ht⟩) hS.2.2 dX11_count_241
def ow_c_X11_status : List Cond := [.fieldLink RX11 72 "DeadlineShare" "refusals" "LDeadlineShare$Refusals;", .fieldLink RX11 354 "DeadlineShare$Refusals" "latest" "I"]
def wq_c_X11_status : List Cond := .code yX11_status cX11_status 1 (some .int) :: (ow_c_X11_status ++ (u_ws RX11 TX11 12 ++ (u_ws RX4 TX4 2 ++ ([] : List Cond))))
theorem tb_c_X11_status : ∀ w ∈ wq_c_X11_status, q_g w := by
  unfold wq_c_X11_status ow_c_X11_status
  exact q_cons tw_388 (q_app (q_cons tw_80 (q_cons tw_387 q_nil)) (q_app tu_X11 (q_app tu_X4 q_nil)))
set_option maxHeartbeats 4000000 in
set_option maxRecDepth 100000 in
theorem c_X11_status (l : Launch) (dC : Nat → ClassId) (dI : Nat → Nat → Nat) (h0 : Nat) (te : Nat) (ta : Nat) (re : Nat) (no : Nat) (pa : Nat) (ac : Nat) (op : Nat) (im : Nat) (ik : Nat) (hi : Nat) (rf : Nat) (rc : Nat) (sz : Nat) : Met l yX11_status wq_c_X11_status ({ frames := 0, cells := 0, slots := 0, locals := 0 } : Room) (va_Pc [.ref h0] (fun U => U.heap.size = sz ∧ va_P (dC, dI) vwCl [(h0, .inr (11, [.ref te, .ref ta, .ref re, .ref no, .ref pa, .ref ac, .ref op, .ref im, .ref ik, .ref hi, .ref rf, .int (-1)])), (rf, .inr (4, [.ref rc, .int 0]))] U.heap ∧ va_K (dC, dI) vwCl [] U ∧ va_D (fun _ => True) [(h0, .inr (11, [.ref te, .ref ta, .ref re, .ref no, .ref pa, .ref ac, .ref op, .ref im, .ref ik, .ref hi, .ref rf, .int (-1)])), (rf, .inr (4, [.ref rc, .int 0]))])) (va_Qi (fun (r : Int32) (_ : Unit) => r = 0) (fun (_ : Unit) t => va_P (dC, dI) vwCl [] t.heap ∧ va_K (dC, dI) vwCl [] t ∧ va_D (va_A [(h0, .inr (11, [.ref te, .ref ta, .ref re, .ref no, .ref pa, .ref ac, .ref op, .ref im, .ref ik, .ref hi, .ref rf, .int (-1)])), (rf, .inr (4, [.ref rc, .int 0]))] sz) []) (va_A [(h0, .inr (11, [.ref te, .ref ta, .ref re, .ref no, .ref pa, .ref ac, .ref op, .ref im, .ref ik, .ref hi, .ref rf, .int (-1)])), (rf, .inr (4, [.ref rc, .int 0]))] sz)) 0 0 (va_A [(h0, .inr (11, [.ref te, .ref ta, .ref re, .ref no, .ref pa, .ref ac, .ref op, .ref im, .ref ik, .ref hi, .ref rf, .int (-1)])), (rf, .inr (4, [.ref rc, .int 0]))] sz) := by
  refine Met.ofW (cc := cX11_status) (maxL := 1) (ret := (some .int)) (by decide) rfl ?_
  intro p e s m args below meth c s₁ B hml hv
  obtain ⟨rfl, hsz, hP, hK, hD0⟩ := hv
  have hx := B.exec
  have hb := B.bytes
  have hr := B.returns
  have hts := atoms_spec (ws := wq_c_X11_status) B.pre
  have hown : s.vm.findClass RX11 = some m.cls := findClass_of_methodNamed B.named
  have hlocks := B.notSynchronized
  subst hsz
  have hD := hD0.self (sz := s.heap.size)
  obtain ⟨A, hAe⟩ : ∃ A, A = va_A [(h0, .inr (11, [.ref te, .ref ta, .ref re, .ref no, .ref pa, .ref ac, .ref op, .ref im, .ref ik, .ref hi, .ref rf, .int (-1)])), (rf, .inr (4, [.ref rc, .int 0]))] s.heap.size := ⟨_, rfl⟩
  rw [← hAe] at hD ⊢
  have hA : ∀ q : Nat, s.heap.size ≤ q → A q := fun q h => by rw [hAe]; exact Or.inr h
  have hS : va_S A s.heap s.heap [] := va_S.rf
  have hP : va_P (dC, dI) vwCl [(h0, .inr (11, [.ref te, .ref ta, .ref re, .ref no, .ref pa, .ref ac, .ref op, .ref im, .ref ik, .ref hi, .ref rf, .int (-1)])), (rf, .inr (4, [.ref rc, .int 0]))] s.heap := hP
  have hl := lv_entry ([.ref h0]) (n := 1) (Nat.le_of_ble_eq_true rfl)
  rw [lg_entry_eq]
  generalize (lg_sl ([.ref h0]) ++ List.replicate (1 - (lg_sl ([.ref h0])).length) Slot.unset).toArray = ls at hl ⊢
  have hl : lv_has ls 1 [(0, .ref h0)] := hl
  refine lv_aload_n hx hb dX11_status_0 rfl (lv_at hl 0 rfl) ?_
  refine va_get (D := (dC, dI)) (ci := 11) (v := .ref rf) (C := RX11) (T := TX11) (N := 12) hx hb hts (fun _ h0_ => List.mem_cons_of_mem _ (List.mem_append_right _ (List.mem_append_left _ h0_))) hown hK hP 0 rfl rfl 10 (by decide) (hts (.fieldLink RX11 72 "DeadlineShare" "refusals" "LDeadlineShare$Refusals;") (List.mem_cons_of_mem _ (List.mem_append_left _ (List.mem_of_getElem? (i := 0) rfl)))) (fun _ h9 => h9) rfl dX11_status_1 ?_
  refine va_get (D := (dC, dI)) (ci := 4) (v := .int 0) (C := RX4) (T := TX4) (N := 2) hx hb hts (fun _ h0_ => List.mem_cons_of_mem _ (List.mem_append_right _ (List.mem_append_right _ (List.mem_append_left _ h0_)))) hown hK hP 1 rfl rfl 1 (by decide) (hts (.fieldLink RX11 354 "DeadlineShare$Refusals" "latest" "I") (List.mem_cons_of_mem _ (List.mem_append_left _ (List.mem_of_getElem? (i := 1) rfl)))) (fun _ h9 => h9) rfl dX11_status_4 ?_
  have hP9 := hP.sub (ws' := []) [] rfl
  have hD9 := hD.sub (ws' := []) [] (by decide) rfl
  have hK9 := hK.sub (tys' := []) [] rfl
  refine W.widen (k := 0) (n := 0) (Nat.le_of_ble_eq_true rfl) (Nat.le_of_ble_eq_true rfl) ?_
  exact W.iret (v := 0) hx hb hr (fun t ht hW => ⟨⟨0, (), rfl, rfl, by rw [ht]; exact hP9, va_K.moved hW.alike hK9, hD9⟩, hS.F ht⟩) hS.2.2 dX11_status_7
