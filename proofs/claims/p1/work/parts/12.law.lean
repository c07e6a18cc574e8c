-- ===== end of PART A; then your names; then what follows =====
/-! THE CLAIM OUT OF ONE WALK OF THE LAW'S BODY. Your part is whole_start (and what it stands on); all else here is the same for every law, but numbers. -/
def R_law : String := "DeadlineShareLaw"
def lw_P (b : Addr) (xs : List Int32) (args : Array Value) (s : State) : Prop := args = #[.ref b] ∧ s.IntsAt b xs ∧ xs.length ≤ 6 ∧ (Jvm.Cond.and given_1 narrow_1).before args s = true
def lw_Q (_ : Array Value) (s : State) (o : Outcome) (t : State) : Prop := o = .returned (some (.int 1)) ∧ Framed s o t [] 600000 7302250
def lw_Z (below : List Frame) (a : Array Value) (s : State) : State → Prop := fun t => ∃ o, t.status = .running ∧ Ended t below o ∧ lw_Q a s o t
/-- the law's own end, with 1 on the stack, nothing written that was there before, its room as the claim has it -/
theorem lw_ret {p : Program} {l : Launch} {e : Env} {s : State} {m : MethodId} {below : List Frame} {meth : Method} {c : Code} {b : Nat} (hx : p.tables.exec = Jvm.exec) (hb : c.code = code) (hr : meth.sig.returnType = ret) (hlocks : meth.locks = false) {pc : Nat} {H : Heap} {ls : Array Slot} (hdg : decode code pc = .ok (.ireturn, 1)) : W p l e room_1 s m #[Value.ref b] below meth c H [] 600000 7302250 (lw_Z below #[Value.ref b] s) (F0 m pc ls [.int 1]) := by
  intro T hT X
  obtain ⟨fs, hret, hrun, hended, hW, hframe⟩ := X.leave (v := some (.int 1)) (hlocks := hlocks) (fun h => by rw [hr] at h; cases h)
  have hmeth' : T.vm.method? m = some meth := X.method'
  refine ⟨T.setFrames fs, ?_, .returned (some (.int 1)), hrun, hended, rfl, ⟨_, rfl⟩, hW, hframe⟩
  jvm_step X.here [X.here.top, hx, hb, hdg, hmeth', hr, ret, narrow_b1]
  (try refine ⟨rfl, ?_⟩); (try refine ⟨rfl, ?_⟩)
  first | (intro acts; rw [hret _ acts rfl rfl rfl]) | rw [hret _ _ rfl rfl rfl]
  exact Steps.refl _
/-- what holds at the law's entry: the machine, the code, the tables' words (any of lw_tbl by 'hts w (by decide +kernel)'), the script of L ints xs at the cell b, what the Statement gives of the start (any of its parts by flat_of_before) -/
def lw_At (p : Program) (s : State) (m : MethodId) (meth : Method) (c : Code) (b L : Nat) (xs : Nat → Int32) : Prop :=
  p.tables.exec = Jvm.exec ∧ c.code = code ∧ meth.sig.returnType = ret ∧ c.maxLocals = 4 ∧ s.vm.findClass R_law = some m.cls ∧ (∀ w ∈ lw_tbl, w.before #[Value.ref b] s = true) ∧ va_X b L xs s s.heap ∧ b < s.heap.size ∧ meth.locks = false ∧ (Jvm.Cond.and given_1 narrow_1).before #[Value.ref b] s = true

set_option maxHeartbeats 4000000 in
set_option maxRecDepth 100000 in
theorem law_next {p : Program} {l : Launch} {e : Env} {s : State} {m : MethodId} {below : List Frame} {meth : Method} {c : Code} {dC : Nat → ClassId} {dI : Nat → Nat → Nat} {b : Nat} {xs : Nat → Int32} {A : Nat → Prop} (C0 : lw_At p s m meth c b 6 xs) (hA : ∀ q : Nat, s.heap.size ≤ q → A q) (hbA : ¬ A b) (hAq : ∀ q : Nat, A q → s.heap.size ≤ q) {h0 : Nat} {h1 : Nat} {H : Heap} {locs : List Loc} {ls : Array Slot} (hK : va_K (dC, dI) vwCl [] s) (hP : va_P (dC, dI) vwCl [] H) (hD : va_D A []) (hS : va_S A s.heap H locs) (hl : lv_has ls 4 [(0, .ref b), (1, .ref h0), (2, .ref h1), (3, .int 0)]) : W p l e room_1 s m #[Value.ref b] below meth c H locs 786 20946 (lw_Z below #[Value.ref b] s) (F0 m 1204 ls []) := by
  obtain ⟨hx, hb, hr, hml, hown, hts, hX, hbl, hlocks, hgv⟩ := id C0
  have hown : s.vm.findClass RL = some m.cls := hown
  refine lv_iinc (v := 6) (lv' := [(3, .int 6), (0, .ref b), (1, .ref h0), (2, .ref h1)]) hx hb dL_law_1204 hl (k := 3) rfl (by decide) (by decide) rfl (fun ls hl => ?_)
  refine lv_goto (tgt := 18) hx hb dL_law_1207 (by decide) ?_
  refine lv_iload_n hx hb dL_law_18 rfl (lv_at hl 0 rfl) ?_
  refine lv_aload_n hx hb dL_law_19 rfl (lv_at hl 1 rfl) ?_
  refine va_slen hx hb hX hbl hbA hS dL_law_20 ?_
  refine k_topi (y := 6) rfl ?_
  refine lv_bipush (v := 6) hx hb dL_law_21 (by decide) ?_
  refine lv_isub hx hb dL_law_23 ?_
  refine k_topi (y := 0) (by decide) ?_
  refine lv_icmp_gt (tgt := 1210) hx hb dL_law_24 (by decide) (fun _ => ?_) (fun c => absurd (by decide) c)
  refine lv_iconst (v := 1) hx hb dL_law_1210 (by decide) ?_
  refine va_forget (fun q hq => hAq _ (hS.2.2 q hq)) ?_
  refine W.widen (k := 600000) (n := 7302250) (Nat.le_of_ble_eq_true rfl) (Nat.le_of_ble_eq_true rfl) ?_
  exact lw_ret hx hb hr hlocks dL_law_1211
set_option maxHeartbeats 4000000 in
set_option maxRecDepth 100000 in
theorem law_terms {p : Program} {l : Launch} {e : Env} {s : State} {m : MethodId} {below : List Frame} {meth : Method} {c : Code} {dC : Nat → ClassId} {dI : Nat → Nat → Nat} {b : Nat} {xs : Nat → Int32} {A : Nat → Prop} (C0 : lw_At p s m meth c b 6 xs) (hA : ∀ q : Nat, s.heap.size ≤ q → A q) (hbA : ¬ A b) (hAq : ∀ q : Nat, A q → s.heap.size ≤ q) {h0 : Nat} {h1 : Nat} {te : Nat} {ta : Nat} {re : Nat} {no : Nat} {pa : Nat} {ac : Nat} {op : Nat} {im : Nat} {ik : Nat} {hi : Nat} {rf : Nat} {rc : Nat} {ci2 : ClassId} {mr : Nat} {mt : Nat} {mw : Nat} {mu : Nat} {mp : Nat} {mi : Nat} {mk : Nat} {ms : Nat} {mv : Nat} {m1w : Nat} {m2w : Nat} {m3w : Nat} {m4w : Nat} {cm1 : ClassId} {cm2 : ClassId} {ft : Nat → Int32} {H : Heap} {locs : List Loc} {ls : Array Slot} (ht0 : ft 0 = 0) (ht1 : ft 1 = 1) (ht2 : ft 2 = 1) (hK : va_K (dC, dI) vwCl [(ci2, .int), (cm1, .int), (cm2, .int)] s) (hP : va_P (dC, dI) vwCl [(h0, .inr (11, [.ref te, .ref ta, .ref re, .ref no, .ref pa, .ref ac, .ref op, .ref im, .ref ik, .ref hi, .ref rf, .int (-1)])), (te, .inr (9, [.int 0, .int 1, .int 1])), (rf, .inr (4, [.ref rc, .int 0])), (rc, .inl (ci2, 5, .inl (fun _ => 0))), (h1, .inr (12, [.int 0, .int 0, .ref mr, .ref mt, .ref mw, .ref mu, .ref mp, .ref mi, .ref mk, .ref ms, .int 0, .ref mv, .int 0, .int 0, .int 0, .int 0, .long 0, .int (-1), .int 0, .ref m1w, .ref m2w, .ref m3w, .ref m4w, .int 0, .long 0, .long 0, .long 0])), (mr, .inl (cm1, 7, .inl (fun _ => 0))), (mt, .inl (cm2, 3, .inl ft))] H) (hD : va_D A [(h0, .inr (11, [.ref te, .ref ta, .ref re, .ref no, .ref pa, .ref ac, .ref op, .ref im, .ref ik, .ref hi, .ref rf, .int (-1)])), (te, .inr (9, [.int 0, .int 1, .int 1])), (rf, .inr (4, [.ref rc, .int 0])), (rc, .inl (ci2, 5, .inl (fun _ => 0))), (h1, .inr (12, [.int 0, .int 0, .ref mr, .ref mt, .ref mw, .ref mu, .ref mp, .ref mi, .ref mk, .ref ms, .int 0, .ref mv, .int 0, .int 0, .int 0, .int 0, .long 0, .int (-1), .int 0, .ref m1w, .ref m2w, .ref m3w, .ref m4w, .int 0, .long 0, .long 0, .long 0])), (mr, .inl (cm1, 7, .inl (fun _ => 0))), (mt, .inl (cm2, 3, .inl ft))]) (hS : va_S A s.heap H locs) (hl : lv_has ls 4 [(0, .ref b), (1, .ref h0), (2, .ref h1), (3, .int 0)]) : W p l e room_1 s m #[Value.ref b] below meth c H locs 786 20946 (lw_Z below #[Value.ref b] s) (F0 m 192 ls []) := by
  obtain ⟨hx, hb, hr, hml, hown, hts, hX, hbl, hlocks, hgv⟩ := id C0
  have hown : s.vm.findClass RL = some m.cls := hown
  refine lv_aload_n hx hb dL_law_192 rfl (lv_at hl 1 rfl) ?_
  refine lv_aload_n hx hb dL_law_193 rfl (lv_at hl 0 rfl) ?_
  refine lv_iload_n hx hb dL_law_194 rfl (lv_at hl 3 rfl) ?_
  refine lv_iconst (v := 1) hx hb dL_law_195 (by decide) ?_
  refine lv_iadd hx hb dL_law_196 ?_
  refine k_topi (y := 1) (by decide) ?_
  refine va_sld hx hb hX hbl hbA hS (by unfold vp_in; decide) dL_law_197 ?_
  refine k_topi (y := xs 1) (congrArg xs (by decide)) ?_
  refine lv_aload_n hx hb dL_law_198 rfl (lv_at hl 0 rfl) ?_
  refine lv_iload_n hx hb dL_law_199 rfl (lv_at hl 3 rfl) ?_
  refine lv_iconst (v := 2) hx hb dL_law_200 (by decide) ?_
  refine lv_iadd hx hb dL_law_201 ?_
  refine k_topi (y := 2) (by decide) ?_
  refine va_sld hx hb hX hbl hbA hS (by unfold vp_in; decide) dL_law_202 ?_
  refine k_topi (y := xs 2) (congrArg xs (by decide)) ?_
  have hPc := hP.sub (ws' := [(h0, .inr (11, [.ref te, .ref ta, .ref re, .ref no, .ref pa, .ref ac, .ref op, .ref im, .ref ik, .ref hi, .ref rf, .int (-1)])), (te, .inr (9, [.int 0, .int 1, .int 1])), (rf, .inr (4, [.ref rc, .int 0])), (rc, .inl (ci2, 5, .inl (fun _ => 0)))]) [0, 1, 2, 3] rfl
  have hDc := hD.sub (ws' := [(h0, .inr (11, [.ref te, .ref ta, .ref re, .ref no, .ref pa, .ref ac, .ref op, .ref im, .ref ik, .ref hi, .ref rf, .int (-1)])), (te, .inr (9, [.int 0, .int 1, .int 1])), (rf, .inr (4, [.ref rc, .int 0])), (rc, .inl (ci2, 5, .inl (fun _ => 0)))]) [0, 1, 2, 3] (by decide) rfl
  have hKc := hK.sub (tys' := [(ci2, .int)]) [0] rfl
  have hFc := va_free (wc := [(h0, .inr (11, [.ref te, .ref ta, .ref re, .ref no, .ref pa, .ref ac, .ref op, .ref im, .ref ik, .ref hi, .ref rf, .int (-1)])), (te, .inr (9, [.int 0, .int 1, .int 1])), (rf, .inr (4, [.ref rc, .int 0])), (rc, .inl (ci2, 5, .inl (fun _ => 0)))]) hD hS hA [0, 1, 2, 3] rfl
  refine va_calli (va_runV (As := [.int (xs 1), .int (xs 2)]) (rest := []) ⟨hx, hb, hml, hown, hts⟩ (c_X11_terms l dC dI h0 (xs 1) (xs 2) te ta re no pa ac op im ik hi rf rc ci2 H.size) (cwV 2 hts (gi_V tb_c_X11_terms tw_571.1 tw_572.1 tw_573.1 tw_324.1) rfl rfl rfl (by decide +kernel) ⟨Nat.le_of_ble_eq_true rfl, Nat.le_of_ble_eq_true rfl⟩) ⟨fun a U g mk q => by obtain ⟨q0, q1, qP, qK, qD⟩ := q; exact ⟨q0, q1, qP, va_K.moved (u := U) (U := U.calling g mk a) (Vm.Alike.refl U.vm) qK, qD⟩, va_recv hKc hPc (ci := 11) (q0 := 0) rfl rfl, fun U hU hW => ⟨rfl, by rw [hU], by rw [hU]; exact hPc, va_K.moved hW.alike hKc, hDc.weaken (fun _ _ _ _ => trivial)⟩⟩ rfl rfl hl.1 rfl (lv_room (Nat.le_of_ble_eq_true rfl)) dL_law_203 ⟨Nat.le_of_ble_eq_true rfl, Nat.le_of_ble_eq_true rfl⟩) hS (fun q _ h => hFc q h) hFc (fun r_1 u t H1 locs ht hvm hw hB hz1 hk1 hS => ?_)
  obtain ⟨hP1, hK1, hD1⟩ := hB
  rw [ht] at hP1
  have hK1 := va_K.moved hvm.symm hK1
  obtain ⟨hP, hD⟩ := va_join (wr := [(h1, .inr (12, [.int 0, .int 0, .ref mr, .ref mt, .ref mw, .ref mu, .ref mp, .ref mi, .ref mk, .ref ms, .int 0, .ref mv, .int 0, .int 0, .int 0, .int 0, .long 0, .int (-1), .int 0, .ref m1w, .ref m2w, .ref m3w, .ref m4w, .int 0, .long 0, .long 0, .long 0])), (mr, .inl (cm1, 7, .inl (fun _ => 0))), (mt, .inl (cm2, 3, .inl ft))]) (w1 := []) hP hD [0, 1, 2, 3] [4, 5, 6] rfl rfl (by decide) (by decide) hk1 hFc hP1 hD1
  generalize H1 = H at hP hS ⊢
  have hP : va_P (dC, dI) vwCl [(h1, .inr (12, [.int 0, .int 0, .ref mr, .ref mt, .ref mw, .ref mu, .ref mp, .ref mi, .ref mk, .ref ms, .int 0, .ref mv, .int 0, .int 0, .int 0, .int 0, .long 0, .int (-1), .int 0, .ref m1w, .ref m2w, .ref m3w, .ref m4w, .int 0, .long 0, .long 0, .long 0])), (mr, .inl (cm1, 7, .inl (fun _ => 0))), (mt, .inl (cm2, 3, .inl ft))] H := hP
  have hD : va_D A [(h1, .inr (12, [.int 0, .int 0, .ref mr, .ref mt, .ref mw, .ref mu, .ref mp, .ref mi, .ref mk, .ref ms, .int 0, .ref mv, .int 0, .int 0, .int 0, .int 0, .long 0, .int (-1), .int 0, .ref m1w, .ref m2w, .ref m3w, .ref m4w, .int 0, .long 0, .long 0, .long 0])), (mr, .inl (cm1, 7, .inl (fun _ => 0))), (mt, .inl (cm2, 3, .inl ft))] := hD
  refine W.widen (k := 786) (n := 20946) (Nat.le_of_ble_eq_true rfl) (Nat.le_of_ble_eq_true rfl) ?_
  have hw : r_1 = sp_terms (xs 1) (xs 2) := hw
  subst hw
  refine lv_aload_n hx hb dL_law_206 rfl (lv_at hl 2 rfl) ?_
  refine lv_aload_n hx hb dL_law_207 rfl (lv_at hl 0 rfl) ?_
  refine lv_iload_n hx hb dL_law_208 rfl (lv_at hl 3 rfl) ?_
  refine lv_iconst (v := 1) hx hb dL_law_209 (by decide) ?_
  refine lv_iadd hx hb dL_law_210 ?_
  refine k_topi (y := 1) (by decide) ?_
  refine va_sld hx hb hX hbl hbA hS (by unfold vp_in; decide) dL_law_211 ?_
  refine k_topi (y := xs 1) (congrArg xs (by decide)) ?_
  refine lv_aload_n hx hb dL_law_212 rfl (lv_at hl 0 rfl) ?_
  refine lv_iload_n hx hb dL_law_213 rfl (lv_at hl 3 rfl) ?_
  refine lv_iconst (v := 2) hx hb dL_law_214 (by decide) ?_
  refine lv_iadd hx hb dL_law_215 ?_
  refine k_topi (y := 2) (by decide) ?_
  refine va_sld hx hb hX hbl hbA hS (by unfold vp_in; decide) dL_law_216 ?_
  refine k_topi (y := xs 2) (congrArg xs (by decide)) ?_
  have hPc := hP.sub (ws' := [(h1, .inr (12, [.int 0, .int 0, .ref mr, .ref mt, .ref mw, .ref mu, .ref mp, .ref mi, .ref mk, .ref ms, .int 0, .ref mv, .int 0, .int 0, .int 0, .int 0, .long 0, .int (-1), .int 0, .ref m1w, .ref m2w, .ref m3w, .ref m4w, .int 0, .long 0, .long 0, .long 0])), (mr, .inl (cm1, 7, .inl (fun _ => 0))), (mt, .inl (cm2, 3, .inl ft))]) [0, 1, 2] rfl
  have hDc := hD.sub (ws' := [(h1, .inr (12, [.int 0, .int 0, .ref mr, .ref mt, .ref mw, .ref mu, .ref mp, .ref mi, .ref mk, .ref ms, .int 0, .ref mv, .int 0, .int 0, .int 0, .int 0, .long 0, .int (-1), .int 0, .ref m1w, .ref m2w, .ref m3w, .ref m4w, .int 0, .long 0, .long 0, .long 0])), (mr, .inl (cm1, 7, .inl (fun _ => 0))), (mt, .inl (cm2, 3, .inl ft))]) [0, 1, 2] (by decide) rfl
  have hKc := hK.sub (tys' := [(cm1, .int), (cm2, .int)]) [1, 2] rfl
  have hFc := va_free (wc := [(h1, .inr (12, [.int 0, .int 0, .ref mr, .ref mt, .ref mw, .ref mu, .ref mp, .ref mi, .ref mk, .ref ms, .int 0, .ref mv, .int 0, .int 0, .int 0, .int 0, .long 0, .int (-1), .int 0, .ref m1w, .ref m2w, .ref m3w, .ref m4w, .int 0, .long 0, .long 0, .long 0])), (mr, .inl (cm1, 7, .inl (fun _ => 0))), (mt, .inl (cm2, 3, .inl ft))]) hD hS hA [0, 1, 2] rfl
  refine va_calli (va_runV (As := [.int (xs 1), .int (xs 2)]) (rest := [.int (sp_terms (xs 1) (xs 2))]) ⟨hx, hb, hml, hown, hts⟩ (c_X12_terms l dC dI h1 (xs 1) (xs 2) mr mt mw mu mp mi mk ms mv m1w m2w m3w m4w cm1 cm2 ft H.size ht0 ht1 ht2) (cwV 2 hts (gi_V tb_c_X12_terms tw_574.1 tw_575.1 tw_576.1 tw_435.1) rfl rfl rfl (by decide +kernel) ⟨Nat.le_of_ble_eq_true rfl, Nat.le_of_ble_eq_true rfl⟩) ⟨fun a U g mk q => by obtain ⟨q0, q1, qP, qK, qD⟩ := q; exact ⟨q0, q1, qP, va_K.moved (u := U) (U := U.calling g mk a) (Vm.Alike.refl U.vm) qK, qD⟩, va_recv hKc hPc (ci := 12) (q0 := 0) rfl rfl, fun U hU hW => ⟨rfl, by rw [hU], by rw [hU]; exact hPc, va_K.moved hW.alike hKc, hDc.weaken (fun _ _ _ _ => trivial)⟩⟩ rfl rfl hl.1 rfl (lv_room (Nat.le_of_ble_eq_true rfl)) dL_law_217 ⟨Nat.le_of_ble_eq_true rfl, Nat.le_of_ble_eq_true rfl⟩) hS (fun q _ h => hFc q h) hFc (fun r_2 u t H1 locs ht hvm hw hB hz1 hk1 hS => ?_)
  obtain ⟨hP1, hK1, hD1⟩ := hB
  rw [ht] at hP1
  have hK1 := va_K.moved hvm.symm hK1
  obtain ⟨hP, hD⟩ := va_join (wr := []) (w1 := []) hP hD [0, 1, 2] [] rfl rfl (by decide) (by decide) hk1 hFc hP1 hD1
  generalize H1 = H at hP hS ⊢
  have hP : va_P (dC, dI) vwCl [] H := hP
  have hD : va_D A [] := hD
  refine W.widen (k := 786) (n := 20946) (Nat.le_of_ble_eq_true rfl) (Nat.le_of_ble_eq_true rfl) ?_
  have hw : r_2 = sp_terms (xs 1) (xs 2) := hw
  subst hw
  refine lv_icmp_eq (tgt := 1204) hx hb dL_law_220 (by decide) (fun _ => ?_) (fun c => absurd rfl c)
  exact law_next C0 hA hbA hAq (hK.sub [] rfl) (hP.sub [] rfl) (hD.sub [] (by decide) rfl) hS (lv_sub hl [0, 1, 2, 3] rfl)
set_option maxHeartbeats 4000000 in
set_option maxRecDepth 100000 in
theorem law_feed {p : Program} {l : Launch} {e : Env} {s : State} {m : MethodId} {below : List Frame} {meth : Method} {c : Code} {dC : Nat → ClassId} {dI : Nat → Nat → Nat} {b : Nat} {xs : Nat → Int32} {A : Nat → Prop} (C0 : lw_At p s m meth c b 6 xs) (hA : ∀ q : Nat, s.heap.size ≤ q → A q) (hbA : ¬ A b) (hAq : ∀ q : Nat, A q → s.heap.size ≤ q) {h0 : Nat} {h1 : Nat} {te : Nat} {ta : Nat} {re : Nat} {no : Nat} {pa : Nat} {ac : Nat} {op : Nat} {im : Nat} {ik : Nat} {hi : Nat} {rf : Nat} {tb : Nat} {cb : ClassId} {mr : Nat} {mt : Nat} {mw : Nat} {mu : Nat} {mp : Nat} {mi : Nat} {mk : Nat} {ms : Nat} {mv : Nat} {m1w : Nat} {m2w : Nat} {m3w : Nat} {m4w : Nat} {cm9 : ClassId} {H : Heap} {locs : List Loc} {ls : Array Slot} (hK : va_K (dC, dI) vwCl [(cb, .byte), (cm9, .int)] s) (hP : va_P (dC, dI) vwCl [(h0, .inr (11, [.ref te, .ref ta, .ref re, .ref no, .ref pa, .ref ac, .ref op, .ref im, .ref ik, .ref hi, .ref rf, .int (-1)])), (ta, .inr (7, [.ref tb, .int 0])), (tb, .inl (cb, 200, .inl (fun _ => 0))), (h1, .inr (12, [.int 0, .int 0, .ref mr, .ref mt, .ref mw, .ref mu, .ref mp, .ref mi, .ref mk, .ref ms, .int 0, .ref mv, .int 0, .int 0, .int 0, .int 0, .long 0, .int (-1), .int 0, .ref m1w, .ref m2w, .ref m3w, .ref m4w, .int 0, .long 0, .long 0, .long 0])), (mv, .inl (cm9, 200, .inl (fun _ => 0)))] H) (hD : va_D A [(h0, .inr (11, [.ref te, .ref ta, .ref re, .ref no, .ref pa, .ref ac, .ref op, .ref im, .ref ik, .ref hi, .ref rf, .int (-1)])), (ta, .inr (7, [.ref tb, .int 0])), (tb, .inl (cb, 200, .inl (fun _ => 0))), (h1, .inr (12, [.int 0, .int 0, .ref mr, .ref mt, .ref mw, .ref mu, .ref mp, .ref mi, .ref mk, .ref ms, .int 0, .ref mv, .int 0, .int 0, .int 0, .int 0, .long 0, .int (-1), .int 0, .ref m1w, .ref m2w, .ref m3w, .ref m4w, .int 0, .long 0, .long 0, .long 0])), (mv, .inl (cm9, 200, .inl (fun _ => 0)))]) (hS : va_S A s.heap H locs) (hl : lv_has ls 4 [(0, .ref b), (1, .ref h0), (2, .ref h1), (3, .int 0)]) : W p l e room_1 s m #[Value.ref b] below meth c H locs 786 20946 (lw_Z below #[Value.ref b] s) (F0 m 225 ls []) := by
  obtain ⟨hx, hb, hr, hml, hown, hts, hX, hbl, hlocks, hgv⟩ := id C0
  have hown : s.vm.findClass RL = some m.cls := hown
  refine lv_aload_n hx hb dL_law_225 rfl (lv_at hl 1 rfl) ?_
  refine lv_aload_n hx hb dL_law_226 rfl (lv_at hl 0 rfl) ?_
  refine lv_iload_n hx hb dL_law_227 rfl (lv_at hl 3 rfl) ?_
  refine lv_iconst (v := 1) hx hb dL_law_228 (by decide) ?_
  refine lv_iadd hx hb dL_law_229 ?_
  refine k_topi (y := 1) (by decide) ?_
  refine va_sld hx hb hX hbl hbA hS (by unfold vp_in; decide) dL_law_230 ?_
  refine k_topi (y := xs 1) (congrArg xs (by decide)) ?_
  refine lv_aload_n hx hb dL_law_231 rfl (lv_at hl 0 rfl) ?_
  refine lv_iload_n hx hb dL_law_232 rfl (lv_at hl 3 rfl) ?_
  refine lv_iconst (v := 2) hx hb dL_law_233 (by decide) ?_
  refine lv_iadd hx hb dL_law_234 ?_
  refine k_topi (y := 2) (by decide) ?_
  refine va_sld hx hb hX hbl hbA hS (by unfold vp_in; decide) dL_law_235 ?_
  refine k_topi (y := xs 2) (congrArg xs (by decide)) ?_
  refine lv_aload_n hx hb dL_law_236 rfl (lv_at hl 0 rfl) ?_
  refine lv_iload_n hx hb dL_law_237 rfl (lv_at hl 3 rfl) ?_
  refine lv_iconst (v := 3) hx hb dL_law_238 (by decide) ?_
  refine lv_iadd hx hb dL_law_239 ?_
  refine k_topi (y := 3) (by decide) ?_
  refine va_sld hx hb hX hbl hbA hS (by unfold vp_in; decide) dL_law_240 ?_
  refine k_topi (y := xs 3) (congrArg xs (by decide)) ?_
  refine lv_aload_n hx hb dL_law_241 rfl (lv_at hl 0 rfl) ?_
  refine lv_iload_n hx hb dL_law_242 rfl (lv_at hl 3 rfl) ?_
  refine lv_iconst (v := 4) hx hb dL_law_243 (by decide) ?_
  refine lv_iadd hx hb dL_law_244 ?_
  refine k_topi (y := 4) (by decide) ?_
  refine va_sld hx hb hX hbl hbA hS (by unfold vp_in; decide) dL_law_245 ?_
  refine k_topi (y := xs 4) (congrArg xs (by decide)) ?_
  refine lv_aload_n hx hb dL_law_246 rfl (lv_at hl 0 rfl) ?_
  refine lv_iload_n hx hb dL_law_247 rfl (lv_at hl 3 rfl) ?_
  refine lv_iconst (v := 5) hx hb dL_law_248 (by decide) ?_
  refine lv_iadd hx hb dL_law_249 ?_
  refine k_topi (y := 5) (by decide) ?_
  refine va_sld hx hb hX hbl hbA hS (by unfold vp_in; decide) dL_law_250 ?_
  refine k_topi (y := xs 5) (congrArg xs (by decide)) ?_
  have hPc := hP.sub (ws' := [(h0, .inr (11, [.ref te, .ref ta, .ref re, .ref no, .ref pa, .ref ac, .ref op, .ref im, .ref ik, .ref hi, .ref rf, .int (-1)])), (ta, .inr (7, [.ref tb, .int 0])), (tb, .inl (cb, 200, .inl (fun _ => 0)))]) [0, 1, 2] rfl
  have hDc := hD.sub (ws' := [(h0, .inr (11, [.ref te, .ref ta, .ref re, .ref no, .ref pa, .ref ac, .ref op, .ref im, .ref ik, .ref hi, .ref rf, .int (-1)])), (ta, .inr (7, [.ref tb, .int 0])), (tb, .inl (cb, 200, .inl (fun _ => 0)))]) [0, 1, 2] (by decide) rfl
  have hKc := hK.sub (tys' := [(cb, .byte)]) [0] rfl
  have hFc := va_free (wc := [(h0, .inr (11, [.ref te, .ref ta, .ref re, .ref no, .ref pa, .ref ac, .ref op, .ref im, .ref ik, .ref hi, .ref rf, .int (-1)])), (ta, .inr (7, [.ref tb, .int 0])), (tb, .inl (cb, 200, .inl (fun _ => 0)))]) hD hS hA [0, 1, 2] rfl
  refine va_calli (va_runV (As := [.int (xs 1), .int (xs 2), .int (xs 3), .int (xs 4), .int (xs 5)]) (rest := []) ⟨hx, hb, hml, hown, hts⟩ (c_X11_feed l dC dI h0 (xs 1) (xs 2) (xs 3) (xs 4) (xs 5) te ta re no pa ac op im ik hi rf tb cb H.size) (cwV 5 hts (gi_V tb_c_X11_feed tw_577.1 tw_578.1 tw_579.1 tw_324.1) rfl rfl rfl (by decide +kernel) ⟨Nat.le_of_ble_eq_true rfl, Nat.le_of_ble_eq_true rfl⟩) ⟨fun a U g mk q => by obtain ⟨q0, q1, qP, qK, qD⟩ := q; exact ⟨q0, q1, qP, va_K.moved (u := U) (U := U.calling g mk a) (Vm.Alike.refl U.vm) qK, qD⟩, va_recv hKc hPc (ci := 11) (q0 := 0) rfl rfl, fun U hU hW => ⟨rfl, by rw [hU], by rw [hU]; exact hPc, va_K.moved hW.alike hKc, hDc.weaken (fun _ _ _ _ => trivial)⟩⟩ rfl rfl hl.1 rfl (lv_room (Nat.le_of_ble_eq_true rfl)) dL_law_251 ⟨Nat.le_of_ble_eq_true rfl, Nat.le_of_ble_eq_true rfl⟩) hS (fun q _ h => hFc q h) hFc (fun r_1 u t H1 locs ht hvm hw hB hz1 hk1 hS => ?_)
  obtain ⟨hP1, hK1, hD1⟩ := hB
  rw [ht] at hP1
  have hK1 := va_K.moved hvm.symm hK1
  obtain ⟨hP, hD⟩ := va_join (wr := [(h1, .inr (12, [.int 0, .int 0, .ref mr, .ref mt, .ref mw, .ref mu, .ref mp, .ref mi, .ref mk, .ref ms, .int 0, .ref mv, .int 0, .int 0, .int 0, .int 0, .long 0, .int (-1), .int 0, .ref m1w, .ref m2w, .ref m3w, .ref m4w, .int 0, .long 0, .long 0, .long 0])), (mv, .inl (cm9, 200, .inl (fun _ => 0)))]) (w1 := []) hP hD [0, 1, 2] [3, 4] rfl rfl (by decide) (by decide) hk1 hFc hP1 hD1
  generalize H1 = H at hP hS ⊢
  have hP : va_P (dC, dI) vwCl [(h1, .inr (12, [.int 0, .int 0, .ref mr, .ref mt, .ref mw, .ref mu, .ref mp, .ref mi, .ref mk, .ref ms, .int 0, .ref mv, .int 0, .int 0, .int 0, .int 0, .long 0, .int (-1), .int 0, .ref m1w, .ref m2w, .ref m3w, .ref m4w, .int 0, .long 0, .long 0, .long 0])), (mv, .inl (cm9, 200, .inl (fun _ => 0)))] H := hP
  have hD : va_D A [(h1, .inr (12, [.int 0, .int 0, .ref mr, .ref mt, .ref mw, .ref mu, .ref mp, .ref mi, .ref mk, .ref ms, .int 0, .ref mv, .int 0, .int 0, .int 0, .int 0, .long 0, .int (-1), .int 0, .ref m1w, .ref m2w, .ref m3w, .ref m4w, .int 0, .long 0, .long 0, .long 0])), (mv, .inl (cm9, 200, .inl (fun _ => 0)))] := hD
  refine W.widen (k := 786) (n := 20946) (Nat.le_of_ble_eq_true rfl) (Nat.le_of_ble_eq_true rfl) ?_
  have hw : r_1 = 20 := hw
  subst hw
  refine lv_aload_n hx hb dL_law_254 rfl (lv_at hl 2 rfl) ?_
  refine lv_aload_n hx hb dL_law_255 rfl (lv_at hl 0 rfl) ?_
  refine lv_iload_n hx hb dL_law_256 rfl (lv_at hl 3 rfl) ?_
  refine lv_iconst (v := 1) hx hb dL_law_257 (by decide) ?_
  refine lv_iadd hx hb dL_law_258 ?_
  refine k_topi (y := 1) (by decide) ?_
  refine va_sld hx hb hX hbl hbA hS (by unfold vp_in; decide) dL_law_259 ?_
  refine k_topi (y := xs 1) (congrArg xs (by decide)) ?_
  refine lv_aload_n hx hb dL_law_260 rfl (lv_at hl 0 rfl) ?_
  refine lv_iload_n hx hb dL_law_261 rfl (lv_at hl 3 rfl) ?_
  refine lv_iconst (v := 2) hx hb dL_law_262 (by decide) ?_
  refine lv_iadd hx hb dL_law_263 ?_
  refine k_topi (y := 2) (by decide) ?_
  refine va_sld hx hb hX hbl hbA hS (by unfold vp_in; decide) dL_law_264 ?_
  refine k_topi (y := xs 2) (congrArg xs (by decide)) ?_
  refine lv_aload_n hx hb dL_law_265 rfl (lv_at hl 0 rfl) ?_
  refine lv_iload_n hx hb dL_law_266 rfl (lv_at hl 3 rfl) ?_
  refine lv_iconst (v := 3) hx hb dL_law_267 (by decide) ?_
  refine lv_iadd hx hb dL_law_268 ?_
  refine k_topi (y := 3) (by decide) ?_
  refine va_sld hx hb hX hbl hbA hS (by unfold vp_in; decide) dL_law_269 ?_
  refine k_topi (y := xs 3) (congrArg xs (by decide)) ?_
  refine lv_aload_n hx hb dL_law_270 rfl (lv_at hl 0 rfl) ?_
  refine lv_iload_n hx hb dL_law_271 rfl (lv_at hl 3 rfl) ?_
  refine lv_iconst (v := 4) hx hb dL_law_272 (by decide) ?_
  refine lv_iadd hx hb dL_law_273 ?_
  refine k_topi (y := 4) (by decide) ?_
  refine va_sld hx hb hX hbl hbA hS (by unfold vp_in; decide) dL_law_274 ?_
  refine k_topi (y := xs 4) (congrArg xs (by decide)) ?_
  refine lv_aload_n hx hb dL_law_275 rfl (lv_at hl 0 rfl) ?_
  refine lv_iload_n hx hb dL_law_276 rfl (lv_at hl 3 rfl) ?_
  refine lv_iconst (v := 5) hx hb dL_law_277 (by decide) ?_
  refine lv_iadd hx hb dL_law_278 ?_
  refine k_topi (y := 5) (by decide) ?_
  refine va_sld hx hb hX hbl hbA hS (by unfold vp_in; decide) dL_law_279 ?_
  refine k_topi (y := xs 5) (congrArg xs (by decide)) ?_
  have hPc := hP.sub (ws' := [(h1, .inr (12, [.int 0, .int 0, .ref mr, .ref mt, .ref mw, .ref mu, .ref mp, .ref mi, .ref mk, .ref ms, .int 0, .ref mv, .int 0, .int 0, .int 0, .int 0, .long 0, .int (-1), .int 0, .ref m1w, .ref m2w, .ref m3w, .ref m4w, .int 0, .long 0, .long 0, .long 0])), (mv, .inl (cm9, 200, .inl (fun _ => 0)))]) [0, 1] rfl
  have hDc := hD.sub (ws' := [(h1, .inr (12, [.int 0, .int 0, .ref mr, .ref mt, .ref mw, .ref mu, .ref mp, .ref mi, .ref mk, .ref ms, .int 0, .ref mv, .int 0, .int 0, .int 0, .int 0, .long 0, .int (-1), .int 0, .ref m1w, .ref m2w, .ref m3w, .ref m4w, .int 0, .long 0, .long 0, .long 0])), (mv, .inl (cm9, 200, .inl (fun _ => 0)))]) [0, 1] (by decide) rfl
  have hKc := hK.sub (tys' := [(cm9, .int)]) [1] rfl
  have hFc := va_free (wc := [(h1, .inr (12, [.int 0, .int 0, .ref mr, .ref mt, .ref mw, .ref mu, .ref mp, .ref mi, .ref mk, .ref ms, .int 0, .ref mv, .int 0, .int 0, .int 0, .int 0, .long 0, .int (-1), .int 0, .ref m1w, .ref m2w, .ref m3w, .ref m4w, .int 0, .long 0, .long 0, .long 0])), (mv, .inl (cm9, 200, .inl (fun _ => 0)))]) hD hS hA [0, 1] rfl
  refine va_calli (va_runV (As := [.int (xs 1), .int (xs 2), .int (xs 3), .int (xs 4), .int (xs 5)]) (rest := [.int 20]) ⟨hx, hb, hml, hown, hts⟩ (c_X12_feed l dC dI h1 (xs 1) (xs 2) (xs 3) (xs 4) (xs 5) mr mt mw mu mp mi mk ms mv m1w m2w m3w m4w cm9 H.size) (cwV 5 hts (gi_V tb_c_X12_feed tw_580.1 tw_581.1 tw_582.1 tw_435.1) rfl rfl rfl (by decide +kernel) ⟨Nat.le_of_ble_eq_true rfl, Nat.le_of_ble_eq_true rfl⟩) ⟨fun a U g mk q => by obtain ⟨q0, q1, qP, qK, qD⟩ := q; exact ⟨q0, q1, qP, va_K.moved (u := U) (U := U.calling g mk a) (Vm.Alike.refl U.vm) qK, qD⟩, va_recv hKc hPc (ci := 12) (q0 := 0) rfl rfl, fun U hU hW => ⟨rfl, by rw [hU], by rw [hU]; exact hPc, va_K.moved hW.alike hKc, hDc.weaken (fun _ _ _ _ => trivial)⟩⟩ rfl rfl hl.1 rfl (lv_room (Nat.le_of_ble_eq_true rfl)) dL_law_280 ⟨Nat.le_of_ble_eq_true rfl, Nat.le_of_ble_eq_true rfl⟩) hS (fun q _ h => hFc q h) hFc (fun r_2 u t H1 locs ht hvm hw hB hz1 hk1 hS => ?_)
  obtain ⟨hP1, hK1, hD1⟩ := hB
  rw [ht] at hP1
  have hK1 := va_K.moved hvm.symm hK1
  obtain ⟨hP, hD⟩ := va_join (wr := []) (w1 := []) hP hD [0, 1] [] rfl rfl (by decide) (by decide) hk1 hFc hP1 hD1
  generalize H1 = H at hP hS ⊢
  have hP : va_P (dC, dI) vwCl [] H := hP
  have hD : va_D A [] := hD
  refine W.widen (k := 786) (n := 20946) (Nat.le_of_ble_eq_true rfl) (Nat.le_of_ble_eq_true rfl) ?_
  have hw : r_2 = 20 := hw
  subst hw
  refine lv_icmp_eq (tgt := 1204) hx hb dL_law_283 (by decide) (fun _ => ?_) (fun c => absurd (by decide) c)
  exact law_next C0 hA hbA hAq (hK.sub [] rfl) (hP.sub [] rfl) (hD.sub [] (by decide) rfl) hS (lv_sub hl [0, 1, 2, 3] rfl)
set_option maxHeartbeats 4000000 in
set_option maxRecDepth 100000 in
theorem law_end {p : Program} {l : Launch} {e : Env} {s : State} {m : MethodId} {below : List Frame} {meth : Method} {c : Code} {dC : Nat → ClassId} {dI : Nat → Nat → Nat} {b : Nat} {xs : Nat → Int32} {A : Nat → Prop} (C0 : lw_At p s m meth c b 6 xs) (hA : ∀ q : Nat, s.heap.size ≤ q → A q) (hbA : ¬ A b) (hAq : ∀ q : Nat, A q → s.heap.size ≤ q) {h0 : Nat} {h1 : Nat} {te : Nat} {ta : Nat} {re : Nat} {no : Nat} {pa : Nat} {ac : Nat} {op : Nat} {im : Nat} {ik : Nat} {hi : Nat} {rf : Nat} {tb : Nat} {mr : Nat} {mt : Nat} {mw : Nat} {mu : Nat} {mp : Nat} {mi : Nat} {mk : Nat} {ms : Nat} {mv : Nat} {m1w : Nat} {m2w : Nat} {m3w : Nat} {m4w : Nat} {H : Heap} {locs : List Loc} {ls : Array Slot} (hK : va_K (dC, dI) vwCl [] s) (hP : va_P (dC, dI) vwCl [(h0, .inr (11, [.ref te, .ref ta, .ref re, .ref no, .ref pa, .ref ac, .ref op, .ref im, .ref ik, .ref hi, .ref rf, .int (-1)])), (ta, .inr (7, [.ref tb, .int 0])), (h1, .inr (12, [.int 0, .int 0, .ref mr, .ref mt, .ref mw, .ref mu, .ref mp, .ref mi, .ref mk, .ref ms, .int 0, .ref mv, .int 0, .int 0, .int 0, .int 0, .long 0, .int (-1), .int 0, .ref m1w, .ref m2w, .ref m3w, .ref m4w, .int 0, .long 0, .long 0, .long 0]))] H) (hD : va_D A [(h0, .inr (11, [.ref te, .ref ta, .ref re, .ref no, .ref pa, .ref ac, .ref op, .ref im, .ref ik, .ref hi, .ref rf, .int (-1)])), (ta, .inr (7, [.ref tb, .int 0])), (h1, .inr (12, [.int 0, .int 0, .ref mr, .ref mt, .ref mw, .ref mu, .ref mp, .ref mi, .ref mk, .ref ms, .int 0, .ref mv, .int 0, .int 0, .int 0, .int 0, .long 0, .int (-1), .int 0, .ref m1w, .ref m2w, .ref m3w, .ref m4w, .int 0, .long 0, .long 0, .long 0]))]) (hS : va_S A s.heap H locs) (hl : lv_has ls 4 [(0, .ref b), (1, .ref h0), (2, .ref h1), (3, .int 0)]) : W p l e room_1 s m #[Value.ref b] below meth c H locs 786 20946 (lw_Z below #[Value.ref b] s) (F0 m 288 ls []) := by
  obtain ⟨hx, hb, hr, hml, hown, hts, hX, hbl, hlocks, hgv⟩ := id C0
  have hown : s.vm.findClass RL = some m.cls := hown
  refine lv_aload_n hx hb dL_law_288 rfl (lv_at hl 1 rfl) ?_
  refine lv_aload_n hx hb dL_law_289 rfl (lv_at hl 0 rfl) ?_
  refine lv_iload_n hx hb dL_law_290 rfl (lv_at hl 3 rfl) ?_
  refine lv_iconst (v := 1) hx hb dL_law_291 (by decide) ?_
  refine lv_iadd hx hb dL_law_292 ?_
  refine k_topi (y := 1) (by decide) ?_
  refine va_sld hx hb hX hbl hbA hS (by unfold vp_in; decide) dL_law_293 ?_
  refine k_topi (y := xs 1) (congrArg xs (by decide)) ?_
  have hPc := hP.sub (ws' := [(h0, .inr (11, [.ref te, .ref ta, .ref re, .ref no, .ref pa, .ref ac, .ref op, .ref im, .ref ik, .ref hi, .ref rf, .int (-1)])), (ta, .inr (7, [.ref tb, .int 0]))]) [0, 1] rfl
  have hDc := hD.sub (ws' := [(h0, .inr (11, [.ref te, .ref ta, .ref re, .ref no, .ref pa, .ref ac, .ref op, .ref im, .ref ik, .ref hi, .ref rf, .int (-1)])), (ta, .inr (7, [.ref tb, .int 0]))]) [0, 1] (by decide) rfl
  have hKc := hK.sub (tys' := []) [] rfl
  have hFc := va_free (wc := [(h0, .inr (11, [.ref te, .ref ta, .ref re, .ref no, .ref pa, .ref ac, .ref op, .ref im, .ref ik, .ref hi, .ref rf, .int (-1)])), (ta, .inr (7, [.ref tb, .int 0]))]) hD hS hA [0, 1] rfl
  refine va_calli (va_runV (As := [.int (xs 1)]) (rest := []) ⟨hx, hb, hml, hown, hts⟩ (c_X11_end l dC dI h0 (xs 1) te ta re no pa ac op im ik hi rf tb H.size) (cwV 1 hts (gi_V tb_c_X11_end tw_583.1 tw_584.1 tw_585.1 tw_324.1) rfl rfl rfl (by decide +kernel) ⟨Nat.le_of_ble_eq_true rfl, Nat.le_of_ble_eq_true rfl⟩) ⟨fun a U g mk q => by obtain ⟨q0, q1, qP, qK, qD⟩ := q; exact ⟨q0, q1, qP, va_K.moved (u := U) (U := U.calling g mk a) (Vm.Alike.refl U.vm) qK, qD⟩, va_recv hKc hPc (ci := 11) (q0 := 0) rfl rfl, fun U hU hW => ⟨rfl, by rw [hU], by rw [hU]; exact hPc, va_K.moved hW.alike hKc, hDc.weaken (fun _ _ _ _ => trivial)⟩⟩ rfl rfl hl.1 rfl (lv_room (Nat.le_of_ble_eq_true rfl)) dL_law_294 ⟨Nat.le_of_ble_eq_true rfl, Nat.le_of_ble_eq_true rfl⟩) hS (fun q _ h => hFc q h) hFc (fun r_1 u t H1 locs ht hvm hw hB hz1 hk1 hS => ?_)
  obtain ⟨hP1, hK1, hD1⟩ := hB
  rw [ht] at hP1
  have hK1 := va_K.moved hvm.symm hK1
  obtain ⟨hP, hD⟩ := va_join (wr := [(h1, .inr (12, [.int 0, .int 0, .ref mr, .ref mt, .ref mw, .ref mu, .ref mp, .ref mi, .ref mk, .ref ms, .int 0, .ref mv, .int 0, .int 0, .int 0, .int 0, .long 0, .int (-1), .int 0, .ref m1w, .ref m2w, .ref m3w, .ref m4w, .int 0, .long 0, .long 0, .long 0]))]) (w1 := []) hP hD [0, 1] [2] rfl rfl (by decide) (by decide) hk1 hFc hP1 hD1
  generalize H1 = H at hP hS ⊢
  have hP : va_P (dC, dI) vwCl [(h1, .inr (12, [.int 0, .int 0, .ref mr, .ref mt, .ref mw, .ref mu, .ref mp, .ref mi, .ref mk, .ref ms, .int 0, .ref mv, .int 0, .int 0, .int 0, .int 0, .long 0, .int (-1), .int 0, .ref m1w, .ref m2w, .ref m3w, .ref m4w, .int 0, .long 0, .long 0, .long 0]))] H := hP
  have hD : va_D A [(h1, .inr (12, [.int 0, .int 0, .ref mr, .ref mt, .ref mw, .ref mu, .ref mp, .ref mi, .ref mk, .ref ms, .int 0, .ref mv, .int 0, .int 0, .int 0, .int 0, .long 0, .int (-1), .int 0, .ref m1w, .ref m2w, .ref m3w, .ref m4w, .int 0, .long 0, .long 0, .long 0]))] := hD
  refine W.widen (k := 786) (n := 20946) (Nat.le_of_ble_eq_true rfl) (Nat.le_of_ble_eq_true rfl) ?_
  have hw : r_1 = sp_end (xs 1) := hw
  subst hw
  refine lv_aload_n hx hb dL_law_297 rfl (lv_at hl 2 rfl) ?_
  refine lv_aload_n hx hb dL_law_298 rfl (lv_at hl 0 rfl) ?_
  refine lv_iload_n hx hb dL_law_299 rfl (lv_at hl 3 rfl) ?_
  refine lv_iconst (v := 1) hx hb dL_law_300 (by decide) ?_
  refine lv_iadd hx hb dL_law_301 ?_
  refine k_topi (y := 1) (by decide) ?_
  refine va_sld hx hb hX hbl hbA hS (by unfold vp_in; decide) dL_law_302 ?_
  refine k_topi (y := xs 1) (congrArg xs (by decide)) ?_
  have hPc := hP.sub (ws' := [(h1, .inr (12, [.int 0, .int 0, .ref mr, .ref mt, .ref mw, .ref mu, .ref mp, .ref mi, .ref mk, .ref ms, .int 0, .ref mv, .int 0, .int 0, .int 0, .int 0, .long 0, .int (-1), .int 0, .ref m1w, .ref m2w, .ref m3w, .ref m4w, .int 0, .long 0, .long 0, .long 0]))]) [0] rfl
  have hDc := hD.sub (ws' := [(h1, .inr (12, [.int 0, .int 0, .ref mr, .ref mt, .ref mw, .ref mu, .ref mp, .ref mi, .ref mk, .ref ms, .int 0, .ref mv, .int 0, .int 0, .int 0, .int 0, .long 0, .int (-1), .int 0, .ref m1w, .ref m2w, .ref m3w, .ref m4w, .int 0, .long 0, .long 0, .long 0]))]) [0] (by decide) rfl
  have hKc := hK.sub (tys' := []) [] rfl
  have hFc := va_free (wc := [(h1, .inr (12, [.int 0, .int 0, .ref mr, .ref mt, .ref mw, .ref mu, .ref mp, .ref mi, .ref mk, .ref ms, .int 0, .ref mv, .int 0, .int 0, .int 0, .int 0, .long 0, .int (-1), .int 0, .ref m1w, .ref m2w, .ref m3w, .ref m4w, .int 0, .long 0, .long 0, .long 0]))]) hD hS hA [0] rfl
  refine va_calli (va_runV (As := [.int (xs 1)]) (rest := [.int (sp_end (xs 1))]) ⟨hx, hb, hml, hown, hts⟩ (c_X12_end l dC dI h1 (xs 1) mr mt mw mu mp mi mk ms mv m1w m2w m3w m4w H.size) (cwV 1 hts (gi_V tb_c_X12_end tw_586.1 tw_587.1 tw_588.1 tw_435.1) rfl rfl rfl (by decide +kernel) ⟨Nat.le_of_ble_eq_true rfl, Nat.le_of_ble_eq_true rfl⟩) ⟨fun a U g mk q => by obtain ⟨q0, q1, qP, qK, qD⟩ := q; exact ⟨q0, q1, qP, va_K.moved (u := U) (U := U.calling g mk a) (Vm.Alike.refl U.vm) qK, qD⟩, va_recv hKc hPc (ci := 12) (q0 := 0) rfl rfl, fun U hU hW => ⟨rfl, by rw [hU], by rw [hU]; exact hPc, va_K.moved hW.alike hKc, hDc.weaken (fun _ _ _ _ => trivial)⟩⟩ rfl rfl hl.1 rfl (lv_room (Nat.le_of_ble_eq_true rfl)) dL_law_303 ⟨Nat.le_of_ble_eq_true rfl, Nat.le_of_ble_eq_true rfl⟩) hS (fun q _ h => hFc q h) hFc (fun r_2 u t H1 locs ht hvm hw hB hz1 hk1 hS => ?_)
  obtain ⟨hP1, hK1, hD1⟩ := hB
  rw [ht] at hP1
  have hK1 := va_K.moved hvm.symm hK1
  obtain ⟨hP, hD⟩ := va_join (wr := []) (w1 := []) hP hD [0] [] rfl rfl (by decide) (by decide) hk1 hFc hP1 hD1
  generalize H1 = H at hP hS ⊢
  have hP : va_P (dC, dI) vwCl [] H := hP
  have hD : va_D A [] := hD
  refine W.widen (k := 786) (n := 20946) (Nat.le_of_ble_eq_true rfl) (Nat.le_of_ble_eq_true rfl) ?_
  have hw : r_2 = sp_end (xs 1) := hw
  subst hw
  refine lv_icmp_eq (tgt := 1204) hx hb dL_law_306 (by decide) (fun _ => ?_) (fun c => absurd rfl c)
  exact law_next C0 hA hbA hAq (hK.sub [] rfl) (hP.sub [] rfl) (hD.sub [] (by decide) rfl) hS (lv_sub hl [0, 1, 2, 3] rfl)
set_option maxHeartbeats 4000000 in
set_option maxRecDepth 100000 in
theorem law_tape {p : Program} {l : Launch} {e : Env} {s : State} {m : MethodId} {below : List Frame} {meth : Method} {c : Code} {dC : Nat → ClassId} {dI : Nat → Nat → Nat} {b : Nat} {xs : Nat → Int32} {A : Nat → Prop} (C0 : lw_At p s m meth c b 6 xs) (hA : ∀ q : Nat, s.heap.size ≤ q → A q) (hbA : ¬ A b) (hAq : ∀ q : Nat, A q → s.heap.size ≤ q) {h0 : Nat} {h1 : Nat} {te : Nat} {ta : Nat} {re : Nat} {no : Nat} {pa : Nat} {ac : Nat} {op : Nat} {im : Nat} {ik : Nat} {hi : Nat} {rf : Nat} {tb : Nat} {mr : Nat} {mt : Nat} {mw : Nat} {mu : Nat} {mp : Nat} {mi : Nat} {mk : Nat} {ms : Nat} {mv : Nat} {m1w : Nat} {m2w : Nat} {m3w : Nat} {m4w : Nat} {H : Heap} {locs : List Loc} {ls : Array Slot} (hK : va_K (dC, dI) vwCl [] s) (hP : va_P (dC, dI) vwCl [(h0, .inr (11, [.ref te, .ref ta, .ref re, .ref no, .ref pa, .ref ac, .ref op, .ref im, .ref ik, .ref hi, .ref rf, .int (-1)])), (ta, .inr (7, [.ref tb, .int 0])), (h1, .inr (12, [.int 0, .int 0, .ref mr, .ref mt, .ref mw, .ref mu, .ref mp, .ref mi, .ref mk, .ref ms, .int 0, .ref mv, .int 0, .int 0, .int 0, .int 0, .long 0, .int (-1), .int 0, .ref m1w, .ref m2w, .ref m3w, .ref m4w, .int 0, .long 0, .long 0, .long 0]))] H) (hD : va_D A [(h0, .inr (11, [.ref te, .ref ta, .ref re, .ref no, .ref pa, .ref ac, .ref op, .ref im, .ref ik, .ref hi, .ref rf, .int (-1)])), (ta, .inr (7, [.ref tb, .int 0])), (h1, .inr (12, [.int 0, .int 0, .ref mr, .ref mt, .ref mw, .ref mu, .ref mp, .ref mi, .ref mk, .ref ms, .int 0, .ref mv, .int 0, .int 0, .int 0, .int 0, .long 0, .int (-1), .int 0, .ref m1w, .ref m2w, .ref m3w, .ref m4w, .int 0, .long 0, .long 0, .long 0]))]) (hS : va_S A s.heap H locs) (hl : lv_has ls 4 [(0, .ref b), (1, .ref h0), (2, .ref h1), (3, .int 0)]) : W p l e room_1 s m #[Value.ref b] below meth c H locs 786 20946 (lw_Z below #[Value.ref b] s) (F0 m 311 ls []) := by
  obtain ⟨hx, hb, hr, hml, hown, hts, hX, hbl, hlocks, hgv⟩ := id C0
  have hown : s.vm.findClass RL = some m.cls := hown
  refine lv_aload_n hx hb dL_law_311 rfl (lv_at hl 1 rfl) ?_
  refine lv_aload_n hx hb dL_law_312 rfl (lv_at hl 0 rfl) ?_
  refine lv_iload_n hx hb dL_law_313 rfl (lv_at hl 3 rfl) ?_
  refine lv_iconst (v := 1) hx hb dL_law_314 (by decide) ?_
  refine lv_iadd hx hb dL_law_315 ?_
  refine k_topi (y := 1) (by decide) ?_
  refine va_sld hx hb hX hbl hbA hS (by unfold vp_in; decide) dL_law_316 ?_
  refine k_topi (y := xs 1) (congrArg xs (by decide)) ?_
  have hPc := hP.sub (ws' := [(h0, .inr (11, [.ref te, .ref ta, .ref re, .ref no, .ref pa, .ref ac, .ref op, .ref im, .ref ik, .ref hi, .ref rf, .int (-1)])), (ta, .inr (7, [.ref tb, .int 0]))]) [0, 1] rfl
  have hDc := hD.sub (ws' := [(h0, .inr (11, [.ref te, .ref ta, .ref re, .ref no, .ref pa, .ref ac, .ref op, .ref im, .ref ik, .ref hi, .ref rf, .int (-1)])), (ta, .inr (7, [.ref tb, .int 0]))]) [0, 1] (by decide) rfl
  have hKc := hK.sub (tys' := []) [] rfl
  have hFc := va_free (wc := [(h0, .inr (11, [.ref te, .ref ta, .ref re, .ref no, .ref pa, .ref ac, .ref op, .ref im, .ref ik, .ref hi, .ref rf, .int (-1)])), (ta, .inr (7, [.ref tb, .int 0]))]) hD hS hA [0, 1] rfl
  refine va_calli (va_runV (As := [.int (xs 1)]) (rest := []) ⟨hx, hb, hml, hown, hts⟩ (c_X11_tape l dC dI h0 (xs 1) te ta re no pa ac op im ik hi rf tb H.size) (cwV 1 hts (gi_V tb_c_X11_tape tw_589.1 tw_590.1 tw_591.1 tw_324.1) rfl rfl rfl (by decide +kernel) ⟨Nat.le_of_ble_eq_true rfl, Nat.le_of_ble_eq_true rfl⟩) ⟨fun a U g mk q => by obtain ⟨q0, q1, qP, qK, qD⟩ := q; exact ⟨q0, q1, qP, va_K.moved (u := U) (U := U.calling g mk a) (Vm.Alike.refl U.vm) qK, qD⟩, va_recv hKc hPc (ci := 11) (q0 := 0) rfl rfl, fun U hU hW => ⟨rfl, by rw [hU], by rw [hU]; exact hPc, va_K.moved hW.alike hKc, hDc.weaken (fun _ _ _ _ => trivial)⟩⟩ rfl rfl hl.1 rfl (lv_room (Nat.le_of_ble_eq_true rfl)) dL_law_317 ⟨Nat.le_of_ble_eq_true rfl, Nat.le_of_ble_eq_true rfl⟩) hS (fun q _ h => hFc q h) hFc (fun r_1 u t H1 locs ht hvm hw hB hz1 hk1 hS => ?_)
  obtain ⟨hP1, hK1, hD1⟩ := hB
  rw [ht] at hP1
  have hK1 := va_K.moved hvm.symm hK1
  obtain ⟨hP, hD⟩ := va_join (wr := [(h1, .inr (12, [.int 0, .int 0, .ref mr, .ref mt, .ref mw, .ref mu, .ref mp, .ref mi, .ref mk, .ref ms, .int 0, .ref mv, .int 0, .int 0, .int 0, .int 0, .long 0, .int (-1), .int 0, .ref m1w, .ref m2w, .ref m3w, .ref m4w, .int 0, .long 0, .long 0, .long 0]))]) (w1 := []) hP hD [0, 1] [2] rfl rfl (by decide) (by decide) hk1 hFc hP1 hD1
  generalize H1 = H at hP hS ⊢
  have hP : va_P (dC, dI) vwCl [(h1, .inr (12, [.int 0, .int 0, .ref mr, .ref mt, .ref mw, .ref mu, .ref mp, .ref mi, .ref mk, .ref ms, .int 0, .ref mv, .int 0, .int 0, .int 0, .int 0, .long 0, .int (-1), .int 0, .ref m1w, .ref m2w, .ref m3w, .ref m4w, .int 0, .long 0, .long 0, .long 0]))] H := hP
  have hD : va_D A [(h1, .inr (12, [.int 0, .int 0, .ref mr, .ref mt, .ref mw, .ref mu, .ref mp, .ref mi, .ref mk, .ref ms, .int 0, .ref mv, .int 0, .int 0, .int 0, .int 0, .long 0, .int (-1), .int 0, .ref m1w, .ref m2w, .ref m3w, .ref m4w, .int 0, .long 0, .long 0, .long 0]))] := hD
  refine W.widen (k := 786) (n := 20946) (Nat.le_of_ble_eq_true rfl) (Nat.le_of_ble_eq_true rfl) ?_
  have hw : r_1 = (-1) := hw
  subst hw
  refine lv_aload_n hx hb dL_law_320 rfl (lv_at hl 2 rfl) ?_
  refine lv_aload_n hx hb dL_law_321 rfl (lv_at hl 0 rfl) ?_
  refine lv_iload_n hx hb dL_law_322 rfl (lv_at hl 3 rfl) ?_
  refine lv_iconst (v := 1) hx hb dL_law_323 (by decide) ?_
  refine lv_iadd hx hb dL_law_324 ?_
  refine k_topi (y := 1) (by decide) ?_
  refine va_sld hx hb hX hbl hbA hS (by unfold vp_in; decide) dL_law_325 ?_
  refine k_topi (y := xs 1) (congrArg xs (by decide)) ?_
  have hPc := hP.sub (ws' := [(h1, .inr (12, [.int 0, .int 0, .ref mr, .ref mt, .ref mw, .ref mu, .ref mp, .ref mi, .ref mk, .ref ms, .int 0, .ref mv, .int 0, .int 0, .int 0, .int 0, .long 0, .int (-1), .int 0, .ref m1w, .ref m2w, .ref m3w, .ref m4w, .int 0, .long 0, .long 0, .long 0]))]) [0] rfl
  have hDc := hD.sub (ws' := [(h1, .inr (12, [.int 0, .int 0, .ref mr, .ref mt, .ref mw, .ref mu, .ref mp, .ref mi, .ref mk, .ref ms, .int 0, .ref mv, .int 0, .int 0, .int 0, .int 0, .long 0, .int (-1), .int 0, .ref m1w, .ref m2w, .ref m3w, .ref m4w, .int 0, .long 0, .long 0, .long 0]))]) [0] (by decide) rfl
  have hKc := hK.sub (tys' := []) [] rfl
  have hFc := va_free (wc := [(h1, .inr (12, [.int 0, .int 0, .ref mr, .ref mt, .ref mw, .ref mu, .ref mp, .ref mi, .ref mk, .ref ms, .int 0, .ref mv, .int 0, .int 0, .int 0, .int 0, .long 0, .int (-1), .int 0, .ref m1w, .ref m2w, .ref m3w, .ref m4w, .int 0, .long 0, .long 0, .long 0]))]) hD hS hA [0] rfl
  refine va_calli (va_runV (As := [.int (xs 1)]) (rest := [.int (-1)]) ⟨hx, hb, hml, hown, hts⟩ (c_X12_tape l dC dI h1 (xs 1) mr mt mw mu mp mi mk ms mv m1w m2w m3w m4w H.size) (cwV 1 hts (gi_V tb_c_X12_tape tw_592.1 tw_593.1 tw_594.1 tw_435.1) rfl rfl rfl (by decide +kernel) ⟨Nat.le_of_ble_eq_true rfl, Nat.le_of_ble_eq_true rfl⟩) ⟨fun a U g mk q => by obtain ⟨q0, q1, qP, qK, qD⟩ := q; exact ⟨q0, q1, qP, va_K.moved (u := U) (U := U.calling g mk a) (Vm.Alike.refl U.vm) qK, qD⟩, va_recv hKc hPc (ci := 12) (q0 := 0) rfl rfl, fun U hU hW => ⟨rfl, by rw [hU], by rw [hU]; exact hPc, va_K.moved hW.alike hKc, hDc.weaken (fun _ _ _ _ => trivial)⟩⟩ rfl rfl hl.1 rfl (lv_room (Nat.le_of_ble_eq_true rfl)) dL_law_326 ⟨Nat.le_of_ble_eq_true rfl, Nat.le_of_ble_eq_true rfl⟩) hS (fun q _ h => hFc q h) hFc (fun r_2 u t H1 locs ht hvm hw hB hz1 hk1 hS => ?_)
  obtain ⟨hP1, hK1, hD1⟩ := hB
  rw [ht] at hP1
  have hK1 := va_K.moved hvm.symm hK1
  obtain ⟨hP, hD⟩ := va_join (wr := []) (w1 := []) hP hD [0] [] rfl rfl (by decide) (by decide) hk1 hFc hP1 hD1
  generalize H1 = H at hP hS ⊢
  have hP : va_P (dC, dI) vwCl [] H := hP
  have hD : va_D A [] := hD
  refine W.widen (k := 786) (n := 20946) (Nat.le_of_ble_eq_true rfl) (Nat.le_of_ble_eq_true rfl) ?_
  have hw : r_2 = (-1) := hw
  subst hw
  refine lv_icmp_eq (tgt := 1204) hx hb dL_law_329 (by decide) (fun _ => ?_) (fun c => absurd (by decide) c)
  exact law_next C0 hA hbA hAq (hK.sub [] rfl) (hP.sub [] rfl) (hD.sub [] (by decide) rfl) hS (lv_sub hl [0, 1, 2, 3] rfl)
set_option maxHeartbeats 4000000 in
set_option maxRecDepth 100000 in
theorem law_task {p : Program} {l : Launch} {e : Env} {s : State} {m : MethodId} {below : List Frame} {meth : Method} {c : Code} {dC : Nat → ClassId} {dI : Nat → Nat → Nat} {b : Nat} {xs : Nat → Int32} {A : Nat → Prop} (C0 : lw_At p s m meth c b 6 xs) (hA : ∀ q : Nat, s.heap.size ≤ q → A q) (hbA : ¬ A b) (hAq : ∀ q : Nat, A q → s.heap.size ≤ q) {h0 : Nat} {h1 : Nat} {te : Nat} {ta : Nat} {re : Nat} {no : Nat} {pa : Nat} {ac : Nat} {op : Nat} {im : Nat} {ik : Nat} {hi : Nat} {rf : Nat} {nt : Nat} {nl : Nat} {ns : Nat} {np : Nat} {ct : ClassId} {fn : Nat → Option Nat} {nr : Nat} {cl1 : ClassId} {t0 : Nat} {sc0 : Nat} {lg0 : Nat} {sp0 : Nat} {hbf : Nat} {hac : Nat} {cs2 : ClassId} {fb : Nat → Option Nat} {ci1 : ClassId} {b0 : Nat} {bt : Nat} {bl : Nat} {bs : Nat} {bp : Nat} {br : Nat} {cl5 : ClassId} {rc : Nat} {ci2 : ClassId} {mr : Nat} {mt : Nat} {mw : Nat} {mu : Nat} {mp : Nat} {mi : Nat} {mk : Nat} {ms : Nat} {mv : Nat} {m1w : Nat} {m2w : Nat} {m3w : Nat} {m4w : Nat} {cm1 : ClassId} {cm3 : ClassId} {fw : Nat → Int64} {cm4 : ClassId} {cm8 : ClassId} {H : Heap} {locs : List Loc} {ls : Array Slot} (hfn : fn 0 = some t0) (hfb : fb 0 = some b0) (hw0 : fw 0 = 0) (hw1 : fw 1 = 0) (hw2 : fw 2 = 0) (hw3 : fw 3 = (-1)) (hw4 : fw 4 = (-1)) (hw5 : fw 5 = 0) (hK : va_K (dC, dI) vwCl [(ct, .object "DeadlineShare$Task"), (cl1, .long), (cs2, .object "DeadlineShare$State"), (ci1, .int), (cl5, .long), (ci2, .int), (cm1, .int), (cm3, .long), (cm4, .long), (cm8, .int)] s) (hP : va_P (dC, dI) vwCl [(h0, .inr (11, [.ref te, .ref ta, .ref re, .ref no, .ref pa, .ref ac, .ref op, .ref im, .ref ik, .ref hi, .ref rf, .int (-1)])), (no, .inr (6, [.ref te, .ref nt, .ref nl, .ref ns, .ref np, .int 0, .int 0, .long 0, .int (-1), .int (-1)])), (nt, .inl (ct, 12, .inr (.inr (.inr (.inr fn))))), (nl, .inr (2, [.ref nr])), (nr, .inl (cl1, 128, .inr (.inl (fun _ => 0)))), (t0, .inr (8, [.int 0, .ref sc0, .int 0, .int 0, .int 0, .long 0, .int 0, .ref lg0, .int 0, .int 0, .int 0, .int 0, .int 0, .int 0, .int 0, .int 0, .int 0, .int 0])), (sc0, .inr (5, [.ref sp0, .int 0, .int 0, .int 0, .int 0])), (lg0, .inr (10, [.long 0, .long 0])), (hi, .inr (1, [.ref hbf, .ref hac, .int 0, .int 0])), (hbf, .inl (cs2, 10, .inr (.inr (.inr (.inr fb))))), (hac, .inl (ci1, 10, .inl (fun _ => 0))), (b0, .inr (6, [.ref te, .ref bt, .ref bl, .ref bs, .ref bp, .int 0, .int 0, .long 0, .int (-1), .int (-1)])), (bl, .inr (2, [.ref br])), (br, .inl (cl5, 128, .inr (.inl (fun _ => 0)))), (rf, .inr (4, [.ref rc, .int 0])), (rc, .inl (ci2, 5, .inl (fun _ => 0))), (h1, .inr (12, [.int 0, .int 0, .ref mr, .ref mt, .ref mw, .ref mu, .ref mp, .ref mi, .ref mk, .ref ms, .int 0, .ref mv, .int 0, .int 0, .int 0, .int 0, .long 0, .int (-1), .int 0, .ref m1w, .ref m2w, .ref m3w, .ref m4w, .int 0, .long 0, .long 0, .long 0])), (mr, .inl (cm1, 7, .inl (fun _ => 0))), (mw, .inl (cm3, 906, .inr (.inl fw))), (mu, .inl (cm4, 9060, .inr (.inl (fun _ => 0)))), (ms, .inl (cm8, 10, .inl (fun _ => 0)))] H) (hD : va_D A [(h0, .inr (11, [.ref te, .ref ta, .ref re, .ref no, .ref pa, .ref ac, .ref op, .ref im, .ref ik, .ref hi, .ref rf, .int (-1)])), (no, .inr (6, [.ref te, .ref nt, .ref nl, .ref ns, .ref np, .int 0, .int 0, .long 0, .int (-1), .int (-1)])), (nt, .inl (ct, 12, .inr (.inr (.inr (.inr fn))))), (nl, .inr (2, [.ref nr])), (nr, .inl (cl1, 128, .inr (.inl (fun _ => 0)))), (t0, .inr (8, [.int 0, .ref sc0, .int 0, .int 0, .int 0, .long 0, .int 0, .ref lg0, .int 0, .int 0, .int 0, .int 0, .int 0, .int 0, .int 0, .int 0, .int 0, .int 0])), (sc0, .inr (5, [.ref sp0, .int 0, .int 0, .int 0, .int 0])), (lg0, .inr (10, [.long 0, .long 0])), (hi, .inr (1, [.ref hbf, .ref hac, .int 0, .int 0])), (hbf, .inl (cs2, 10, .inr (.inr (.inr (.inr fb))))), (hac, .inl (ci1, 10, .inl (fun _ => 0))), (b0, .inr (6, [.ref te, .ref bt, .ref bl, .ref bs, .ref bp, .int 0, .int 0, .long 0, .int (-1), .int (-1)])), (bl, .inr (2, [.ref br])), (br, .inl (cl5, 128, .inr (.inl (fun _ => 0)))), (rf, .inr (4, [.ref rc, .int 0])), (rc, .inl (ci2, 5, .inl (fun _ => 0))), (h1, .inr (12, [.int 0, .int 0, .ref mr, .ref mt, .ref mw, .ref mu, .ref mp, .ref mi, .ref mk, .ref ms, .int 0, .ref mv, .int 0, .int 0, .int 0, .int 0, .long 0, .int (-1), .int 0, .ref m1w, .ref m2w, .ref m3w, .ref m4w, .int 0, .long 0, .long 0, .long 0])), (mr, .inl (cm1, 7, .inl (fun _ => 0))), (mw, .inl (cm3, 906, .inr (.inl fw))), (mu, .inl (cm4, 9060, .inr (.inl (fun _ => 0)))), (ms, .inl (cm8, 10, .inl (fun _ => 0)))]) (hS : va_S A s.heap H locs) (hl : lv_has ls 4 [(0, .ref b), (1, .ref h0), (2, .ref h1), (3, .int 0)]) : W p l e room_1 s m #[Value.ref b] below meth c H locs 786 20946 (lw_Z below #[Value.ref b] s) (F0 m 334 ls []) := by
  obtain ⟨hx, hb, hr, hml, hown, hts, hX, hbl, hlocks, hgv⟩ := id C0
  have hown : s.vm.findClass RL = some m.cls := hown
  refine lv_aload_n hx hb dL_law_334 rfl (lv_at hl 1 rfl) ?_
  refine lv_aload_n hx hb dL_law_335 rfl (lv_at hl 0 rfl) ?_
  refine lv_iload_n hx hb dL_law_336 rfl (lv_at hl 3 rfl) ?_
  refine lv_iconst (v := 1) hx hb dL_law_337 (by decide) ?_
  refine lv_iadd hx hb dL_law_338 ?_
  refine k_topi (y := 1) (by decide) ?_
  refine va_sld hx hb hX hbl hbA hS (by unfold vp_in; decide) dL_law_339 ?_
  refine k_topi (y := xs 1) (congrArg xs (by decide)) ?_
  refine lv_aload_n hx hb dL_law_340 rfl (lv_at hl 0 rfl) ?_
  refine lv_iload_n hx hb dL_law_341 rfl (lv_at hl 3 rfl) ?_
  refine lv_iconst (v := 2) hx hb dL_law_342 (by decide) ?_
  refine lv_iadd hx hb dL_law_343 ?_
  refine k_topi (y := 2) (by decide) ?_
  refine va_sld hx hb hX hbl hbA hS (by unfold vp_in; decide) dL_law_344 ?_
  refine k_topi (y := xs 2) (congrArg xs (by decide)) ?_
  have hPc := hP.sub (ws' := [(h0, .inr (11, [.ref te, .ref ta, .ref re, .ref no, .ref pa, .ref ac, .ref op, .ref im, .ref ik, .ref hi, .ref rf, .int (-1)])), (no, .inr (6, [.ref te, .ref nt, .ref nl, .ref ns, .ref np, .int 0, .int 0, .long 0, .int (-1), .int (-1)])), (nt, .inl (ct, 12, .inr (.inr (.inr (.inr fn))))), (nl, .inr (2, [.ref nr])), (nr, .inl (cl1, 128, .inr (.inl (fun _ => 0)))), (t0, .inr (8, [.int 0, .ref sc0, .int 0, .int 0, .int 0, .long 0, .int 0, .ref lg0, .int 0, .int 0, .int 0, .int 0, .int 0, .int 0, .int 0, .int 0, .int 0, .int 0])), (sc0, .inr (5, [.ref sp0, .int 0, .int 0, .int 0, .int 0])), (lg0, .inr (10, [.long 0, .long 0])), (hi, .inr (1, [.ref hbf, .ref hac, .int 0, .int 0])), (hbf, .inl (cs2, 10, .inr (.inr (.inr (.inr fb))))), (hac, .inl (ci1, 10, .inl (fun _ => 0))), (b0, .inr (6, [.ref te, .ref bt, .ref bl, .ref bs, .ref bp, .int 0, .int 0, .long 0, .int (-1), .int (-1)])), (bl, .inr (2, [.ref br])), (br, .inl (cl5, 128, .inr (.inl (fun _ => 0)))), (rf, .inr (4, [.ref rc, .int 0])), (rc, .inl (ci2, 5, .inl (fun _ => 0)))]) [0, 1, 2, 3, 4, 5, 6, 7, 8, 9, 10, 11, 12, 13, 14, 15] rfl
  have hDc := hD.sub (ws' := [(h0, .inr (11, [.ref te, .ref ta, .ref re, .ref no, .ref pa, .ref ac, .ref op, .ref im, .ref ik, .ref hi, .ref rf, .int (-1)])), (no, .inr (6, [.ref te, .ref nt, .ref nl, .ref ns, .ref np, .int 0, .int 0, .long 0, .int (-1), .int (-1)])), (nt, .inl (ct, 12, .inr (.inr (.inr (.inr fn))))), (nl, .inr (2, [.ref nr])), (nr, .inl (cl1, 128, .inr (.inl (fun _ => 0)))), (t0, .inr (8, [.int 0, .ref sc0, .int 0, .int 0, .int 0, .long 0, .int 0, .ref lg0, .int 0, .int 0, .int 0, .int 0, .int 0, .int 0, .int 0, .int 0, .int 0, .int 0])), (sc0, .inr (5, [.ref sp0, .int 0, .int 0, .int 0, .int 0])), (lg0, .inr (10, [.long 0, .long 0])), (hi, .inr (1, [.ref hbf, .ref hac, .int 0, .int 0])), (hbf, .inl (cs2, 10, .inr (.inr (.inr (.inr fb))))), (hac, .inl (ci1, 10, .inl (fun _ => 0))), (b0, .inr (6, [.ref te, .ref bt, .ref bl, .ref bs, .ref bp, .int 0, .int 0, .long 0, .int (-1), .int (-1)])), (bl, .inr (2, [.ref br])), (br, .inl (cl5, 128, .inr (.inl (fun _ => 0)))), (rf, .inr (4, [.ref rc, .int 0])), (rc, .inl (ci2, 5, .inl (fun _ => 0)))]) [0, 1, 2, 3, 4, 5, 6, 7, 8, 9, 10, 11, 12, 13, 14, 15] (by decide) rfl
  have hKc := hK.sub (tys' := [(ct, .object "DeadlineShare$Task"), (cl1, .long), (cs2, .object "DeadlineShare$State"), (ci1, .int), (cl5, .long), (ci2, .int)]) [0, 1, 2, 3, 4, 5] rfl
  have hFc := va_free (wc := [(h0, .inr (11, [.ref te, .ref ta, .ref re, .ref no, .ref pa, .ref ac, .ref op, .ref im, .ref ik, .ref hi, .ref rf, .int (-1)])), (no, .inr (6, [.ref te, .ref nt, .ref nl, .ref ns, .ref np, .int 0, .int 0, .long 0, .int (-1), .int (-1)])), (nt, .inl (ct, 12, .inr (.inr (.inr (.inr fn))))), (nl, .inr (2, [.ref nr])), (nr, .inl (cl1, 128, .inr (.inl (fun _ => 0)))), (t0, .inr (8, [.int 0, .ref sc0, .int 0, .int 0, .int 0, .long 0, .int 0, .ref lg0, .int 0, .int 0, .int 0, .int 0, .int 0, .int 0, .int 0, .int 0, .int 0, .int 0])), (sc0, .inr (5, [.ref sp0, .int 0, .int 0, .int 0, .int 0])), (lg0, .inr (10, [.long 0, .long 0])), (hi, .inr (1, [.ref hbf, .ref hac, .int 0, .int 0])), (hbf, .inl (cs2, 10, .inr (.inr (.inr (.inr fb))))), (hac, .inl (ci1, 10, .inl (fun _ => 0))), (b0, .inr (6, [.ref te, .ref bt, .ref bl, .ref bs, .ref bp, .int 0, .int 0, .long 0, .int (-1), .int (-1)])), (bl, .inr (2, [.ref br])), (br, .inl (cl5, 128, .inr (.inl (fun _ => 0)))), (rf, .inr (4, [.ref rc, .int 0])), (rc, .inl (ci2, 5, .inl (fun _ => 0)))]) hD hS hA [0, 1, 2, 3, 4, 5, 6, 7, 8, 9, 10, 11, 12, 13, 14, 15] rfl
  refine va_calli (va_runV (As := [.int (xs 1), .int (xs 2)]) (rest := []) ⟨hx, hb, hml, hown, hts⟩ (c_X11_task l dC dI h0 (xs 1) (xs 2) te ta re no pa ac op im ik hi rf nt nl ns np ct fn nr cl1 t0 sc0 lg0 sp0 hbf hac cs2 fb ci1 b0 bt bl bs bp br cl5 rc ci2 H.size hfn hfb) (cwV 2 hts (gi_V tb_c_X11_task tw_595.1 tw_596.1 tw_597.1 tw_324.1) rfl rfl rfl (by decide +kernel) ⟨Nat.le_of_ble_eq_true rfl, Nat.le_of_ble_eq_true rfl⟩) ⟨fun a U g mk q => by obtain ⟨q0, q1, qP, qK, qD⟩ := q; exact ⟨q0, q1, qP, va_K.moved (u := U) (U := U.calling g mk a) (Vm.Alike.refl U.vm) qK, qD⟩, va_recv hKc hPc (ci := 11) (q0 := 0) rfl rfl, fun U hU hW => ⟨rfl, by rw [hU], by rw [hU]; exact hPc, va_K.moved hW.alike hKc, hDc.weaken (fun _ _ _ _ => trivial)⟩⟩ rfl rfl hl.1 rfl (lv_room (Nat.le_of_ble_eq_true rfl)) dL_law_345 ⟨Nat.le_of_ble_eq_true rfl, Nat.le_of_ble_eq_true rfl⟩) hS (fun q _ h => hFc q h) hFc (fun r_1 u t H1 locs ht hvm hw hB hz1 hk1 hS => ?_)
  obtain ⟨hP1, hK1, hD1⟩ := hB
  rw [ht] at hP1
  have hK1 := va_K.moved hvm.symm hK1
  obtain ⟨hP, hD⟩ := va_join (wr := [(h1, .inr (12, [.int 0, .int 0, .ref mr, .ref mt, .ref mw, .ref mu, .ref mp, .ref mi, .ref mk, .ref ms, .int 0, .ref mv, .int 0, .int 0, .int 0, .int 0, .long 0, .int (-1), .int 0, .ref m1w, .ref m2w, .ref m3w, .ref m4w, .int 0, .long 0, .long 0, .long 0])), (mr, .inl (cm1, 7, .inl (fun _ => 0))), (mw, .inl (cm3, 906, .inr (.inl fw))), (mu, .inl (cm4, 9060, .inr (.inl (fun _ => 0)))), (ms, .inl (cm8, 10, .inl (fun _ => 0)))]) (w1 := []) hP hD [0, 1, 2, 3, 4, 5, 6, 7, 8, 9, 10, 11, 12, 13, 14, 15] [16, 17, 18, 19, 20] rfl rfl (by decide) (by decide) hk1 hFc hP1 hD1
  generalize H1 = H at hP hS ⊢
  have hP : va_P (dC, dI) vwCl [(h1, .inr (12, [.int 0, .int 0, .ref mr, .ref mt, .ref mw, .ref mu, .ref mp, .ref mi, .ref mk, .ref ms, .int 0, .ref mv, .int 0, .int 0, .int 0, .int 0, .long 0, .int (-1), .int 0, .ref m1w, .ref m2w, .ref m3w, .ref m4w, .int 0, .long 0, .long 0, .long 0])), (mr, .inl (cm1, 7, .inl (fun _ => 0))), (mw, .inl (cm3, 906, .inr (.inl fw))), (mu, .inl (cm4, 9060, .inr (.inl (fun _ => 0)))), (ms, .inl (cm8, 10, .inl (fun _ => 0)))] H := hP
  have hD : va_D A [(h1, .inr (12, [.int 0, .int 0, .ref mr, .ref mt, .ref mw, .ref mu, .ref mp, .ref mi, .ref mk, .ref ms, .int 0, .ref mv, .int 0, .int 0, .int 0, .int 0, .long 0, .int (-1), .int 0, .ref m1w, .ref m2w, .ref m3w, .ref m4w, .int 0, .long 0, .long 0, .long 0])), (mr, .inl (cm1, 7, .inl (fun _ => 0))), (mw, .inl (cm3, 906, .inr (.inl fw))), (mu, .inl (cm4, 9060, .inr (.inl (fun _ => 0)))), (ms, .inl (cm8, 10, .inl (fun _ => 0)))] := hD
  refine W.widen (k := 786) (n := 20946) (Nat.le_of_ble_eq_true rfl) (Nat.le_of_ble_eq_true rfl) ?_
  have hw : r_1 = sp_two (xs 1) (xs 2) 1 8 1 20 0 := hw
  subst hw
  refine lv_aload_n hx hb dL_law_348 rfl (lv_at hl 2 rfl) ?_
  refine lv_aload_n hx hb dL_law_349 rfl (lv_at hl 0 rfl) ?_
  refine lv_iload_n hx hb dL_law_350 rfl (lv_at hl 3 rfl) ?_
  refine lv_iconst (v := 1) hx hb dL_law_351 (by decide) ?_
  refine lv_iadd hx hb dL_law_352 ?_
  refine k_topi (y := 1) (by decide) ?_
  refine va_sld hx hb hX hbl hbA hS (by unfold vp_in; decide) dL_law_353 ?_
  refine k_topi (y := xs 1) (congrArg xs (by decide)) ?_
  refine lv_aload_n hx hb dL_law_354 rfl (lv_at hl 0 rfl) ?_
  refine lv_iload_n hx hb dL_law_355 rfl (lv_at hl 3 rfl) ?_
  refine lv_iconst (v := 2) hx hb dL_law_356 (by decide) ?_
  refine lv_iadd hx hb dL_law_357 ?_
  refine k_topi (y := 2) (by decide) ?_
  refine va_sld hx hb hX hbl hbA hS (by unfold vp_in; decide) dL_law_358 ?_
  refine k_topi (y := xs 2) (congrArg xs (by decide)) ?_
  have hPc := hP.sub (ws' := [(h1, .inr (12, [.int 0, .int 0, .ref mr, .ref mt, .ref mw, .ref mu, .ref mp, .ref mi, .ref mk, .ref ms, .int 0, .ref mv, .int 0, .int 0, .int 0, .int 0, .long 0, .int (-1), .int 0, .ref m1w, .ref m2w, .ref m3w, .ref m4w, .int 0, .long 0, .long 0, .long 0])), (mr, .inl (cm1, 7, .inl (fun _ => 0))), (mw, .inl (cm3, 906, .inr (.inl fw))), (mu, .inl (cm4, 9060, .inr (.inl (fun _ => 0)))), (ms, .inl (cm8, 10, .inl (fun _ => 0)))]) [0, 1, 2, 3, 4] rfl
  have hDc := hD.sub (ws' := [(h1, .inr (12, [.int 0, .int 0, .ref mr, .ref mt, .ref mw, .ref mu, .ref mp, .ref mi, .ref mk, .ref ms, .int 0, .ref mv, .int 0, .int 0, .int 0, .int 0, .long 0, .int (-1), .int 0, .ref m1w, .ref m2w, .ref m3w, .ref m4w, .int 0, .long 0, .long 0, .long 0])), (mr, .inl (cm1, 7, .inl (fun _ => 0))), (mw, .inl (cm3, 906, .inr (.inl fw))), (mu, .inl (cm4, 9060, .inr (.inl (fun _ => 0)))), (ms, .inl (cm8, 10, .inl (fun _ => 0)))]) [0, 1, 2, 3, 4] (by decide) rfl
  have hKc := hK.sub (tys' := [(cm1, .int), (cm3, .long), (cm4, .long), (cm8, .int)]) [6, 7, 8, 9] rfl
  have hFc := va_free (wc := [(h1, .inr (12, [.int 0, .int 0, .ref mr, .ref mt, .ref mw, .ref mu, .ref mp, .ref mi, .ref mk, .ref ms, .int 0, .ref mv, .int 0, .int 0, .int 0, .int 0, .long 0, .int (-1), .int 0, .ref m1w, .ref m2w, .ref m3w, .ref m4w, .int 0, .long 0, .long 0, .long 0])), (mr, .inl (cm1, 7, .inl (fun _ => 0))), (mw, .inl (cm3, 906, .inr (.inl fw))), (mu, .inl (cm4, 9060, .inr (.inl (fun _ => 0)))), (ms, .inl (cm8, 10, .inl (fun _ => 0)))]) hD hS hA [0, 1, 2, 3, 4] rfl
  refine va_calli (va_runV (As := [.int (xs 1), .int (xs 2)]) (rest := [.int (sp_two (xs 1) (xs 2) 1 8 1 20 0)]) ⟨hx, hb, hml, hown, hts⟩ (c_X12_task l dC dI h1 (xs 1) (xs 2) mr mt mw mu mp mi mk ms mv m1w m2w m3w m4w cm1 cm3 fw cm4 cm8 H.size hw0 hw1 hw2 hw3 hw4 hw5) (cwV 2 hts (gi_V tb_c_X12_task tw_598.1 tw_599.1 tw_600.1 tw_435.1) rfl rfl rfl (by decide +kernel) ⟨Nat.le_of_ble_eq_true rfl, Nat.le_of_ble_eq_true rfl⟩) ⟨fun a U g mk q => by obtain ⟨q0, q1, qP, qK, qD⟩ := q; exact ⟨q0, q1, qP, va_K.moved (u := U) (U := U.calling g mk a) (Vm.Alike.refl U.vm) qK, qD⟩, va_recv hKc hPc (ci := 12) (q0 := 0) rfl rfl, fun U hU hW => ⟨rfl, by rw [hU], by rw [hU]; exact hPc, va_K.moved hW.alike hKc, hDc.weaken (fun _ _ _ _ => trivial)⟩⟩ rfl rfl hl.1 rfl (lv_room (Nat.le_of_ble_eq_true rfl)) dL_law_359 ⟨Nat.le_of_ble_eq_true rfl, Nat.le_of_ble_eq_true rfl⟩) hS (fun q _ h => hFc q h) hFc (fun r_2 u t H1 locs ht hvm hw hB hz1 hk1 hS => ?_)
  obtain ⟨hP1, hK1, hD1⟩ := hB
  rw [ht] at hP1
  have hK1 := va_K.moved hvm.symm hK1
  obtain ⟨hP, hD⟩ := va_join (wr := []) (w1 := []) hP hD [0, 1, 2, 3, 4] [] rfl rfl (by decide) (by decide) hk1 hFc hP1 hD1
  generalize H1 = H at hP hS ⊢
  have hP : va_P (dC, dI) vwCl [] H := hP
  have hD : va_D A [] := hD
  refine W.widen (k := 786) (n := 20946) (Nat.le_of_ble_eq_true rfl) (Nat.le_of_ble_eq_true rfl) ?_
  have hw : r_2 = sp_two (xs 1) (xs 2) 1 8 1 20 0 := hw
  subst hw
  refine lv_icmp_eq (tgt := 1204) hx hb dL_law_362 (by decide) (fun _ => ?_) (fun c => absurd rfl c)
  exact law_next C0 hA hbA hAq (hK.sub [] rfl) (hP.sub [] rfl) (hD.sub [] (by decide) rfl) hS (lv_sub hl [0, 1, 2, 3] rfl)
set_option maxHeartbeats 4000000 in
set_option maxRecDepth 100000 in
theorem law_join {p : Program} {l : Launch} {e : Env} {s : State} {m : MethodId} {below : List Frame} {meth : Method} {c : Code} {dC : Nat → ClassId} {dI : Nat → Nat → Nat} {b : Nat} {xs : Nat → Int32} {A : Nat → Prop} (C0 : lw_At p s m meth c b 6 xs) (hA : ∀ q : Nat, s.heap.size ≤ q → A q) (hbA : ¬ A b) (hAq : ∀ q : Nat, A q → s.heap.size ≤ q) {h0 : Nat} {h1 : Nat} {te : Nat} {ta : Nat} {re : Nat} {no : Nat} {pa : Nat} {ac : Nat} {op : Nat} {im : Nat} {ik : Nat} {hi : Nat} {rf : Nat} {nt : Nat} {nl : Nat} {ns : Nat} {np : Nat} {rc : Nat} {ci2 : ClassId} {mr : Nat} {mt : Nat} {mw : Nat} {mu : Nat} {mp : Nat} {mi : Nat} {mk : Nat} {ms : Nat} {mv : Nat} {m1w : Nat} {m2w : Nat} {m3w : Nat} {m4w : Nat} {cm1 : ClassId} {cm3 : ClassId} {fw : Nat → Int64} {H : Heap} {locs : List Loc} {ls : Array Slot} (hw0 : fw 0 = 0) (hw1 : fw 1 = 0) (hw2 : fw 2 = 0) (hw3 : fw 3 = (-1)) (hw4 : fw 4 = (-1)) (hw5 : fw 5 = 0) (hK : va_K (dC, dI) vwCl [(ci2, .int), (cm1, .int), (cm3, .long)] s) (hP : va_P (dC, dI) vwCl [(h0, .inr (11, [.ref te, .ref ta, .ref re, .ref no, .ref pa, .ref ac, .ref op, .ref im, .ref ik, .ref hi, .ref rf, .int (-1)])), (no, .inr (6, [.ref te, .ref nt, .ref nl, .ref ns, .ref np, .int 0, .int 0, .long 0, .int (-1), .int (-1)])), (rf, .inr (4, [.ref rc, .int 0])), (rc, .inl (ci2, 5, .inl (fun _ => 0))), (h1, .inr (12, [.int 0, .int 0, .ref mr, .ref mt, .ref mw, .ref mu, .ref mp, .ref mi, .ref mk, .ref ms, .int 0, .ref mv, .int 0, .int 0, .int 0, .int 0, .long 0, .int (-1), .int 0, .ref m1w, .ref m2w, .ref m3w, .ref m4w, .int 0, .long 0, .long 0, .long 0])), (mr, .inl (cm1, 7, .inl (fun _ => 0))), (mw, .inl (cm3, 906, .inr (.inl fw)))] H) (hD : va_D A [(h0, .inr (11, [.ref te, .ref ta, .ref re, .ref no, .ref pa, .ref ac, .ref op, .ref im, .ref ik, .ref hi, .ref rf, .int (-1)])), (no, .inr (6, [.ref te, .ref nt, .ref nl, .ref ns, .ref np, .int 0, .int 0, .long 0, .int (-1), .int (-1)])), (rf, .inr (4, [.ref rc, .int 0])), (rc, .inl (ci2, 5, .inl (fun _ => 0))), (h1, .inr (12, [.int 0, .int 0, .ref mr, .ref mt, .ref mw, .ref mu, .ref mp, .ref mi, .ref mk, .ref ms, .int 0, .ref mv, .int 0, .int 0, .int 0, .int 0, .long 0, .int (-1), .int 0, .ref m1w, .ref m2w, .ref m3w, .ref m4w, .int 0, .long 0, .long 0, .long 0])), (mr, .inl (cm1, 7, .inl (fun _ => 0))), (mw, .inl (cm3, 906, .inr (.inl fw)))]) (hS : va_S A s.heap H locs) (hl : lv_has ls 4 [(0, .ref b), (1, .ref h0), (2, .ref h1), (3, .int 0)]) : W p l e room_1 s m #[Value.ref b] below meth c H locs 786 20946 (lw_Z below #[Value.ref b] s) (F0 m 367 ls []) := by
  obtain ⟨hx, hb, hr, hml, hown, hts, hX, hbl, hlocks, hgv⟩ := id C0
  have hown : s.vm.findClass RL = some m.cls := hown
  refine lv_aload_n hx hb dL_law_367 rfl (lv_at hl 1 rfl) ?_
  refine lv_aload_n hx hb dL_law_368 rfl (lv_at hl 0 rfl) ?_
  refine lv_iload_n hx hb dL_law_369 rfl (lv_at hl 3 rfl) ?_
  refine lv_iconst (v := 1) hx hb dL_law_370 (by decide) ?_
  refine lv_iadd hx hb dL_law_371 ?_
  refine k_topi (y := 1) (by decide) ?_
  refine va_sld hx hb hX hbl hbA hS (by unfold vp_in; decide) dL_law_372 ?_
  refine k_topi (y := xs 1) (congrArg xs (by decide)) ?_
  have hPc := hP.sub (ws' := [(h0, .inr (11, [.ref te, .ref ta, .ref re, .ref no, .ref pa, .ref ac, .ref op, .ref im, .ref ik, .ref hi, .ref rf, .int (-1)])), (no, .inr (6, [.ref te, .ref nt, .ref nl, .ref ns, .ref np, .int 0, .int 0, .long 0, .int (-1), .int (-1)])), (rf, .inr (4, [.ref rc, .int 0])), (rc, .inl (ci2, 5, .inl (fun _ => 0)))]) [0, 1, 2, 3] rfl
  have hDc := hD.sub (ws' := [(h0, .inr (11, [.ref te, .ref ta, .ref re, .ref no, .ref pa, .ref ac, .ref op, .ref im, .ref ik, .ref hi, .ref rf, .int (-1)])), (no, .inr (6, [.ref te, .ref nt, .ref nl, .ref ns, .ref np, .int 0, .int 0, .long 0, .int (-1), .int (-1)])), (rf, .inr (4, [.ref rc, .int 0])), (rc, .inl (ci2, 5, .inl (fun _ => 0)))]) [0, 1, 2, 3] (by decide) rfl
  have hKc := hK.sub (tys' := [(ci2, .int)]) [0] rfl
  have hFc := va_free (wc := [(h0, .inr (11, [.ref te, .ref ta, .ref re, .ref no, .ref pa, .ref ac, .ref op, .ref im, .ref ik, .ref hi, .ref rf, .int (-1)])), (no, .inr (6, [.ref te, .ref nt, .ref nl, .ref ns, .ref np, .int 0, .int 0, .long 0, .int (-1), .int (-1)])), (rf, .inr (4, [.ref rc, .int 0])), (rc, .inl (ci2, 5, .inl (fun _ => 0)))]) hD hS hA [0, 1, 2, 3] rfl
  refine va_calli (va_runV (As := [.int (xs 1)]) (rest := []) ⟨hx, hb, hml, hown, hts⟩ (c_X11_join l dC dI h0 (xs 1) te ta re no pa ac op im ik hi rf nt nl ns np rc ci2 H.size) (cwV 1 hts (gi_V tb_c_X11_join tw_601.1 tw_602.1 tw_603.1 tw_324.1) rfl rfl rfl (by decide +kernel) ⟨Nat.le_of_ble_eq_true rfl, Nat.le_of_ble_eq_true rfl⟩) ⟨fun a U g mk q => by obtain ⟨q0, q1, qP, qK, qD⟩ := q; exact ⟨q0, q1, qP, va_K.moved (u := U) (U := U.calling g mk a) (Vm.Alike.refl U.vm) qK, qD⟩, va_recv hKc hPc (ci := 11) (q0 := 0) rfl rfl, fun U hU hW => ⟨rfl, by rw [hU], by rw [hU]; exact hPc, va_K.moved hW.alike hKc, hDc.weaken (fun _ _ _ _ => trivial)⟩⟩ rfl rfl hl.1 rfl (lv_room (Nat.le_of_ble_eq_true rfl)) dL_law_373 ⟨Nat.le_of_ble_eq_true rfl, Nat.le_of_ble_eq_true rfl⟩) hS (fun q _ h => hFc q h) hFc (fun r_1 u t H1 locs ht hvm hw hB hz1 hk1 hS => ?_)
  obtain ⟨hP1, hK1, hD1⟩ := hB
  rw [ht] at hP1
  have hK1 := va_K.moved hvm.symm hK1
  obtain ⟨hP, hD⟩ := va_join (wr := [(h1, .inr (12, [.int 0, .int 0, .ref mr, .ref mt, .ref mw, .ref mu, .ref mp, .ref mi, .ref mk, .ref ms, .int 0, .ref mv, .int 0, .int 0, .int 0, .int 0, .long 0, .int (-1), .int 0, .ref m1w, .ref m2w, .ref m3w, .ref m4w, .int 0, .long 0, .long 0, .long 0])), (mr, .inl (cm1, 7, .inl (fun _ => 0))), (mw, .inl (cm3, 906, .inr (.inl fw)))]) (w1 := []) hP hD [0, 1, 2, 3] [4, 5, 6] rfl rfl (by decide) (by decide) hk1 hFc hP1 hD1
  generalize H1 = H at hP hS ⊢
  have hP : va_P (dC, dI) vwCl [(h1, .inr (12, [.int 0, .int 0, .ref mr, .ref mt, .ref mw, .ref mu, .ref mp, .ref mi, .ref mk, .ref ms, .int 0, .ref mv, .int 0, .int 0, .int 0, .int 0, .long 0, .int (-1), .int 0, .ref m1w, .ref m2w, .ref m3w, .ref m4w, .int 0, .long 0, .long 0, .long 0])), (mr, .inl (cm1, 7, .inl (fun _ => 0))), (mw, .inl (cm3, 906, .inr (.inl fw)))] H := hP
  have hD : va_D A [(h1, .inr (12, [.int 0, .int 0, .ref mr, .ref mt, .ref mw, .ref mu, .ref mp, .ref mi, .ref mk, .ref ms, .int 0, .ref mv, .int 0, .int 0, .int 0, .int 0, .long 0, .int (-1), .int 0, .ref m1w, .ref m2w, .ref m3w, .ref m4w, .int 0, .long 0, .long 0, .long 0])), (mr, .inl (cm1, 7, .inl (fun _ => 0))), (mw, .inl (cm3, 906, .inr (.inl fw)))] := hD
  refine W.widen (k := 786) (n := 20946) (Nat.le_of_ble_eq_true rfl) (Nat.le_of_ble_eq_true rfl) ?_
  have hw : r_1 = (-2) := hw
  subst hw
  refine lv_aload_n hx hb dL_law_376 rfl (lv_at hl 2 rfl) ?_
  refine lv_aload_n hx hb dL_law_377 rfl (lv_at hl 0 rfl) ?_
  refine lv_iload_n hx hb dL_law_378 rfl (lv_at hl 3 rfl) ?_
  refine lv_iconst (v := 1) hx hb dL_law_379 (by decide) ?_
  refine lv_iadd hx hb dL_law_380 ?_
  refine k_topi (y := 1) (by decide) ?_
  refine va_sld hx hb hX hbl hbA hS (by unfold vp_in; decide) dL_law_381 ?_
  refine k_topi (y := xs 1) (congrArg xs (by decide)) ?_
  have hPc := hP.sub (ws' := [(h1, .inr (12, [.int 0, .int 0, .ref mr, .ref mt, .ref mw, .ref mu, .ref mp, .ref mi, .ref mk, .ref ms, .int 0, .ref mv, .int 0, .int 0, .int 0, .int 0, .long 0, .int (-1), .int 0, .ref m1w, .ref m2w, .ref m3w, .ref m4w, .int 0, .long 0, .long 0, .long 0])), (mr, .inl (cm1, 7, .inl (fun _ => 0))), (mw, .inl (cm3, 906, .inr (.inl fw)))]) [0, 1, 2] rfl
  have hDc := hD.sub (ws' := [(h1, .inr (12, [.int 0, .int 0, .ref mr, .ref mt, .ref mw, .ref mu, .ref mp, .ref mi, .ref mk, .ref ms, .int 0, .ref mv, .int 0, .int 0, .int 0, .int 0, .long 0, .int (-1), .int 0, .ref m1w, .ref m2w, .ref m3w, .ref m4w, .int 0, .long 0, .long 0, .long 0])), (mr, .inl (cm1, 7, .inl (fun _ => 0))), (mw, .inl (cm3, 906, .inr (.inl fw)))]) [0, 1, 2] (by decide) rfl
  have hKc := hK.sub (tys' := [(cm1, .int), (cm3, .long)]) [1, 2] rfl
  have hFc := va_free (wc := [(h1, .inr (12, [.int 0, .int 0, .ref mr, .ref mt, .ref mw, .ref mu, .ref mp, .ref mi, .ref mk, .ref ms, .int 0, .ref mv, .int 0, .int 0, .int 0, .int 0, .long 0, .int (-1), .int 0, .ref m1w, .ref m2w, .ref m3w, .ref m4w, .int 0, .long 0, .long 0, .long 0])), (mr, .inl (cm1, 7, .inl (fun _ => 0))), (mw, .inl (cm3, 906, .inr (.inl fw)))]) hD hS hA [0, 1, 2] rfl
  refine va_calli (va_runV (As := [.int (xs 1)]) (rest := [.int (-2)]) ⟨hx, hb, hml, hown, hts⟩ (c_X12_join l dC dI h1 (xs 1) mr mt mw mu mp mi mk ms mv m1w m2w m3w m4w cm1 cm3 fw H.size hw0 hw1 hw2 hw3 hw4 hw5) (cwV 1 hts (gi_V tb_c_X12_join tw_604.1 tw_605.1 tw_606.1 tw_435.1) rfl rfl rfl (by decide +kernel) ⟨Nat.le_of_ble_eq_true rfl, Nat.le_of_ble_eq_true rfl⟩) ⟨fun a U g mk q => by obtain ⟨q0, q1, qP, qK, qD⟩ := q; exact ⟨q0, q1, qP, va_K.moved (u := U) (U := U.calling g mk a) (Vm.Alike.refl U.vm) qK, qD⟩, va_recv hKc hPc (ci := 12) (q0 := 0) rfl rfl, fun U hU hW => ⟨rfl, by rw [hU], by rw [hU]; exact hPc, va_K.moved hW.alike hKc, hDc.weaken (fun _ _ _ _ => trivial)⟩⟩ rfl rfl hl.1 rfl (lv_room (Nat.le_of_ble_eq_true rfl)) dL_law_382 ⟨Nat.le_of_ble_eq_true rfl, Nat.le_of_ble_eq_true rfl⟩) hS (fun q _ h => hFc q h) hFc (fun r_2 u t H1 locs ht hvm hw hB hz1 hk1 hS => ?_)
  obtain ⟨hP1, hK1, hD1⟩ := hB
  rw [ht] at hP1
  have hK1 := va_K.moved hvm.symm hK1
  obtain ⟨hP, hD⟩ := va_join (wr := []) (w1 := []) hP hD [0, 1, 2] [] rfl rfl (by decide) (by decide) hk1 hFc hP1 hD1
  generalize H1 = H at hP hS ⊢
  have hP : va_P (dC, dI) vwCl [] H := hP
  have hD : va_D A [] := hD
  refine W.widen (k := 786) (n := 20946) (Nat.le_of_ble_eq_true rfl) (Nat.le_of_ble_eq_true rfl) ?_
  have hw : r_2 = (-2) := hw
  subst hw
  refine lv_icmp_eq (tgt := 1204) hx hb dL_law_385 (by decide) (fun _ => ?_) (fun c => absurd (by decide) c)
  exact law_next C0 hA hbA hAq (hK.sub [] rfl) (hP.sub [] rfl) (hD.sub [] (by decide) rfl) hS (lv_sub hl [0, 1, 2, 3] rfl)
set_option maxHeartbeats 4000000 in
set_option maxRecDepth 100000 in
theorem law_leave {p : Program} {l : Launch} {e : Env} {s : State} {m : MethodId} {below : List Frame} {meth : Method} {c : Code} {dC : Nat → ClassId} {dI : Nat → Nat → Nat} {b : Nat} {xs : Nat → Int32} {A : Nat → Prop} (C0 : lw_At p s m meth c b 6 xs) (hA : ∀ q : Nat, s.heap.size ≤ q → A q) (hbA : ¬ A b) (hAq : ∀ q : Nat, A q → s.heap.size ≤ q) {h0 : Nat} {h1 : Nat} {te : Nat} {ta : Nat} {re : Nat} {no : Nat} {pa : Nat} {ac : Nat} {op : Nat} {im : Nat} {ik : Nat} {hi : Nat} {rf : Nat} {nt : Nat} {nl : Nat} {ns : Nat} {np : Nat} {rc : Nat} {ci2 : ClassId} {mr : Nat} {mt : Nat} {mw : Nat} {mu : Nat} {mp : Nat} {mi : Nat} {mk : Nat} {ms : Nat} {mv : Nat} {m1w : Nat} {m2w : Nat} {m3w : Nat} {m4w : Nat} {cm1 : ClassId} {cm3 : ClassId} {fw : Nat → Int64} {H : Heap} {locs : List Loc} {ls : Array Slot} (hw0 : fw 0 = 0) (hw1 : fw 1 = 0) (hw2 : fw 2 = 0) (hw3 : fw 3 = (-1)) (hw4 : fw 4 = (-1)) (hw5 : fw 5 = 0) (hK : va_K (dC, dI) vwCl [(ci2, .int), (cm1, .int), (cm3, .long)] s) (hP : va_P (dC, dI) vwCl [(h0, .inr (11, [.ref te, .ref ta, .ref re, .ref no, .ref pa, .ref ac, .ref op, .ref im, .ref ik, .ref hi, .ref rf, .int (-1)])), (no, .inr (6, [.ref te, .ref nt, .ref nl, .ref ns, .ref np, .int 0, .int 0, .long 0, .int (-1), .int (-1)])), (rf, .inr (4, [.ref rc, .int 0])), (rc, .inl (ci2, 5, .inl (fun _ => 0))), (h1, .inr (12, [.int 0, .int 0, .ref mr, .ref mt, .ref mw, .ref mu, .ref mp, .ref mi, .ref mk, .ref ms, .int 0, .ref mv, .int 0, .int 0, .int 0, .int 0, .long 0, .int (-1), .int 0, .ref m1w, .ref m2w, .ref m3w, .ref m4w, .int 0, .long 0, .long 0, .long 0])), (mr, .inl (cm1, 7, .inl (fun _ => 0))), (mw, .inl (cm3, 906, .inr (.inl fw)))] H) (hD : va_D A [(h0, .inr (11, [.ref te, .ref ta, .ref re, .ref no, .ref pa, .ref ac, .ref op, .ref im, .ref ik, .ref hi, .ref rf, .int (-1)])), (no, .inr (6, [.ref te, .ref nt, .ref nl, .ref ns, .ref np, .int 0, .int 0, .long 0, .int (-1), .int (-1)])), (rf, .inr (4, [.ref rc, .int 0])), (rc, .inl (ci2, 5, .inl (fun _ => 0))), (h1, .inr (12, [.int 0, .int 0, .ref mr, .ref mt, .ref mw, .ref mu, .ref mp, .ref mi, .ref mk, .ref ms, .int 0, .ref mv, .int 0, .int 0, .int 0, .int 0, .long 0, .int (-1), .int 0, .ref m1w, .ref m2w, .ref m3w, .ref m4w, .int 0, .long 0, .long 0, .long 0])), (mr, .inl (cm1, 7, .inl (fun _ => 0))), (mw, .inl (cm3, 906, .inr (.inl fw)))]) (hS : va_S A s.heap H locs) (hl : lv_has ls 4 [(0, .ref b), (1, .ref h0), (2, .ref h1), (3, .int 0)]) : W p l e room_1 s m #[Value.ref b] below meth c H locs 786 20946 (lw_Z below #[Value.ref b] s) (F0 m 390 ls []) := by
  obtain ⟨hx, hb, hr, hml, hown, hts, hX, hbl, hlocks, hgv⟩ := id C0
  have hown : s.vm.findClass RL = some m.cls := hown
  refine lv_aload_n hx hb dL_law_390 rfl (lv_at hl 1 rfl) ?_
  refine lv_aload_n hx hb dL_law_391 rfl (lv_at hl 0 rfl) ?_
  refine lv_iload_n hx hb dL_law_392 rfl (lv_at hl 3 rfl) ?_
  refine lv_iconst (v := 1) hx hb dL_law_393 (by decide) ?_
  refine lv_iadd hx hb dL_law_394 ?_
  refine k_topi (y := 1) (by decide) ?_
  refine va_sld hx hb hX hbl hbA hS (by unfold vp_in; decide) dL_law_395 ?_
  refine k_topi (y := xs 1) (congrArg xs (by decide)) ?_
  have hPc := hP.sub (ws' := [(h0, .inr (11, [.ref te, .ref ta, .ref re, .ref no, .ref pa, .ref ac, .ref op, .ref im, .ref ik, .ref hi, .ref rf, .int (-1)])), (no, .inr (6, [.ref te, .ref nt, .ref nl, .ref ns, .ref np, .int 0, .int 0, .long 0, .int (-1), .int (-1)])), (rf, .inr (4, [.ref rc, .int 0])), (rc, .inl (ci2, 5, .inl (fun _ => 0)))]) [0, 1, 2, 3] rfl
  have hDc := hD.sub (ws' := [(h0, .inr (11, [.ref te, .ref ta, .ref re, .ref no, .ref pa, .ref ac, .ref op, .ref im, .ref ik, .ref hi, .ref rf, .int (-1)])), (no, .inr (6, [.ref te, .ref nt, .ref nl, .ref ns, .ref np, .int 0, .int 0, .long 0, .int (-1), .int (-1)])), (rf, .inr (4, [.ref rc, .int 0])), (rc, .inl (ci2, 5, .inl (fun _ => 0)))]) [0, 1, 2, 3] (by decide) rfl
  have hKc := hK.sub (tys' := [(ci2, .int)]) [0] rfl
  have hFc := va_free (wc := [(h0, .inr (11, [.ref te, .ref ta, .ref re, .ref no, .ref pa, .ref ac, .ref op, .ref im, .ref ik, .ref hi, .ref rf, .int (-1)])), (no, .inr (6, [.ref te, .ref nt, .ref nl, .ref ns, .ref np, .int 0, .int 0, .long 0, .int (-1), .int (-1)])), (rf, .inr (4, [.ref rc, .int 0])), (rc, .inl (ci2, 5, .inl (fun _ => 0)))]) hD hS hA [0, 1, 2, 3] rfl
  refine va_calli (va_runV (As := [.int (xs 1)]) (rest := []) ⟨hx, hb, hml, hown, hts⟩ (c_X11_leave l dC dI h0 (xs 1) te ta re no pa ac op im ik hi rf nt nl ns np rc ci2 H.size) (cwV 1 hts (gi_V tb_c_X11_leave tw_607.1 tw_608.1 tw_609.1 tw_324.1) rfl rfl rfl (by decide +kernel) ⟨Nat.le_of_ble_eq_true rfl, Nat.le_of_ble_eq_true rfl⟩) ⟨fun a U g mk q => by obtain ⟨q0, q1, qP, qK, qD⟩ := q; exact ⟨q0, q1, qP, va_K.moved (u := U) (U := U.calling g mk a) (Vm.Alike.refl U.vm) qK, qD⟩, va_recv hKc hPc (ci := 11) (q0 := 0) rfl rfl, fun U hU hW => ⟨rfl, by rw [hU], by rw [hU]; exact hPc, va_K.moved hW.alike hKc, hDc.weaken (fun _ _ _ _ => trivial)⟩⟩ rfl rfl hl.1 rfl (lv_room (Nat.le_of_ble_eq_true rfl)) dL_law_396 ⟨Nat.le_of_ble_eq_true rfl, Nat.le_of_ble_eq_true rfl⟩) hS (fun q _ h => hFc q h) hFc (fun r_1 u t H1 locs ht hvm hw hB hz1 hk1 hS => ?_)
  obtain ⟨hP1, hK1, hD1⟩ := hB
  rw [ht] at hP1
  have hK1 := va_K.moved hvm.symm hK1
  obtain ⟨hP, hD⟩ := va_join (wr := [(h1, .inr (12, [.int 0, .int 0, .ref mr, .ref mt, .ref mw, .ref mu, .ref mp, .ref mi, .ref mk, .ref ms, .int 0, .ref mv, .int 0, .int 0, .int 0, .int 0, .long 0, .int (-1), .int 0, .ref m1w, .ref m2w, .ref m3w, .ref m4w, .int 0, .long 0, .long 0, .long 0])), (mr, .inl (cm1, 7, .inl (fun _ => 0))), (mw, .inl (cm3, 906, .inr (.inl fw)))]) (w1 := []) hP hD [0, 1, 2, 3] [4, 5, 6] rfl rfl (by decide) (by decide) hk1 hFc hP1 hD1
  generalize H1 = H at hP hS ⊢
  have hP : va_P (dC, dI) vwCl [(h1, .inr (12, [.int 0, .int 0, .ref mr, .ref mt, .ref mw, .ref mu, .ref mp, .ref mi, .ref mk, .ref ms, .int 0, .ref mv, .int 0, .int 0, .int 0, .int 0, .long 0, .int (-1), .int 0, .ref m1w, .ref m2w, .ref m3w, .ref m4w, .int 0, .long 0, .long 0, .long 0])), (mr, .inl (cm1, 7, .inl (fun _ => 0))), (mw, .inl (cm3, 906, .inr (.inl fw)))] H := hP
  have hD : va_D A [(h1, .inr (12, [.int 0, .int 0, .ref mr, .ref mt, .ref mw, .ref mu, .ref mp, .ref mi, .ref mk, .ref ms, .int 0, .ref mv, .int 0, .int 0, .int 0, .int 0, .long 0, .int (-1), .int 0, .ref m1w, .ref m2w, .ref m3w, .ref m4w, .int 0, .long 0, .long 0, .long 0])), (mr, .inl (cm1, 7, .inl (fun _ => 0))), (mw, .inl (cm3, 906, .inr (.inl fw)))] := hD
  refine W.widen (k := 786) (n := 20946) (Nat.le_of_ble_eq_true rfl) (Nat.le_of_ble_eq_true rfl) ?_
  have hw : r_1 = (-2) := hw
  subst hw
  refine lv_aload_n hx hb dL_law_399 rfl (lv_at hl 2 rfl) ?_
  refine lv_aload_n hx hb dL_law_400 rfl (lv_at hl 0 rfl) ?_
  refine lv_iload_n hx hb dL_law_401 rfl (lv_at hl 3 rfl) ?_
  refine lv_iconst (v := 1) hx hb dL_law_402 (by decide) ?_
  refine lv_iadd hx hb dL_law_403 ?_
  refine k_topi (y := 1) (by decide) ?_
  refine va_sld hx hb hX hbl hbA hS (by unfold vp_in; decide) dL_law_404 ?_
  refine k_topi (y := xs 1) (congrArg xs (by decide)) ?_
  have hPc := hP.sub (ws' := [(h1, .inr (12, [.int 0, .int 0, .ref mr, .ref mt, .ref mw, .ref mu, .ref mp, .ref mi, .ref mk, .ref ms, .int 0, .ref mv, .int 0, .int 0, .int 0, .int 0, .long 0, .int (-1), .int 0, .ref m1w, .ref m2w, .ref m3w, .ref m4w, .int 0, .long 0, .long 0, .long 0])), (mr, .inl (cm1, 7, .inl (fun _ => 0))), (mw, .inl (cm3, 906, .inr (.inl fw)))]) [0, 1, 2] rfl
  have hDc := hD.sub (ws' := [(h1, .inr (12, [.int 0, .int 0, .ref mr, .ref mt, .ref mw, .ref mu, .ref mp, .ref mi, .ref mk, .ref ms, .int 0, .ref mv, .int 0, .int 0, .int 0, .int 0, .long 0, .int (-1), .int 0, .ref m1w, .ref m2w, .ref m3w, .ref m4w, .int 0, .long 0, .long 0, .long 0])), (mr, .inl (cm1, 7, .inl (fun _ => 0))), (mw, .inl (cm3, 906, .inr (.inl fw)))]) [0, 1, 2] (by decide) rfl
  have hKc := hK.sub (tys' := [(cm1, .int), (cm3, .long)]) [1, 2] rfl
  have hFc := va_free (wc := [(h1, .inr (12, [.int 0, .int 0, .ref mr, .ref mt, .ref mw, .ref mu, .ref mp, .ref mi, .ref mk, .ref ms, .int 0, .ref mv, .int 0, .int 0, .int 0, .int 0, .long 0, .int (-1), .int 0, .ref m1w, .ref m2w, .ref m3w, .ref m4w, .int 0, .long 0, .long 0, .long 0])), (mr, .inl (cm1, 7, .inl (fun _ => 0))), (mw, .inl (cm3, 906, .inr (.inl fw)))]) hD hS hA [0, 1, 2] rfl
  refine va_calli (va_runV (As := [.int (xs 1)]) (rest := [.int (-2)]) ⟨hx, hb, hml, hown, hts⟩ (c_X12_leave l dC dI h1 (xs 1) mr mt mw mu mp mi mk ms mv m1w m2w m3w m4w cm1 cm3 fw H.size hw0 hw1 hw2 hw3 hw4 hw5) (cwV 1 hts (gi_V tb_c_X12_leave tw_610.1 tw_611.1 tw_612.1 tw_435.1) rfl rfl rfl (by decide +kernel) ⟨Nat.le_of_ble_eq_true rfl, Nat.le_of_ble_eq_true rfl⟩) ⟨fun a U g mk q => by obtain ⟨q0, q1, qP, qK, qD⟩ := q; exact ⟨q0, q1, qP, va_K.moved (u := U) (U := U.calling g mk a) (Vm.Alike.refl U.vm) qK, qD⟩, va_recv hKc hPc (ci := 12) (q0 := 0) rfl rfl, fun U hU hW => ⟨rfl, by rw [hU], by rw [hU]; exact hPc, va_K.moved hW.alike hKc, hDc.weaken (fun _ _ _ _ => trivial)⟩⟩ rfl rfl hl.1 rfl (lv_room (Nat.le_of_ble_eq_true rfl)) dL_law_405 ⟨Nat.le_of_ble_eq_true rfl, Nat.le_of_ble_eq_true rfl⟩) hS (fun q _ h => hFc q h) hFc (fun r_2 u t H1 locs ht hvm hw hB hz1 hk1 hS => ?_)
  obtain ⟨hP1, hK1, hD1⟩ := hB
  rw [ht] at hP1
  have hK1 := va_K.moved hvm.symm hK1
  obtain ⟨hP, hD⟩ := va_join (wr := []) (w1 := []) hP hD [0, 1, 2] [] rfl rfl (by decide) (by decide) hk1 hFc hP1 hD1
  generalize H1 = H at hP hS ⊢
  have hP : va_P (dC, dI) vwCl [] H := hP
  have hD : va_D A [] := hD
  refine W.widen (k := 786) (n := 20946) (Nat.le_of_ble_eq_true rfl) (Nat.le_of_ble_eq_true rfl) ?_
  have hw : r_2 = (-2) := hw
  subst hw
  refine lv_icmp_eq (tgt := 1204) hx hb dL_law_408 (by decide) (fun _ => ?_) (fun c => absurd (by decide) c)
  exact law_next C0 hA hbA hAq (hK.sub [] rfl) (hP.sub [] rfl) (hD.sub [] (by decide) rfl) hS (lv_sub hl [0, 1, 2, 3] rfl)
set_option maxHeartbeats 4000000 in
set_option maxRecDepth 100000 in
theorem law_weigh {p : Program} {l : Launch} {e : Env} {s : State} {m : MethodId} {below : List Frame} {meth : Method} {c : Code} {dC : Nat → ClassId} {dI : Nat → Nat → Nat} {b : Nat} {xs : Nat → Int32} {A : Nat → Prop} (C0 : lw_At p s m meth c b 6 xs) (hA : ∀ q : Nat, s.heap.size ≤ q → A q) (hbA : ¬ A b) (hAq : ∀ q : Nat, A q → s.heap.size ≤ q) {h0 : Nat} {h1 : Nat} {te : Nat} {ta : Nat} {re : Nat} {no : Nat} {pa : Nat} {ac : Nat} {op : Nat} {im : Nat} {ik : Nat} {hi : Nat} {rf : Nat} {nt : Nat} {nl : Nat} {ns : Nat} {np : Nat} {rc : Nat} {ci2 : ClassId} {mr : Nat} {mt : Nat} {mw : Nat} {mu : Nat} {mp : Nat} {mi : Nat} {mk : Nat} {ms : Nat} {mv : Nat} {m1w : Nat} {m2w : Nat} {m3w : Nat} {m4w : Nat} {cm1 : ClassId} {cm3 : ClassId} {fw : Nat → Int64} {H : Heap} {locs : List Loc} {ls : Array Slot} (hw0 : fw 0 = 0) (hw1 : fw 1 = 0) (hw2 : fw 2 = 0) (hw3 : fw 3 = (-1)) (hw4 : fw 4 = (-1)) (hw5 : fw 5 = 0) (hK : va_K (dC, dI) vwCl [(ci2, .int), (cm1, .int), (cm3, .long)] s) (hP : va_P (dC, dI) vwCl [(h0, .inr (11, [.ref te, .ref ta, .ref re, .ref no, .ref pa, .ref ac, .ref op, .ref im, .ref ik, .ref hi, .ref rf, .int (-1)])), (no, .inr (6, [.ref te, .ref nt, .ref nl, .ref ns, .ref np, .int 0, .int 0, .long 0, .int (-1), .int (-1)])), (rf, .inr (4, [.ref rc, .int 0])), (rc, .inl (ci2, 5, .inl (fun _ => 0))), (h1, .inr (12, [.int 0, .int 0, .ref mr, .ref mt, .ref mw, .ref mu, .ref mp, .ref mi, .ref mk, .ref ms, .int 0, .ref mv, .int 0, .int 0, .int 0, .int 0, .long 0, .int (-1), .int 0, .ref m1w, .ref m2w, .ref m3w, .ref m4w, .int 0, .long 0, .long 0, .long 0])), (mr, .inl (cm1, 7, .inl (fun _ => 0))), (mw, .inl (cm3, 906, .inr (.inl fw)))] H) (hD : va_D A [(h0, .inr (11, [.ref te, .ref ta, .ref re, .ref no, .ref pa, .ref ac, .ref op, .ref im, .ref ik, .ref hi, .ref rf, .int (-1)])), (no, .inr (6, [.ref te, .ref nt, .ref nl, .ref ns, .ref np, .int 0, .int 0, .long 0, .int (-1), .int (-1)])), (rf, .inr (4, [.ref rc, .int 0])), (rc, .inl (ci2, 5, .inl (fun _ => 0))), (h1, .inr (12, [.int 0, .int 0, .ref mr, .ref mt, .ref mw, .ref mu, .ref mp, .ref mi, .ref mk, .ref ms, .int 0, .ref mv, .int 0, .int 0, .int 0, .int 0, .long 0, .int (-1), .int 0, .ref m1w, .ref m2w, .ref m3w, .ref m4w, .int 0, .long 0, .long 0, .long 0])), (mr, .inl (cm1, 7, .inl (fun _ => 0))), (mw, .inl (cm3, 906, .inr (.inl fw)))]) (hS : va_S A s.heap H locs) (hl : lv_has ls 4 [(0, .ref b), (1, .ref h0), (2, .ref h1), (3, .int 0)]) : W p l e room_1 s m #[Value.ref b] below meth c H locs 786 20946 (lw_Z below #[Value.ref b] s) (F0 m 413 ls []) := by
  obtain ⟨hx, hb, hr, hml, hown, hts, hX, hbl, hlocks, hgv⟩ := id C0
  have hown : s.vm.findClass RL = some m.cls := hown
  refine lv_aload_n hx hb dL_law_413 rfl (lv_at hl 1 rfl) ?_
  refine lv_aload_n hx hb dL_law_414 rfl (lv_at hl 0 rfl) ?_
  refine lv_iload_n hx hb dL_law_415 rfl (lv_at hl 3 rfl) ?_
  refine lv_iconst (v := 1) hx hb dL_law_416 (by decide) ?_
  refine lv_iadd hx hb dL_law_417 ?_
  refine k_topi (y := 1) (by decide) ?_
  refine va_sld hx hb hX hbl hbA hS (by unfold vp_in; decide) dL_law_418 ?_
  refine k_topi (y := xs 1) (congrArg xs (by decide)) ?_
  refine lv_aload_n hx hb dL_law_419 rfl (lv_at hl 0 rfl) ?_
  refine lv_iload_n hx hb dL_law_420 rfl (lv_at hl 3 rfl) ?_
  refine lv_iconst (v := 2) hx hb dL_law_421 (by decide) ?_
  refine lv_iadd hx hb dL_law_422 ?_
  refine k_topi (y := 2) (by decide) ?_
  refine va_sld hx hb hX hbl hbA hS (by unfold vp_in; decide) dL_law_423 ?_
  refine k_topi (y := xs 2) (congrArg xs (by decide)) ?_
  have hPc := hP.sub (ws' := [(h0, .inr (11, [.ref te, .ref ta, .ref re, .ref no, .ref pa, .ref ac, .ref op, .ref im, .ref ik, .ref hi, .ref rf, .int (-1)])), (no, .inr (6, [.ref te, .ref nt, .ref nl, .ref ns, .ref np, .int 0, .int 0, .long 0, .int (-1), .int (-1)])), (rf, .inr (4, [.ref rc, .int 0])), (rc, .inl (ci2, 5, .inl (fun _ => 0)))]) [0, 1, 2, 3] rfl
  have hDc := hD.sub (ws' := [(h0, .inr (11, [.ref te, .ref ta, .ref re, .ref no, .ref pa, .ref ac, .ref op, .ref im, .ref ik, .ref hi, .ref rf, .int (-1)])), (no, .inr (6, [.ref te, .ref nt, .ref nl, .ref ns, .ref np, .int 0, .int 0, .long 0, .int (-1), .int (-1)])), (rf, .inr (4, [.ref rc, .int 0])), (rc, .inl (ci2, 5, .inl (fun _ => 0)))]) [0, 1, 2, 3] (by decide) rfl
  have hKc := hK.sub (tys' := [(ci2, .int)]) [0] rfl
  have hFc := va_free (wc := [(h0, .inr (11, [.ref te, .ref ta, .ref re, .ref no, .ref pa, .ref ac, .ref op, .ref im, .ref ik, .ref hi, .ref rf, .int (-1)])), (no, .inr (6, [.ref te, .ref nt, .ref nl, .ref ns, .ref np, .int 0, .int 0, .long 0, .int (-1), .int (-1)])), (rf, .inr (4, [.ref rc, .int 0])), (rc, .inl (ci2, 5, .inl (fun _ => 0)))]) hD hS hA [0, 1, 2, 3] rfl
  refine va_calli (va_runV (As := [.int (xs 1), .int (xs 2)]) (rest := []) ⟨hx, hb, hml, hown, hts⟩ (c_X11_weigh l dC dI h0 (xs 1) (xs 2) te ta re no pa ac op im ik hi rf nt nl ns np rc ci2 H.size) (cwV 2 hts (gi_V tb_c_X11_weigh tw_613.1 tw_614.1 tw_615.1 tw_324.1) rfl rfl rfl (by decide +kernel) ⟨Nat.le_of_ble_eq_true rfl, Nat.le_of_ble_eq_true rfl⟩) ⟨fun a U g mk q => by obtain ⟨q0, q1, qP, qK, qD⟩ := q; exact ⟨q0, q1, qP, va_K.moved (u := U) (U := U.calling g mk a) (Vm.Alike.refl U.vm) qK, qD⟩, va_recv hKc hPc (ci := 11) (q0 := 0) rfl rfl, fun U hU hW => ⟨rfl, by rw [hU], by rw [hU]; exact hPc, va_K.moved hW.alike hKc, hDc.weaken (fun _ _ _ _ => trivial)⟩⟩ rfl rfl hl.1 rfl (lv_room (Nat.le_of_ble_eq_true rfl)) dL_law_424 ⟨Nat.le_of_ble_eq_true rfl, Nat.le_of_ble_eq_true rfl⟩) hS (fun q _ h => hFc q h) hFc (fun r_1 u t H1 locs ht hvm hw hB hz1 hk1 hS => ?_)
  obtain ⟨hP1, hK1, hD1⟩ := hB
  rw [ht] at hP1
  have hK1 := va_K.moved hvm.symm hK1
  obtain ⟨hP, hD⟩ := va_join (wr := [(h1, .inr (12, [.int 0, .int 0, .ref mr, .ref mt, .ref mw, .ref mu, .ref mp, .ref mi, .ref mk, .ref ms, .int 0, .ref mv, .int 0, .int 0, .int 0, .int 0, .long 0, .int (-1), .int 0, .ref m1w, .ref m2w, .ref m3w, .ref m4w, .int 0, .long 0, .long 0, .long 0])), (mr, .inl (cm1, 7, .inl (fun _ => 0))), (mw, .inl (cm3, 906, .inr (.inl fw)))]) (w1 := []) hP hD [0, 1, 2, 3] [4, 5, 6] rfl rfl (by decide) (by decide) hk1 hFc hP1 hD1
  generalize H1 = H at hP hS ⊢
  have hP : va_P (dC, dI) vwCl [(h1, .inr (12, [.int 0, .int 0, .ref mr, .ref mt, .ref mw, .ref mu, .ref mp, .ref mi, .ref mk, .ref ms, .int 0, .ref mv, .int 0, .int 0, .int 0, .int 0, .long 0, .int (-1), .int 0, .ref m1w, .ref m2w, .ref m3w, .ref m4w, .int 0, .long 0, .long 0, .long 0])), (mr, .inl (cm1, 7, .inl (fun _ => 0))), (mw, .inl (cm3, 906, .inr (.inl fw)))] H := hP
  have hD : va_D A [(h1, .inr (12, [.int 0, .int 0, .ref mr, .ref mt, .ref mw, .ref mu, .ref mp, .ref mi, .ref mk, .ref ms, .int 0, .ref mv, .int 0, .int 0, .int 0, .int 0, .long 0, .int (-1), .int 0, .ref m1w, .ref m2w, .ref m3w, .ref m4w, .int 0, .long 0, .long 0, .long 0])), (mr, .inl (cm1, 7, .inl (fun _ => 0))), (mw, .inl (cm3, 906, .inr (.inl fw)))] := hD
  refine W.widen (k := 786) (n := 20946) (Nat.le_of_ble_eq_true rfl) (Nat.le_of_ble_eq_true rfl) ?_
  have hw : r_1 = sp_one (xs 2) 1 8 (-2) := hw
  subst hw
  refine lv_aload_n hx hb dL_law_427 rfl (lv_at hl 2 rfl) ?_
  refine lv_aload_n hx hb dL_law_428 rfl (lv_at hl 0 rfl) ?_
  refine lv_iload_n hx hb dL_law_429 rfl (lv_at hl 3 rfl) ?_
  refine lv_iconst (v := 1) hx hb dL_law_430 (by decide) ?_
  refine lv_iadd hx hb dL_law_431 ?_
  refine k_topi (y := 1) (by decide) ?_
  refine va_sld hx hb hX hbl hbA hS (by unfold vp_in; decide) dL_law_432 ?_
  refine k_topi (y := xs 1) (congrArg xs (by decide)) ?_
  refine lv_aload_n hx hb dL_law_433 rfl (lv_at hl 0 rfl) ?_
  refine lv_iload_n hx hb dL_law_434 rfl (lv_at hl 3 rfl) ?_
  refine lv_iconst (v := 2) hx hb dL_law_435 (by decide) ?_
  refine lv_iadd hx hb dL_law_436 ?_
  refine k_topi (y := 2) (by decide) ?_
  refine va_sld hx hb hX hbl hbA hS (by unfold vp_in; decide) dL_law_437 ?_
  refine k_topi (y := xs 2) (congrArg xs (by decide)) ?_
  have hPc := hP.sub (ws' := [(h1, .inr (12, [.int 0, .int 0, .ref mr, .ref mt, .ref mw, .ref mu, .ref mp, .ref mi, .ref mk, .ref ms, .int 0, .ref mv, .int 0, .int 0, .int 0, .int 0, .long 0, .int (-1), .int 0, .ref m1w, .ref m2w, .ref m3w, .ref m4w, .int 0, .long 0, .long 0, .long 0])), (mr, .inl (cm1, 7, .inl (fun _ => 0))), (mw, .inl (cm3, 906, .inr (.inl fw)))]) [0, 1, 2] rfl
  have hDc := hD.sub (ws' := [(h1, .inr (12, [.int 0, .int 0, .ref mr, .ref mt, .ref mw, .ref mu, .ref mp, .ref mi, .ref mk, .ref ms, .int 0, .ref mv, .int 0, .int 0, .int 0, .int 0, .long 0, .int (-1), .int 0, .ref m1w, .ref m2w, .ref m3w, .ref m4w, .int 0, .long 0, .long 0, .long 0])), (mr, .inl (cm1, 7, .inl (fun _ => 0))), (mw, .inl (cm3, 906, .inr (.inl fw)))]) [0, 1, 2] (by decide) rfl
  have hKc := hK.sub (tys' := [(cm1, .int), (cm3, .long)]) [1, 2] rfl
  have hFc := va_free (wc := [(h1, .inr (12, [.int 0, .int 0, .ref mr, .ref mt, .ref mw, .ref mu, .ref mp, .ref mi, .ref mk, .ref ms, .int 0, .ref mv, .int 0, .int 0, .int 0, .int 0, .long 0, .int (-1), .int 0, .ref m1w, .ref m2w, .ref m3w, .ref m4w, .int 0, .long 0, .long 0, .long 0])), (mr, .inl (cm1, 7, .inl (fun _ => 0))), (mw, .inl (cm3, 906, .inr (.inl fw)))]) hD hS hA [0, 1, 2] rfl
  refine va_calli (va_runV (As := [.int (xs 1), .int (xs 2)]) (rest := [.int (sp_one (xs 2) 1 8 (-2))]) ⟨hx, hb, hml, hown, hts⟩ (c_X12_weigh l dC dI h1 (xs 1) (xs 2) mr mt mw mu mp mi mk ms mv m1w m2w m3w m4w cm1 cm3 fw H.size hw0 hw1 hw2 hw3 hw4 hw5) (cwV 2 hts (gi_V tb_c_X12_weigh tw_616.1 tw_617.1 tw_618.1 tw_435.1) rfl rfl rfl (by decide +kernel) ⟨Nat.le_of_ble_eq_true rfl, Nat.le_of_ble_eq_true rfl⟩) ⟨fun a U g mk q => by obtain ⟨q0, q1, qP, qK, qD⟩ := q; exact ⟨q0, q1, qP, va_K.moved (u := U) (U := U.calling g mk a) (Vm.Alike.refl U.vm) qK, qD⟩, va_recv hKc hPc (ci := 12) (q0 := 0) rfl rfl, fun U hU hW => ⟨rfl, by rw [hU], by rw [hU]; exact hPc, va_K.moved hW.alike hKc, hDc.weaken (fun _ _ _ _ => trivial)⟩⟩ rfl rfl hl.1 rfl (lv_room (Nat.le_of_ble_eq_true rfl)) dL_law_438 ⟨Nat.le_of_ble_eq_true rfl, Nat.le_of_ble_eq_true rfl⟩) hS (fun q _ h => hFc q h) hFc (fun r_2 u t H1 locs ht hvm hw hB hz1 hk1 hS => ?_)
  obtain ⟨hP1, hK1, hD1⟩ := hB
  rw [ht] at hP1
  have hK1 := va_K.moved hvm.symm hK1
  obtain ⟨hP, hD⟩ := va_join (wr := []) (w1 := []) hP hD [0, 1, 2] [] rfl rfl (by decide) (by decide) hk1 hFc hP1 hD1
  generalize H1 = H at hP hS ⊢
  have hP : va_P (dC, dI) vwCl [] H := hP
  have hD : va_D A [] := hD
  refine W.widen (k := 786) (n := 20946) (Nat.le_of_ble_eq_true rfl) (Nat.le_of_ble_eq_true rfl) ?_
  have hw : r_2 = sp_one (xs 2) 1 8 (-2) := hw
  subst hw
  refine lv_icmp_eq (tgt := 1204) hx hb dL_law_441 (by decide) (fun _ => ?_) (fun c => absurd rfl c)
  exact law_next C0 hA hbA hAq (hK.sub [] rfl) (hP.sub [] rfl) (hD.sub [] (by decide) rfl) hS (lv_sub hl [0, 1, 2, 3] rfl)
set_option maxHeartbeats 4000000 in
set_option maxRecDepth 100000 in
theorem law_slice {p : Program} {l : Launch} {e : Env} {s : State} {m : MethodId} {below : List Frame} {meth : Method} {c : Code} {dC : Nat → ClassId} {dI : Nat → Nat → Nat} {b : Nat} {xs : Nat → Int32} {A : Nat → Prop} (C0 : lw_At p s m meth c b 6 xs) (hA : ∀ q : Nat, s.heap.size ≤ q → A q) (hbA : ¬ A b) (hAq : ∀ q : Nat, A q → s.heap.size ≤ q) {h0 : Nat} {h1 : Nat} {te : Nat} {ta : Nat} {re : Nat} {no : Nat} {pa : Nat} {ac : Nat} {op : Nat} {im : Nat} {ik : Nat} {hi : Nat} {rf : Nat} {nt : Nat} {nl : Nat} {ns : Nat} {np : Nat} {rc : Nat} {ci2 : ClassId} {mr : Nat} {mt : Nat} {mw : Nat} {mu : Nat} {mp : Nat} {mi : Nat} {mk : Nat} {ms : Nat} {mv : Nat} {m1w : Nat} {m2w : Nat} {m3w : Nat} {m4w : Nat} {cm1 : ClassId} {cm3 : ClassId} {fw : Nat → Int64} {H : Heap} {locs : List Loc} {ls : Array Slot} (hw0 : fw 0 = 0) (hw1 : fw 1 = 0) (hw2 : fw 2 = 0) (hw3 : fw 3 = (-1)) (hw4 : fw 4 = (-1)) (hw5 : fw 5 = 0) (hK : va_K (dC, dI) vwCl [(ci2, .int), (cm1, .int), (cm3, .long)] s) (hP : va_P (dC, dI) vwCl [(h0, .inr (11, [.ref te, .ref ta, .ref re, .ref no, .ref pa, .ref ac, .ref op, .ref im, .ref ik, .ref hi, .ref rf, .int (-1)])), (no, .inr (6, [.ref te, .ref nt, .ref nl, .ref ns, .ref np, .int 0, .int 0, .long 0, .int (-1), .int (-1)])), (rf, .inr (4, [.ref rc, .int 0])), (rc, .inl (ci2, 5, .inl (fun _ => 0))), (h1, .inr (12, [.int 0, .int 0, .ref mr, .ref mt, .ref mw, .ref mu, .ref mp, .ref mi, .ref mk, .ref ms, .int 0, .ref mv, .int 0, .int 0, .int 0, .int 0, .long 0, .int (-1), .int 0, .ref m1w, .ref m2w, .ref m3w, .ref m4w, .int 0, .long 0, .long 0, .long 0])), (mr, .inl (cm1, 7, .inl (fun _ => 0))), (mw, .inl (cm3, 906, .inr (.inl fw)))] H) (hD : va_D A [(h0, .inr (11, [.ref te, .ref ta, .ref re, .ref no, .ref pa, .ref ac, .ref op, .ref im, .ref ik, .ref hi, .ref rf, .int (-1)])), (no, .inr (6, [.ref te, .ref nt, .ref nl, .ref ns, .ref np, .int 0, .int 0, .long 0, .int (-1), .int (-1)])), (rf, .inr (4, [.ref rc, .int 0])), (rc, .inl (ci2, 5, .inl (fun _ => 0))), (h1, .inr (12, [.int 0, .int 0, .ref mr, .ref mt, .ref mw, .ref mu, .ref mp, .ref mi, .ref mk, .ref ms, .int 0, .ref mv, .int 0, .int 0, .int 0, .int 0, .long 0, .int (-1), .int 0, .ref m1w, .ref m2w, .ref m3w, .ref m4w, .int 0, .long 0, .long 0, .long 0])), (mr, .inl (cm1, 7, .inl (fun _ => 0))), (mw, .inl (cm3, 906, .inr (.inl fw)))]) (hS : va_S A s.heap H locs) (hl : lv_has ls 4 [(0, .ref b), (1, .ref h0), (2, .ref h1), (3, .int 0)]) : W p l e room_1 s m #[Value.ref b] below meth c H locs 786 20946 (lw_Z below #[Value.ref b] s) (F0 m 446 ls []) := by
  obtain ⟨hx, hb, hr, hml, hown, hts, hX, hbl, hlocks, hgv⟩ := id C0
  have hown : s.vm.findClass RL = some m.cls := hown
  refine lv_aload_n hx hb dL_law_446 rfl (lv_at hl 1 rfl) ?_
  refine lv_aload_n hx hb dL_law_447 rfl (lv_at hl 0 rfl) ?_
  refine lv_iload_n hx hb dL_law_448 rfl (lv_at hl 3 rfl) ?_
  refine lv_iconst (v := 1) hx hb dL_law_449 (by decide) ?_
  refine lv_iadd hx hb dL_law_450 ?_
  refine k_topi (y := 1) (by decide) ?_
  refine va_sld hx hb hX hbl hbA hS (by unfold vp_in; decide) dL_law_451 ?_
  refine k_topi (y := xs 1) (congrArg xs (by decide)) ?_
  refine lv_aload_n hx hb dL_law_452 rfl (lv_at hl 0 rfl) ?_
  refine lv_iload_n hx hb dL_law_453 rfl (lv_at hl 3 rfl) ?_
  refine lv_iconst (v := 2) hx hb dL_law_454 (by decide) ?_
  refine lv_iadd hx hb dL_law_455 ?_
  refine k_topi (y := 2) (by decide) ?_
  refine va_sld hx hb hX hbl hbA hS (by unfold vp_in; decide) dL_law_456 ?_
  refine k_topi (y := xs 2) (congrArg xs (by decide)) ?_
  have hPc := hP.sub (ws' := [(h0, .inr (11, [.ref te, .ref ta, .ref re, .ref no, .ref pa, .ref ac, .ref op, .ref im, .ref ik, .ref hi, .ref rf, .int (-1)])), (no, .inr (6, [.ref te, .ref nt, .ref nl, .ref ns, .ref np, .int 0, .int 0, .long 0, .int (-1), .int (-1)])), (rf, .inr (4, [.ref rc, .int 0])), (rc, .inl (ci2, 5, .inl (fun _ => 0)))]) [0, 1, 2, 3] rfl
  have hDc := hD.sub (ws' := [(h0, .inr (11, [.ref te, .ref ta, .ref re, .ref no, .ref pa, .ref ac, .ref op, .ref im, .ref ik, .ref hi, .ref rf, .int (-1)])), (no, .inr (6, [.ref te, .ref nt, .ref nl, .ref ns, .ref np, .int 0, .int 0, .long 0, .int (-1), .int (-1)])), (rf, .inr (4, [.ref rc, .int 0])), (rc, .inl (ci2, 5, .inl (fun _ => 0)))]) [0, 1, 2, 3] (by decide) rfl
  have hKc := hK.sub (tys' := [(ci2, .int)]) [0] rfl
  have hFc := va_free (wc := [(h0, .inr (11, [.ref te, .ref ta, .ref re, .ref no, .ref pa, .ref ac, .ref op, .ref im, .ref ik, .ref hi, .ref rf, .int (-1)])), (no, .inr (6, [.ref te, .ref nt, .ref nl, .ref ns, .ref np, .int 0, .int 0, .long 0, .int (-1), .int (-1)])), (rf, .inr (4, [.ref rc, .int 0])), (rc, .inl (ci2, 5, .inl (fun _ => 0)))]) hD hS hA [0, 1, 2, 3] rfl
  refine va_calli (va_runV (As := [.int (xs 1), .int (xs 2)]) (rest := []) ⟨hx, hb, hml, hown, hts⟩ (c_X11_slice l dC dI h0 (xs 1) (xs 2) te ta re no pa ac op im ik hi rf nt nl ns np rc ci2 H.size) (cwV 2 hts (gi_V tb_c_X11_slice tw_619.1 tw_620.1 tw_621.1 tw_324.1) rfl rfl rfl (by decide +kernel) ⟨Nat.le_of_ble_eq_true rfl, Nat.le_of_ble_eq_true rfl⟩) ⟨fun a U g mk q => by obtain ⟨q0, q1, qP, qK, qD⟩ := q; exact ⟨q0, q1, qP, va_K.moved (u := U) (U := U.calling g mk a) (Vm.Alike.refl U.vm) qK, qD⟩, va_recv hKc hPc (ci := 11) (q0 := 0) rfl rfl, fun U hU hW => ⟨rfl, by rw [hU], by rw [hU]; exact hPc, va_K.moved hW.alike hKc, hDc.weaken (fun _ _ _ _ => trivial)⟩⟩ rfl rfl hl.1 rfl (lv_room (Nat.le_of_ble_eq_true rfl)) dL_law_457 ⟨Nat.le_of_ble_eq_true rfl, Nat.le_of_ble_eq_true rfl⟩) hS (fun q _ h => hFc q h) hFc (fun r_1 u t H1 locs ht hvm hw hB hz1 hk1 hS => ?_)
  obtain ⟨hP1, hK1, hD1⟩ := hB
  rw [ht] at hP1
  have hK1 := va_K.moved hvm.symm hK1
  obtain ⟨hP, hD⟩ := va_join (wr := [(h1, .inr (12, [.int 0, .int 0, .ref mr, .ref mt, .ref mw, .ref mu, .ref mp, .ref mi, .ref mk, .ref ms, .int 0, .ref mv, .int 0, .int 0, .int 0, .int 0, .long 0, .int (-1), .int 0, .ref m1w, .ref m2w, .ref m3w, .ref m4w, .int 0, .long 0, .long 0, .long 0])), (mr, .inl (cm1, 7, .inl (fun _ => 0))), (mw, .inl (cm3, 906, .inr (.inl fw)))]) (w1 := []) hP hD [0, 1, 2, 3] [4, 5, 6] rfl rfl (by decide) (by decide) hk1 hFc hP1 hD1
  generalize H1 = H at hP hS ⊢
  have hP : va_P (dC, dI) vwCl [(h1, .inr (12, [.int 0, .int 0, .ref mr, .ref mt, .ref mw, .ref mu, .ref mp, .ref mi, .ref mk, .ref ms, .int 0, .ref mv, .int 0, .int 0, .int 0, .int 0, .long 0, .int (-1), .int 0, .ref m1w, .ref m2w, .ref m3w, .ref m4w, .int 0, .long 0, .long 0, .long 0])), (mr, .inl (cm1, 7, .inl (fun _ => 0))), (mw, .inl (cm3, 906, .inr (.inl fw)))] H := hP
  have hD : va_D A [(h1, .inr (12, [.int 0, .int 0, .ref mr, .ref mt, .ref mw, .ref mu, .ref mp, .ref mi, .ref mk, .ref ms, .int 0, .ref mv, .int 0, .int 0, .int 0, .int 0, .long 0, .int (-1), .int 0, .ref m1w, .ref m2w, .ref m3w, .ref m4w, .int 0, .long 0, .long 0, .long 0])), (mr, .inl (cm1, 7, .inl (fun _ => 0))), (mw, .inl (cm3, 906, .inr (.inl fw)))] := hD
  refine W.widen (k := 786) (n := 20946) (Nat.le_of_ble_eq_true rfl) (Nat.le_of_ble_eq_true rfl) ?_
  have hw : r_1 = sp_one (xs 2) 1 20 (-2) := hw
  subst hw
  refine lv_aload_n hx hb dL_law_460 rfl (lv_at hl 2 rfl) ?_
  refine lv_aload_n hx hb dL_law_461 rfl (lv_at hl 0 rfl) ?_
  refine lv_iload_n hx hb dL_law_462 rfl (lv_at hl 3 rfl) ?_
  refine lv_iconst (v := 1) hx hb dL_law_463 (by decide) ?_
  refine lv_iadd hx hb dL_law_464 ?_
  refine k_topi (y := 1) (by decide) ?_
  refine va_sld hx hb hX hbl hbA hS (by unfold vp_in; decide) dL_law_465 ?_
  refine k_topi (y := xs 1) (congrArg xs (by decide)) ?_
  refine lv_aload_n hx hb dL_law_466 rfl (lv_at hl 0 rfl) ?_
  refine lv_iload_n hx hb dL_law_467 rfl (lv_at hl 3 rfl) ?_
  refine lv_iconst (v := 2) hx hb dL_law_468 (by decide) ?_
  refine lv_iadd hx hb dL_law_469 ?_
  refine k_topi (y := 2) (by decide) ?_
  refine va_sld hx hb hX hbl hbA hS (by unfold vp_in; decide) dL_law_470 ?_
  refine k_topi (y := xs 2) (congrArg xs (by decide)) ?_
  have hPc := hP.sub (ws' := [(h1, .inr (12, [.int 0, .int 0, .ref mr, .ref mt, .ref mw, .ref mu, .ref mp, .ref mi, .ref mk, .ref ms, .int 0, .ref mv, .int 0, .int 0, .int 0, .int 0, .long 0, .int (-1), .int 0, .ref m1w, .ref m2w, .ref m3w, .ref m4w, .int 0, .long 0, .long 0, .long 0])), (mr, .inl (cm1, 7, .inl (fun _ => 0))), (mw, .inl (cm3, 906, .inr (.inl fw)))]) [0, 1, 2] rfl
  have hDc := hD.sub (ws' := [(h1, .inr (12, [.int 0, .int 0, .ref mr, .ref mt, .ref mw, .ref mu, .ref mp, .ref mi, .ref mk, .ref ms, .int 0, .ref mv, .int 0, .int 0, .int 0, .int 0, .long 0, .int (-1), .int 0, .ref m1w, .ref m2w, .ref m3w, .ref m4w, .int 0, .long 0, .long 0, .long 0])), (mr, .inl (cm1, 7, .inl (fun _ => 0))), (mw, .inl (cm3, 906, .inr (.inl fw)))]) [0, 1, 2] (by decide) rfl
  have hKc := hK.sub (tys' := [(cm1, .int), (cm3, .long)]) [1, 2] rfl
  have hFc := va_free (wc := [(h1, .inr (12, [.int 0, .int 0, .ref mr, .ref mt, .ref mw, .ref mu, .ref mp, .ref mi, .ref mk, .ref ms, .int 0, .ref mv, .int 0, .int 0, .int 0, .int 0, .long 0, .int (-1), .int 0, .ref m1w, .ref m2w, .ref m3w, .ref m4w, .int 0, .long 0, .long 0, .long 0])), (mr, .inl (cm1, 7, .inl (fun _ => 0))), (mw, .inl (cm3, 906, .inr (.inl fw)))]) hD hS hA [0, 1, 2] rfl
  refine va_calli (va_runV (As := [.int (xs 1), .int (xs 2)]) (rest := [.int (sp_one (xs 2) 1 20 (-2))]) ⟨hx, hb, hml, hown, hts⟩ (c_X12_slice l dC dI h1 (xs 1) (xs 2) mr mt mw mu mp mi mk ms mv m1w m2w m3w m4w cm1 cm3 fw H.size hw0 hw1 hw2 hw3 hw4 hw5) (cwV 2 hts (gi_V tb_c_X12_slice tw_622.1 tw_623.1 tw_624.1 tw_435.1) rfl rfl rfl (by decide +kernel) ⟨Nat.le_of_ble_eq_true rfl, Nat.le_of_ble_eq_true rfl⟩) ⟨fun a U g mk q => by obtain ⟨q0, q1, qP, qK, qD⟩ := q; exact ⟨q0, q1, qP, va_K.moved (u := U) (U := U.calling g mk a) (Vm.Alike.refl U.vm) qK, qD⟩, va_recv hKc hPc (ci := 12) (q0 := 0) rfl rfl, fun U hU hW => ⟨rfl, by rw [hU], by rw [hU]; exact hPc, va_K.moved hW.alike hKc, hDc.weaken (fun _ _ _ _ => trivial)⟩⟩ rfl rfl hl.1 rfl (lv_room (Nat.le_of_ble_eq_true rfl)) dL_law_471 ⟨Nat.le_of_ble_eq_true rfl, Nat.le_of_ble_eq_true rfl⟩) hS (fun q _ h => hFc q h) hFc (fun r_2 u t H1 locs ht hvm hw hB hz1 hk1 hS => ?_)
  obtain ⟨hP1, hK1, hD1⟩ := hB
  rw [ht] at hP1
  have hK1 := va_K.moved hvm.symm hK1
  obtain ⟨hP, hD⟩ := va_join (wr := []) (w1 := []) hP hD [0, 1, 2] [] rfl rfl (by decide) (by decide) hk1 hFc hP1 hD1
  generalize H1 = H at hP hS ⊢
  have hP : va_P (dC, dI) vwCl [] H := hP
  have hD : va_D A [] := hD
  refine W.widen (k := 786) (n := 20946) (Nat.le_of_ble_eq_true rfl) (Nat.le_of_ble_eq_true rfl) ?_
  have hw : r_2 = sp_one (xs 2) 1 20 (-2) := hw
  subst hw
  refine lv_icmp_eq (tgt := 1204) hx hb dL_law_474 (by decide) (fun _ => ?_) (fun c => absurd rfl c)
  exact law_next C0 hA hbA hAq (hK.sub [] rfl) (hP.sub [] rfl) (hD.sub [] (by decide) rfl) hS (lv_sub hl [0, 1, 2, 3] rfl)
set_option maxHeartbeats 4000000 in
set_option maxRecDepth 100000 in
theorem law_wish {p : Program} {l : Launch} {e : Env} {s : State} {m : MethodId} {below : List Frame} {meth : Method} {c : Code} {dC : Nat → ClassId} {dI : Nat → Nat → Nat} {b : Nat} {xs : Nat → Int32} {A : Nat → Prop} (C0 : lw_At p s m meth c b 6 xs) (hA : ∀ q : Nat, s.heap.size ≤ q → A q) (hbA : ¬ A b) (hAq : ∀ q : Nat, A q → s.heap.size ≤ q) {h0 : Nat} {h1 : Nat} {te : Nat} {ta : Nat} {re : Nat} {no : Nat} {pa : Nat} {ac : Nat} {op : Nat} {im : Nat} {ik : Nat} {hi : Nat} {rf : Nat} {nt : Nat} {nl : Nat} {ns : Nat} {np : Nat} {rc : Nat} {ci2 : ClassId} {mr : Nat} {mt : Nat} {mw : Nat} {mu : Nat} {mp : Nat} {mi : Nat} {mk : Nat} {ms : Nat} {mv : Nat} {m1w : Nat} {m2w : Nat} {m3w : Nat} {m4w : Nat} {cm1 : ClassId} {cm3 : ClassId} {fw : Nat → Int64} {H : Heap} {locs : List Loc} {ls : Array Slot} (hw0 : fw 0 = 0) (hw1 : fw 1 = 0) (hw2 : fw 2 = 0) (hw3 : fw 3 = (-1)) (hw4 : fw 4 = (-1)) (hw5 : fw 5 = 0) (hK : va_K (dC, dI) vwCl [(ci2, .int), (cm1, .int), (cm3, .long)] s) (hP : va_P (dC, dI) vwCl [(h0, .inr (11, [.ref te, .ref ta, .ref re, .ref no, .ref pa, .ref ac, .ref op, .ref im, .ref ik, .ref hi, .ref rf, .int (-1)])), (no, .inr (6, [.ref te, .ref nt, .ref nl, .ref ns, .ref np, .int 0, .int 0, .long 0, .int (-1), .int (-1)])), (rf, .inr (4, [.ref rc, .int 0])), (rc, .inl (ci2, 5, .inl (fun _ => 0))), (h1, .inr (12, [.int 0, .int 0, .ref mr, .ref mt, .ref mw, .ref mu, .ref mp, .ref mi, .ref mk, .ref ms, .int 0, .ref mv, .int 0, .int 0, .int 0, .int 0, .long 0, .int (-1), .int 0, .ref m1w, .ref m2w, .ref m3w, .ref m4w, .int 0, .long 0, .long 0, .long 0])), (mr, .inl (cm1, 7, .inl (fun _ => 0))), (mw, .inl (cm3, 906, .inr (.inl fw)))] H) (hD : va_D A [(h0, .inr (11, [.ref te, .ref ta, .ref re, .ref no, .ref pa, .ref ac, .ref op, .ref im, .ref ik, .ref hi, .ref rf, .int (-1)])), (no, .inr (6, [.ref te, .ref nt, .ref nl, .ref ns, .ref np, .int 0, .int 0, .long 0, .int (-1), .int (-1)])), (rf, .inr (4, [.ref rc, .int 0])), (rc, .inl (ci2, 5, .inl (fun _ => 0))), (h1, .inr (12, [.int 0, .int 0, .ref mr, .ref mt, .ref mw, .ref mu, .ref mp, .ref mi, .ref mk, .ref ms, .int 0, .ref mv, .int 0, .int 0, .int 0, .int 0, .long 0, .int (-1), .int 0, .ref m1w, .ref m2w, .ref m3w, .ref m4w, .int 0, .long 0, .long 0, .long 0])), (mr, .inl (cm1, 7, .inl (fun _ => 0))), (mw, .inl (cm3, 906, .inr (.inl fw)))]) (hS : va_S A s.heap H locs) (hl : lv_has ls 4 [(0, .ref b), (1, .ref h0), (2, .ref h1), (3, .int 0)]) : W p l e room_1 s m #[Value.ref b] below meth c H locs 786 20946 (lw_Z below #[Value.ref b] s) (F0 m 479 ls []) := by
  obtain ⟨hx, hb, hr, hml, hown, hts, hX, hbl, hlocks, hgv⟩ := id C0
  have hown : s.vm.findClass RL = some m.cls := hown
  refine lv_aload_n hx hb dL_law_479 rfl (lv_at hl 1 rfl) ?_
  refine lv_aload_n hx hb dL_law_480 rfl (lv_at hl 0 rfl) ?_
  refine lv_iload_n hx hb dL_law_481 rfl (lv_at hl 3 rfl) ?_
  refine lv_iconst (v := 1) hx hb dL_law_482 (by decide) ?_
  refine lv_iadd hx hb dL_law_483 ?_
  refine k_topi (y := 1) (by decide) ?_
  refine va_sld hx hb hX hbl hbA hS (by unfold vp_in; decide) dL_law_484 ?_
  refine k_topi (y := xs 1) (congrArg xs (by decide)) ?_
  refine lv_aload_n hx hb dL_law_485 rfl (lv_at hl 0 rfl) ?_
  refine lv_iload_n hx hb dL_law_486 rfl (lv_at hl 3 rfl) ?_
  refine lv_iconst (v := 2) hx hb dL_law_487 (by decide) ?_
  refine lv_iadd hx hb dL_law_488 ?_
  refine k_topi (y := 2) (by decide) ?_
  refine va_sld hx hb hX hbl hbA hS (by unfold vp_in; decide) dL_law_489 ?_
  refine k_topi (y := xs 2) (congrArg xs (by decide)) ?_
  have hPc := hP.sub (ws' := [(h0, .inr (11, [.ref te, .ref ta, .ref re, .ref no, .ref pa, .ref ac, .ref op, .ref im, .ref ik, .ref hi, .ref rf, .int (-1)])), (no, .inr (6, [.ref te, .ref nt, .ref nl, .ref ns, .ref np, .int 0, .int 0, .long 0, .int (-1), .int (-1)])), (rf, .inr (4, [.ref rc, .int 0])), (rc, .inl (ci2, 5, .inl (fun _ => 0)))]) [0, 1, 2, 3] rfl
  have hDc := hD.sub (ws' := [(h0, .inr (11, [.ref te, .ref ta, .ref re, .ref no, .ref pa, .ref ac, .ref op, .ref im, .ref ik, .ref hi, .ref rf, .int (-1)])), (no, .inr (6, [.ref te, .ref nt, .ref nl, .ref ns, .ref np, .int 0, .int 0, .long 0, .int (-1), .int (-1)])), (rf, .inr (4, [.ref rc, .int 0])), (rc, .inl (ci2, 5, .inl (fun _ => 0)))]) [0, 1, 2, 3] (by decide) rfl
  have hKc := hK.sub (tys' := [(ci2, .int)]) [0] rfl
  have hFc := va_free (wc := [(h0, .inr (11, [.ref te, .ref ta, .ref re, .ref no, .ref pa, .ref ac, .ref op, .ref im, .ref ik, .ref hi, .ref rf, .int (-1)])), (no, .inr (6, [.ref te, .ref nt, .ref nl, .ref ns, .ref np, .int 0, .int 0, .long 0, .int (-1), .int (-1)])), (rf, .inr (4, [.ref rc, .int 0])), (rc, .inl (ci2, 5, .inl (fun _ => 0)))]) hD hS hA [0, 1, 2, 3] rfl
  refine va_calli (va_runV (As := [.int (xs 1), .int (xs 2)]) (rest := []) ⟨hx, hb, hml, hown, hts⟩ (c_X11_wish l dC dI h0 (xs 1) (xs 2) te ta re no pa ac op im ik hi rf nt nl ns np rc ci2 H.size) (cwV 2 hts (gi_V tb_c_X11_wish tw_625.1 tw_626.1 tw_627.1 tw_324.1) rfl rfl rfl (by decide +kernel) ⟨Nat.le_of_ble_eq_true rfl, Nat.le_of_ble_eq_true rfl⟩) ⟨fun a U g mk q => by obtain ⟨q0, q1, qP, qK, qD⟩ := q; exact ⟨q0, q1, qP, va_K.moved (u := U) (U := U.calling g mk a) (Vm.Alike.refl U.vm) qK, qD⟩, va_recv hKc hPc (ci := 11) (q0 := 0) rfl rfl, fun U hU hW => ⟨rfl, by rw [hU], by rw [hU]; exact hPc, va_K.moved hW.alike hKc, hDc.weaken (fun _ _ _ _ => trivial)⟩⟩ rfl rfl hl.1 rfl (lv_room (Nat.le_of_ble_eq_true rfl)) dL_law_490 ⟨Nat.le_of_ble_eq_true rfl, Nat.le_of_ble_eq_true rfl⟩) hS (fun q _ h => hFc q h) hFc (fun r_1 u t H1 locs ht hvm hw hB hz1 hk1 hS => ?_)
  obtain ⟨hP1, hK1, hD1⟩ := hB
  rw [ht] at hP1
  have hK1 := va_K.moved hvm.symm hK1
  obtain ⟨hP, hD⟩ := va_join (wr := [(h1, .inr (12, [.int 0, .int 0, .ref mr, .ref mt, .ref mw, .ref mu, .ref mp, .ref mi, .ref mk, .ref ms, .int 0, .ref mv, .int 0, .int 0, .int 0, .int 0, .long 0, .int (-1), .int 0, .ref m1w, .ref m2w, .ref m3w, .ref m4w, .int 0, .long 0, .long 0, .long 0])), (mr, .inl (cm1, 7, .inl (fun _ => 0))), (mw, .inl (cm3, 906, .inr (.inl fw)))]) (w1 := []) hP hD [0, 1, 2, 3] [4, 5, 6] rfl rfl (by decide) (by decide) hk1 hFc hP1 hD1
  generalize H1 = H at hP hS ⊢
  have hP : va_P (dC, dI) vwCl [(h1, .inr (12, [.int 0, .int 0, .ref mr, .ref mt, .ref mw, .ref mu, .ref mp, .ref mi, .ref mk, .ref ms, .int 0, .ref mv, .int 0, .int 0, .int 0, .int 0, .long 0, .int (-1), .int 0, .ref m1w, .ref m2w, .ref m3w, .ref m4w, .int 0, .long 0, .long 0, .long 0])), (mr, .inl (cm1, 7, .inl (fun _ => 0))), (mw, .inl (cm3, 906, .inr (.inl fw)))] H := hP
  have hD : va_D A [(h1, .inr (12, [.int 0, .int 0, .ref mr, .ref mt, .ref mw, .ref mu, .ref mp, .ref mi, .ref mk, .ref ms, .int 0, .ref mv, .int 0, .int 0, .int 0, .int 0, .long 0, .int (-1), .int 0, .ref m1w, .ref m2w, .ref m3w, .ref m4w, .int 0, .long 0, .long 0, .long 0])), (mr, .inl (cm1, 7, .inl (fun _ => 0))), (mw, .inl (cm3, 906, .inr (.inl fw)))] := hD
  refine W.widen (k := 786) (n := 20946) (Nat.le_of_ble_eq_true rfl) (Nat.le_of_ble_eq_true rfl) ?_
  have hw : r_1 = sp_one (xs 2) 1 99 (-2) := hw
  subst hw
  refine lv_aload_n hx hb dL_law_493 rfl (lv_at hl 2 rfl) ?_
  refine lv_aload_n hx hb dL_law_494 rfl (lv_at hl 0 rfl) ?_
  refine lv_iload_n hx hb dL_law_495 rfl (lv_at hl 3 rfl) ?_
  refine lv_iconst (v := 1) hx hb dL_law_496 (by decide) ?_
  refine lv_iadd hx hb dL_law_497 ?_
  refine k_topi (y := 1) (by decide) ?_
  refine va_sld hx hb hX hbl hbA hS (by unfold vp_in; decide) dL_law_498 ?_
  refine k_topi (y := xs 1) (congrArg xs (by decide)) ?_
  refine lv_aload_n hx hb dL_law_499 rfl (lv_at hl 0 rfl) ?_
  refine lv_iload_n hx hb dL_law_500 rfl (lv_at hl 3 rfl) ?_
  refine lv_iconst (v := 2) hx hb dL_law_501 (by decide) ?_
  refine lv_iadd hx hb dL_law_502 ?_
  refine k_topi (y := 2) (by decide) ?_
  refine va_sld hx hb hX hbl hbA hS (by unfold vp_in; decide) dL_law_503 ?_
  refine k_topi (y := xs 2) (congrArg xs (by decide)) ?_
  have hPc := hP.sub (ws' := [(h1, .inr (12, [.int 0, .int 0, .ref mr, .ref mt, .ref mw, .ref mu, .ref mp, .ref mi, .ref mk, .ref ms, .int 0, .ref mv, .int 0, .int 0, .int 0, .int 0, .long 0, .int (-1), .int 0, .ref m1w, .ref m2w, .ref m3w, .ref m4w, .int 0, .long 0, .long 0, .long 0])), (mr, .inl (cm1, 7, .inl (fun _ => 0))), (mw, .inl (cm3, 906, .inr (.inl fw)))]) [0, 1, 2] rfl
  have hDc := hD.sub (ws' := [(h1, .inr (12, [.int 0, .int 0, .ref mr, .ref mt, .ref mw, .ref mu, .ref mp, .ref mi, .ref mk, .ref ms, .int 0, .ref mv, .int 0, .int 0, .int 0, .int 0, .long 0, .int (-1), .int 0, .ref m1w, .ref m2w, .ref m3w, .ref m4w, .int 0, .long 0, .long 0, .long 0])), (mr, .inl (cm1, 7, .inl (fun _ => 0))), (mw, .inl (cm3, 906, .inr (.inl fw)))]) [0, 1, 2] (by decide) rfl
  have hKc := hK.sub (tys' := [(cm1, .int), (cm3, .long)]) [1, 2] rfl
  have hFc := va_free (wc := [(h1, .inr (12, [.int 0, .int 0, .ref mr, .ref mt, .ref mw, .ref mu, .ref mp, .ref mi, .ref mk, .ref ms, .int 0, .ref mv, .int 0, .int 0, .int 0, .int 0, .long 0, .int (-1), .int 0, .ref m1w, .ref m2w, .ref m3w, .ref m4w, .int 0, .long 0, .long 0, .long 0])), (mr, .inl (cm1, 7, .inl (fun _ => 0))), (mw, .inl (cm3, 906, .inr (.inl fw)))]) hD hS hA [0, 1, 2] rfl
  refine va_calli (va_runV (As := [.int (xs 1), .int (xs 2)]) (rest := [.int (sp_one (xs 2) 1 99 (-2))]) ⟨hx, hb, hml, hown, hts⟩ (c_X12_wish l dC dI h1 (xs 1) (xs 2) mr mt mw mu mp mi mk ms mv m1w m2w m3w m4w cm1 cm3 fw H.size hw0 hw1 hw2 hw3 hw4 hw5) (cwV 2 hts (gi_V tb_c_X12_wish tw_628.1 tw_629.1 tw_630.1 tw_435.1) rfl rfl rfl (by decide +kernel) ⟨Nat.le_of_ble_eq_true rfl, Nat.le_of_ble_eq_true rfl⟩) ⟨fun a U g mk q => by obtain ⟨q0, q1, qP, qK, qD⟩ := q; exact ⟨q0, q1, qP, va_K.moved (u := U) (U := U.calling g mk a) (Vm.Alike.refl U.vm) qK, qD⟩, va_recv hKc hPc (ci := 12) (q0 := 0) rfl rfl, fun U hU hW => ⟨rfl, by rw [hU], by rw [hU]; exact hPc, va_K.moved hW.alike hKc, hDc.weaken (fun _ _ _ _ => trivial)⟩⟩ rfl rfl hl.1 rfl (lv_room (Nat.le_of_ble_eq_true rfl)) dL_law_504 ⟨Nat.le_of_ble_eq_true rfl, Nat.le_of_ble_eq_true rfl⟩) hS (fun q _ h => hFc q h) hFc (fun r_2 u t H1 locs ht hvm hw hB hz1 hk1 hS => ?_)
  obtain ⟨hP1, hK1, hD1⟩ := hB
  rw [ht] at hP1
  have hK1 := va_K.moved hvm.symm hK1
  obtain ⟨hP, hD⟩ := va_join (wr := []) (w1 := []) hP hD [0, 1, 2] [] rfl rfl (by decide) (by decide) hk1 hFc hP1 hD1
  generalize H1 = H at hP hS ⊢
  have hP : va_P (dC, dI) vwCl [] H := hP
  have hD : va_D A [] := hD
  refine W.widen (k := 786) (n := 20946) (Nat.le_of_ble_eq_true rfl) (Nat.le_of_ble_eq_true rfl) ?_
  have hw : r_2 = sp_one (xs 2) 1 99 (-2) := hw
  subst hw
  refine lv_icmp_eq (tgt := 1204) hx hb dL_law_507 (by decide) (fun _ => ?_) (fun c => absurd rfl c)
  exact law_next C0 hA hbA hAq (hK.sub [] rfl) (hP.sub [] rfl) (hD.sub [] (by decide) rfl) hS (lv_sub hl [0, 1, 2, 3] rfl)
set_option maxHeartbeats 4000000 in
set_option maxRecDepth 100000 in
theorem law_yields {p : Program} {l : Launch} {e : Env} {s : State} {m : MethodId} {below : List Frame} {meth : Method} {c : Code} {dC : Nat → ClassId} {dI : Nat → Nat → Nat} {b : Nat} {xs : Nat → Int32} {A : Nat → Prop} (C0 : lw_At p s m meth c b 6 xs) (hA : ∀ q : Nat, s.heap.size ≤ q → A q) (hbA : ¬ A b) (hAq : ∀ q : Nat, A q → s.heap.size ≤ q) {h0 : Nat} {h1 : Nat} {te : Nat} {ta : Nat} {re : Nat} {no : Nat} {pa : Nat} {ac : Nat} {op : Nat} {im : Nat} {ik : Nat} {hi : Nat} {rf : Nat} {nt : Nat} {nl : Nat} {ns : Nat} {np : Nat} {rc : Nat} {ci2 : ClassId} {mr : Nat} {mt : Nat} {mw : Nat} {mu : Nat} {mp : Nat} {mi : Nat} {mk : Nat} {ms : Nat} {mv : Nat} {m1w : Nat} {m2w : Nat} {m3w : Nat} {m4w : Nat} {cm1 : ClassId} {cm3 : ClassId} {fw : Nat → Int64} {H : Heap} {locs : List Loc} {ls : Array Slot} (hw0 : fw 0 = 0) (hw1 : fw 1 = 0) (hw2 : fw 2 = 0) (hw3 : fw 3 = (-1)) (hw4 : fw 4 = (-1)) (hw5 : fw 5 = 0) (hK : va_K (dC, dI) vwCl [(ci2, .int), (cm1, .int), (cm3, .long)] s) (hP : va_P (dC, dI) vwCl [(h0, .inr (11, [.ref te, .ref ta, .ref re, .ref no, .ref pa, .ref ac, .ref op, .ref im, .ref ik, .ref hi, .ref rf, .int (-1)])), (no, .inr (6, [.ref te, .ref nt, .ref nl, .ref ns, .ref np, .int 0, .int 0, .long 0, .int (-1), .int (-1)])), (rf, .inr (4, [.ref rc, .int 0])), (rc, .inl (ci2, 5, .inl (fun _ => 0))), (h1, .inr (12, [.int 0, .int 0, .ref mr, .ref mt, .ref mw, .ref mu, .ref mp, .ref mi, .ref mk, .ref ms, .int 0, .ref mv, .int 0, .int 0, .int 0, .int 0, .long 0, .int (-1), .int 0, .ref m1w, .ref m2w, .ref m3w, .ref m4w, .int 0, .long 0, .long 0, .long 0])), (mr, .inl (cm1, 7, .inl (fun _ => 0))), (mw, .inl (cm3, 906, .inr (.inl fw)))] H) (hD : va_D A [(h0, .inr (11, [.ref te, .ref ta, .ref re, .ref no, .ref pa, .ref ac, .ref op, .ref im, .ref ik, .ref hi, .ref rf, .int (-1)])), (no, .inr (6, [.ref te, .ref nt, .ref nl, .ref ns, .ref np, .int 0, .int 0, .long 0, .int (-1), .int (-1)])), (rf, .inr (4, [.ref rc, .int 0])), (rc, .inl (ci2, 5, .inl (fun _ => 0))), (h1, .inr (12, [.int 0, .int 0, .ref mr, .ref mt, .ref mw, .ref mu, .ref mp, .ref mi, .ref mk, .ref ms, .int 0, .ref mv, .int 0, .int 0, .int 0, .int 0, .long 0, .int (-1), .int 0, .ref m1w, .ref m2w, .ref m3w, .ref m4w, .int 0, .long 0, .long 0, .long 0])), (mr, .inl (cm1, 7, .inl (fun _ => 0))), (mw, .inl (cm3, 906, .inr (.inl fw)))]) (hS : va_S A s.heap H locs) (hl : lv_has ls 4 [(0, .ref b), (1, .ref h0), (2, .ref h1), (3, .int 0)]) : W p l e room_1 s m #[Value.ref b] below meth c H locs 786 20946 (lw_Z below #[Value.ref b] s) (F0 m 512 ls []) := by
  obtain ⟨hx, hb, hr, hml, hown, hts, hX, hbl, hlocks, hgv⟩ := id C0
  have hown : s.vm.findClass RL = some m.cls := hown
  refine lv_aload_n hx hb dL_law_512 rfl (lv_at hl 1 rfl) ?_
  refine lv_aload_n hx hb dL_law_513 rfl (lv_at hl 0 rfl) ?_
  refine lv_iload_n hx hb dL_law_514 rfl (lv_at hl 3 rfl) ?_
  refine lv_iconst (v := 1) hx hb dL_law_515 (by decide) ?_
  refine lv_iadd hx hb dL_law_516 ?_
  refine k_topi (y := 1) (by decide) ?_
  refine va_sld hx hb hX hbl hbA hS (by unfold vp_in; decide) dL_law_517 ?_
  refine k_topi (y := xs 1) (congrArg xs (by decide)) ?_
  have hPc := hP.sub (ws' := [(h0, .inr (11, [.ref te, .ref ta, .ref re, .ref no, .ref pa, .ref ac, .ref op, .ref im, .ref ik, .ref hi, .ref rf, .int (-1)])), (no, .inr (6, [.ref te, .ref nt, .ref nl, .ref ns, .ref np, .int 0, .int 0, .long 0, .int (-1), .int (-1)])), (rf, .inr (4, [.ref rc, .int 0])), (rc, .inl (ci2, 5, .inl (fun _ => 0)))]) [0, 1, 2, 3] rfl
  have hDc := hD.sub (ws' := [(h0, .inr (11, [.ref te, .ref ta, .ref re, .ref no, .ref pa, .ref ac, .ref op, .ref im, .ref ik, .ref hi, .ref rf, .int (-1)])), (no, .inr (6, [.ref te, .ref nt, .ref nl, .ref ns, .ref np, .int 0, .int 0, .long 0, .int (-1), .int (-1)])), (rf, .inr (4, [.ref rc, .int 0])), (rc, .inl (ci2, 5, .inl (fun _ => 0)))]) [0, 1, 2, 3] (by decide) rfl
  have hKc := hK.sub (tys' := [(ci2, .int)]) [0] rfl
  have hFc := va_free (wc := [(h0, .inr (11, [.ref te, .ref ta, .ref re, .ref no, .ref pa, .ref ac, .ref op, .ref im, .ref ik, .ref hi, .ref rf, .int (-1)])), (no, .inr (6, [.ref te, .ref nt, .ref nl, .ref ns, .ref np, .int 0, .int 0, .long 0, .int (-1), .int (-1)])), (rf, .inr (4, [.ref rc, .int 0])), (rc, .inl (ci2, 5, .inl (fun _ => 0)))]) hD hS hA [0, 1, 2, 3] rfl
  refine va_calli (va_runV (As := [.int (xs 1)]) (rest := []) ⟨hx, hb, hml, hown, hts⟩ (c_X11_yields l dC dI h0 (xs 1) te ta re no pa ac op im ik hi rf nt nl ns np rc ci2 H.size) (cwV 1 hts (gi_V tb_c_X11_yields tw_631.1 tw_632.1 tw_633.1 tw_324.1) rfl rfl rfl (by decide +kernel) ⟨Nat.le_of_ble_eq_true rfl, Nat.le_of_ble_eq_true rfl⟩) ⟨fun a U g mk q => by obtain ⟨q0, q1, qP, qK, qD⟩ := q; exact ⟨q0, q1, qP, va_K.moved (u := U) (U := U.calling g mk a) (Vm.Alike.refl U.vm) qK, qD⟩, va_recv hKc hPc (ci := 11) (q0 := 0) rfl rfl, fun U hU hW => ⟨rfl, by rw [hU], by rw [hU]; exact hPc, va_K.moved hW.alike hKc, hDc.weaken (fun _ _ _ _ => trivial)⟩⟩ rfl rfl hl.1 rfl (lv_room (Nat.le_of_ble_eq_true rfl)) dL_law_518 ⟨Nat.le_of_ble_eq_true rfl, Nat.le_of_ble_eq_true rfl⟩) hS (fun q _ h => hFc q h) hFc (fun r_1 u t H1 locs ht hvm hw hB hz1 hk1 hS => ?_)
  obtain ⟨hP1, hK1, hD1⟩ := hB
  rw [ht] at hP1
  have hK1 := va_K.moved hvm.symm hK1
  obtain ⟨hP, hD⟩ := va_join (wr := [(h1, .inr (12, [.int 0, .int 0, .ref mr, .ref mt, .ref mw, .ref mu, .ref mp, .ref mi, .ref mk, .ref ms, .int 0, .ref mv, .int 0, .int 0, .int 0, .int 0, .long 0, .int (-1), .int 0, .ref m1w, .ref m2w, .ref m3w, .ref m4w, .int 0, .long 0, .long 0, .long 0])), (mr, .inl (cm1, 7, .inl (fun _ => 0))), (mw, .inl (cm3, 906, .inr (.inl fw)))]) (w1 := []) hP hD [0, 1, 2, 3] [4, 5, 6] rfl rfl (by decide) (by decide) hk1 hFc hP1 hD1
  generalize H1 = H at hP hS ⊢
  have hP : va_P (dC, dI) vwCl [(h1, .inr (12, [.int 0, .int 0, .ref mr, .ref mt, .ref mw, .ref mu, .ref mp, .ref mi, .ref mk, .ref ms, .int 0, .ref mv, .int 0, .int 0, .int 0, .int 0, .long 0, .int (-1), .int 0, .ref m1w, .ref m2w, .ref m3w, .ref m4w, .int 0, .long 0, .long 0, .long 0])), (mr, .inl (cm1, 7, .inl (fun _ => 0))), (mw, .inl (cm3, 906, .inr (.inl fw)))] H := hP
  have hD : va_D A [(h1, .inr (12, [.int 0, .int 0, .ref mr, .ref mt, .ref mw, .ref mu, .ref mp, .ref mi, .ref mk, .ref ms, .int 0, .ref mv, .int 0, .int 0, .int 0, .int 0, .long 0, .int (-1), .int 0, .ref m1w, .ref m2w, .ref m3w, .ref m4w, .int 0, .long 0, .long 0, .long 0])), (mr, .inl (cm1, 7, .inl (fun _ => 0))), (mw, .inl (cm3, 906, .inr (.inl fw)))] := hD
  refine W.widen (k := 786) (n := 20946) (Nat.le_of_ble_eq_true rfl) (Nat.le_of_ble_eq_true rfl) ?_
  have hw : r_1 = (-2) := hw
  subst hw
  refine lv_aload_n hx hb dL_law_521 rfl (lv_at hl 2 rfl) ?_
  refine lv_aload_n hx hb dL_law_522 rfl (lv_at hl 0 rfl) ?_
  refine lv_iload_n hx hb dL_law_523 rfl (lv_at hl 3 rfl) ?_
  refine lv_iconst (v := 1) hx hb dL_law_524 (by decide) ?_
  refine lv_iadd hx hb dL_law_525 ?_
  refine k_topi (y := 1) (by decide) ?_
  refine va_sld hx hb hX hbl hbA hS (by unfold vp_in; decide) dL_law_526 ?_
  refine k_topi (y := xs 1) (congrArg xs (by decide)) ?_
  have hPc := hP.sub (ws' := [(h1, .inr (12, [.int 0, .int 0, .ref mr, .ref mt, .ref mw, .ref mu, .ref mp, .ref mi, .ref mk, .ref ms, .int 0, .ref mv, .int 0, .int 0, .int 0, .int 0, .long 0, .int (-1), .int 0, .ref m1w, .ref m2w, .ref m3w, .ref m4w, .int 0, .long 0, .long 0, .long 0])), (mr, .inl (cm1, 7, .inl (fun _ => 0))), (mw, .inl (cm3, 906, .inr (.inl fw)))]) [0, 1, 2] rfl
  have hDc := hD.sub (ws' := [(h1, .inr (12, [.int 0, .int 0, .ref mr, .ref mt, .ref mw, .ref mu, .ref mp, .ref mi, .ref mk, .ref ms, .int 0, .ref mv, .int 0, .int 0, .int 0, .int 0, .long 0, .int (-1), .int 0, .ref m1w, .ref m2w, .ref m3w, .ref m4w, .int 0, .long 0, .long 0, .long 0])), (mr, .inl (cm1, 7, .inl (fun _ => 0))), (mw, .inl (cm3, 906, .inr (.inl fw)))]) [0, 1, 2] (by decide) rfl
  have hKc := hK.sub (tys' := [(cm1, .int), (cm3, .long)]) [1, 2] rfl
  have hFc := va_free (wc := [(h1, .inr (12, [.int 0, .int 0, .ref mr, .ref mt, .ref mw, .ref mu, .ref mp, .ref mi, .ref mk, .ref ms, .int 0, .ref mv, .int 0, .int 0, .int 0, .int 0, .long 0, .int (-1), .int 0, .ref m1w, .ref m2w, .ref m3w, .ref m4w, .int 0, .long 0, .long 0, .long 0])), (mr, .inl (cm1, 7, .inl (fun _ => 0))), (mw, .inl (cm3, 906, .inr (.inl fw)))]) hD hS hA [0, 1, 2] rfl
  refine va_calli (va_runV (As := [.int (xs 1)]) (rest := [.int (-2)]) ⟨hx, hb, hml, hown, hts⟩ (c_X12_yields l dC dI h1 (xs 1) mr mt mw mu mp mi mk ms mv m1w m2w m3w m4w cm1 cm3 fw H.size hw0 hw1 hw2 hw3 hw4 hw5) (cwV 1 hts (gi_V tb_c_X12_yields tw_634.1 tw_635.1 tw_636.1 tw_435.1) rfl rfl rfl (by decide +kernel) ⟨Nat.le_of_ble_eq_true rfl, Nat.le_of_ble_eq_true rfl⟩) ⟨fun a U g mk q => by obtain ⟨q0, q1, qP, qK, qD⟩ := q; exact ⟨q0, q1, qP, va_K.moved (u := U) (U := U.calling g mk a) (Vm.Alike.refl U.vm) qK, qD⟩, va_recv hKc hPc (ci := 12) (q0 := 0) rfl rfl, fun U hU hW => ⟨rfl, by rw [hU], by rw [hU]; exact hPc, va_K.moved hW.alike hKc, hDc.weaken (fun _ _ _ _ => trivial)⟩⟩ rfl rfl hl.1 rfl (lv_room (Nat.le_of_ble_eq_true rfl)) dL_law_527 ⟨Nat.le_of_ble_eq_true rfl, Nat.le_of_ble_eq_true rfl⟩) hS (fun q _ h => hFc q h) hFc (fun r_2 u t H1 locs ht hvm hw hB hz1 hk1 hS => ?_)
  obtain ⟨hP1, hK1, hD1⟩ := hB
  rw [ht] at hP1
  have hK1 := va_K.moved hvm.symm hK1
  obtain ⟨hP, hD⟩ := va_join (wr := []) (w1 := []) hP hD [0, 1, 2] [] rfl rfl (by decide) (by decide) hk1 hFc hP1 hD1
  generalize H1 = H at hP hS ⊢
  have hP : va_P (dC, dI) vwCl [] H := hP
  have hD : va_D A [] := hD
  refine W.widen (k := 786) (n := 20946) (Nat.le_of_ble_eq_true rfl) (Nat.le_of_ble_eq_true rfl) ?_
  have hw : r_2 = (-2) := hw
  subst hw
  refine lv_icmp_eq (tgt := 1204) hx hb dL_law_530 (by decide) (fun _ => ?_) (fun c => absurd (by decide) c)
  exact law_next C0 hA hbA hAq (hK.sub [] rfl) (hP.sub [] rfl) (hD.sub [] (by decide) rfl) hS (lv_sub hl [0, 1, 2, 3] rfl)
set_option maxHeartbeats 4000000 in
set_option maxRecDepth 100000 in
theorem law_quota {p : Program} {l : Launch} {e : Env} {s : State} {m : MethodId} {below : List Frame} {meth : Method} {c : Code} {dC : Nat → ClassId} {dI : Nat → Nat → Nat} {b : Nat} {xs : Nat → Int32} {A : Nat → Prop} (C0 : lw_At p s m meth c b 6 xs) (hA : ∀ q : Nat, s.heap.size ≤ q → A q) (hbA : ¬ A b) (hAq : ∀ q : Nat, A q → s.heap.size ≤ q) {h0 : Nat} {h1 : Nat} {te : Nat} {ta : Nat} {re : Nat} {no : Nat} {pa : Nat} {ac : Nat} {op : Nat} {im : Nat} {ik : Nat} {hi : Nat} {rf : Nat} {nt : Nat} {nl : Nat} {ns : Nat} {np : Nat} {rc : Nat} {ci2 : ClassId} {mr : Nat} {mt : Nat} {mw : Nat} {mu : Nat} {mp : Nat} {mi : Nat} {mk : Nat} {ms : Nat} {mv : Nat} {m1w : Nat} {m2w : Nat} {m3w : Nat} {m4w : Nat} {cm1 : ClassId} {cm3 : ClassId} {fw : Nat → Int64} {H : Heap} {locs : List Loc} {ls : Array Slot} (hw0 : fw 0 = 0) (hw1 : fw 1 = 0) (hw2 : fw 2 = 0) (hw3 : fw 3 = (-1)) (hw4 : fw 4 = (-1)) (hw5 : fw 5 = 0) (hK : va_K (dC, dI) vwCl [(ci2, .int), (cm1, .int), (cm3, .long)] s) (hP : va_P (dC, dI) vwCl [(h0, .inr (11, [.ref te, .ref ta, .ref re, .ref no, .ref pa, .ref ac, .ref op, .ref im, .ref ik, .ref hi, .ref rf, .int (-1)])), (no, .inr (6, [.ref te, .ref nt, .ref nl, .ref ns, .ref np, .int 0, .int 0, .long 0, .int (-1), .int (-1)])), (rf, .inr (4, [.ref rc, .int 0])), (rc, .inl (ci2, 5, .inl (fun _ => 0))), (h1, .inr (12, [.int 0, .int 0, .ref mr, .ref mt, .ref mw, .ref mu, .ref mp, .ref mi, .ref mk, .ref ms, .int 0, .ref mv, .int 0, .int 0, .int 0, .int 0, .long 0, .int (-1), .int 0, .ref m1w, .ref m2w, .ref m3w, .ref m4w, .int 0, .long 0, .long 0, .long 0])), (mr, .inl (cm1, 7, .inl (fun _ => 0))), (mw, .inl (cm3, 906, .inr (.inl fw)))] H) (hD : va_D A [(h0, .inr (11, [.ref te, .ref ta, .ref re, .ref no, .ref pa, .ref ac, .ref op, .ref im, .ref ik, .ref hi, .ref rf, .int (-1)])), (no, .inr (6, [.ref te, .ref nt, .ref nl, .ref ns, .ref np, .int 0, .int 0, .long 0, .int (-1), .int (-1)])), (rf, .inr (4, [.ref rc, .int 0])), (rc, .inl (ci2, 5, .inl (fun _ => 0))), (h1, .inr (12, [.int 0, .int 0, .ref mr, .ref mt, .ref mw, .ref mu, .ref mp, .ref mi, .ref mk, .ref ms, .int 0, .ref mv, .int 0, .int 0, .int 0, .int 0, .long 0, .int (-1), .int 0, .ref m1w, .ref m2w, .ref m3w, .ref m4w, .int 0, .long 0, .long 0, .long 0])), (mr, .inl (cm1, 7, .inl (fun _ => 0))), (mw, .inl (cm3, 906, .inr (.inl fw)))]) (hS : va_S A s.heap H locs) (hl : lv_has ls 4 [(0, .ref b), (1, .ref h0), (2, .ref h1), (3, .int 0)]) : W p l e room_1 s m #[Value.ref b] below meth c H locs 786 20946 (lw_Z below #[Value.ref b] s) (F0 m 535 ls []) := by
  obtain ⟨hx, hb, hr, hml, hown, hts, hX, hbl, hlocks, hgv⟩ := id C0
  have hown : s.vm.findClass RL = some m.cls := hown
  refine lv_aload_n hx hb dL_law_535 rfl (lv_at hl 1 rfl) ?_
  refine lv_aload_n hx hb dL_law_536 rfl (lv_at hl 0 rfl) ?_
  refine lv_iload_n hx hb dL_law_537 rfl (lv_at hl 3 rfl) ?_
  refine lv_iconst (v := 1) hx hb dL_law_538 (by decide) ?_
  refine lv_iadd hx hb dL_law_539 ?_
  refine k_topi (y := 1) (by decide) ?_
  refine va_sld hx hb hX hbl hbA hS (by unfold vp_in; decide) dL_law_540 ?_
  refine k_topi (y := xs 1) (congrArg xs (by decide)) ?_
  refine lv_aload_n hx hb dL_law_541 rfl (lv_at hl 0 rfl) ?_
  refine lv_iload_n hx hb dL_law_542 rfl (lv_at hl 3 rfl) ?_
  refine lv_iconst (v := 2) hx hb dL_law_543 (by decide) ?_
  refine lv_iadd hx hb dL_law_544 ?_
  refine k_topi (y := 2) (by decide) ?_
  refine va_sld hx hb hX hbl hbA hS (by unfold vp_in; decide) dL_law_545 ?_
  refine k_topi (y := xs 2) (congrArg xs (by decide)) ?_
  refine lv_aload_n hx hb dL_law_546 rfl (lv_at hl 0 rfl) ?_
  refine lv_iload_n hx hb dL_law_547 rfl (lv_at hl 3 rfl) ?_
  refine lv_iconst (v := 3) hx hb dL_law_548 (by decide) ?_
  refine lv_iadd hx hb dL_law_549 ?_
  refine k_topi (y := 3) (by decide) ?_
  refine va_sld hx hb hX hbl hbA hS (by unfold vp_in; decide) dL_law_550 ?_
  refine k_topi (y := xs 3) (congrArg xs (by decide)) ?_
  have hPc := hP.sub (ws' := [(h0, .inr (11, [.ref te, .ref ta, .ref re, .ref no, .ref pa, .ref ac, .ref op, .ref im, .ref ik, .ref hi, .ref rf, .int (-1)])), (no, .inr (6, [.ref te, .ref nt, .ref nl, .ref ns, .ref np, .int 0, .int 0, .long 0, .int (-1), .int (-1)])), (rf, .inr (4, [.ref rc, .int 0])), (rc, .inl (ci2, 5, .inl (fun _ => 0)))]) [0, 1, 2, 3] rfl
  have hDc := hD.sub (ws' := [(h0, .inr (11, [.ref te, .ref ta, .ref re, .ref no, .ref pa, .ref ac, .ref op, .ref im, .ref ik, .ref hi, .ref rf, .int (-1)])), (no, .inr (6, [.ref te, .ref nt, .ref nl, .ref ns, .ref np, .int 0, .int 0, .long 0, .int (-1), .int (-1)])), (rf, .inr (4, [.ref rc, .int 0])), (rc, .inl (ci2, 5, .inl (fun _ => 0)))]) [0, 1, 2, 3] (by decide) rfl
  have hKc := hK.sub (tys' := [(ci2, .int)]) [0] rfl
  have hFc := va_free (wc := [(h0, .inr (11, [.ref te, .ref ta, .ref re, .ref no, .ref pa, .ref ac, .ref op, .ref im, .ref ik, .ref hi, .ref rf, .int (-1)])), (no, .inr (6, [.ref te, .ref nt, .ref nl, .ref ns, .ref np, .int 0, .int 0, .long 0, .int (-1), .int (-1)])), (rf, .inr (4, [.ref rc, .int 0])), (rc, .inl (ci2, 5, .inl (fun _ => 0)))]) hD hS hA [0, 1, 2, 3] rfl
  refine va_calli (va_runV (As := [.int (xs 1), .int (xs 2), .int (xs 3)]) (rest := []) ⟨hx, hb, hml, hown, hts⟩ (c_X11_quota l dC dI h0 (xs 1) (xs 2) (xs 3) te ta re no pa ac op im ik hi rf nt nl ns np rc ci2 H.size) (cwV 3 hts (gi_V tb_c_X11_quota tw_637.1 tw_638.1 tw_639.1 tw_324.1) rfl rfl rfl (by decide +kernel) ⟨Nat.le_of_ble_eq_true rfl, Nat.le_of_ble_eq_true rfl⟩) ⟨fun a U g mk q => by obtain ⟨q0, q1, qP, qK, qD⟩ := q; exact ⟨q0, q1, qP, va_K.moved (u := U) (U := U.calling g mk a) (Vm.Alike.refl U.vm) qK, qD⟩, va_recv hKc hPc (ci := 11) (q0 := 0) rfl rfl, fun U hU hW => ⟨rfl, by rw [hU], by rw [hU]; exact hPc, va_K.moved hW.alike hKc, hDc.weaken (fun _ _ _ _ => trivial)⟩⟩ rfl rfl hl.1 rfl (lv_room (Nat.le_of_ble_eq_true rfl)) dL_law_551 ⟨Nat.le_of_ble_eq_true rfl, Nat.le_of_ble_eq_true rfl⟩) hS (fun q _ h => hFc q h) hFc (fun r_1 u t H1 locs ht hvm hw hB hz1 hk1 hS => ?_)
  obtain ⟨hP1, hK1, hD1⟩ := hB
  rw [ht] at hP1
  have hK1 := va_K.moved hvm.symm hK1
  obtain ⟨hP, hD⟩ := va_join (wr := [(h1, .inr (12, [.int 0, .int 0, .ref mr, .ref mt, .ref mw, .ref mu, .ref mp, .ref mi, .ref mk, .ref ms, .int 0, .ref mv, .int 0, .int 0, .int 0, .int 0, .long 0, .int (-1), .int 0, .ref m1w, .ref m2w, .ref m3w, .ref m4w, .int 0, .long 0, .long 0, .long 0])), (mr, .inl (cm1, 7, .inl (fun _ => 0))), (mw, .inl (cm3, 906, .inr (.inl fw)))]) (w1 := []) hP hD [0, 1, 2, 3] [4, 5, 6] rfl rfl (by decide) (by decide) hk1 hFc hP1 hD1
  generalize H1 = H at hP hS ⊢
  have hP : va_P (dC, dI) vwCl [(h1, .inr (12, [.int 0, .int 0, .ref mr, .ref mt, .ref mw, .ref mu, .ref mp, .ref mi, .ref mk, .ref ms, .int 0, .ref mv, .int 0, .int 0, .int 0, .int 0, .long 0, .int (-1), .int 0, .ref m1w, .ref m2w, .ref m3w, .ref m4w, .int 0, .long 0, .long 0, .long 0])), (mr, .inl (cm1, 7, .inl (fun _ => 0))), (mw, .inl (cm3, 906, .inr (.inl fw)))] H := hP
  have hD : va_D A [(h1, .inr (12, [.int 0, .int 0, .ref mr, .ref mt, .ref mw, .ref mu, .ref mp, .ref mi, .ref mk, .ref ms, .int 0, .ref mv, .int 0, .int 0, .int 0, .int 0, .long 0, .int (-1), .int 0, .ref m1w, .ref m2w, .ref m3w, .ref m4w, .int 0, .long 0, .long 0, .long 0])), (mr, .inl (cm1, 7, .inl (fun _ => 0))), (mw, .inl (cm3, 906, .inr (.inl fw)))] := hD
  refine W.widen (k := 786) (n := 20946) (Nat.le_of_ble_eq_true rfl) (Nat.le_of_ble_eq_true rfl) ?_
  have hw : r_1 = sp_quota (xs 2) (xs 3) := hw
  subst hw
  refine lv_aload_n hx hb dL_law_554 rfl (lv_at hl 2 rfl) ?_
  refine lv_aload_n hx hb dL_law_555 rfl (lv_at hl 0 rfl) ?_
  refine lv_iload_n hx hb dL_law_556 rfl (lv_at hl 3 rfl) ?_
  refine lv_iconst (v := 1) hx hb dL_law_557 (by decide) ?_
  refine lv_iadd hx hb dL_law_558 ?_
  refine k_topi (y := 1) (by decide) ?_
  refine va_sld hx hb hX hbl hbA hS (by unfold vp_in; decide) dL_law_559 ?_
  refine k_topi (y := xs 1) (congrArg xs (by decide)) ?_
  refine lv_aload_n hx hb dL_law_560 rfl (lv_at hl 0 rfl) ?_
  refine lv_iload_n hx hb dL_law_561 rfl (lv_at hl 3 rfl) ?_
  refine lv_iconst (v := 2) hx hb dL_law_562 (by decide) ?_
  refine lv_iadd hx hb dL_law_563 ?_
  refine k_topi (y := 2) (by decide) ?_
  refine va_sld hx hb hX hbl hbA hS (by unfold vp_in; decide) dL_law_564 ?_
  refine k_topi (y := xs 2) (congrArg xs (by decide)) ?_
  refine lv_aload_n hx hb dL_law_565 rfl (lv_at hl 0 rfl) ?_
  refine lv_iload_n hx hb dL_law_566 rfl (lv_at hl 3 rfl) ?_
  refine lv_iconst (v := 3) hx hb dL_law_567 (by decide) ?_
  refine lv_iadd hx hb dL_law_568 ?_
  refine k_topi (y := 3) (by decide) ?_
  refine va_sld hx hb hX hbl hbA hS (by unfold vp_in; decide) dL_law_569 ?_
  refine k_topi (y := xs 3) (congrArg xs (by decide)) ?_
  have hPc := hP.sub (ws' := [(h1, .inr (12, [.int 0, .int 0, .ref mr, .ref mt, .ref mw, .ref mu, .ref mp, .ref mi, .ref mk, .ref ms, .int 0, .ref mv, .int 0, .int 0, .int 0, .int 0, .long 0, .int (-1), .int 0, .ref m1w, .ref m2w, .ref m3w, .ref m4w, .int 0, .long 0, .long 0, .long 0])), (mr, .inl (cm1, 7, .inl (fun _ => 0))), (mw, .inl (cm3, 906, .inr (.inl fw)))]) [0, 1, 2] rfl
  have hDc := hD.sub (ws' := [(h1, .inr (12, [.int 0, .int 0, .ref mr, .ref mt, .ref mw, .ref mu, .ref mp, .ref mi, .ref mk, .ref ms, .int 0, .ref mv, .int 0, .int 0, .int 0, .int 0, .long 0, .int (-1), .int 0, .ref m1w, .ref m2w, .ref m3w, .ref m4w, .int 0, .long 0, .long 0, .long 0])), (mr, .inl (cm1, 7, .inl (fun _ => 0))), (mw, .inl (cm3, 906, .inr (.inl fw)))]) [0, 1, 2] (by decide) rfl
  have hKc := hK.sub (tys' := [(cm1, .int), (cm3, .long)]) [1, 2] rfl
  have hFc := va_free (wc := [(h1, .inr (12, [.int 0, .int 0, .ref mr, .ref mt, .ref mw, .ref mu, .ref mp, .ref mi, .ref mk, .ref ms, .int 0, .ref mv, .int 0, .int 0, .int 0, .int 0, .long 0, .int (-1), .int 0, .ref m1w, .ref m2w, .ref m3w, .ref m4w, .int 0, .long 0, .long 0, .long 0])), (mr, .inl (cm1, 7, .inl (fun _ => 0))), (mw, .inl (cm3, 906, .inr (.inl fw)))]) hD hS hA [0, 1, 2] rfl
  refine va_calli (va_runV (As := [.int (xs 1), .int (xs 2), .int (xs 3)]) (rest := [.int (sp_quota (xs 2) (xs 3))]) ⟨hx, hb, hml, hown, hts⟩ (c_X12_quota l dC dI h1 (xs 1) (xs 2) (xs 3) mr mt mw mu mp mi mk ms mv m1w m2w m3w m4w cm1 cm3 fw H.size hw0 hw1 hw2 hw3 hw4 hw5) (cwV 3 hts (gi_V tb_c_X12_quota tw_640.1 tw_641.1 tw_642.1 tw_435.1) rfl rfl rfl (by decide +kernel) ⟨Nat.le_of_ble_eq_true rfl, Nat.le_of_ble_eq_true rfl⟩) ⟨fun a U g mk q => by obtain ⟨q0, q1, qP, qK, qD⟩ := q; exact ⟨q0, q1, qP, va_K.moved (u := U) (U := U.calling g mk a) (Vm.Alike.refl U.vm) qK, qD⟩, va_recv hKc hPc (ci := 12) (q0 := 0) rfl rfl, fun U hU hW => ⟨rfl, by rw [hU], by rw [hU]; exact hPc, va_K.moved hW.alike hKc, hDc.weaken (fun _ _ _ _ => trivial)⟩⟩ rfl rfl hl.1 rfl (lv_room (Nat.le_of_ble_eq_true rfl)) dL_law_570 ⟨Nat.le_of_ble_eq_true rfl, Nat.le_of_ble_eq_true rfl⟩) hS (fun q _ h => hFc q h) hFc (fun r_2 u t H1 locs ht hvm hw hB hz1 hk1 hS => ?_)
  obtain ⟨hP1, hK1, hD1⟩ := hB
  rw [ht] at hP1
  have hK1 := va_K.moved hvm.symm hK1
  obtain ⟨hP, hD⟩ := va_join (wr := []) (w1 := []) hP hD [0, 1, 2] [] rfl rfl (by decide) (by decide) hk1 hFc hP1 hD1
  generalize H1 = H at hP hS ⊢
  have hP : va_P (dC, dI) vwCl [] H := hP
  have hD : va_D A [] := hD
  refine W.widen (k := 786) (n := 20946) (Nat.le_of_ble_eq_true rfl) (Nat.le_of_ble_eq_true rfl) ?_
  have hw : r_2 = sp_quota (xs 2) (xs 3) := hw
  subst hw
  refine lv_icmp_eq (tgt := 1204) hx hb dL_law_573 (by decide) (fun _ => ?_) (fun c => absurd rfl c)
  exact law_next C0 hA hbA hAq (hK.sub [] rfl) (hP.sub [] rfl) (hD.sub [] (by decide) rfl) hS (lv_sub hl [0, 1, 2, 3] rfl)
set_option maxHeartbeats 4000000 in
set_option maxRecDepth 100000 in
theorem law_script {p : Program} {l : Launch} {e : Env} {s : State} {m : MethodId} {below : List Frame} {meth : Method} {c : Code} {dC : Nat → ClassId} {dI : Nat → Nat → Nat} {b : Nat} {xs : Nat → Int32} {A : Nat → Prop} (C0 : lw_At p s m meth c b 6 xs) (hA : ∀ q : Nat, s.heap.size ≤ q → A q) (hbA : ¬ A b) (hAq : ∀ q : Nat, A q → s.heap.size ≤ q) {h0 : Nat} {h1 : Nat} {te : Nat} {ta : Nat} {re : Nat} {no : Nat} {pa : Nat} {ac : Nat} {op : Nat} {im : Nat} {ik : Nat} {hi : Nat} {rf : Nat} {nt : Nat} {nl : Nat} {ns : Nat} {np : Nat} {rc : Nat} {ci2 : ClassId} {mr : Nat} {mt : Nat} {mw : Nat} {mu : Nat} {mp : Nat} {mi : Nat} {mk : Nat} {ms : Nat} {mv : Nat} {m1w : Nat} {m2w : Nat} {m3w : Nat} {m4w : Nat} {cm1 : ClassId} {cm3 : ClassId} {fw : Nat → Int64} {H : Heap} {locs : List Loc} {ls : Array Slot} (hw0 : fw 0 = 0) (hw1 : fw 1 = 0) (hw2 : fw 2 = 0) (hw3 : fw 3 = (-1)) (hw4 : fw 4 = (-1)) (hw5 : fw 5 = 0) (hK : va_K (dC, dI) vwCl [(ci2, .int), (cm1, .int), (cm3, .long)] s) (hP : va_P (dC, dI) vwCl [(h0, .inr (11, [.ref te, .ref ta, .ref re, .ref no, .ref pa, .ref ac, .ref op, .ref im, .ref ik, .ref hi, .ref rf, .int (-1)])), (no, .inr (6, [.ref te, .ref nt, .ref nl, .ref ns, .ref np, .int 0, .int 0, .long 0, .int (-1), .int (-1)])), (rf, .inr (4, [.ref rc, .int 0])), (rc, .inl (ci2, 5, .inl (fun _ => 0))), (h1, .inr (12, [.int 0, .int 0, .ref mr, .ref mt, .ref mw, .ref mu, .ref mp, .ref mi, .ref mk, .ref ms, .int 0, .ref mv, .int 0, .int 0, .int 0, .int 0, .long 0, .int (-1), .int 0, .ref m1w, .ref m2w, .ref m3w, .ref m4w, .int 0, .long 0, .long 0, .long 0])), (mr, .inl (cm1, 7, .inl (fun _ => 0))), (mw, .inl (cm3, 906, .inr (.inl fw)))] H) (hD : va_D A [(h0, .inr (11, [.ref te, .ref ta, .ref re, .ref no, .ref pa, .ref ac, .ref op, .ref im, .ref ik, .ref hi, .ref rf, .int (-1)])), (no, .inr (6, [.ref te, .ref nt, .ref nl, .ref ns, .ref np, .int 0, .int 0, .long 0, .int (-1), .int (-1)])), (rf, .inr (4, [.ref rc, .int 0])), (rc, .inl (ci2, 5, .inl (fun _ => 0))), (h1, .inr (12, [.int 0, .int 0, .ref mr, .ref mt, .ref mw, .ref mu, .ref mp, .ref mi, .ref mk, .ref ms, .int 0, .ref mv, .int 0, .int 0, .int 0, .int 0, .long 0, .int (-1), .int 0, .ref m1w, .ref m2w, .ref m3w, .ref m4w, .int 0, .long 0, .long 0, .long 0])), (mr, .inl (cm1, 7, .inl (fun _ => 0))), (mw, .inl (cm3, 906, .inr (.inl fw)))]) (hS : va_S A s.heap H locs) (hl : lv_has ls 4 [(0, .ref b), (1, .ref h0), (2, .ref h1), (3, .int 0)]) : W p l e room_1 s m #[Value.ref b] below meth c H locs 786 20946 (lw_Z below #[Value.ref b] s) (F0 m 578 ls []) := by
  obtain ⟨hx, hb, hr, hml, hown, hts, hX, hbl, hlocks, hgv⟩ := id C0
  have hown : s.vm.findClass RL = some m.cls := hown
  refine lv_aload_n hx hb dL_law_578 rfl (lv_at hl 1 rfl) ?_
  refine lv_aload_n hx hb dL_law_579 rfl (lv_at hl 0 rfl) ?_
  refine lv_iload_n hx hb dL_law_580 rfl (lv_at hl 3 rfl) ?_
  refine lv_iconst (v := 1) hx hb dL_law_581 (by decide) ?_
  refine lv_iadd hx hb dL_law_582 ?_
  refine k_topi (y := 1) (by decide) ?_
  refine va_sld hx hb hX hbl hbA hS (by unfold vp_in; decide) dL_law_583 ?_
  refine k_topi (y := xs 1) (congrArg xs (by decide)) ?_
  have hPc := hP.sub (ws' := [(h0, .inr (11, [.ref te, .ref ta, .ref re, .ref no, .ref pa, .ref ac, .ref op, .ref im, .ref ik, .ref hi, .ref rf, .int (-1)])), (no, .inr (6, [.ref te, .ref nt, .ref nl, .ref ns, .ref np, .int 0, .int 0, .long 0, .int (-1), .int (-1)])), (rf, .inr (4, [.ref rc, .int 0])), (rc, .inl (ci2, 5, .inl (fun _ => 0)))]) [0, 1, 2, 3] rfl
  have hDc := hD.sub (ws' := [(h0, .inr (11, [.ref te, .ref ta, .ref re, .ref no, .ref pa, .ref ac, .ref op, .ref im, .ref ik, .ref hi, .ref rf, .int (-1)])), (no, .inr (6, [.ref te, .ref nt, .ref nl, .ref ns, .ref np, .int 0, .int 0, .long 0, .int (-1), .int (-1)])), (rf, .inr (4, [.ref rc, .int 0])), (rc, .inl (ci2, 5, .inl (fun _ => 0)))]) [0, 1, 2, 3] (by decide) rfl
  have hKc := hK.sub (tys' := [(ci2, .int)]) [0] rfl
  have hFc := va_free (wc := [(h0, .inr (11, [.ref te, .ref ta, .ref re, .ref no, .ref pa, .ref ac, .ref op, .ref im, .ref ik, .ref hi, .ref rf, .int (-1)])), (no, .inr (6, [.ref te, .ref nt, .ref nl, .ref ns, .ref np, .int 0, .int 0, .long 0, .int (-1), .int (-1)])), (rf, .inr (4, [.ref rc, .int 0])), (rc, .inl (ci2, 5, .inl (fun _ => 0)))]) hD hS hA [0, 1, 2, 3] rfl
  refine va_calli (va_runV (As := [.int (xs 1)]) (rest := []) ⟨hx, hb, hml, hown, hts⟩ (c_X11_script l dC dI h0 (xs 1) te ta re no pa ac op im ik hi rf nt nl ns np rc ci2 H.size) (cwV 1 hts (gi_V tb_c_X11_script tw_643.1 tw_644.1 tw_645.1 tw_324.1) rfl rfl rfl (by decide +kernel) ⟨Nat.le_of_ble_eq_true rfl, Nat.le_of_ble_eq_true rfl⟩) ⟨fun a U g mk q => by obtain ⟨q0, q1, qP, qK, qD⟩ := q; exact ⟨q0, q1, qP, va_K.moved (u := U) (U := U.calling g mk a) (Vm.Alike.refl U.vm) qK, qD⟩, va_recv hKc hPc (ci := 11) (q0 := 0) rfl rfl, fun U hU hW => ⟨rfl, by rw [hU], by rw [hU]; exact hPc, va_K.moved hW.alike hKc, hDc.weaken (fun _ _ _ _ => trivial)⟩⟩ rfl rfl hl.1 rfl (lv_room (Nat.le_of_ble_eq_true rfl)) dL_law_584 ⟨Nat.le_of_ble_eq_true rfl, Nat.le_of_ble_eq_true rfl⟩) hS (fun q _ h => hFc q h) hFc (fun r_1 u t H1 locs ht hvm hw hB hz1 hk1 hS => ?_)
  obtain ⟨hP1, hK1, hD1⟩ := hB
  rw [ht] at hP1
  have hK1 := va_K.moved hvm.symm hK1
  obtain ⟨hP, hD⟩ := va_join (wr := [(h1, .inr (12, [.int 0, .int 0, .ref mr, .ref mt, .ref mw, .ref mu, .ref mp, .ref mi, .ref mk, .ref ms, .int 0, .ref mv, .int 0, .int 0, .int 0, .int 0, .long 0, .int (-1), .int 0, .ref m1w, .ref m2w, .ref m3w, .ref m4w, .int 0, .long 0, .long 0, .long 0])), (mr, .inl (cm1, 7, .inl (fun _ => 0))), (mw, .inl (cm3, 906, .inr (.inl fw)))]) (w1 := []) hP hD [0, 1, 2, 3] [4, 5, 6] rfl rfl (by decide) (by decide) hk1 hFc hP1 hD1
  generalize H1 = H at hP hS ⊢
  have hP : va_P (dC, dI) vwCl [(h1, .inr (12, [.int 0, .int 0, .ref mr, .ref mt, .ref mw, .ref mu, .ref mp, .ref mi, .ref mk, .ref ms, .int 0, .ref mv, .int 0, .int 0, .int 0, .int 0, .long 0, .int (-1), .int 0, .ref m1w, .ref m2w, .ref m3w, .ref m4w, .int 0, .long 0, .long 0, .long 0])), (mr, .inl (cm1, 7, .inl (fun _ => 0))), (mw, .inl (cm3, 906, .inr (.inl fw)))] H := hP
  have hD : va_D A [(h1, .inr (12, [.int 0, .int 0, .ref mr, .ref mt, .ref mw, .ref mu, .ref mp, .ref mi, .ref mk, .ref ms, .int 0, .ref mv, .int 0, .int 0, .int 0, .int 0, .long 0, .int (-1), .int 0, .ref m1w, .ref m2w, .ref m3w, .ref m4w, .int 0, .long 0, .long 0, .long 0])), (mr, .inl (cm1, 7, .inl (fun _ => 0))), (mw, .inl (cm3, 906, .inr (.inl fw)))] := hD
  refine W.widen (k := 786) (n := 20946) (Nat.le_of_ble_eq_true rfl) (Nat.le_of_ble_eq_true rfl) ?_
  have hw : r_1 = (-2) := hw
  subst hw
  refine lv_aload_n hx hb dL_law_587 rfl (lv_at hl 2 rfl) ?_
  refine lv_aload_n hx hb dL_law_588 rfl (lv_at hl 0 rfl) ?_
  refine lv_iload_n hx hb dL_law_589 rfl (lv_at hl 3 rfl) ?_
  refine lv_iconst (v := 1) hx hb dL_law_590 (by decide) ?_
  refine lv_iadd hx hb dL_law_591 ?_
  refine k_topi (y := 1) (by decide) ?_
  refine va_sld hx hb hX hbl hbA hS (by unfold vp_in; decide) dL_law_592 ?_
  refine k_topi (y := xs 1) (congrArg xs (by decide)) ?_
  have hPc := hP.sub (ws' := [(h1, .inr (12, [.int 0, .int 0, .ref mr, .ref mt, .ref mw, .ref mu, .ref mp, .ref mi, .ref mk, .ref ms, .int 0, .ref mv, .int 0, .int 0, .int 0, .int 0, .long 0, .int (-1), .int 0, .ref m1w, .ref m2w, .ref m3w, .ref m4w, .int 0, .long 0, .long 0, .long 0])), (mr, .inl (cm1, 7, .inl (fun _ => 0))), (mw, .inl (cm3, 906, .inr (.inl fw)))]) [0, 1, 2] rfl
  have hDc := hD.sub (ws' := [(h1, .inr (12, [.int 0, .int 0, .ref mr, .ref mt, .ref mw, .ref mu, .ref mp, .ref mi, .ref mk, .ref ms, .int 0, .ref mv, .int 0, .int 0, .int 0, .int 0, .long 0, .int (-1), .int 0, .ref m1w, .ref m2w, .ref m3w, .ref m4w, .int 0, .long 0, .long 0, .long 0])), (mr, .inl (cm1, 7, .inl (fun _ => 0))), (mw, .inl (cm3, 906, .inr (.inl fw)))]) [0, 1, 2] (by decide) rfl
  have hKc := hK.sub (tys' := [(cm1, .int), (cm3, .long)]) [1, 2] rfl
  have hFc := va_free (wc := [(h1, .inr (12, [.int 0, .int 0, .ref mr, .ref mt, .ref mw, .ref mu, .ref mp, .ref mi, .ref mk, .ref ms, .int 0, .ref mv, .int 0, .int 0, .int 0, .int 0, .long 0, .int (-1), .int 0, .ref m1w, .ref m2w, .ref m3w, .ref m4w, .int 0, .long 0, .long 0, .long 0])), (mr, .inl (cm1, 7, .inl (fun _ => 0))), (mw, .inl (cm3, 906, .inr (.inl fw)))]) hD hS hA [0, 1, 2] rfl
  refine va_calli (va_runV (As := [.int (xs 1)]) (rest := [.int (-2)]) ⟨hx, hb, hml, hown, hts⟩ (c_X12_script l dC dI h1 (xs 1) mr mt mw mu mp mi mk ms mv m1w m2w m3w m4w cm1 cm3 fw H.size hw0 hw1 hw2 hw3 hw4 hw5) (cwV 1 hts (gi_V tb_c_X12_script tw_646.1 tw_647.1 tw_648.1 tw_435.1) rfl rfl rfl (by decide +kernel) ⟨Nat.le_of_ble_eq_true rfl, Nat.le_of_ble_eq_true rfl⟩) ⟨fun a U g mk q => by obtain ⟨q0, q1, qP, qK, qD⟩ := q; exact ⟨q0, q1, qP, va_K.moved (u := U) (U := U.calling g mk a) (Vm.Alike.refl U.vm) qK, qD⟩, va_recv hKc hPc (ci := 12) (q0 := 0) rfl rfl, fun U hU hW => ⟨rfl, by rw [hU], by rw [hU]; exact hPc, va_K.moved hW.alike hKc, hDc.weaken (fun _ _ _ _ => trivial)⟩⟩ rfl rfl hl.1 rfl (lv_room (Nat.le_of_ble_eq_true rfl)) dL_law_593 ⟨Nat.le_of_ble_eq_true rfl, Nat.le_of_ble_eq_true rfl⟩) hS (fun q _ h => hFc q h) hFc (fun r_2 u t H1 locs ht hvm hw hB hz1 hk1 hS => ?_)
  obtain ⟨hP1, hK1, hD1⟩ := hB
  rw [ht] at hP1
  have hK1 := va_K.moved hvm.symm hK1
  obtain ⟨hP, hD⟩ := va_join (wr := []) (w1 := []) hP hD [0, 1, 2] [] rfl rfl (by decide) (by decide) hk1 hFc hP1 hD1
  generalize H1 = H at hP hS ⊢
  have hP : va_P (dC, dI) vwCl [] H := hP
  have hD : va_D A [] := hD
  refine W.widen (k := 786) (n := 20946) (Nat.le_of_ble_eq_true rfl) (Nat.le_of_ble_eq_true rfl) ?_
  have hw : r_2 = (-2) := hw
  subst hw
  refine lv_icmp_eq (tgt := 1204) hx hb dL_law_596 (by decide) (fun _ => ?_) (fun c => absurd (by decide) c)
  exact law_next C0 hA hbA hAq (hK.sub [] rfl) (hP.sub [] rfl) (hD.sub [] (by decide) rfl) hS (lv_sub hl [0, 1, 2, 3] rfl)
set_option maxHeartbeats 4000000 in
set_option maxRecDepth 100000 in
theorem law_listing {p : Program} {l : Launch} {e : Env} {s : State} {m : MethodId} {below : List Frame} {meth : Method} {c : Code} {dC : Nat → ClassId} {dI : Nat → Nat → Nat} {b : Nat} {xs : Nat → Int32} {A : Nat → Prop} (C0 : lw_At p s m meth c b 6 xs) (hA : ∀ q : Nat, s.heap.size ≤ q → A q) (hbA : ¬ A b) (hAq : ∀ q : Nat, A q → s.heap.size ≤ q) {h0 : Nat} {h1 : Nat} {te : Nat} {ta : Nat} {re : Nat} {no : Nat} {pa : Nat} {ac : Nat} {op : Nat} {im : Nat} {ik : Nat} {hi : Nat} {rf : Nat} {nt : Nat} {nl : Nat} {ns : Nat} {np : Nat} {rc : Nat} {ci2 : ClassId} {mr : Nat} {mt : Nat} {mw : Nat} {mu : Nat} {mp : Nat} {mi : Nat} {mk : Nat} {ms : Nat} {mv : Nat} {m1w : Nat} {m2w : Nat} {m3w : Nat} {m4w : Nat} {cm1 : ClassId} {cm3 : ClassId} {fw : Nat → Int64} {H : Heap} {locs : List Loc} {ls : Array Slot} (hw0 : fw 0 = 0) (hw1 : fw 1 = 0) (hw2 : fw 2 = 0) (hw3 : fw 3 = (-1)) (hw4 : fw 4 = (-1)) (hw5 : fw 5 = 0) (hK : va_K (dC, dI) vwCl [(ci2, .int), (cm1, .int), (cm3, .long)] s) (hP : va_P (dC, dI) vwCl [(h0, .inr (11, [.ref te, .ref ta, .ref re, .ref no, .ref pa, .ref ac, .ref op, .ref im, .ref ik, .ref hi, .ref rf, .int (-1)])), (no, .inr (6, [.ref te, .ref nt, .ref nl, .ref ns, .ref np, .int 0, .int 0, .long 0, .int (-1), .int (-1)])), (rf, .inr (4, [.ref rc, .int 0])), (rc, .inl (ci2, 5, .inl (fun _ => 0))), (h1, .inr (12, [.int 0, .int 0, .ref mr, .ref mt, .ref mw, .ref mu, .ref mp, .ref mi, .ref mk, .ref ms, .int 0, .ref mv, .int 0, .int 0, .int 0, .int 0, .long 0, .int (-1), .int 0, .ref m1w, .ref m2w, .ref m3w, .ref m4w, .int 0, .long 0, .long 0, .long 0])), (mr, .inl (cm1, 7, .inl (fun _ => 0))), (mw, .inl (cm3, 906, .inr (.inl fw)))] H) (hD : va_D A [(h0, .inr (11, [.ref te, .ref ta, .ref re, .ref no, .ref pa, .ref ac, .ref op, .ref im, .ref ik, .ref hi, .ref rf, .int (-1)])), (no, .inr (6, [.ref te, .ref nt, .ref nl, .ref ns, .ref np, .int 0, .int 0, .long 0, .int (-1), .int (-1)])), (rf, .inr (4, [.ref rc, .int 0])), (rc, .inl (ci2, 5, .inl (fun _ => 0))), (h1, .inr (12, [.int 0, .int 0, .ref mr, .ref mt, .ref mw, .ref mu, .ref mp, .ref mi, .ref mk, .ref ms, .int 0, .ref mv, .int 0, .int 0, .int 0, .int 0, .long 0, .int (-1), .int 0, .ref m1w, .ref m2w, .ref m3w, .ref m4w, .int 0, .long 0, .long 0, .long 0])), (mr, .inl (cm1, 7, .inl (fun _ => 0))), (mw, .inl (cm3, 906, .inr (.inl fw)))]) (hS : va_S A s.heap H locs) (hl : lv_has ls 4 [(0, .ref b), (1, .ref h0), (2, .ref h1), (3, .int 0)]) : W p l e room_1 s m #[Value.ref b] below meth c H locs 786 20946 (lw_Z below #[Value.ref b] s) (F0 m 601 ls []) := by
  obtain ⟨hx, hb, hr, hml, hown, hts, hX, hbl, hlocks, hgv⟩ := id C0
  have hown : s.vm.findClass RL = some m.cls := hown
  refine lv_aload_n hx hb dL_law_601 rfl (lv_at hl 1 rfl) ?_
  refine lv_aload_n hx hb dL_law_602 rfl (lv_at hl 0 rfl) ?_
  refine lv_iload_n hx hb dL_law_603 rfl (lv_at hl 3 rfl) ?_
  refine lv_iconst (v := 1) hx hb dL_law_604 (by decide) ?_
  refine lv_iadd hx hb dL_law_605 ?_
  refine k_topi (y := 1) (by decide) ?_
  refine va_sld hx hb hX hbl hbA hS (by unfold vp_in; decide) dL_law_606 ?_
  refine k_topi (y := xs 1) (congrArg xs (by decide)) ?_
  have hPc := hP.sub (ws' := [(h0, .inr (11, [.ref te, .ref ta, .ref re, .ref no, .ref pa, .ref ac, .ref op, .ref im, .ref ik, .ref hi, .ref rf, .int (-1)])), (no, .inr (6, [.ref te, .ref nt, .ref nl, .ref ns, .ref np, .int 0, .int 0, .long 0, .int (-1), .int (-1)])), (rf, .inr (4, [.ref rc, .int 0])), (rc, .inl (ci2, 5, .inl (fun _ => 0)))]) [0, 1, 2, 3] rfl
  have hDc := hD.sub (ws' := [(h0, .inr (11, [.ref te, .ref ta, .ref re, .ref no, .ref pa, .ref ac, .ref op, .ref im, .ref ik, .ref hi, .ref rf, .int (-1)])), (no, .inr (6, [.ref te, .ref nt, .ref nl, .ref ns, .ref np, .int 0, .int 0, .long 0, .int (-1), .int (-1)])), (rf, .inr (4, [.ref rc, .int 0])), (rc, .inl (ci2, 5, .inl (fun _ => 0)))]) [0, 1, 2, 3] (by decide) rfl
  have hKc := hK.sub (tys' := [(ci2, .int)]) [0] rfl
  have hFc := va_free (wc := [(h0, .inr (11, [.ref te, .ref ta, .ref re, .ref no, .ref pa, .ref ac, .ref op, .ref im, .ref ik, .ref hi, .ref rf, .int (-1)])), (no, .inr (6, [.ref te, .ref nt, .ref nl, .ref ns, .ref np, .int 0, .int 0, .long 0, .int (-1), .int (-1)])), (rf, .inr (4, [.ref rc, .int 0])), (rc, .inl (ci2, 5, .inl (fun _ => 0)))]) hD hS hA [0, 1, 2, 3] rfl
  refine va_calli (va_runV (As := [.int (xs 1)]) (rest := []) ⟨hx, hb, hml, hown, hts⟩ (c_X11_listing l dC dI h0 (xs 1) te ta re no pa ac op im ik hi rf nt nl ns np rc ci2 H.size) (cwV 1 hts (gi_V tb_c_X11_listing tw_649.1 tw_650.1 tw_651.1 tw_324.1) rfl rfl rfl (by decide +kernel) ⟨Nat.le_of_ble_eq_true rfl, Nat.le_of_ble_eq_true rfl⟩) ⟨fun a U g mk q => by obtain ⟨q0, q1, qP, qK, qD⟩ := q; exact ⟨q0, q1, qP, va_K.moved (u := U) (U := U.calling g mk a) (Vm.Alike.refl U.vm) qK, qD⟩, va_recv hKc hPc (ci := 11) (q0 := 0) rfl rfl, fun U hU hW => ⟨rfl, by rw [hU], by rw [hU]; exact hPc, va_K.moved hW.alike hKc, hDc.weaken (fun _ _ _ _ => trivial)⟩⟩ rfl rfl hl.1 rfl (lv_room (Nat.le_of_ble_eq_true rfl)) dL_law_607 ⟨Nat.le_of_ble_eq_true rfl, Nat.le_of_ble_eq_true rfl⟩) hS (fun q _ h => hFc q h) hFc (fun r_1 u t H1 locs ht hvm hw hB hz1 hk1 hS => ?_)
  obtain ⟨hP1, hK1, hD1⟩ := hB
  rw [ht] at hP1
  have hK1 := va_K.moved hvm.symm hK1
  obtain ⟨hP, hD⟩ := va_join (wr := [(h1, .inr (12, [.int 0, .int 0, .ref mr, .ref mt, .ref mw, .ref mu, .ref mp, .ref mi, .ref mk, .ref ms, .int 0, .ref mv, .int 0, .int 0, .int 0, .int 0, .long 0, .int (-1), .int 0, .ref m1w, .ref m2w, .ref m3w, .ref m4w, .int 0, .long 0, .long 0, .long 0])), (mr, .inl (cm1, 7, .inl (fun _ => 0))), (mw, .inl (cm3, 906, .inr (.inl fw)))]) (w1 := []) hP hD [0, 1, 2, 3] [4, 5, 6] rfl rfl (by decide) (by decide) hk1 hFc hP1 hD1
  generalize H1 = H at hP hS ⊢
  have hP : va_P (dC, dI) vwCl [(h1, .inr (12, [.int 0, .int 0, .ref mr, .ref mt, .ref mw, .ref mu, .ref mp, .ref mi, .ref mk, .ref ms, .int 0, .ref mv, .int 0, .int 0, .int 0, .int 0, .long 0, .int (-1), .int 0, .ref m1w, .ref m2w, .ref m3w, .ref m4w, .int 0, .long 0, .long 0, .long 0])), (mr, .inl (cm1, 7, .inl (fun _ => 0))), (mw, .inl (cm3, 906, .inr (.inl fw)))] H := hP
  have hD : va_D A [(h1, .inr (12, [.int 0, .int 0, .ref mr, .ref mt, .ref mw, .ref mu, .ref mp, .ref mi, .ref mk, .ref ms, .int 0, .ref mv, .int 0, .int 0, .int 0, .int 0, .long 0, .int (-1), .int 0, .ref m1w, .ref m2w, .ref m3w, .ref m4w, .int 0, .long 0, .long 0, .long 0])), (mr, .inl (cm1, 7, .inl (fun _ => 0))), (mw, .inl (cm3, 906, .inr (.inl fw)))] := hD
  refine W.widen (k := 786) (n := 20946) (Nat.le_of_ble_eq_true rfl) (Nat.le_of_ble_eq_true rfl) ?_
  have hw : r_1 = (-2) := hw
  subst hw
  refine lv_aload_n hx hb dL_law_610 rfl (lv_at hl 2 rfl) ?_
  refine lv_aload_n hx hb dL_law_611 rfl (lv_at hl 0 rfl) ?_
  refine lv_iload_n hx hb dL_law_612 rfl (lv_at hl 3 rfl) ?_
  refine lv_iconst (v := 1) hx hb dL_law_613 (by decide) ?_
  refine lv_iadd hx hb dL_law_614 ?_
  refine k_topi (y := 1) (by decide) ?_
  refine va_sld hx hb hX hbl hbA hS (by unfold vp_in; decide) dL_law_615 ?_
  refine k_topi (y := xs 1) (congrArg xs (by decide)) ?_
  have hPc := hP.sub (ws' := [(h1, .inr (12, [.int 0, .int 0, .ref mr, .ref mt, .ref mw, .ref mu, .ref mp, .ref mi, .ref mk, .ref ms, .int 0, .ref mv, .int 0, .int 0, .int 0, .int 0, .long 0, .int (-1), .int 0, .ref m1w, .ref m2w, .ref m3w, .ref m4w, .int 0, .long 0, .long 0, .long 0])), (mr, .inl (cm1, 7, .inl (fun _ => 0))), (mw, .inl (cm3, 906, .inr (.inl fw)))]) [0, 1, 2] rfl
  have hDc := hD.sub (ws' := [(h1, .inr (12, [.int 0, .int 0, .ref mr, .ref mt, .ref mw, .ref mu, .ref mp, .ref mi, .ref mk, .ref ms, .int 0, .ref mv, .int 0, .int 0, .int 0, .int 0, .long 0, .int (-1), .int 0, .ref m1w, .ref m2w, .ref m3w, .ref m4w, .int 0, .long 0, .long 0, .long 0])), (mr, .inl (cm1, 7, .inl (fun _ => 0))), (mw, .inl (cm3, 906, .inr (.inl fw)))]) [0, 1, 2] (by decide) rfl
  have hKc := hK.sub (tys' := [(cm1, .int), (cm3, .long)]) [1, 2] rfl
  have hFc := va_free (wc := [(h1, .inr (12, [.int 0, .int 0, .ref mr, .ref mt, .ref mw, .ref mu, .ref mp, .ref mi, .ref mk, .ref ms, .int 0, .ref mv, .int 0, .int 0, .int 0, .int 0, .long 0, .int (-1), .int 0, .ref m1w, .ref m2w, .ref m3w, .ref m4w, .int 0, .long 0, .long 0, .long 0])), (mr, .inl (cm1, 7, .inl (fun _ => 0))), (mw, .inl (cm3, 906, .inr (.inl fw)))]) hD hS hA [0, 1, 2] rfl
  refine va_calli (va_runV (As := [.int (xs 1)]) (rest := [.int (-2)]) ⟨hx, hb, hml, hown, hts⟩ (c_X12_listing l dC dI h1 (xs 1) mr mt mw mu mp mi mk ms mv m1w m2w m3w m4w cm1 cm3 fw H.size hw0 hw1 hw2 hw3 hw4 hw5) (cwV 1 hts (gi_V tb_c_X12_listing tw_652.1 tw_653.1 tw_654.1 tw_435.1) rfl rfl rfl (by decide +kernel) ⟨Nat.le_of_ble_eq_true rfl, Nat.le_of_ble_eq_true rfl⟩) ⟨fun a U g mk q => by obtain ⟨q0, q1, qP, qK, qD⟩ := q; exact ⟨q0, q1, qP, va_K.moved (u := U) (U := U.calling g mk a) (Vm.Alike.refl U.vm) qK, qD⟩, va_recv hKc hPc (ci := 12) (q0 := 0) rfl rfl, fun U hU hW => ⟨rfl, by rw [hU], by rw [hU]; exact hPc, va_K.moved hW.alike hKc, hDc.weaken (fun _ _ _ _ => trivial)⟩⟩ rfl rfl hl.1 rfl (lv_room (Nat.le_of_ble_eq_true rfl)) dL_law_616 ⟨Nat.le_of_ble_eq_true rfl, Nat.le_of_ble_eq_true rfl⟩) hS (fun q _ h => hFc q h) hFc (fun r_2 u t H1 locs ht hvm hw hB hz1 hk1 hS => ?_)
  obtain ⟨hP1, hK1, hD1⟩ := hB
  rw [ht] at hP1
  have hK1 := va_K.moved hvm.symm hK1
  obtain ⟨hP, hD⟩ := va_join (wr := []) (w1 := []) hP hD [0, 1, 2] [] rfl rfl (by decide) (by decide) hk1 hFc hP1 hD1
  generalize H1 = H at hP hS ⊢
  have hP : va_P (dC, dI) vwCl [] H := hP
  have hD : va_D A [] := hD
  refine W.widen (k := 786) (n := 20946) (Nat.le_of_ble_eq_true rfl) (Nat.le_of_ble_eq_true rfl) ?_
  have hw : r_2 = (-2) := hw
  subst hw
  refine lv_icmp_eq (tgt := 1204) hx hb dL_law_619 (by decide) (fun _ => ?_) (fun c => absurd (by decide) c)
  exact law_next C0 hA hbA hAq (hK.sub [] rfl) (hP.sub [] rfl) (hD.sub [] (by decide) rfl) hS (lv_sub hl [0, 1, 2, 3] rfl)
set_option maxHeartbeats 4000000 in
set_option maxRecDepth 100000 in
theorem law_fault {p : Program} {l : Launch} {e : Env} {s : State} {m : MethodId} {below : List Frame} {meth : Method} {c : Code} {dC : Nat → ClassId} {dI : Nat → Nat → Nat} {b : Nat} {xs : Nat → Int32} {A : Nat → Prop} (C0 : lw_At p s m meth c b 6 xs) (hA : ∀ q : Nat, s.heap.size ≤ q → A q) (hbA : ¬ A b) (hAq : ∀ q : Nat, A q → s.heap.size ≤ q) {h0 : Nat} {h1 : Nat} {te : Nat} {ta : Nat} {re : Nat} {no : Nat} {pa : Nat} {ac : Nat} {op : Nat} {im : Nat} {ik : Nat} {hi : Nat} {rf : Nat} {mr : Nat} {mt : Nat} {mw : Nat} {mu : Nat} {mp : Nat} {mi : Nat} {mk : Nat} {ms : Nat} {mv : Nat} {m1w : Nat} {m2w : Nat} {m3w : Nat} {m4w : Nat} {H : Heap} {locs : List Loc} {ls : Array Slot} (hK : va_K (dC, dI) vwCl [] s) (hP : va_P (dC, dI) vwCl [(h0, .inr (11, [.ref te, .ref ta, .ref re, .ref no, .ref pa, .ref ac, .ref op, .ref im, .ref ik, .ref hi, .ref rf, .int (-1)])), (h1, .inr (12, [.int 0, .int 0, .ref mr, .ref mt, .ref mw, .ref mu, .ref mp, .ref mi, .ref mk, .ref ms, .int 0, .ref mv, .int 0, .int 0, .int 0, .int 0, .long 0, .int (-1), .int 0, .ref m1w, .ref m2w, .ref m3w, .ref m4w, .int 0, .long 0, .long 0, .long 0]))] H) (hD : va_D A [(h0, .inr (11, [.ref te, .ref ta, .ref re, .ref no, .ref pa, .ref ac, .ref op, .ref im, .ref ik, .ref hi, .ref rf, .int (-1)])), (h1, .inr (12, [.int 0, .int 0, .ref mr, .ref mt, .ref mw, .ref mu, .ref mp, .ref mi, .ref mk, .ref ms, .int 0, .ref mv, .int 0, .int 0, .int 0, .int 0, .long 0, .int (-1), .int 0, .ref m1w, .ref m2w, .ref m3w, .ref m4w, .int 0, .long 0, .long 0, .long 0]))]) (hS : va_S A s.heap H locs) (hl : lv_has ls 4 [(0, .ref b), (1, .ref h0), (2, .ref h1), (3, .int 0)]) : W p l e room_1 s m #[Value.ref b] below meth c H locs 786 20946 (lw_Z below #[Value.ref b] s) (F0 m 624 ls []) := by
  obtain ⟨hx, hb, hr, hml, hown, hts, hX, hbl, hlocks, hgv⟩ := id C0
  have hown : s.vm.findClass RL = some m.cls := hown
  refine lv_aload_n hx hb dL_law_624 rfl (lv_at hl 1 rfl) ?_
  have hPc := hP.sub (ws' := [(h0, .inr (11, [.ref te, .ref ta, .ref re, .ref no, .ref pa, .ref ac, .ref op, .ref im, .ref ik, .ref hi, .ref rf, .int (-1)]))]) [0] rfl
  have hDc := hD.sub (ws' := [(h0, .inr (11, [.ref te, .ref ta, .ref re, .ref no, .ref pa, .ref ac, .ref op, .ref im, .ref ik, .ref hi, .ref rf, .int (-1)]))]) [0] (by decide) rfl
  have hKc := hK.sub (tys' := []) [] rfl
  have hFc := va_free (wc := [(h0, .inr (11, [.ref te, .ref ta, .ref re, .ref no, .ref pa, .ref ac, .ref op, .ref im, .ref ik, .ref hi, .ref rf, .int (-1)]))]) hD hS hA [0] rfl
  refine va_calli (va_runV (As := []) (rest := []) ⟨hx, hb, hml, hown, hts⟩ (c_X11_fault l dC dI h0 te ta re no pa ac op im ik hi rf H.size) (cwV 0 hts (gi_V tb_c_X11_fault tw_655.1 tw_656.1 tw_657.1 tw_324.1) rfl rfl rfl (by decide +kernel) ⟨Nat.le_of_ble_eq_true rfl, Nat.le_of_ble_eq_true rfl⟩) ⟨fun a U g mk q => by obtain ⟨q0, q1, qP, qK, qD⟩ := q; exact ⟨q0, q1, qP, va_K.moved (u := U) (U := U.calling g mk a) (Vm.Alike.refl U.vm) qK, qD⟩, va_recv hKc hPc (ci := 11) (q0 := 0) rfl rfl, fun U hU hW => ⟨rfl, by rw [hU], by rw [hU]; exact hPc, va_K.moved hW.alike hKc, hDc.weaken (fun _ _ _ _ => trivial)⟩⟩ rfl rfl hl.1 rfl (lv_room (Nat.le_of_ble_eq_true rfl)) dL_law_625 ⟨Nat.le_of_ble_eq_true rfl, Nat.le_of_ble_eq_true rfl⟩) hS (fun q _ h => hFc q h) hFc (fun r_1 u t H1 locs ht hvm hw hB hz1 hk1 hS => ?_)
  obtain ⟨hP1, hK1, hD1⟩ := hB
  rw [ht] at hP1
  have hK1 := va_K.moved hvm.symm hK1
  obtain ⟨hP, hD⟩ := va_join (wr := [(h1, .inr (12, [.int 0, .int 0, .ref mr, .ref mt, .ref mw, .ref mu, .ref mp, .ref mi, .ref mk, .ref ms, .int 0, .ref mv, .int 0, .int 0, .int 0, .int 0, .long 0, .int (-1), .int 0, .ref m1w, .ref m2w, .ref m3w, .ref m4w, .int 0, .long 0, .long 0, .long 0]))]) (w1 := []) hP hD [0] [1] rfl rfl (by decide) (by decide) hk1 hFc hP1 hD1
  generalize H1 = H at hP hS ⊢
  have hP : va_P (dC, dI) vwCl [(h1, .inr (12, [.int 0, .int 0, .ref mr, .ref mt, .ref mw, .ref mu, .ref mp, .ref mi, .ref mk, .ref ms, .int 0, .ref mv, .int 0, .int 0, .int 0, .int 0, .long 0, .int (-1), .int 0, .ref m1w, .ref m2w, .ref m3w, .ref m4w, .int 0, .long 0, .long 0, .long 0]))] H := hP
  have hD : va_D A [(h1, .inr (12, [.int 0, .int 0, .ref mr, .ref mt, .ref mw, .ref mu, .ref mp, .ref mi, .ref mk, .ref ms, .int 0, .ref mv, .int 0, .int 0, .int 0, .int 0, .long 0, .int (-1), .int 0, .ref m1w, .ref m2w, .ref m3w, .ref m4w, .int 0, .long 0, .long 0, .long 0]))] := hD
  refine W.widen (k := 786) (n := 20946) (Nat.le_of_ble_eq_true rfl) (Nat.le_of_ble_eq_true rfl) ?_
  have hw : r_1 = (-1) := hw
  subst hw
  refine lv_aload_n hx hb dL_law_628 rfl (lv_at hl 2 rfl) ?_
  have hPc := hP.sub (ws' := [(h1, .inr (12, [.int 0, .int 0, .ref mr, .ref mt, .ref mw, .ref mu, .ref mp, .ref mi, .ref mk, .ref ms, .int 0, .ref mv, .int 0, .int 0, .int 0, .int 0, .long 0, .int (-1), .int 0, .ref m1w, .ref m2w, .ref m3w, .ref m4w, .int 0, .long 0, .long 0, .long 0]))]) [0] rfl
  have hDc := hD.sub (ws' := [(h1, .inr (12, [.int 0, .int 0, .ref mr, .ref mt, .ref mw, .ref mu, .ref mp, .ref mi, .ref mk, .ref ms, .int 0, .ref mv, .int 0, .int 0, .int 0, .int 0, .long 0, .int (-1), .int 0, .ref m1w, .ref m2w, .ref m3w, .ref m4w, .int 0, .long 0, .long 0, .long 0]))]) [0] (by decide) rfl
  have hKc := hK.sub (tys' := []) [] rfl
  have hFc := va_free (wc := [(h1, .inr (12, [.int 0, .int 0, .ref mr, .ref mt, .ref mw, .ref mu, .ref mp, .ref mi, .ref mk, .ref ms, .int 0, .ref mv, .int 0, .int 0, .int 0, .int 0, .long 0, .int (-1), .int 0, .ref m1w, .ref m2w, .ref m3w, .ref m4w, .int 0, .long 0, .long 0, .long 0]))]) hD hS hA [0] rfl
  refine va_calli (va_runV (As := []) (rest := [.int (-1)]) ⟨hx, hb, hml, hown, hts⟩ (c_X12_fault l dC dI h1 mr mt mw mu mp mi mk ms mv m1w m2w m3w m4w H.size) (cwV 0 hts (gi_V tb_c_X12_fault tw_658.1 tw_659.1 tw_660.1 tw_435.1) rfl rfl rfl (by decide +kernel) ⟨Nat.le_of_ble_eq_true rfl, Nat.le_of_ble_eq_true rfl⟩) ⟨fun a U g mk q => by obtain ⟨q0, q1, qP, qK, qD⟩ := q; exact ⟨q0, q1, qP, va_K.moved (u := U) (U := U.calling g mk a) (Vm.Alike.refl U.vm) qK, qD⟩, va_recv hKc hPc (ci := 12) (q0 := 0) rfl rfl, fun U hU hW => ⟨rfl, by rw [hU], by rw [hU]; exact hPc, va_K.moved hW.alike hKc, hDc.weaken (fun _ _ _ _ => trivial)⟩⟩ rfl rfl hl.1 rfl (lv_room (Nat.le_of_ble_eq_true rfl)) dL_law_629 ⟨Nat.le_of_ble_eq_true rfl, Nat.le_of_ble_eq_true rfl⟩) hS (fun q _ h => hFc q h) hFc (fun r_2 u t H1 locs ht hvm hw hB hz1 hk1 hS => ?_)
  obtain ⟨hP1, hK1, hD1⟩ := hB
  rw [ht] at hP1
  have hK1 := va_K.moved hvm.symm hK1
  obtain ⟨hP, hD⟩ := va_join (wr := []) (w1 := []) hP hD [0] [] rfl rfl (by decide) (by decide) hk1 hFc hP1 hD1
  generalize H1 = H at hP hS ⊢
  have hP : va_P (dC, dI) vwCl [] H := hP
  have hD : va_D A [] := hD
  refine W.widen (k := 786) (n := 20946) (Nat.le_of_ble_eq_true rfl) (Nat.le_of_ble_eq_true rfl) ?_
  have hw : r_2 = (-1) := hw
  subst hw
  refine lv_icmp_eq (tgt := 1204) hx hb dL_law_632 (by decide) (fun _ => ?_) (fun c => absurd (by decide) c)
  exact law_next C0 hA hbA hAq (hK.sub [] rfl) (hP.sub [] rfl) (hD.sub [] (by decide) rfl) hS (lv_sub hl [0, 1, 2, 3] rfl)
set_option maxHeartbeats 4000000 in
set_option maxRecDepth 100000 in
theorem law_ticks {p : Program} {l : Launch} {e : Env} {s : State} {m : MethodId} {below : List Frame} {meth : Method} {c : Code} {dC : Nat → ClassId} {dI : Nat → Nat → Nat} {b : Nat} {xs : Nat → Int32} {A : Nat → Prop} (C0 : lw_At p s m meth c b 6 xs) (hA : ∀ q : Nat, s.heap.size ≤ q → A q) (hbA : ¬ A b) (hAq : ∀ q : Nat, A q → s.heap.size ≤ q) {h0 : Nat} {h1 : Nat} {te : Nat} {ta : Nat} {re : Nat} {no : Nat} {pa : Nat} {ac : Nat} {op : Nat} {im : Nat} {ik : Nat} {hi : Nat} {rf : Nat} {nt : Nat} {nl : Nat} {ns : Nat} {np : Nat} {nr : Nat} {cl1 : ClassId} {hbf : Nat} {hac : Nat} {cs2 : ClassId} {fb : Nat → Option Nat} {ci1 : ClassId} {b0 : Nat} {bt : Nat} {bl : Nat} {bs : Nat} {bp : Nat} {br : Nat} {cl5 : ClassId} {rc : Nat} {ci2 : ClassId} {mr : Nat} {mt : Nat} {mw : Nat} {mu : Nat} {mp : Nat} {mi : Nat} {mk : Nat} {ms : Nat} {mv : Nat} {m1w : Nat} {m2w : Nat} {m3w : Nat} {m4w : Nat} {cm1 : ClassId} {cm2 : ClassId} {ft : Nat → Int32} {cm3 : ClassId} {fw : Nat → Int64} {cm4 : ClassId} {cm8 : ClassId} {H : Heap} {locs : List Loc} {ls : Array Slot} (hfb : fb 0 = some b0) (ht0 : ft 0 = 0) (ht1 : ft 1 = 1) (ht2 : ft 2 = 1) (hw0 : fw 0 = 0) (hw1 : fw 1 = 0) (hw2 : fw 2 = 0) (hw3 : fw 3 = (-1)) (hw4 : fw 4 = (-1)) (hw5 : fw 5 = 0) (hK : va_K (dC, dI) vwCl [(cl1, .long), (cs2, .object "DeadlineShare$State"), (ci1, .int), (cl5, .long), (ci2, .int), (cm1, .int), (cm2, .int), (cm3, .long), (cm4, .long), (cm8, .int)] s) (hP : va_P (dC, dI) vwCl [(h0, .inr (11, [.ref te, .ref ta, .ref re, .ref no, .ref pa, .ref ac, .ref op, .ref im, .ref ik, .ref hi, .ref rf, .int (-1)])), (te, .inr (9, [.int 0, .int 1, .int 1])), (no, .inr (6, [.ref te, .ref nt, .ref nl, .ref ns, .ref np, .int 0, .int 0, .long 0, .int (-1), .int (-1)])), (nl, .inr (2, [.ref nr])), (nr, .inl (cl1, 128, .inr (.inl (fun _ => 0)))), (ns, .inr (10, [.long 0, .long 0])), (ac, .inr (0, [.ref te, .int 0, .long 0])), (hi, .inr (1, [.ref hbf, .ref hac, .int 0, .int 0])), (hbf, .inl (cs2, 10, .inr (.inr (.inr (.inr fb))))), (hac, .inl (ci1, 10, .inl (fun _ => 0))), (b0, .inr (6, [.ref te, .ref bt, .ref bl, .ref bs, .ref bp, .int 0, .int 0, .long 0, .int (-1), .int (-1)])), (bl, .inr (2, [.ref br])), (br, .inl (cl5, 128, .inr (.inl (fun _ => 0)))), (rf, .inr (4, [.ref rc, .int 0])), (rc, .inl (ci2, 5, .inl (fun _ => 0))), (h1, .inr (12, [.int 0, .int 0, .ref mr, .ref mt, .ref mw, .ref mu, .ref mp, .ref mi, .ref mk, .ref ms, .int 0, .ref mv, .int 0, .int 0, .int 0, .int 0, .long 0, .int (-1), .int 0, .ref m1w, .ref m2w, .ref m3w, .ref m4w, .int 0, .long 0, .long 0, .long 0])), (mr, .inl (cm1, 7, .inl (fun _ => 0))), (mt, .inl (cm2, 3, .inl ft)), (mw, .inl (cm3, 906, .inr (.inl fw))), (mu, .inl (cm4, 9060, .inr (.inl (fun _ => 0)))), (ms, .inl (cm8, 10, .inl (fun _ => 0)))] H) (hD : va_D A [(h0, .inr (11, [.ref te, .ref ta, .ref re, .ref no, .ref pa, .ref ac, .ref op, .ref im, .ref ik, .ref hi, .ref rf, .int (-1)])), (te, .inr (9, [.int 0, .int 1, .int 1])), (no, .inr (6, [.ref te, .ref nt, .ref nl, .ref ns, .ref np, .int 0, .int 0, .long 0, .int (-1), .int (-1)])), (nl, .inr (2, [.ref nr])), (nr, .inl (cl1, 128, .inr (.inl (fun _ => 0)))), (ns, .inr (10, [.long 0, .long 0])), (ac, .inr (0, [.ref te, .int 0, .long 0])), (hi, .inr (1, [.ref hbf, .ref hac, .int 0, .int 0])), (hbf, .inl (cs2, 10, .inr (.inr (.inr (.inr fb))))), (hac, .inl (ci1, 10, .inl (fun _ => 0))), (b0, .inr (6, [.ref te, .ref bt, .ref bl, .ref bs, .ref bp, .int 0, .int 0, .long 0, .int (-1), .int (-1)])), (bl, .inr (2, [.ref br])), (br, .inl (cl5, 128, .inr (.inl (fun _ => 0)))), (rf, .inr (4, [.ref rc, .int 0])), (rc, .inl (ci2, 5, .inl (fun _ => 0))), (h1, .inr (12, [.int 0, .int 0, .ref mr, .ref mt, .ref mw, .ref mu, .ref mp, .ref mi, .ref mk, .ref ms, .int 0, .ref mv, .int 0, .int 0, .int 0, .int 0, .long 0, .int (-1), .int 0, .ref m1w, .ref m2w, .ref m3w, .ref m4w, .int 0, .long 0, .long 0, .long 0])), (mr, .inl (cm1, 7, .inl (fun _ => 0))), (mt, .inl (cm2, 3, .inl ft)), (mw, .inl (cm3, 906, .inr (.inl fw))), (mu, .inl (cm4, 9060, .inr (.inl (fun _ => 0)))), (ms, .inl (cm8, 10, .inl (fun _ => 0)))]) (hS : va_S A s.heap H locs) (hl : lv_has ls 4 [(0, .ref b), (1, .ref h0), (2, .ref h1), (3, .int 0)]) : W p l e room_1 s m #[Value.ref b] below meth c H locs 786 20946 (lw_Z below #[Value.ref b] s) (F0 m 637 ls []) := by
  obtain ⟨hx, hb, hr, hml, hown, hts, hX, hbl, hlocks, hgv⟩ := id C0
  have hown : s.vm.findClass RL = some m.cls := hown
  refine lv_aload_n hx hb dL_law_637 rfl (lv_at hl 1 rfl) ?_
  refine lv_aload_n hx hb dL_law_638 rfl (lv_at hl 0 rfl) ?_
  refine lv_iload_n hx hb dL_law_639 rfl (lv_at hl 3 rfl) ?_
  refine lv_iconst (v := 1) hx hb dL_law_640 (by decide) ?_
  refine lv_iadd hx hb dL_law_641 ?_
  refine k_topi (y := 1) (by decide) ?_
  refine va_sld hx hb hX hbl hbA hS (by unfold vp_in; decide) dL_law_642 ?_
  refine k_topi (y := xs 1) (congrArg xs (by decide)) ?_
  have hPc := hP.sub (ws' := [(h0, .inr (11, [.ref te, .ref ta, .ref re, .ref no, .ref pa, .ref ac, .ref op, .ref im, .ref ik, .ref hi, .ref rf, .int (-1)])), (te, .inr (9, [.int 0, .int 1, .int 1])), (no, .inr (6, [.ref te, .ref nt, .ref nl, .ref ns, .ref np, .int 0, .int 0, .long 0, .int (-1), .int (-1)])), (nl, .inr (2, [.ref nr])), (nr, .inl (cl1, 128, .inr (.inl (fun _ => 0)))), (ns, .inr (10, [.long 0, .long 0])), (ac, .inr (0, [.ref te, .int 0, .long 0])), (hi, .inr (1, [.ref hbf, .ref hac, .int 0, .int 0])), (hbf, .inl (cs2, 10, .inr (.inr (.inr (.inr fb))))), (hac, .inl (ci1, 10, .inl (fun _ => 0))), (b0, .inr (6, [.ref te, .ref bt, .ref bl, .ref bs, .ref bp, .int 0, .int 0, .long 0, .int (-1), .int (-1)])), (bl, .inr (2, [.ref br])), (br, .inl (cl5, 128, .inr (.inl (fun _ => 0)))), (rf, .inr (4, [.ref rc, .int 0])), (rc, .inl (ci2, 5, .inl (fun _ => 0)))]) [0, 1, 2, 3, 4, 5, 6, 7, 8, 9, 10, 11, 12, 13, 14] rfl
  have hDc := hD.sub (ws' := [(h0, .inr (11, [.ref te, .ref ta, .ref re, .ref no, .ref pa, .ref ac, .ref op, .ref im, .ref ik, .ref hi, .ref rf, .int (-1)])), (te, .inr (9, [.int 0, .int 1, .int 1])), (no, .inr (6, [.ref te, .ref nt, .ref nl, .ref ns, .ref np, .int 0, .int 0, .long 0, .int (-1), .int (-1)])), (nl, .inr (2, [.ref nr])), (nr, .inl (cl1, 128, .inr (.inl (fun _ => 0)))), (ns, .inr (10, [.long 0, .long 0])), (ac, .inr (0, [.ref te, .int 0, .long 0])), (hi, .inr (1, [.ref hbf, .ref hac, .int 0, .int 0])), (hbf, .inl (cs2, 10, .inr (.inr (.inr (.inr fb))))), (hac, .inl (ci1, 10, .inl (fun _ => 0))), (b0, .inr (6, [.ref te, .ref bt, .ref bl, .ref bs, .ref bp, .int 0, .int 0, .long 0, .int (-1), .int (-1)])), (bl, .inr (2, [.ref br])), (br, .inl (cl5, 128, .inr (.inl (fun _ => 0)))), (rf, .inr (4, [.ref rc, .int 0])), (rc, .inl (ci2, 5, .inl (fun _ => 0)))]) [0, 1, 2, 3, 4, 5, 6, 7, 8, 9, 10, 11, 12, 13, 14] (by decide) rfl
  have hKc := hK.sub (tys' := [(cl1, .long), (cs2, .object "DeadlineShare$State"), (ci1, .int), (cl5, .long), (ci2, .int)]) [0, 1, 2, 3, 4] rfl
  have hFc := va_free (wc := [(h0, .inr (11, [.ref te, .ref ta, .ref re, .ref no, .ref pa, .ref ac, .ref op, .ref im, .ref ik, .ref hi, .ref rf, .int (-1)])), (te, .inr (9, [.int 0, .int 1, .int 1])), (no, .inr (6, [.ref te, .ref nt, .ref nl, .ref ns, .ref np, .int 0, .int 0, .long 0, .int (-1), .int (-1)])), (nl, .inr (2, [.ref nr])), (nr, .inl (cl1, 128, .inr (.inl (fun _ => 0)))), (ns, .inr (10, [.long 0, .long 0])), (ac, .inr (0, [.ref te, .int 0, .long 0])), (hi, .inr (1, [.ref hbf, .ref hac, .int 0, .int 0])), (hbf, .inl (cs2, 10, .inr (.inr (.inr (.inr fb))))), (hac, .inl (ci1, 10, .inl (fun _ => 0))), (b0, .inr (6, [.ref te, .ref bt, .ref bl, .ref bs, .ref bp, .int 0, .int 0, .long 0, .int (-1), .int (-1)])), (bl, .inr (2, [.ref br])), (br, .inl (cl5, 128, .inr (.inl (fun _ => 0)))), (rf, .inr (4, [.ref rc, .int 0])), (rc, .inl (ci2, 5, .inl (fun _ => 0)))]) hD hS hA [0, 1, 2, 3, 4, 5, 6, 7, 8, 9, 10, 11, 12, 13, 14] rfl
  refine va_calli (va_runV (As := [.int (xs 1)]) (rest := []) ⟨hx, hb, hml, hown, hts⟩ (c_X11_ticks l dC dI h0 (xs 1) te ta re no pa ac op im ik hi rf nt nl ns np nr cl1 hbf hac cs2 fb ci1 b0 bt bl bs bp br cl5 rc ci2 H.size hfb) (cwV 1 hts (gi_V tb_c_X11_ticks tw_661.1 tw_662.1 tw_663.1 tw_324.1) rfl rfl rfl (by decide +kernel) ⟨Nat.le_of_ble_eq_true rfl, Nat.le_of_ble_eq_true rfl⟩) ⟨fun a U g mk q => by obtain ⟨q0, q1, qP, qK, qD⟩ := q; exact ⟨q0, q1, qP, va_K.moved (u := U) (U := U.calling g mk a) (Vm.Alike.refl U.vm) qK, qD⟩, va_recv hKc hPc (ci := 11) (q0 := 0) rfl rfl, fun U hU hW => ⟨rfl, by rw [hU], by rw [hU]; exact hPc, va_K.moved hW.alike hKc, hDc.weaken (fun _ _ _ _ => trivial)⟩⟩ rfl rfl hl.1 rfl (lv_room (Nat.le_of_ble_eq_true rfl)) dL_law_643 ⟨Nat.le_of_ble_eq_true rfl, Nat.le_of_ble_eq_true rfl⟩) hS (fun q _ h => hFc q h) hFc (fun r_1 u t H1 locs ht hvm hw hB hz1 hk1 hS => ?_)
  obtain ⟨hP1, hK1, hD1⟩ := hB
  rw [ht] at hP1
  have hK1 := va_K.moved hvm.symm hK1
  obtain ⟨hP, hD⟩ := va_join (wr := [(h1, .inr (12, [.int 0, .int 0, .ref mr, .ref mt, .ref mw, .ref mu, .ref mp, .ref mi, .ref mk, .ref ms, .int 0, .ref mv, .int 0, .int 0, .int 0, .int 0, .long 0, .int (-1), .int 0, .ref m1w, .ref m2w, .ref m3w, .ref m4w, .int 0, .long 0, .long 0, .long 0])), (mr, .inl (cm1, 7, .inl (fun _ => 0))), (mt, .inl (cm2, 3, .inl ft)), (mw, .inl (cm3, 906, .inr (.inl fw))), (mu, .inl (cm4, 9060, .inr (.inl (fun _ => 0)))), (ms, .inl (cm8, 10, .inl (fun _ => 0)))]) (w1 := []) hP hD [0, 1, 2, 3, 4, 5, 6, 7, 8, 9, 10, 11, 12, 13, 14] [15, 16, 17, 18, 19, 20] rfl rfl (by decide) (by decide) hk1 hFc hP1 hD1
  generalize H1 = H at hP hS ⊢
  have hP : va_P (dC, dI) vwCl [(h1, .inr (12, [.int 0, .int 0, .ref mr, .ref mt, .ref mw, .ref mu, .ref mp, .ref mi, .ref mk, .ref ms, .int 0, .ref mv, .int 0, .int 0, .int 0, .int 0, .long 0, .int (-1), .int 0, .ref m1w, .ref m2w, .ref m3w, .ref m4w, .int 0, .long 0, .long 0, .long 0])), (mr, .inl (cm1, 7, .inl (fun _ => 0))), (mt, .inl (cm2, 3, .inl ft)), (mw, .inl (cm3, 906, .inr (.inl fw))), (mu, .inl (cm4, 9060, .inr (.inl (fun _ => 0)))), (ms, .inl (cm8, 10, .inl (fun _ => 0)))] H := hP
  have hD : va_D A [(h1, .inr (12, [.int 0, .int 0, .ref mr, .ref mt, .ref mw, .ref mu, .ref mp, .ref mi, .ref mk, .ref ms, .int 0, .ref mv, .int 0, .int 0, .int 0, .int 0, .long 0, .int (-1), .int 0, .ref m1w, .ref m2w, .ref m3w, .ref m4w, .int 0, .long 0, .long 0, .long 0])), (mr, .inl (cm1, 7, .inl (fun _ => 0))), (mt, .inl (cm2, 3, .inl ft)), (mw, .inl (cm3, 906, .inr (.inl fw))), (mu, .inl (cm4, 9060, .inr (.inl (fun _ => 0)))), (ms, .inl (cm8, 10, .inl (fun _ => 0)))] := hD
  refine W.widen (k := 786) (n := 20946) (Nat.le_of_ble_eq_true rfl) (Nat.le_of_ble_eq_true rfl) ?_
  have hw : r_1 = sp_one (xs 1) 1 60 0 := hw
  subst hw
  refine lv_aload_n hx hb dL_law_646 rfl (lv_at hl 2 rfl) ?_
  refine lv_aload_n hx hb dL_law_647 rfl (lv_at hl 0 rfl) ?_
  refine lv_iload_n hx hb dL_law_648 rfl (lv_at hl 3 rfl) ?_
  refine lv_iconst (v := 1) hx hb dL_law_649 (by decide) ?_
  refine lv_iadd hx hb dL_law_650 ?_
  refine k_topi (y := 1) (by decide) ?_
  refine va_sld hx hb hX hbl hbA hS (by unfold vp_in; decide) dL_law_651 ?_
  refine k_topi (y := xs 1) (congrArg xs (by decide)) ?_
  have hPc := hP.sub (ws' := [(h1, .inr (12, [.int 0, .int 0, .ref mr, .ref mt, .ref mw, .ref mu, .ref mp, .ref mi, .ref mk, .ref ms, .int 0, .ref mv, .int 0, .int 0, .int 0, .int 0, .long 0, .int (-1), .int 0, .ref m1w, .ref m2w, .ref m3w, .ref m4w, .int 0, .long 0, .long 0, .long 0])), (mr, .inl (cm1, 7, .inl (fun _ => 0))), (mt, .inl (cm2, 3, .inl ft)), (mw, .inl (cm3, 906, .inr (.inl fw))), (mu, .inl (cm4, 9060, .inr (.inl (fun _ => 0)))), (ms, .inl (cm8, 10, .inl (fun _ => 0)))]) [0, 1, 2, 3, 4, 5] rfl
  have hDc := hD.sub (ws' := [(h1, .inr (12, [.int 0, .int 0, .ref mr, .ref mt, .ref mw, .ref mu, .ref mp, .ref mi, .ref mk, .ref ms, .int 0, .ref mv, .int 0, .int 0, .int 0, .int 0, .long 0, .int (-1), .int 0, .ref m1w, .ref m2w, .ref m3w, .ref m4w, .int 0, .long 0, .long 0, .long 0])), (mr, .inl (cm1, 7, .inl (fun _ => 0))), (mt, .inl (cm2, 3, .inl ft)), (mw, .inl (cm3, 906, .inr (.inl fw))), (mu, .inl (cm4, 9060, .inr (.inl (fun _ => 0)))), (ms, .inl (cm8, 10, .inl (fun _ => 0)))]) [0, 1, 2, 3, 4, 5] (by decide) rfl
  have hKc := hK.sub (tys' := [(cm1, .int), (cm2, .int), (cm3, .long), (cm4, .long), (cm8, .int)]) [5, 6, 7, 8, 9] rfl
  have hFc := va_free (wc := [(h1, .inr (12, [.int 0, .int 0, .ref mr, .ref mt, .ref mw, .ref mu, .ref mp, .ref mi, .ref mk, .ref ms, .int 0, .ref mv, .int 0, .int 0, .int 0, .int 0, .long 0, .int (-1), .int 0, .ref m1w, .ref m2w, .ref m3w, .ref m4w, .int 0, .long 0, .long 0, .long 0])), (mr, .inl (cm1, 7, .inl (fun _ => 0))), (mt, .inl (cm2, 3, .inl ft)), (mw, .inl (cm3, 906, .inr (.inl fw))), (mu, .inl (cm4, 9060, .inr (.inl (fun _ => 0)))), (ms, .inl (cm8, 10, .inl (fun _ => 0)))]) hD hS hA [0, 1, 2, 3, 4, 5] rfl
  refine va_calli (va_runV (As := [.int (xs 1)]) (rest := [.int (sp_one (xs 1) 1 60 0)]) ⟨hx, hb, hml, hown, hts⟩ (c_X12_ticks l dC dI h1 (xs 1) mr mt mw mu mp mi mk ms mv m1w m2w m3w m4w cm1 cm2 ft cm3 fw cm4 cm8 H.size ht0 ht1 ht2 hw0 hw1 hw2 hw3 hw4 hw5) (cwV 1 hts (gi_V tb_c_X12_ticks tw_664.1 tw_665.1 tw_666.1 tw_435.1) rfl rfl rfl (by decide +kernel) ⟨Nat.le_of_ble_eq_true rfl, Nat.le_of_ble_eq_true rfl⟩) ⟨fun a U g mk q => by obtain ⟨q0, q1, qP, qK, qD⟩ := q; exact ⟨q0, q1, qP, va_K.moved (u := U) (U := U.calling g mk a) (Vm.Alike.refl U.vm) qK, qD⟩, va_recv hKc hPc (ci := 12) (q0 := 0) rfl rfl, fun U hU hW => ⟨rfl, by rw [hU], by rw [hU]; exact hPc, va_K.moved hW.alike hKc, hDc.weaken (fun _ _ _ _ => trivial)⟩⟩ rfl rfl hl.1 rfl (lv_room (Nat.le_of_ble_eq_true rfl)) dL_law_652 ⟨Nat.le_of_ble_eq_true rfl, Nat.le_of_ble_eq_true rfl⟩) hS (fun q _ h => hFc q h) hFc (fun r_2 u t H1 locs ht hvm hw hB hz1 hk1 hS => ?_)
  obtain ⟨hP1, hK1, hD1⟩ := hB
  rw [ht] at hP1
  have hK1 := va_K.moved hvm.symm hK1
  obtain ⟨hP, hD⟩ := va_join (wr := []) (w1 := []) hP hD [0, 1, 2, 3, 4, 5] [] rfl rfl (by decide) (by decide) hk1 hFc hP1 hD1
  generalize H1 = H at hP hS ⊢
  have hP : va_P (dC, dI) vwCl [] H := hP
  have hD : va_D A [] := hD
  refine W.widen (k := 786) (n := 20946) (Nat.le_of_ble_eq_true rfl) (Nat.le_of_ble_eq_true rfl) ?_
  have hw : r_2 = sp_one (xs 1) 1 60 0 := hw
  subst hw
  refine lv_icmp_eq (tgt := 1204) hx hb dL_law_655 (by decide) (fun _ => ?_) (fun c => absurd rfl c)
  exact law_next C0 hA hbA hAq (hK.sub [] rfl) (hP.sub [] rfl) (hD.sub [] (by decide) rfl) hS (lv_sub hl [0, 1, 2, 3] rfl)
set_option maxHeartbeats 4000000 in
set_option maxRecDepth 100000 in
theorem law_undo {p : Program} {l : Launch} {e : Env} {s : State} {m : MethodId} {below : List Frame} {meth : Method} {c : Code} {dC : Nat → ClassId} {dI : Nat → Nat → Nat} {b : Nat} {xs : Nat → Int32} {A : Nat → Prop} (C0 : lw_At p s m meth c b 6 xs) (hA : ∀ q : Nat, s.heap.size ≤ q → A q) (hbA : ¬ A b) (hAq : ∀ q : Nat, A q → s.heap.size ≤ q) {h0 : Nat} {h1 : Nat} {te : Nat} {ta : Nat} {re : Nat} {no : Nat} {pa : Nat} {ac : Nat} {op : Nat} {im : Nat} {ik : Nat} {hi : Nat} {rf : Nat} {hbf : Nat} {hac : Nat} {rc : Nat} {ci2 : ClassId} {mr : Nat} {mt : Nat} {mw : Nat} {mu : Nat} {mp : Nat} {mi : Nat} {mk : Nat} {ms : Nat} {mv : Nat} {m1w : Nat} {m2w : Nat} {m3w : Nat} {m4w : Nat} {cm1 : ClassId} {H : Heap} {locs : List Loc} {ls : Array Slot} (hK : va_K (dC, dI) vwCl [(ci2, .int), (cm1, .int)] s) (hP : va_P (dC, dI) vwCl [(h0, .inr (11, [.ref te, .ref ta, .ref re, .ref no, .ref pa, .ref ac, .ref op, .ref im, .ref ik, .ref hi, .ref rf, .int (-1)])), (hi, .inr (1, [.ref hbf, .ref hac, .int 0, .int 0])), (rf, .inr (4, [.ref rc, .int 0])), (rc, .inl (ci2, 5, .inl (fun _ => 0))), (h1, .inr (12, [.int 0, .int 0, .ref mr, .ref mt, .ref mw, .ref mu, .ref mp, .ref mi, .ref mk, .ref ms, .int 0, .ref mv, .int 0, .int 0, .int 0, .int 0, .long 0, .int (-1), .int 0, .ref m1w, .ref m2w, .ref m3w, .ref m4w, .int 0, .long 0, .long 0, .long 0])), (mr, .inl (cm1, 7, .inl (fun _ => 0)))] H) (hD : va_D A [(h0, .inr (11, [.ref te, .ref ta, .ref re, .ref no, .ref pa, .ref ac, .ref op, .ref im, .ref ik, .ref hi, .ref rf, .int (-1)])), (hi, .inr (1, [.ref hbf, .ref hac, .int 0, .int 0])), (rf, .inr (4, [.ref rc, .int 0])), (rc, .inl (ci2, 5, .inl (fun _ => 0))), (h1, .inr (12, [.int 0, .int 0, .ref mr, .ref mt, .ref mw, .ref mu, .ref mp, .ref mi, .ref mk, .ref ms, .int 0, .ref mv, .int 0, .int 0, .int 0, .int 0, .long 0, .int (-1), .int 0, .ref m1w, .ref m2w, .ref m3w, .ref m4w, .int 0, .long 0, .long 0, .long 0])), (mr, .inl (cm1, 7, .inl (fun _ => 0)))]) (hS : va_S A s.heap H locs) (hl : lv_has ls 4 [(0, .ref b), (1, .ref h0), (2, .ref h1), (3, .int 0)]) : W p l e room_1 s m #[Value.ref b] below meth c H locs 786 20946 (lw_Z below #[Value.ref b] s) (F0 m 660 ls []) := by
  obtain ⟨hx, hb, hr, hml, hown, hts, hX, hbl, hlocks, hgv⟩ := id C0
  have hown : s.vm.findClass RL = some m.cls := hown
  refine lv_aload_n hx hb dL_law_660 rfl (lv_at hl 1 rfl) ?_
  have hPc := hP.sub (ws' := [(h0, .inr (11, [.ref te, .ref ta, .ref re, .ref no, .ref pa, .ref ac, .ref op, .ref im, .ref ik, .ref hi, .ref rf, .int (-1)])), (hi, .inr (1, [.ref hbf, .ref hac, .int 0, .int 0])), (rf, .inr (4, [.ref rc, .int 0])), (rc, .inl (ci2, 5, .inl (fun _ => 0)))]) [0, 1, 2, 3] rfl
  have hDc := hD.sub (ws' := [(h0, .inr (11, [.ref te, .ref ta, .ref re, .ref no, .ref pa, .ref ac, .ref op, .ref im, .ref ik, .ref hi, .ref rf, .int (-1)])), (hi, .inr (1, [.ref hbf, .ref hac, .int 0, .int 0])), (rf, .inr (4, [.ref rc, .int 0])), (rc, .inl (ci2, 5, .inl (fun _ => 0)))]) [0, 1, 2, 3] (by decide) rfl
  have hKc := hK.sub (tys' := [(ci2, .int)]) [0] rfl
  have hFc := va_free (wc := [(h0, .inr (11, [.ref te, .ref ta, .ref re, .ref no, .ref pa, .ref ac, .ref op, .ref im, .ref ik, .ref hi, .ref rf, .int (-1)])), (hi, .inr (1, [.ref hbf, .ref hac, .int 0, .int 0])), (rf, .inr (4, [.ref rc, .int 0])), (rc, .inl (ci2, 5, .inl (fun _ => 0)))]) hD hS hA [0, 1, 2, 3] rfl
  refine va_calli (va_runV (As := []) (rest := []) ⟨hx, hb, hml, hown, hts⟩ (c_X11_undo l dC dI h0 te ta re no pa ac op im ik hi rf hbf hac rc ci2 H.size) (cwV 0 hts (gi_V tb_c_X11_undo tw_667.1 tw_668.1 tw_669.1 tw_324.1) rfl rfl rfl (by decide +kernel) ⟨Nat.le_of_ble_eq_true rfl, Nat.le_of_ble_eq_true rfl⟩) ⟨fun a U g mk q => by obtain ⟨q0, q1, qP, qK, qD⟩ := q; exact ⟨q0, q1, qP, va_K.moved (u := U) (U := U.calling g mk a) (Vm.Alike.refl U.vm) qK, qD⟩, va_recv hKc hPc (ci := 11) (q0 := 0) rfl rfl, fun U hU hW => ⟨rfl, by rw [hU], by rw [hU]; exact hPc, va_K.moved hW.alike hKc, hDc.weaken (fun _ _ _ _ => trivial)⟩⟩ rfl rfl hl.1 rfl (lv_room (Nat.le_of_ble_eq_true rfl)) dL_law_661 ⟨Nat.le_of_ble_eq_true rfl, Nat.le_of_ble_eq_true rfl⟩) hS (fun q _ h => hFc q h) hFc (fun r_1 u t H1 locs ht hvm hw hB hz1 hk1 hS => ?_)
  obtain ⟨hP1, hK1, hD1⟩ := hB
  rw [ht] at hP1
  have hK1 := va_K.moved hvm.symm hK1
  obtain ⟨hP, hD⟩ := va_join (wr := [(h1, .inr (12, [.int 0, .int 0, .ref mr, .ref mt, .ref mw, .ref mu, .ref mp, .ref mi, .ref mk, .ref ms, .int 0, .ref mv, .int 0, .int 0, .int 0, .int 0, .long 0, .int (-1), .int 0, .ref m1w, .ref m2w, .ref m3w, .ref m4w, .int 0, .long 0, .long 0, .long 0])), (mr, .inl (cm1, 7, .inl (fun _ => 0)))]) (w1 := []) hP hD [0, 1, 2, 3] [4, 5] rfl rfl (by decide) (by decide) hk1 hFc hP1 hD1
  generalize H1 = H at hP hS ⊢
  have hP : va_P (dC, dI) vwCl [(h1, .inr (12, [.int 0, .int 0, .ref mr, .ref mt, .ref mw, .ref mu, .ref mp, .ref mi, .ref mk, .ref ms, .int 0, .ref mv, .int 0, .int 0, .int 0, .int 0, .long 0, .int (-1), .int 0, .ref m1w, .ref m2w, .ref m3w, .ref m4w, .int 0, .long 0, .long 0, .long 0])), (mr, .inl (cm1, 7, .inl (fun _ => 0)))] H := hP
  have hD : va_D A [(h1, .inr (12, [.int 0, .int 0, .ref mr, .ref mt, .ref mw, .ref mu, .ref mp, .ref mi, .ref mk, .ref ms, .int 0, .ref mv, .int 0, .int 0, .int 0, .int 0, .long 0, .int (-1), .int 0, .ref m1w, .ref m2w, .ref m3w, .ref m4w, .int 0, .long 0, .long 0, .long 0])), (mr, .inl (cm1, 7, .inl (fun _ => 0)))] := hD
  refine W.widen (k := 786) (n := 20946) (Nat.le_of_ble_eq_true rfl) (Nat.le_of_ble_eq_true rfl) ?_
  have hw : r_1 = (-4) := hw
  subst hw
  refine lv_aload_n hx hb dL_law_664 rfl (lv_at hl 2 rfl) ?_
  have hPc := hP.sub (ws' := [(h1, .inr (12, [.int 0, .int 0, .ref mr, .ref mt, .ref mw, .ref mu, .ref mp, .ref mi, .ref mk, .ref ms, .int 0, .ref mv, .int 0, .int 0, .int 0, .int 0, .long 0, .int (-1), .int 0, .ref m1w, .ref m2w, .ref m3w, .ref m4w, .int 0, .long 0, .long 0, .long 0])), (mr, .inl (cm1, 7, .inl (fun _ => 0)))]) [0, 1] rfl
  have hDc := hD.sub (ws' := [(h1, .inr (12, [.int 0, .int 0, .ref mr, .ref mt, .ref mw, .ref mu, .ref mp, .ref mi, .ref mk, .ref ms, .int 0, .ref mv, .int 0, .int 0, .int 0, .int 0, .long 0, .int (-1), .int 0, .ref m1w, .ref m2w, .ref m3w, .ref m4w, .int 0, .long 0, .long 0, .long 0])), (mr, .inl (cm1, 7, .inl (fun _ => 0)))]) [0, 1] (by decide) rfl
  have hKc := hK.sub (tys' := [(cm1, .int)]) [1] rfl
  have hFc := va_free (wc := [(h1, .inr (12, [.int 0, .int 0, .ref mr, .ref mt, .ref mw, .ref mu, .ref mp, .ref mi, .ref mk, .ref ms, .int 0, .ref mv, .int 0, .int 0, .int 0, .int 0, .long 0, .int (-1), .int 0, .ref m1w, .ref m2w, .ref m3w, .ref m4w, .int 0, .long 0, .long 0, .long 0])), (mr, .inl (cm1, 7, .inl (fun _ => 0)))]) hD hS hA [0, 1] rfl
  refine va_calli (va_runV (As := []) (rest := [.int (-4)]) ⟨hx, hb, hml, hown, hts⟩ (c_X12_undo l dC dI h1 mr mt mw mu mp mi mk ms mv m1w m2w m3w m4w cm1 H.size) (cwV 0 hts (gi_V tb_c_X12_undo tw_670.1 tw_671.1 tw_672.1 tw_435.1) rfl rfl rfl (by decide +kernel) ⟨Nat.le_of_ble_eq_true rfl, Nat.le_of_ble_eq_true rfl⟩) ⟨fun a U g mk q => by obtain ⟨q0, q1, qP, qK, qD⟩ := q; exact ⟨q0, q1, qP, va_K.moved (u := U) (U := U.calling g mk a) (Vm.Alike.refl U.vm) qK, qD⟩, va_recv hKc hPc (ci := 12) (q0 := 0) rfl rfl, fun U hU hW => ⟨rfl, by rw [hU], by rw [hU]; exact hPc, va_K.moved hW.alike hKc, hDc.weaken (fun _ _ _ _ => trivial)⟩⟩ rfl rfl hl.1 rfl (lv_room (Nat.le_of_ble_eq_true rfl)) dL_law_665 ⟨Nat.le_of_ble_eq_true rfl, Nat.le_of_ble_eq_true rfl⟩) hS (fun q _ h => hFc q h) hFc (fun r_2 u t H1 locs ht hvm hw hB hz1 hk1 hS => ?_)
  obtain ⟨hP1, hK1, hD1⟩ := hB
  rw [ht] at hP1
  have hK1 := va_K.moved hvm.symm hK1
  obtain ⟨hP, hD⟩ := va_join (wr := []) (w1 := []) hP hD [0, 1] [] rfl rfl (by decide) (by decide) hk1 hFc hP1 hD1
  generalize H1 = H at hP hS ⊢
  have hP : va_P (dC, dI) vwCl [] H := hP
  have hD : va_D A [] := hD
  refine W.widen (k := 786) (n := 20946) (Nat.le_of_ble_eq_true rfl) (Nat.le_of_ble_eq_true rfl) ?_
  have hw : r_2 = (-4) := hw
  subst hw
  refine lv_icmp_eq (tgt := 1204) hx hb dL_law_668 (by decide) (fun _ => ?_) (fun c => absurd (by decide) c)
  exact law_next C0 hA hbA hAq (hK.sub [] rfl) (hP.sub [] rfl) (hD.sub [] (by decide) rfl) hS (lv_sub hl [0, 1, 2, 3] rfl)
set_option maxHeartbeats 4000000 in
set_option maxRecDepth 100000 in
theorem law_image {p : Program} {l : Launch} {e : Env} {s : State} {m : MethodId} {below : List Frame} {meth : Method} {c : Code} {dC : Nat → ClassId} {dI : Nat → Nat → Nat} {b : Nat} {xs : Nat → Int32} {A : Nat → Prop} (C0 : lw_At p s m meth c b 6 xs) (hA : ∀ q : Nat, s.heap.size ≤ q → A q) (hbA : ¬ A b) (hAq : ∀ q : Nat, A q → s.heap.size ≤ q) {h0 : Nat} {h1 : Nat} {te : Nat} {ta : Nat} {re : Nat} {no : Nat} {pa : Nat} {ac : Nat} {op : Nat} {im : Nat} {ik : Nat} {hi : Nat} {rf : Nat} {nt : Nat} {nl : Nat} {ns : Nat} {np : Nat} {nr : Nat} {cl1 : ClassId} {cs1 : ClassId} {fm : Nat → Option Nat} {i0 : Nat} {it0 : Nat} {il0 : Nat} {is0 : Nat} {ip0 : Nat} {ir0 : Nat} {cl3 : ClassId} {i1 : Nat} {it1 : Nat} {il1 : Nat} {is1 : Nat} {ip1 : Nat} {ir1 : Nat} {cl4 : ClassId} {cz : ClassId} {rc : Nat} {ci2 : ClassId} {mr : Nat} {mt : Nat} {mw : Nat} {mu : Nat} {mp : Nat} {mi : Nat} {mk : Nat} {ms : Nat} {mv : Nat} {m1w : Nat} {m2w : Nat} {m3w : Nat} {m4w : Nat} {cm1 : ClassId} {cm3 : ClassId} {fw : Nat → Int64} {cm6 : ClassId} {cm7 : ClassId} {H : Heap} {locs : List Loc} {ls : Array Slot} (hfm0 : fm 0 = some i0) (hfm1 : fm 1 = some i1) (hw0 : fw 0 = 0) (hw1 : fw 1 = 0) (hw2 : fw 2 = 0) (hw3 : fw 3 = (-1)) (hw4 : fw 4 = (-1)) (hw5 : fw 5 = 0) (hK : va_K (dC, dI) vwCl [(cl1, .long), (cs1, .object "DeadlineShare$State"), (cl3, .long), (cl4, .long), (cz, .boolean), (ci2, .int), (cm1, .int), (cm3, .long), (cm6, .long), (cm7, .boolean)] s) (hP : va_P (dC, dI) vwCl [(h0, .inr (11, [.ref te, .ref ta, .ref re, .ref no, .ref pa, .ref ac, .ref op, .ref im, .ref ik, .ref hi, .ref rf, .int (-1)])), (no, .inr (6, [.ref te, .ref nt, .ref nl, .ref ns, .ref np, .int 0, .int 0, .long 0, .int (-1), .int (-1)])), (nl, .inr (2, [.ref nr])), (nr, .inl (cl1, 128, .inr (.inl (fun _ => 0)))), (im, .inl (cs1, 2, .inr (.inr (.inr (.inr fm))))), (i0, .inr (6, [.ref te, .ref it0, .ref il0, .ref is0, .ref ip0, .int 0, .int 0, .long 0, .int (-1), .int (-1)])), (il0, .inr (2, [.ref ir0])), (ir0, .inl (cl3, 128, .inr (.inl (fun _ => 0)))), (i1, .inr (6, [.ref te, .ref it1, .ref il1, .ref is1, .ref ip1, .int 0, .int 0, .long 0, .int (-1), .int (-1)])), (il1, .inr (2, [.ref ir1])), (ir1, .inl (cl4, 128, .inr (.inl (fun _ => 0)))), (ik, .inl (cz, 2, .inl (fun _ => 0))), (rf, .inr (4, [.ref rc, .int 0])), (rc, .inl (ci2, 5, .inl (fun _ => 0))), (h1, .inr (12, [.int 0, .int 0, .ref mr, .ref mt, .ref mw, .ref mu, .ref mp, .ref mi, .ref mk, .ref ms, .int 0, .ref mv, .int 0, .int 0, .int 0, .int 0, .long 0, .int (-1), .int 0, .ref m1w, .ref m2w, .ref m3w, .ref m4w, .int 0, .long 0, .long 0, .long 0])), (mr, .inl (cm1, 7, .inl (fun _ => 0))), (mw, .inl (cm3, 906, .inr (.inl fw))), (mi, .inl (cm6, 1812, .inr (.inl (fun _ => 0)))), (mk, .inl (cm7, 2, .inl (fun _ => 0)))] H) (hD : va_D A [(h0, .inr (11, [.ref te, .ref ta, .ref re, .ref no, .ref pa, .ref ac, .ref op, .ref im, .ref ik, .ref hi, .ref rf, .int (-1)])), (no, .inr (6, [.ref te, .ref nt, .ref nl, .ref ns, .ref np, .int 0, .int 0, .long 0, .int (-1), .int (-1)])), (nl, .inr (2, [.ref nr])), (nr, .inl (cl1, 128, .inr (.inl (fun _ => 0)))), (im, .inl (cs1, 2, .inr (.inr (.inr (.inr fm))))), (i0, .inr (6, [.ref te, .ref it0, .ref il0, .ref is0, .ref ip0, .int 0, .int 0, .long 0, .int (-1), .int (-1)])), (il0, .inr (2, [.ref ir0])), (ir0, .inl (cl3, 128, .inr (.inl (fun _ => 0)))), (i1, .inr (6, [.ref te, .ref it1, .ref il1, .ref is1, .ref ip1, .int 0, .int 0, .long 0, .int (-1), .int (-1)])), (il1, .inr (2, [.ref ir1])), (ir1, .inl (cl4, 128, .inr (.inl (fun _ => 0)))), (ik, .inl (cz, 2, .inl (fun _ => 0))), (rf, .inr (4, [.ref rc, .int 0])), (rc, .inl (ci2, 5, .inl (fun _ => 0))), (h1, .inr (12, [.int 0, .int 0, .ref mr, .ref mt, .ref mw, .ref mu, .ref mp, .ref mi, .ref mk, .ref ms, .int 0, .ref mv, .int 0, .int 0, .int 0, .int 0, .long 0, .int (-1), .int 0, .ref m1w, .ref m2w, .ref m3w, .ref m4w, .int 0, .long 0, .long 0, .long 0])), (mr, .inl (cm1, 7, .inl (fun _ => 0))), (mw, .inl (cm3, 906, .inr (.inl fw))), (mi, .inl (cm6, 1812, .inr (.inl (fun _ => 0)))), (mk, .inl (cm7, 2, .inl (fun _ => 0)))]) (hS : va_S A s.heap H locs) (hl : lv_has ls 4 [(0, .ref b), (1, .ref h0), (2, .ref h1), (3, .int 0)]) : W p l e room_1 s m #[Value.ref b] below meth c H locs 786 20946 (lw_Z below #[Value.ref b] s) (F0 m 673 ls []) := by
  obtain ⟨hx, hb, hr, hml, hown, hts, hX, hbl, hlocks, hgv⟩ := id C0
  have hown : s.vm.findClass RL = some m.cls := hown
  refine lv_aload_n hx hb dL_law_673 rfl (lv_at hl 1 rfl) ?_
  refine lv_aload_n hx hb dL_law_674 rfl (lv_at hl 0 rfl) ?_
  refine lv_iload_n hx hb dL_law_675 rfl (lv_at hl 3 rfl) ?_
  refine lv_iconst (v := 1) hx hb dL_law_676 (by decide) ?_
  refine lv_iadd hx hb dL_law_677 ?_
  refine k_topi (y := 1) (by decide) ?_
  refine va_sld hx hb hX hbl hbA hS (by unfold vp_in; decide) dL_law_678 ?_
  refine k_topi (y := xs 1) (congrArg xs (by decide)) ?_
  have hPc := hP.sub (ws' := [(h0, .inr (11, [.ref te, .ref ta, .ref re, .ref no, .ref pa, .ref ac, .ref op, .ref im, .ref ik, .ref hi, .ref rf, .int (-1)])), (no, .inr (6, [.ref te, .ref nt, .ref nl, .ref ns, .ref np, .int 0, .int 0, .long 0, .int (-1), .int (-1)])), (nl, .inr (2, [.ref nr])), (nr, .inl (cl1, 128, .inr (.inl (fun _ => 0)))), (im, .inl (cs1, 2, .inr (.inr (.inr (.inr fm))))), (i0, .inr (6, [.ref te, .ref it0, .ref il0, .ref is0, .ref ip0, .int 0, .int 0, .long 0, .int (-1), .int (-1)])), (il0, .inr (2, [.ref ir0])), (ir0, .inl (cl3, 128, .inr (.inl (fun _ => 0)))), (i1, .inr (6, [.ref te, .ref it1, .ref il1, .ref is1, .ref ip1, .int 0, .int 0, .long 0, .int (-1), .int (-1)])), (il1, .inr (2, [.ref ir1])), (ir1, .inl (cl4, 128, .inr (.inl (fun _ => 0)))), (ik, .inl (cz, 2, .inl (fun _ => 0))), (rf, .inr (4, [.ref rc, .int 0])), (rc, .inl (ci2, 5, .inl (fun _ => 0)))]) [0, 1, 2, 3, 4, 5, 6, 7, 8, 9, 10, 11, 12, 13] rfl
  have hDc := hD.sub (ws' := [(h0, .inr (11, [.ref te, .ref ta, .ref re, .ref no, .ref pa, .ref ac, .ref op, .ref im, .ref ik, .ref hi, .ref rf, .int (-1)])), (no, .inr (6, [.ref te, .ref nt, .ref nl, .ref ns, .ref np, .int 0, .int 0, .long 0, .int (-1), .int (-1)])), (nl, .inr (2, [.ref nr])), (nr, .inl (cl1, 128, .inr (.inl (fun _ => 0)))), (im, .inl (cs1, 2, .inr (.inr (.inr (.inr fm))))), (i0, .inr (6, [.ref te, .ref it0, .ref il0, .ref is0, .ref ip0, .int 0, .int 0, .long 0, .int (-1), .int (-1)])), (il0, .inr (2, [.ref ir0])), (ir0, .inl (cl3, 128, .inr (.inl (fun _ => 0)))), (i1, .inr (6, [.ref te, .ref it1, .ref il1, .ref is1, .ref ip1, .int 0, .int 0, .long 0, .int (-1), .int (-1)])), (il1, .inr (2, [.ref ir1])), (ir1, .inl (cl4, 128, .inr (.inl (fun _ => 0)))), (ik, .inl (cz, 2, .inl (fun _ => 0))), (rf, .inr (4, [.ref rc, .int 0])), (rc, .inl (ci2, 5, .inl (fun _ => 0)))]) [0, 1, 2, 3, 4, 5, 6, 7, 8, 9, 10, 11, 12, 13] (by decide) rfl
  have hKc := hK.sub (tys' := [(cl1, .long), (cs1, .object "DeadlineShare$State"), (cl3, .long), (cl4, .long), (cz, .boolean), (ci2, .int)]) [0, 1, 2, 3, 4, 5] rfl
  have hFc := va_free (wc := [(h0, .inr (11, [.ref te, .ref ta, .ref re, .ref no, .ref pa, .ref ac, .ref op, .ref im, .ref ik, .ref hi, .ref rf, .int (-1)])), (no, .inr (6, [.ref te, .ref nt, .ref nl, .ref ns, .ref np, .int 0, .int 0, .long 0, .int (-1), .int (-1)])), (nl, .inr (2, [.ref nr])), (nr, .inl (cl1, 128, .inr (.inl (fun _ => 0)))), (im, .inl (cs1, 2, .inr (.inr (.inr (.inr fm))))), (i0, .inr (6, [.ref te, .ref it0, .ref il0, .ref is0, .ref ip0, .int 0, .int 0, .long 0, .int (-1), .int (-1)])), (il0, .inr (2, [.ref ir0])), (ir0, .inl (cl3, 128, .inr (.inl (fun _ => 0)))), (i1, .inr (6, [.ref te, .ref it1, .ref il1, .ref is1, .ref ip1, .int 0, .int 0, .long 0, .int (-1), .int (-1)])), (il1, .inr (2, [.ref ir1])), (ir1, .inl (cl4, 128, .inr (.inl (fun _ => 0)))), (ik, .inl (cz, 2, .inl (fun _ => 0))), (rf, .inr (4, [.ref rc, .int 0])), (rc, .inl (ci2, 5, .inl (fun _ => 0)))]) hD hS hA [0, 1, 2, 3, 4, 5, 6, 7, 8, 9, 10, 11, 12, 13] rfl
  refine va_calli (va_runV (As := [.int (xs 1)]) (rest := []) ⟨hx, hb, hml, hown, hts⟩ (c_X11_image l dC dI h0 (xs 1) te ta re no pa ac op im ik hi rf nt nl ns np nr cl1 cs1 fm i0 it0 il0 is0 ip0 ir0 cl3 i1 it1 il1 is1 ip1 ir1 cl4 cz rc ci2 H.size hfm0 hfm1) (cwV 1 hts (gi_V tb_c_X11_image tw_673.1 tw_674.1 tw_675.1 tw_324.1) rfl rfl rfl (by decide +kernel) ⟨Nat.le_of_ble_eq_true rfl, Nat.le_of_ble_eq_true rfl⟩) ⟨fun a U g mk q => by obtain ⟨q0, q1, qP, qK, qD⟩ := q; exact ⟨q0, q1, qP, va_K.moved (u := U) (U := U.calling g mk a) (Vm.Alike.refl U.vm) qK, qD⟩, va_recv hKc hPc (ci := 11) (q0 := 0) rfl rfl, fun U hU hW => ⟨rfl, by rw [hU], by rw [hU]; exact hPc, va_K.moved hW.alike hKc, hDc.weaken (fun _ _ _ _ => trivial)⟩⟩ rfl rfl hl.1 rfl (lv_room (Nat.le_of_ble_eq_true rfl)) dL_law_679 ⟨Nat.le_of_ble_eq_true rfl, Nat.le_of_ble_eq_true rfl⟩) hS (fun q _ h => hFc q h) hFc (fun r_1 u t H1 locs ht hvm hw hB hz1 hk1 hS => ?_)
  obtain ⟨hP1, hK1, hD1⟩ := hB
  rw [ht] at hP1
  have hK1 := va_K.moved hvm.symm hK1
  obtain ⟨hP, hD⟩ := va_join (wr := [(h1, .inr (12, [.int 0, .int 0, .ref mr, .ref mt, .ref mw, .ref mu, .ref mp, .ref mi, .ref mk, .ref ms, .int 0, .ref mv, .int 0, .int 0, .int 0, .int 0, .long 0, .int (-1), .int 0, .ref m1w, .ref m2w, .ref m3w, .ref m4w, .int 0, .long 0, .long 0, .long 0])), (mr, .inl (cm1, 7, .inl (fun _ => 0))), (mw, .inl (cm3, 906, .inr (.inl fw))), (mi, .inl (cm6, 1812, .inr (.inl (fun _ => 0)))), (mk, .inl (cm7, 2, .inl (fun _ => 0)))]) (w1 := []) hP hD [0, 1, 2, 3, 4, 5, 6, 7, 8, 9, 10, 11, 12, 13] [14, 15, 16, 17, 18] rfl rfl (by decide) (by decide) hk1 hFc hP1 hD1
  generalize H1 = H at hP hS ⊢
  have hP : va_P (dC, dI) vwCl [(h1, .inr (12, [.int 0, .int 0, .ref mr, .ref mt, .ref mw, .ref mu, .ref mp, .ref mi, .ref mk, .ref ms, .int 0, .ref mv, .int 0, .int 0, .int 0, .int 0, .long 0, .int (-1), .int 0, .ref m1w, .ref m2w, .ref m3w, .ref m4w, .int 0, .long 0, .long 0, .long 0])), (mr, .inl (cm1, 7, .inl (fun _ => 0))), (mw, .inl (cm3, 906, .inr (.inl fw))), (mi, .inl (cm6, 1812, .inr (.inl (fun _ => 0)))), (mk, .inl (cm7, 2, .inl (fun _ => 0)))] H := hP
  have hD : va_D A [(h1, .inr (12, [.int 0, .int 0, .ref mr, .ref mt, .ref mw, .ref mu, .ref mp, .ref mi, .ref mk, .ref ms, .int 0, .ref mv, .int 0, .int 0, .int 0, .int 0, .long 0, .int (-1), .int 0, .ref m1w, .ref m2w, .ref m3w, .ref m4w, .int 0, .long 0, .long 0, .long 0])), (mr, .inl (cm1, 7, .inl (fun _ => 0))), (mw, .inl (cm3, 906, .inr (.inl fw))), (mi, .inl (cm6, 1812, .inr (.inl (fun _ => 0)))), (mk, .inl (cm7, 2, .inl (fun _ => 0)))] := hD
  refine W.widen (k := 786) (n := 20946) (Nat.le_of_ble_eq_true rfl) (Nat.le_of_ble_eq_true rfl) ?_
  have hw : r_1 = sp_one (xs 1) 0 1 0 := hw
  subst hw
  refine lv_aload_n hx hb dL_law_682 rfl (lv_at hl 2 rfl) ?_
  refine lv_aload_n hx hb dL_law_683 rfl (lv_at hl 0 rfl) ?_
  refine lv_iload_n hx hb dL_law_684 rfl (lv_at hl 3 rfl) ?_
  refine lv_iconst (v := 1) hx hb dL_law_685 (by decide) ?_
  refine lv_iadd hx hb dL_law_686 ?_
  refine k_topi (y := 1) (by decide) ?_
  refine va_sld hx hb hX hbl hbA hS (by unfold vp_in; decide) dL_law_687 ?_
  refine k_topi (y := xs 1) (congrArg xs (by decide)) ?_
  have hPc := hP.sub (ws' := [(h1, .inr (12, [.int 0, .int 0, .ref mr, .ref mt, .ref mw, .ref mu, .ref mp, .ref mi, .ref mk, .ref ms, .int 0, .ref mv, .int 0, .int 0, .int 0, .int 0, .long 0, .int (-1), .int 0, .ref m1w, .ref m2w, .ref m3w, .ref m4w, .int 0, .long 0, .long 0, .long 0])), (mr, .inl (cm1, 7, .inl (fun _ => 0))), (mw, .inl (cm3, 906, .inr (.inl fw))), (mi, .inl (cm6, 1812, .inr (.inl (fun _ => 0)))), (mk, .inl (cm7, 2, .inl (fun _ => 0)))]) [0, 1, 2, 3, 4] rfl
  have hDc := hD.sub (ws' := [(h1, .inr (12, [.int 0, .int 0, .ref mr, .ref mt, .ref mw, .ref mu, .ref mp, .ref mi, .ref mk, .ref ms, .int 0, .ref mv, .int 0, .int 0, .int 0, .int 0, .long 0, .int (-1), .int 0, .ref m1w, .ref m2w, .ref m3w, .ref m4w, .int 0, .long 0, .long 0, .long 0])), (mr, .inl (cm1, 7, .inl (fun _ => 0))), (mw, .inl (cm3, 906, .inr (.inl fw))), (mi, .inl (cm6, 1812, .inr (.inl (fun _ => 0)))), (mk, .inl (cm7, 2, .inl (fun _ => 0)))]) [0, 1, 2, 3, 4] (by decide) rfl
  have hKc := hK.sub (tys' := [(cm1, .int), (cm3, .long), (cm6, .long), (cm7, .boolean)]) [6, 7, 8, 9] rfl
  have hFc := va_free (wc := [(h1, .inr (12, [.int 0, .int 0, .ref mr, .ref mt, .ref mw, .ref mu, .ref mp, .ref mi, .ref mk, .ref ms, .int 0, .ref mv, .int 0, .int 0, .int 0, .int 0, .long 0, .int (-1), .int 0, .ref m1w, .ref m2w, .ref m3w, .ref m4w, .int 0, .long 0, .long 0, .long 0])), (mr, .inl (cm1, 7, .inl (fun _ => 0))), (mw, .inl (cm3, 906, .inr (.inl fw))), (mi, .inl (cm6, 1812, .inr (.inl (fun _ => 0)))), (mk, .inl (cm7, 2, .inl (fun _ => 0)))]) hD hS hA [0, 1, 2, 3, 4] rfl
  refine va_calli (va_runV (As := [.int (xs 1)]) (rest := [.int (sp_one (xs 1) 0 1 0)]) ⟨hx, hb, hml, hown, hts⟩ (c_X12_image l dC dI h1 (xs 1) mr mt mw mu mp mi mk ms mv m1w m2w m3w m4w cm1 cm3 fw cm6 cm7 H.size hw0 hw1 hw2 hw3 hw4 hw5) (cwV 1 hts (gi_V tb_c_X12_image tw_676.1 tw_677.1 tw_678.1 tw_435.1) rfl rfl rfl (by decide +kernel) ⟨Nat.le_of_ble_eq_true rfl, Nat.le_of_ble_eq_true rfl⟩) ⟨fun a U g mk q => by obtain ⟨q0, q1, qP, qK, qD⟩ := q; exact ⟨q0, q1, qP, va_K.moved (u := U) (U := U.calling g mk a) (Vm.Alike.refl U.vm) qK, qD⟩, va_recv hKc hPc (ci := 12) (q0 := 0) rfl rfl, fun U hU hW => ⟨rfl, by rw [hU], by rw [hU]; exact hPc, va_K.moved hW.alike hKc, hDc.weaken (fun _ _ _ _ => trivial)⟩⟩ rfl rfl hl.1 rfl (lv_room (Nat.le_of_ble_eq_true rfl)) dL_law_688 ⟨Nat.le_of_ble_eq_true rfl, Nat.le_of_ble_eq_true rfl⟩) hS (fun q _ h => hFc q h) hFc (fun r_2 u t H1 locs ht hvm hw hB hz1 hk1 hS => ?_)
  obtain ⟨hP1, hK1, hD1⟩ := hB
  rw [ht] at hP1
  have hK1 := va_K.moved hvm.symm hK1
  obtain ⟨hP, hD⟩ := va_join (wr := []) (w1 := []) hP hD [0, 1, 2, 3, 4] [] rfl rfl (by decide) (by decide) hk1 hFc hP1 hD1
  generalize H1 = H at hP hS ⊢
  have hP : va_P (dC, dI) vwCl [] H := hP
  have hD : va_D A [] := hD
  refine W.widen (k := 786) (n := 20946) (Nat.le_of_ble_eq_true rfl) (Nat.le_of_ble_eq_true rfl) ?_
  have hw : r_2 = sp_one (xs 1) 0 1 0 := hw
  subst hw
  refine lv_icmp_eq (tgt := 1204) hx hb dL_law_691 (by decide) (fun _ => ?_) (fun c => absurd rfl c)
  exact law_next C0 hA hbA hAq (hK.sub [] rfl) (hP.sub [] rfl) (hD.sub [] (by decide) rfl) hS (lv_sub hl [0, 1, 2, 3] rfl)
set_option maxHeartbeats 4000000 in
set_option maxRecDepth 100000 in
theorem law_back {p : Program} {l : Launch} {e : Env} {s : State} {m : MethodId} {below : List Frame} {meth : Method} {c : Code} {dC : Nat → ClassId} {dI : Nat → Nat → Nat} {b : Nat} {xs : Nat → Int32} {A : Nat → Prop} (C0 : lw_At p s m meth c b 6 xs) (hA : ∀ q : Nat, s.heap.size ≤ q → A q) (hbA : ¬ A b) (hAq : ∀ q : Nat, A q → s.heap.size ≤ q) {h0 : Nat} {h1 : Nat} {te : Nat} {ta : Nat} {re : Nat} {no : Nat} {pa : Nat} {ac : Nat} {op : Nat} {im : Nat} {ik : Nat} {hi : Nat} {rf : Nat} {cz : ClassId} {rc : Nat} {ci2 : ClassId} {mr : Nat} {mt : Nat} {mw : Nat} {mu : Nat} {mp : Nat} {mi : Nat} {mk : Nat} {ms : Nat} {mv : Nat} {m1w : Nat} {m2w : Nat} {m3w : Nat} {m4w : Nat} {cm1 : ClassId} {cm7 : ClassId} {H : Heap} {locs : List Loc} {ls : Array Slot} (hK : va_K (dC, dI) vwCl [(cz, .boolean), (ci2, .int), (cm1, .int), (cm7, .boolean)] s) (hP : va_P (dC, dI) vwCl [(h0, .inr (11, [.ref te, .ref ta, .ref re, .ref no, .ref pa, .ref ac, .ref op, .ref im, .ref ik, .ref hi, .ref rf, .int (-1)])), (ik, .inl (cz, 2, .inl (fun _ => 0))), (rf, .inr (4, [.ref rc, .int 0])), (rc, .inl (ci2, 5, .inl (fun _ => 0))), (h1, .inr (12, [.int 0, .int 0, .ref mr, .ref mt, .ref mw, .ref mu, .ref mp, .ref mi, .ref mk, .ref ms, .int 0, .ref mv, .int 0, .int 0, .int 0, .int 0, .long 0, .int (-1), .int 0, .ref m1w, .ref m2w, .ref m3w, .ref m4w, .int 0, .long 0, .long 0, .long 0])), (mr, .inl (cm1, 7, .inl (fun _ => 0))), (mk, .inl (cm7, 2, .inl (fun _ => 0)))] H) (hD : va_D A [(h0, .inr (11, [.ref te, .ref ta, .ref re, .ref no, .ref pa, .ref ac, .ref op, .ref im, .ref ik, .ref hi, .ref rf, .int (-1)])), (ik, .inl (cz, 2, .inl (fun _ => 0))), (rf, .inr (4, [.ref rc, .int 0])), (rc, .inl (ci2, 5, .inl (fun _ => 0))), (h1, .inr (12, [.int 0, .int 0, .ref mr, .ref mt, .ref mw, .ref mu, .ref mp, .ref mi, .ref mk, .ref ms, .int 0, .ref mv, .int 0, .int 0, .int 0, .int 0, .long 0, .int (-1), .int 0, .ref m1w, .ref m2w, .ref m3w, .ref m4w, .int 0, .long 0, .long 0, .long 0])), (mr, .inl (cm1, 7, .inl (fun _ => 0))), (mk, .inl (cm7, 2, .inl (fun _ => 0)))]) (hS : va_S A s.heap H locs) (hl : lv_has ls 4 [(0, .ref b), (1, .ref h0), (2, .ref h1), (3, .int 0)]) : W p l e room_1 s m #[Value.ref b] below meth c H locs 786 20946 (lw_Z below #[Value.ref b] s) (F0 m 696 ls []) := by
  obtain ⟨hx, hb, hr, hml, hown, hts, hX, hbl, hlocks, hgv⟩ := id C0
  have hown : s.vm.findClass RL = some m.cls := hown
  refine lv_aload_n hx hb dL_law_696 rfl (lv_at hl 1 rfl) ?_
  refine lv_aload_n hx hb dL_law_697 rfl (lv_at hl 0 rfl) ?_
  refine lv_iload_n hx hb dL_law_698 rfl (lv_at hl 3 rfl) ?_
  refine lv_iconst (v := 1) hx hb dL_law_699 (by decide) ?_
  refine lv_iadd hx hb dL_law_700 ?_
  refine k_topi (y := 1) (by decide) ?_
  refine va_sld hx hb hX hbl hbA hS (by unfold vp_in; decide) dL_law_701 ?_
  refine k_topi (y := xs 1) (congrArg xs (by decide)) ?_
  have hPc := hP.sub (ws' := [(h0, .inr (11, [.ref te, .ref ta, .ref re, .ref no, .ref pa, .ref ac, .ref op, .ref im, .ref ik, .ref hi, .ref rf, .int (-1)])), (ik, .inl (cz, 2, .inl (fun _ => 0))), (rf, .inr (4, [.ref rc, .int 0])), (rc, .inl (ci2, 5, .inl (fun _ => 0)))]) [0, 1, 2, 3] rfl
  have hDc := hD.sub (ws' := [(h0, .inr (11, [.ref te, .ref ta, .ref re, .ref no, .ref pa, .ref ac, .ref op, .ref im, .ref ik, .ref hi, .ref rf, .int (-1)])), (ik, .inl (cz, 2, .inl (fun _ => 0))), (rf, .inr (4, [.ref rc, .int 0])), (rc, .inl (ci2, 5, .inl (fun _ => 0)))]) [0, 1, 2, 3] (by decide) rfl
  have hKc := hK.sub (tys' := [(cz, .boolean), (ci2, .int)]) [0, 1] rfl
  have hFc := va_free (wc := [(h0, .inr (11, [.ref te, .ref ta, .ref re, .ref no, .ref pa, .ref ac, .ref op, .ref im, .ref ik, .ref hi, .ref rf, .int (-1)])), (ik, .inl (cz, 2, .inl (fun _ => 0))), (rf, .inr (4, [.ref rc, .int 0])), (rc, .inl (ci2, 5, .inl (fun _ => 0)))]) hD hS hA [0, 1, 2, 3] rfl
  refine va_calli (va_runV (As := [.int (xs 1)]) (rest := []) ⟨hx, hb, hml, hown, hts⟩ (c_X11_back l dC dI h0 (xs 1) te ta re no pa ac op im ik hi rf cz rc ci2 H.size) (cwV 1 hts (gi_V tb_c_X11_back tw_679.1 tw_680.1 tw_681.1 tw_324.1) rfl rfl rfl (by decide +kernel) ⟨Nat.le_of_ble_eq_true rfl, Nat.le_of_ble_eq_true rfl⟩) ⟨fun a U g mk q => by obtain ⟨q0, q1, qP, qK, qD⟩ := q; exact ⟨q0, q1, qP, va_K.moved (u := U) (U := U.calling g mk a) (Vm.Alike.refl U.vm) qK, qD⟩, va_recv hKc hPc (ci := 11) (q0 := 0) rfl rfl, fun U hU hW => ⟨rfl, by rw [hU], by rw [hU]; exact hPc, va_K.moved hW.alike hKc, hDc.weaken (fun _ _ _ _ => trivial)⟩⟩ rfl rfl hl.1 rfl (lv_room (Nat.le_of_ble_eq_true rfl)) dL_law_702 ⟨Nat.le_of_ble_eq_true rfl, Nat.le_of_ble_eq_true rfl⟩) hS (fun q _ h => hFc q h) hFc (fun r_1 u t H1 locs ht hvm hw hB hz1 hk1 hS => ?_)
  obtain ⟨hP1, hK1, hD1⟩ := hB
  rw [ht] at hP1
  have hK1 := va_K.moved hvm.symm hK1
  obtain ⟨hP, hD⟩ := va_join (wr := [(h1, .inr (12, [.int 0, .int 0, .ref mr, .ref mt, .ref mw, .ref mu, .ref mp, .ref mi, .ref mk, .ref ms, .int 0, .ref mv, .int 0, .int 0, .int 0, .int 0, .long 0, .int (-1), .int 0, .ref m1w, .ref m2w, .ref m3w, .ref m4w, .int 0, .long 0, .long 0, .long 0])), (mr, .inl (cm1, 7, .inl (fun _ => 0))), (mk, .inl (cm7, 2, .inl (fun _ => 0)))]) (w1 := []) hP hD [0, 1, 2, 3] [4, 5, 6] rfl rfl (by decide) (by decide) hk1 hFc hP1 hD1
  generalize H1 = H at hP hS ⊢
  have hP : va_P (dC, dI) vwCl [(h1, .inr (12, [.int 0, .int 0, .ref mr, .ref mt, .ref mw, .ref mu, .ref mp, .ref mi, .ref mk, .ref ms, .int 0, .ref mv, .int 0, .int 0, .int 0, .int 0, .long 0, .int (-1), .int 0, .ref m1w, .ref m2w, .ref m3w, .ref m4w, .int 0, .long 0, .long 0, .long 0])), (mr, .inl (cm1, 7, .inl (fun _ => 0))), (mk, .inl (cm7, 2, .inl (fun _ => 0)))] H := hP
  have hD : va_D A [(h1, .inr (12, [.int 0, .int 0, .ref mr, .ref mt, .ref mw, .ref mu, .ref mp, .ref mi, .ref mk, .ref ms, .int 0, .ref mv, .int 0, .int 0, .int 0, .int 0, .long 0, .int (-1), .int 0, .ref m1w, .ref m2w, .ref m3w, .ref m4w, .int 0, .long 0, .long 0, .long 0])), (mr, .inl (cm1, 7, .inl (fun _ => 0))), (mk, .inl (cm7, 2, .inl (fun _ => 0)))] := hD
  refine W.widen (k := 786) (n := 20946) (Nat.le_of_ble_eq_true rfl) (Nat.le_of_ble_eq_true rfl) ?_
  have hw : r_1 = sp_one (xs 1) 0 1 (-4) := hw
  subst hw
  refine lv_aload_n hx hb dL_law_705 rfl (lv_at hl 2 rfl) ?_
  refine lv_aload_n hx hb dL_law_706 rfl (lv_at hl 0 rfl) ?_
  refine lv_iload_n hx hb dL_law_707 rfl (lv_at hl 3 rfl) ?_
  refine lv_iconst (v := 1) hx hb dL_law_708 (by decide) ?_
  refine lv_iadd hx hb dL_law_709 ?_
  refine k_topi (y := 1) (by decide) ?_
  refine va_sld hx hb hX hbl hbA hS (by unfold vp_in; decide) dL_law_710 ?_
  refine k_topi (y := xs 1) (congrArg xs (by decide)) ?_
  have hPc := hP.sub (ws' := [(h1, .inr (12, [.int 0, .int 0, .ref mr, .ref mt, .ref mw, .ref mu, .ref mp, .ref mi, .ref mk, .ref ms, .int 0, .ref mv, .int 0, .int 0, .int 0, .int 0, .long 0, .int (-1), .int 0, .ref m1w, .ref m2w, .ref m3w, .ref m4w, .int 0, .long 0, .long 0, .long 0])), (mr, .inl (cm1, 7, .inl (fun _ => 0))), (mk, .inl (cm7, 2, .inl (fun _ => 0)))]) [0, 1, 2] rfl
  have hDc := hD.sub (ws' := [(h1, .inr (12, [.int 0, .int 0, .ref mr, .ref mt, .ref mw, .ref mu, .ref mp, .ref mi, .ref mk, .ref ms, .int 0, .ref mv, .int 0, .int 0, .int 0, .int 0, .long 0, .int (-1), .int 0, .ref m1w, .ref m2w, .ref m3w, .ref m4w, .int 0, .long 0, .long 0, .long 0])), (mr, .inl (cm1, 7, .inl (fun _ => 0))), (mk, .inl (cm7, 2, .inl (fun _ => 0)))]) [0, 1, 2] (by decide) rfl
  have hKc := hK.sub (tys' := [(cm1, .int), (cm7, .boolean)]) [2, 3] rfl
  have hFc := va_free (wc := [(h1, .inr (12, [.int 0, .int 0, .ref mr, .ref mt, .ref mw, .ref mu, .ref mp, .ref mi, .ref mk, .ref ms, .int 0, .ref mv, .int 0, .int 0, .int 0, .int 0, .long 0, .int (-1), .int 0, .ref m1w, .ref m2w, .ref m3w, .ref m4w, .int 0, .long 0, .long 0, .long 0])), (mr, .inl (cm1, 7, .inl (fun _ => 0))), (mk, .inl (cm7, 2, .inl (fun _ => 0)))]) hD hS hA [0, 1, 2] rfl
  refine va_calli (va_runV (As := [.int (xs 1)]) (rest := [.int (sp_one (xs 1) 0 1 (-4))]) ⟨hx, hb, hml, hown, hts⟩ (c_X12_back l dC dI h1 (xs 1) mr mt mw mu mp mi mk ms mv m1w m2w m3w m4w cm1 cm7 H.size) (cwV 1 hts (gi_V tb_c_X12_back tw_682.1 tw_683.1 tw_684.1 tw_435.1) rfl rfl rfl (by decide +kernel) ⟨Nat.le_of_ble_eq_true rfl, Nat.le_of_ble_eq_true rfl⟩) ⟨fun a U g mk q => by obtain ⟨q0, q1, qP, qK, qD⟩ := q; exact ⟨q0, q1, qP, va_K.moved (u := U) (U := U.calling g mk a) (Vm.Alike.refl U.vm) qK, qD⟩, va_recv hKc hPc (ci := 12) (q0 := 0) rfl rfl, fun U hU hW => ⟨rfl, by rw [hU], by rw [hU]; exact hPc, va_K.moved hW.alike hKc, hDc.weaken (fun _ _ _ _ => trivial)⟩⟩ rfl rfl hl.1 rfl (lv_room (Nat.le_of_ble_eq_true rfl)) dL_law_711 ⟨Nat.le_of_ble_eq_true rfl, Nat.le_of_ble_eq_true rfl⟩) hS (fun q _ h => hFc q h) hFc (fun r_2 u t H1 locs ht hvm hw hB hz1 hk1 hS => ?_)
  obtain ⟨hP1, hK1, hD1⟩ := hB
  rw [ht] at hP1
  have hK1 := va_K.moved hvm.symm hK1
  obtain ⟨hP, hD⟩ := va_join (wr := []) (w1 := []) hP hD [0, 1, 2] [] rfl rfl (by decide) (by decide) hk1 hFc hP1 hD1
  generalize H1 = H at hP hS ⊢
  have hP : va_P (dC, dI) vwCl [] H := hP
  have hD : va_D A [] := hD
  refine W.widen (k := 786) (n := 20946) (Nat.le_of_ble_eq_true rfl) (Nat.le_of_ble_eq_true rfl) ?_
  have hw : r_2 = sp_one (xs 1) 0 1 (-4) := hw
  subst hw
  refine lv_icmp_eq (tgt := 1204) hx hb dL_law_714 (by decide) (fun _ => ?_) (fun c => absurd rfl c)
  exact law_next C0 hA hbA hAq (hK.sub [] rfl) (hP.sub [] rfl) (hD.sub [] (by decide) rfl) hS (lv_sub hl [0, 1, 2, 3] rfl)
set_option maxHeartbeats 4000000 in
set_option maxRecDepth 100000 in
theorem law_of {p : Program} {l : Launch} {e : Env} {s : State} {m : MethodId} {below : List Frame} {meth : Method} {c : Code} {dC : Nat → ClassId} {dI : Nat → Nat → Nat} {b : Nat} {xs : Nat → Int32} {A : Nat → Prop} (C0 : lw_At p s m meth c b 6 xs) (hA : ∀ q : Nat, s.heap.size ≤ q → A q) (hbA : ¬ A b) (hAq : ∀ q : Nat, A q → s.heap.size ≤ q) {h0 : Nat} {h1 : Nat} {te : Nat} {ta : Nat} {re : Nat} {no : Nat} {pa : Nat} {ac : Nat} {op : Nat} {im : Nat} {ik : Nat} {hi : Nat} {rf : Nat} {nt : Nat} {nl : Nat} {ns : Nat} {np : Nat} {mr : Nat} {mt : Nat} {mw : Nat} {mu : Nat} {mp : Nat} {mi : Nat} {mk : Nat} {ms : Nat} {mv : Nat} {m1w : Nat} {m2w : Nat} {m3w : Nat} {m4w : Nat} {cm3 : ClassId} {fw : Nat → Int64} {H : Heap} {locs : List Loc} {ls : Array Slot} (hw0 : fw 0 = 0) (hw1 : fw 1 = 0) (hw2 : fw 2 = 0) (hw3 : fw 3 = (-1)) (hw4 : fw 4 = (-1)) (hw5 : fw 5 = 0) (hK : va_K (dC, dI) vwCl [(cm3, .long)] s) (hP : va_P (dC, dI) vwCl [(h0, .inr (11, [.ref te, .ref ta, .ref re, .ref no, .ref pa, .ref ac, .ref op, .ref im, .ref ik, .ref hi, .ref rf, .int (-1)])), (no, .inr (6, [.ref te, .ref nt, .ref nl, .ref ns, .ref np, .int 0, .int 0, .long 0, .int (-1), .int (-1)])), (h1, .inr (12, [.int 0, .int 0, .ref mr, .ref mt, .ref mw, .ref mu, .ref mp, .ref mi, .ref mk, .ref ms, .int 0, .ref mv, .int 0, .int 0, .int 0, .int 0, .long 0, .int (-1), .int 0, .ref m1w, .ref m2w, .ref m3w, .ref m4w, .int 0, .long 0, .long 0, .long 0])), (mw, .inl (cm3, 906, .inr (.inl fw)))] H) (hD : va_D A [(h0, .inr (11, [.ref te, .ref ta, .ref re, .ref no, .ref pa, .ref ac, .ref op, .ref im, .ref ik, .ref hi, .ref rf, .int (-1)])), (no, .inr (6, [.ref te, .ref nt, .ref nl, .ref ns, .ref np, .int 0, .int 0, .long 0, .int (-1), .int (-1)])), (h1, .inr (12, [.int 0, .int 0, .ref mr, .ref mt, .ref mw, .ref mu, .ref mp, .ref mi, .ref mk, .ref ms, .int 0, .ref mv, .int 0, .int 0, .int 0, .int 0, .long 0, .int (-1), .int 0, .ref m1w, .ref m2w, .ref m3w, .ref m4w, .int 0, .long 0, .long 0, .long 0])), (mw, .inl (cm3, 906, .inr (.inl fw)))]) (hS : va_S A s.heap H locs) (hl : lv_has ls 4 [(0, .ref b), (1, .ref h0), (2, .ref h1), (3, .int 0)]) : W p l e room_1 s m #[Value.ref b] below meth c H locs 786 20946 (lw_Z below #[Value.ref b] s) (F0 m 719 ls []) := by
  obtain ⟨hx, hb, hr, hml, hown, hts, hX, hbl, hlocks, hgv⟩ := id C0
  have hown : s.vm.findClass RL = some m.cls := hown
  refine lv_aload_n hx hb dL_law_719 rfl (lv_at hl 1 rfl) ?_
  refine lv_aload_n hx hb dL_law_720 rfl (lv_at hl 0 rfl) ?_
  refine lv_iload_n hx hb dL_law_721 rfl (lv_at hl 3 rfl) ?_
  refine lv_iconst (v := 1) hx hb dL_law_722 (by decide) ?_
  refine lv_iadd hx hb dL_law_723 ?_
  refine k_topi (y := 1) (by decide) ?_
  refine va_sld hx hb hX hbl hbA hS (by unfold vp_in; decide) dL_law_724 ?_
  refine k_topi (y := xs 1) (congrArg xs (by decide)) ?_
  refine lv_aload_n hx hb dL_law_725 rfl (lv_at hl 0 rfl) ?_
  refine lv_iload_n hx hb dL_law_726 rfl (lv_at hl 3 rfl) ?_
  refine lv_iconst (v := 2) hx hb dL_law_727 (by decide) ?_
  refine lv_iadd hx hb dL_law_728 ?_
  refine k_topi (y := 2) (by decide) ?_
  refine va_sld hx hb hX hbl hbA hS (by unfold vp_in; decide) dL_law_729 ?_
  refine k_topi (y := xs 2) (congrArg xs (by decide)) ?_
  have hPc := hP.sub (ws' := [(h0, .inr (11, [.ref te, .ref ta, .ref re, .ref no, .ref pa, .ref ac, .ref op, .ref im, .ref ik, .ref hi, .ref rf, .int (-1)])), (no, .inr (6, [.ref te, .ref nt, .ref nl, .ref ns, .ref np, .int 0, .int 0, .long 0, .int (-1), .int (-1)]))]) [0, 1] rfl
  have hDc := hD.sub (ws' := [(h0, .inr (11, [.ref te, .ref ta, .ref re, .ref no, .ref pa, .ref ac, .ref op, .ref im, .ref ik, .ref hi, .ref rf, .int (-1)])), (no, .inr (6, [.ref te, .ref nt, .ref nl, .ref ns, .ref np, .int 0, .int 0, .long 0, .int (-1), .int (-1)]))]) [0, 1] (by decide) rfl
  have hKc := hK.sub (tys' := []) [] rfl
  have hFc := va_free (wc := [(h0, .inr (11, [.ref te, .ref ta, .ref re, .ref no, .ref pa, .ref ac, .ref op, .ref im, .ref ik, .ref hi, .ref rf, .int (-1)])), (no, .inr (6, [.ref te, .ref nt, .ref nl, .ref ns, .ref np, .int 0, .int 0, .long 0, .int (-1), .int (-1)]))]) hD hS hA [0, 1] rfl
  refine va_calli (va_runV (As := [.int (xs 1), .int (xs 2)]) (rest := []) ⟨hx, hb, hml, hown, hts⟩ (c_X11_of l dC dI h0 (xs 1) (xs 2) te ta re no pa ac op im ik hi rf nt nl ns np H.size) (cwV 2 hts (gi_V tb_c_X11_of tw_685.1 tw_686.1 tw_687.1 tw_324.1) rfl rfl rfl (by decide +kernel) ⟨Nat.le_of_ble_eq_true rfl, Nat.le_of_ble_eq_true rfl⟩) ⟨fun a U g mk q => by obtain ⟨q0, q1, qP, qK, qD⟩ := q; exact ⟨q0, q1, qP, va_K.moved (u := U) (U := U.calling g mk a) (Vm.Alike.refl U.vm) qK, qD⟩, va_recv hKc hPc (ci := 11) (q0 := 0) rfl rfl, fun U hU hW => ⟨rfl, by rw [hU], by rw [hU]; exact hPc, va_K.moved hW.alike hKc, hDc.weaken (fun _ _ _ _ => trivial)⟩⟩ rfl rfl hl.1 rfl (lv_room (Nat.le_of_ble_eq_true rfl)) dL_law_730 ⟨Nat.le_of_ble_eq_true rfl, Nat.le_of_ble_eq_true rfl⟩) hS (fun q _ h => hFc q h) hFc (fun r_1 u t H1 locs ht hvm hw hB hz1 hk1 hS => ?_)
  obtain ⟨hP1, hK1, hD1⟩ := hB
  rw [ht] at hP1
  have hK1 := va_K.moved hvm.symm hK1
  obtain ⟨hP, hD⟩ := va_join (wr := [(h1, .inr (12, [.int 0, .int 0, .ref mr, .ref mt, .ref mw, .ref mu, .ref mp, .ref mi, .ref mk, .ref ms, .int 0, .ref mv, .int 0, .int 0, .int 0, .int 0, .long 0, .int (-1), .int 0, .ref m1w, .ref m2w, .ref m3w, .ref m4w, .int 0, .long 0, .long 0, .long 0])), (mw, .inl (cm3, 906, .inr (.inl fw)))]) (w1 := []) hP hD [0, 1] [2, 3] rfl rfl (by decide) (by decide) hk1 hFc hP1 hD1
  generalize H1 = H at hP hS ⊢
  have hP : va_P (dC, dI) vwCl [(h1, .inr (12, [.int 0, .int 0, .ref mr, .ref mt, .ref mw, .ref mu, .ref mp, .ref mi, .ref mk, .ref ms, .int 0, .ref mv, .int 0, .int 0, .int 0, .int 0, .long 0, .int (-1), .int 0, .ref m1w, .ref m2w, .ref m3w, .ref m4w, .int 0, .long 0, .long 0, .long 0])), (mw, .inl (cm3, 906, .inr (.inl fw)))] H := hP
  have hD : va_D A [(h1, .inr (12, [.int 0, .int 0, .ref mr, .ref mt, .ref mw, .ref mu, .ref mp, .ref mi, .ref mk, .ref ms, .int 0, .ref mv, .int 0, .int 0, .int 0, .int 0, .long 0, .int (-1), .int 0, .ref m1w, .ref m2w, .ref m3w, .ref m4w, .int 0, .long 0, .long 0, .long 0])), (mw, .inl (cm3, 906, .inr (.inl fw)))] := hD
  refine W.widen (k := 786) (n := 20946) (Nat.le_of_ble_eq_true rfl) (Nat.le_of_ble_eq_true rfl) ?_
  have hw : r_1 = (-1) := hw
  subst hw
  refine lv_aload_n hx hb dL_law_733 rfl (lv_at hl 2 rfl) ?_
  refine lv_aload_n hx hb dL_law_734 rfl (lv_at hl 0 rfl) ?_
  refine lv_iload_n hx hb dL_law_735 rfl (lv_at hl 3 rfl) ?_
  refine lv_iconst (v := 1) hx hb dL_law_736 (by decide) ?_
  refine lv_iadd hx hb dL_law_737 ?_
  refine k_topi (y := 1) (by decide) ?_
  refine va_sld hx hb hX hbl hbA hS (by unfold vp_in; decide) dL_law_738 ?_
  refine k_topi (y := xs 1) (congrArg xs (by decide)) ?_
  refine lv_aload_n hx hb dL_law_739 rfl (lv_at hl 0 rfl) ?_
  refine lv_iload_n hx hb dL_law_740 rfl (lv_at hl 3 rfl) ?_
  refine lv_iconst (v := 2) hx hb dL_law_741 (by decide) ?_
  refine lv_iadd hx hb dL_law_742 ?_
  refine k_topi (y := 2) (by decide) ?_
  refine va_sld hx hb hX hbl hbA hS (by unfold vp_in; decide) dL_law_743 ?_
  refine k_topi (y := xs 2) (congrArg xs (by decide)) ?_
  have hPc := hP.sub (ws' := [(h1, .inr (12, [.int 0, .int 0, .ref mr, .ref mt, .ref mw, .ref mu, .ref mp, .ref mi, .ref mk, .ref ms, .int 0, .ref mv, .int 0, .int 0, .int 0, .int 0, .long 0, .int (-1), .int 0, .ref m1w, .ref m2w, .ref m3w, .ref m4w, .int 0, .long 0, .long 0, .long 0])), (mw, .inl (cm3, 906, .inr (.inl fw)))]) [0, 1] rfl
  have hDc := hD.sub (ws' := [(h1, .inr (12, [.int 0, .int 0, .ref mr, .ref mt, .ref mw, .ref mu, .ref mp, .ref mi, .ref mk, .ref ms, .int 0, .ref mv, .int 0, .int 0, .int 0, .int 0, .long 0, .int (-1), .int 0, .ref m1w, .ref m2w, .ref m3w, .ref m4w, .int 0, .long 0, .long 0, .long 0])), (mw, .inl (cm3, 906, .inr (.inl fw)))]) [0, 1] (by decide) rfl
  have hKc := hK.sub (tys' := [(cm3, .long)]) [0] rfl
  have hFc := va_free (wc := [(h1, .inr (12, [.int 0, .int 0, .ref mr, .ref mt, .ref mw, .ref mu, .ref mp, .ref mi, .ref mk, .ref ms, .int 0, .ref mv, .int 0, .int 0, .int 0, .int 0, .long 0, .int (-1), .int 0, .ref m1w, .ref m2w, .ref m3w, .ref m4w, .int 0, .long 0, .long 0, .long 0])), (mw, .inl (cm3, 906, .inr (.inl fw)))]) hD hS hA [0, 1] rfl
  refine va_calli (va_runV (As := [.int (xs 1), .int (xs 2)]) (rest := [.int (-1)]) ⟨hx, hb, hml, hown, hts⟩ (c_X12_of l dC dI h1 (xs 1) (xs 2) mr mt mw mu mp mi mk ms mv m1w m2w m3w m4w cm3 fw H.size hw0 hw1 hw2 hw3 hw4 hw5) (cwV 2 hts (gi_V tb_c_X12_of tw_688.1 tw_689.1 tw_690.1 tw_435.1) rfl rfl rfl (by decide +kernel) ⟨Nat.le_of_ble_eq_true rfl, Nat.le_of_ble_eq_true rfl⟩) ⟨fun a U g mk q => by obtain ⟨q0, q1, qP, qK, qD⟩ := q; exact ⟨q0, q1, qP, va_K.moved (u := U) (U := U.calling g mk a) (Vm.Alike.refl U.vm) qK, qD⟩, va_recv hKc hPc (ci := 12) (q0 := 0) rfl rfl, fun U hU hW => ⟨rfl, by rw [hU], by rw [hU]; exact hPc, va_K.moved hW.alike hKc, hDc.weaken (fun _ _ _ _ => trivial)⟩⟩ rfl rfl hl.1 rfl (lv_room (Nat.le_of_ble_eq_true rfl)) dL_law_744 ⟨Nat.le_of_ble_eq_true rfl, Nat.le_of_ble_eq_true rfl⟩) hS (fun q _ h => hFc q h) hFc (fun r_2 u t H1 locs ht hvm hw hB hz1 hk1 hS => ?_)
  obtain ⟨hP1, hK1, hD1⟩ := hB
  rw [ht] at hP1
  have hK1 := va_K.moved hvm.symm hK1
  obtain ⟨hP, hD⟩ := va_join (wr := []) (w1 := []) hP hD [0, 1] [] rfl rfl (by decide) (by decide) hk1 hFc hP1 hD1
  generalize H1 = H at hP hS ⊢
  have hP : va_P (dC, dI) vwCl [] H := hP
  have hD : va_D A [] := hD
  refine W.widen (k := 786) (n := 20946) (Nat.le_of_ble_eq_true rfl) (Nat.le_of_ble_eq_true rfl) ?_
  have hw : r_2 = (-1) := hw
  subst hw
  refine lv_icmp_eq (tgt := 1204) hx hb dL_law_747 (by decide) (fun _ => ?_) (fun c => absurd (by decide) c)
  exact law_next C0 hA hbA hAq (hK.sub [] rfl) (hP.sub [] rfl) (hD.sub [] (by decide) rfl) hS (lv_sub hl [0, 1, 2, 3] rfl)
set_option maxHeartbeats 4000000 in
set_option maxRecDepth 100000 in
theorem law_exact {p : Program} {l : Launch} {e : Env} {s : State} {m : MethodId} {below : List Frame} {meth : Method} {c : Code} {dC : Nat → ClassId} {dI : Nat → Nat → Nat} {b : Nat} {xs : Nat → Int32} {A : Nat → Prop} (C0 : lw_At p s m meth c b 6 xs) (hA : ∀ q : Nat, s.heap.size ≤ q → A q) (hbA : ¬ A b) (hAq : ∀ q : Nat, A q → s.heap.size ≤ q) {h0 : Nat} {h1 : Nat} {te : Nat} {ta : Nat} {re : Nat} {no : Nat} {pa : Nat} {ac : Nat} {op : Nat} {im : Nat} {ik : Nat} {hi : Nat} {rf : Nat} {nt : Nat} {nl : Nat} {ns : Nat} {np : Nat} {mr : Nat} {mt : Nat} {mw : Nat} {mu : Nat} {mp : Nat} {mi : Nat} {mk : Nat} {ms : Nat} {mv : Nat} {m1w : Nat} {m2w : Nat} {m3w : Nat} {m4w : Nat} {cm3 : ClassId} {fw : Nat → Int64} {H : Heap} {locs : List Loc} {ls : Array Slot} (hw0 : fw 0 = 0) (hw1 : fw 1 = 0) (hw2 : fw 2 = 0) (hw3 : fw 3 = (-1)) (hw4 : fw 4 = (-1)) (hw5 : fw 5 = 0) (hK : va_K (dC, dI) vwCl [(cm3, .long)] s) (hP : va_P (dC, dI) vwCl [(h0, .inr (11, [.ref te, .ref ta, .ref re, .ref no, .ref pa, .ref ac, .ref op, .ref im, .ref ik, .ref hi, .ref rf, .int (-1)])), (no, .inr (6, [.ref te, .ref nt, .ref nl, .ref ns, .ref np, .int 0, .int 0, .long 0, .int (-1), .int (-1)])), (h1, .inr (12, [.int 0, .int 0, .ref mr, .ref mt, .ref mw, .ref mu, .ref mp, .ref mi, .ref mk, .ref ms, .int 0, .ref mv, .int 0, .int 0, .int 0, .int 0, .long 0, .int (-1), .int 0, .ref m1w, .ref m2w, .ref m3w, .ref m4w, .int 0, .long 0, .long 0, .long 0])), (mw, .inl (cm3, 906, .inr (.inl fw)))] H) (hD : va_D A [(h0, .inr (11, [.ref te, .ref ta, .ref re, .ref no, .ref pa, .ref ac, .ref op, .ref im, .ref ik, .ref hi, .ref rf, .int (-1)])), (no, .inr (6, [.ref te, .ref nt, .ref nl, .ref ns, .ref np, .int 0, .int 0, .long 0, .int (-1), .int (-1)])), (h1, .inr (12, [.int 0, .int 0, .ref mr, .ref mt, .ref mw, .ref mu, .ref mp, .ref mi, .ref mk, .ref ms, .int 0, .ref mv, .int 0, .int 0, .int 0, .int 0, .long 0, .int (-1), .int 0, .ref m1w, .ref m2w, .ref m3w, .ref m4w, .int 0, .long 0, .long 0, .long 0])), (mw, .inl (cm3, 906, .inr (.inl fw)))]) (hS : va_S A s.heap H locs) (hl : lv_has ls 4 [(0, .ref b), (1, .ref h0), (2, .ref h1), (3, .int 0)]) : W p l e room_1 s m #[Value.ref b] below meth c H locs 786 20946 (lw_Z below #[Value.ref b] s) (F0 m 752 ls []) := by
  obtain ⟨hx, hb, hr, hml, hown, hts, hX, hbl, hlocks, hgv⟩ := id C0
  have hown : s.vm.findClass RL = some m.cls := hown
  refine lv_aload_n hx hb dL_law_752 rfl (lv_at hl 1 rfl) ?_
  refine lv_aload_n hx hb dL_law_753 rfl (lv_at hl 0 rfl) ?_
  refine lv_iload_n hx hb dL_law_754 rfl (lv_at hl 3 rfl) ?_
  refine lv_iconst (v := 1) hx hb dL_law_755 (by decide) ?_
  refine lv_iadd hx hb dL_law_756 ?_
  refine k_topi (y := 1) (by decide) ?_
  refine va_sld hx hb hX hbl hbA hS (by unfold vp_in; decide) dL_law_757 ?_
  refine k_topi (y := xs 1) (congrArg xs (by decide)) ?_
  refine lv_aload_n hx hb dL_law_758 rfl (lv_at hl 0 rfl) ?_
  refine lv_iload_n hx hb dL_law_759 rfl (lv_at hl 3 rfl) ?_
  refine lv_iconst (v := 2) hx hb dL_law_760 (by decide) ?_
  refine lv_iadd hx hb dL_law_761 ?_
  refine k_topi (y := 2) (by decide) ?_
  refine va_sld hx hb hX hbl hbA hS (by unfold vp_in; decide) dL_law_762 ?_
  refine k_topi (y := xs 2) (congrArg xs (by decide)) ?_
  have hPc := hP.sub (ws' := [(h0, .inr (11, [.ref te, .ref ta, .ref re, .ref no, .ref pa, .ref ac, .ref op, .ref im, .ref ik, .ref hi, .ref rf, .int (-1)])), (no, .inr (6, [.ref te, .ref nt, .ref nl, .ref ns, .ref np, .int 0, .int 0, .long 0, .int (-1), .int (-1)]))]) [0, 1] rfl
  have hDc := hD.sub (ws' := [(h0, .inr (11, [.ref te, .ref ta, .ref re, .ref no, .ref pa, .ref ac, .ref op, .ref im, .ref ik, .ref hi, .ref rf, .int (-1)])), (no, .inr (6, [.ref te, .ref nt, .ref nl, .ref ns, .ref np, .int 0, .int 0, .long 0, .int (-1), .int (-1)]))]) [0, 1] (by decide) rfl
  have hKc := hK.sub (tys' := []) [] rfl
  have hFc := va_free (wc := [(h0, .inr (11, [.ref te, .ref ta, .ref re, .ref no, .ref pa, .ref ac, .ref op, .ref im, .ref ik, .ref hi, .ref rf, .int (-1)])), (no, .inr (6, [.ref te, .ref nt, .ref nl, .ref ns, .ref np, .int 0, .int 0, .long 0, .int (-1), .int (-1)]))]) hD hS hA [0, 1] rfl
  refine va_calll (va_runV (As := [.int (xs 1), .int (xs 2)]) (rest := []) ⟨hx, hb, hml, hown, hts⟩ (c_X11_exact l dC dI h0 (xs 1) (xs 2) te ta re no pa ac op im ik hi rf nt nl ns np H.size) (cwV 2 hts (gi_V tb_c_X11_exact tw_691.1 tw_692.1 tw_693.1 tw_324.1) rfl rfl rfl (by decide +kernel) ⟨Nat.le_of_ble_eq_true rfl, Nat.le_of_ble_eq_true rfl⟩) ⟨fun a U g mk q => by obtain ⟨q0, q1, qP, qK, qD⟩ := q; exact ⟨q0, q1, qP, va_K.moved (u := U) (U := U.calling g mk a) (Vm.Alike.refl U.vm) qK, qD⟩, va_recv hKc hPc (ci := 11) (q0 := 0) rfl rfl, fun U hU hW => ⟨rfl, by rw [hU], by rw [hU]; exact hPc, va_K.moved hW.alike hKc, hDc.weaken (fun _ _ _ _ => trivial)⟩⟩ rfl rfl hl.1 rfl (lv_room (Nat.le_of_ble_eq_true rfl)) dL_law_763 ⟨Nat.le_of_ble_eq_true rfl, Nat.le_of_ble_eq_true rfl⟩) hS (fun q _ h => hFc q h) hFc (fun r_1 u t H1 locs ht hvm hw hB hz1 hk1 hS => ?_)
  obtain ⟨hP1, hK1, hD1⟩ := hB
  rw [ht] at hP1
  have hK1 := va_K.moved hvm.symm hK1
  obtain ⟨hP, hD⟩ := va_join (wr := [(h1, .inr (12, [.int 0, .int 0, .ref mr, .ref mt, .ref mw, .ref mu, .ref mp, .ref mi, .ref mk, .ref ms, .int 0, .ref mv, .int 0, .int 0, .int 0, .int 0, .long 0, .int (-1), .int 0, .ref m1w, .ref m2w, .ref m3w, .ref m4w, .int 0, .long 0, .long 0, .long 0])), (mw, .inl (cm3, 906, .inr (.inl fw)))]) (w1 := []) hP hD [0, 1] [2, 3] rfl rfl (by decide) (by decide) hk1 hFc hP1 hD1
  generalize H1 = H at hP hS ⊢
  have hP : va_P (dC, dI) vwCl [(h1, .inr (12, [.int 0, .int 0, .ref mr, .ref mt, .ref mw, .ref mu, .ref mp, .ref mi, .ref mk, .ref ms, .int 0, .ref mv, .int 0, .int 0, .int 0, .int 0, .long 0, .int (-1), .int 0, .ref m1w, .ref m2w, .ref m3w, .ref m4w, .int 0, .long 0, .long 0, .long 0])), (mw, .inl (cm3, 906, .inr (.inl fw)))] H := hP
  have hD : va_D A [(h1, .inr (12, [.int 0, .int 0, .ref mr, .ref mt, .ref mw, .ref mu, .ref mp, .ref mi, .ref mk, .ref ms, .int 0, .ref mv, .int 0, .int 0, .int 0, .int 0, .long 0, .int (-1), .int 0, .ref m1w, .ref m2w, .ref m3w, .ref m4w, .int 0, .long 0, .long 0, .long 0])), (mw, .inl (cm3, 906, .inr (.inl fw)))] := hD
  refine W.widen (k := 786) (n := 20946) (Nat.le_of_ble_eq_true rfl) (Nat.le_of_ble_eq_true rfl) ?_
  have hw : r_1 = (-9223372036854775808) := hw
  subst hw
  refine lv_aload_n hx hb dL_law_766 rfl (lv_at hl 2 rfl) ?_
  refine lv_aload_n hx hb dL_law_767 rfl (lv_at hl 0 rfl) ?_
  refine lv_iload_n hx hb dL_law_768 rfl (lv_at hl 3 rfl) ?_
  refine lv_iconst (v := 1) hx hb dL_law_769 (by decide) ?_
  refine lv_iadd hx hb dL_law_770 ?_
  refine k_topi (y := 1) (by decide) ?_
  refine va_sld hx hb hX hbl hbA hS (by unfold vp_in; decide) dL_law_771 ?_
  refine k_topi (y := xs 1) (congrArg xs (by decide)) ?_
  refine lv_aload_n hx hb dL_law_772 rfl (lv_at hl 0 rfl) ?_
  refine lv_iload_n hx hb dL_law_773 rfl (lv_at hl 3 rfl) ?_
  refine lv_iconst (v := 2) hx hb dL_law_774 (by decide) ?_
  refine lv_iadd hx hb dL_law_775 ?_
  refine k_topi (y := 2) (by decide) ?_
  refine va_sld hx hb hX hbl hbA hS (by unfold vp_in; decide) dL_law_776 ?_
  refine k_topi (y := xs 2) (congrArg xs (by decide)) ?_
  have hPc := hP.sub (ws' := [(h1, .inr (12, [.int 0, .int 0, .ref mr, .ref mt, .ref mw, .ref mu, .ref mp, .ref mi, .ref mk, .ref ms, .int 0, .ref mv, .int 0, .int 0, .int 0, .int 0, .long 0, .int (-1), .int 0, .ref m1w, .ref m2w, .ref m3w, .ref m4w, .int 0, .long 0, .long 0, .long 0])), (mw, .inl (cm3, 906, .inr (.inl fw)))]) [0, 1] rfl
  have hDc := hD.sub (ws' := [(h1, .inr (12, [.int 0, .int 0, .ref mr, .ref mt, .ref mw, .ref mu, .ref mp, .ref mi, .ref mk, .ref ms, .int 0, .ref mv, .int 0, .int 0, .int 0, .int 0, .long 0, .int (-1), .int 0, .ref m1w, .ref m2w, .ref m3w, .ref m4w, .int 0, .long 0, .long 0, .long 0])), (mw, .inl (cm3, 906, .inr (.inl fw)))]) [0, 1] (by decide) rfl
  have hKc := hK.sub (tys' := [(cm3, .long)]) [0] rfl
  have hFc := va_free (wc := [(h1, .inr (12, [.int 0, .int 0, .ref mr, .ref mt, .ref mw, .ref mu, .ref mp, .ref mi, .ref mk, .ref ms, .int 0, .ref mv, .int 0, .int 0, .int 0, .int 0, .long 0, .int (-1), .int 0, .ref m1w, .ref m2w, .ref m3w, .ref m4w, .int 0, .long 0, .long 0, .long 0])), (mw, .inl (cm3, 906, .inr (.inl fw)))]) hD hS hA [0, 1] rfl
  refine va_calll (va_runV (As := [.int (xs 1), .int (xs 2)]) (rest := [.long (-9223372036854775808)]) ⟨hx, hb, hml, hown, hts⟩ (c_X12_exact l dC dI h1 (xs 1) (xs 2) mr mt mw mu mp mi mk ms mv m1w m2w m3w m4w cm3 fw H.size hw0 hw1 hw2 hw3 hw4 hw5) (cwV 2 hts (gi_V tb_c_X12_exact tw_694.1 tw_695.1 tw_696.1 tw_435.1) rfl rfl rfl (by decide +kernel) ⟨Nat.le_of_ble_eq_true rfl, Nat.le_of_ble_eq_true rfl⟩) ⟨fun a U g mk q => by obtain ⟨q0, q1, qP, qK, qD⟩ := q; exact ⟨q0, q1, qP, va_K.moved (u := U) (U := U.calling g mk a) (Vm.Alike.refl U.vm) qK, qD⟩, va_recv hKc hPc (ci := 12) (q0 := 0) rfl rfl, fun U hU hW => ⟨rfl, by rw [hU], by rw [hU]; exact hPc, va_K.moved hW.alike hKc, hDc.weaken (fun _ _ _ _ => trivial)⟩⟩ rfl rfl hl.1 rfl (lv_room (Nat.le_of_ble_eq_true rfl)) dL_law_777 ⟨Nat.le_of_ble_eq_true rfl, Nat.le_of_ble_eq_true rfl⟩) hS (fun q _ h => hFc q h) hFc (fun r_2 u t H1 locs ht hvm hw hB hz1 hk1 hS => ?_)
  obtain ⟨hP1, hK1, hD1⟩ := hB
  rw [ht] at hP1
  have hK1 := va_K.moved hvm.symm hK1
  obtain ⟨hP, hD⟩ := va_join (wr := []) (w1 := []) hP hD [0, 1] [] rfl rfl (by decide) (by decide) hk1 hFc hP1 hD1
  generalize H1 = H at hP hS ⊢
  have hP : va_P (dC, dI) vwCl [] H := hP
  have hD : va_D A [] := hD
  refine W.widen (k := 786) (n := 20946) (Nat.le_of_ble_eq_true rfl) (Nat.le_of_ble_eq_true rfl) ?_
  have hw : r_2 = (-9223372036854775808) := hw
  subst hw
  refine W.lcmp hx hb dL_law_780 ?_
  refine k_topi (y := 0) (by decide) ?_
  refine lv_if_eq (tgt := 1204) hx hb dL_law_781 (by decide) (fun _ => ?_) (fun c => absurd (by decide) c)
  exact law_next C0 hA hbA hAq (hK.sub [] rfl) (hP.sub [] rfl) (hD.sub [] (by decide) rfl) hS (lv_sub hl [0, 1, 2, 3] rfl)
set_option maxHeartbeats 4000000 in
set_option maxRecDepth 100000 in
theorem law_time {p : Program} {l : Launch} {e : Env} {s : State} {m : MethodId} {below : List Frame} {meth : Method} {c : Code} {dC : Nat → ClassId} {dI : Nat → Nat → Nat} {b : Nat} {xs : Nat → Int32} {A : Nat → Prop} (C0 : lw_At p s m meth c b 6 xs) (hA : ∀ q : Nat, s.heap.size ≤ q → A q) (hbA : ¬ A b) (hAq : ∀ q : Nat, A q → s.heap.size ≤ q) {h0 : Nat} {h1 : Nat} {te : Nat} {ta : Nat} {re : Nat} {no : Nat} {pa : Nat} {ac : Nat} {op : Nat} {im : Nat} {ik : Nat} {hi : Nat} {rf : Nat} {nt : Nat} {nl : Nat} {ns : Nat} {np : Nat} {mr : Nat} {mt : Nat} {mw : Nat} {mu : Nat} {mp : Nat} {mi : Nat} {mk : Nat} {ms : Nat} {mv : Nat} {m1w : Nat} {m2w : Nat} {m3w : Nat} {m4w : Nat} {cm3 : ClassId} {fw : Nat → Int64} {H : Heap} {locs : List Loc} {ls : Array Slot} (hw0 : fw 0 = 0) (hw1 : fw 1 = 0) (hw2 : fw 2 = 0) (hw3 : fw 3 = (-1)) (hw4 : fw 4 = (-1)) (hw5 : fw 5 = 0) (hK : va_K (dC, dI) vwCl [(cm3, .long)] s) (hP : va_P (dC, dI) vwCl [(h0, .inr (11, [.ref te, .ref ta, .ref re, .ref no, .ref pa, .ref ac, .ref op, .ref im, .ref ik, .ref hi, .ref rf, .int (-1)])), (no, .inr (6, [.ref te, .ref nt, .ref nl, .ref ns, .ref np, .int 0, .int 0, .long 0, .int (-1), .int (-1)])), (ns, .inr (10, [.long 0, .long 0])), (h1, .inr (12, [.int 0, .int 0, .ref mr, .ref mt, .ref mw, .ref mu, .ref mp, .ref mi, .ref mk, .ref ms, .int 0, .ref mv, .int 0, .int 0, .int 0, .int 0, .long 0, .int (-1), .int 0, .ref m1w, .ref m2w, .ref m3w, .ref m4w, .int 0, .long 0, .long 0, .long 0])), (mw, .inl (cm3, 906, .inr (.inl fw)))] H) (hD : va_D A [(h0, .inr (11, [.ref te, .ref ta, .ref re, .ref no, .ref pa, .ref ac, .ref op, .ref im, .ref ik, .ref hi, .ref rf, .int (-1)])), (no, .inr (6, [.ref te, .ref nt, .ref nl, .ref ns, .ref np, .int 0, .int 0, .long 0, .int (-1), .int (-1)])), (ns, .inr (10, [.long 0, .long 0])), (h1, .inr (12, [.int 0, .int 0, .ref mr, .ref mt, .ref mw, .ref mu, .ref mp, .ref mi, .ref mk, .ref ms, .int 0, .ref mv, .int 0, .int 0, .int 0, .int 0, .long 0, .int (-1), .int 0, .ref m1w, .ref m2w, .ref m3w, .ref m4w, .int 0, .long 0, .long 0, .long 0])), (mw, .inl (cm3, 906, .inr (.inl fw)))]) (hS : va_S A s.heap H locs) (hl : lv_has ls 4 [(0, .ref b), (1, .ref h0), (2, .ref h1), (3, .int 0)]) : W p l e room_1 s m #[Value.ref b] below meth c H locs 786 20946 (lw_Z below #[Value.ref b] s) (F0 m 786 ls []) := by
  obtain ⟨hx, hb, hr, hml, hown, hts, hX, hbl, hlocks, hgv⟩ := id C0
  have hown : s.vm.findClass RL = some m.cls := hown
  refine lv_aload_n hx hb dL_law_786 rfl (lv_at hl 1 rfl) ?_
  refine lv_aload_n hx hb dL_law_787 rfl (lv_at hl 0 rfl) ?_
  refine lv_iload_n hx hb dL_law_788 rfl (lv_at hl 3 rfl) ?_
  refine lv_iconst (v := 1) hx hb dL_law_789 (by decide) ?_
  refine lv_iadd hx hb dL_law_790 ?_
  refine k_topi (y := 1) (by decide) ?_
  refine va_sld hx hb hX hbl hbA hS (by unfold vp_in; decide) dL_law_791 ?_
  refine k_topi (y := xs 1) (congrArg xs (by decide)) ?_
  have hPc := hP.sub (ws' := [(h0, .inr (11, [.ref te, .ref ta, .ref re, .ref no, .ref pa, .ref ac, .ref op, .ref im, .ref ik, .ref hi, .ref rf, .int (-1)])), (no, .inr (6, [.ref te, .ref nt, .ref nl, .ref ns, .ref np, .int 0, .int 0, .long 0, .int (-1), .int (-1)])), (ns, .inr (10, [.long 0, .long 0]))]) [0, 1, 2] rfl
  have hDc := hD.sub (ws' := [(h0, .inr (11, [.ref te, .ref ta, .ref re, .ref no, .ref pa, .ref ac, .ref op, .ref im, .ref ik, .ref hi, .ref rf, .int (-1)])), (no, .inr (6, [.ref te, .ref nt, .ref nl, .ref ns, .ref np, .int 0, .int 0, .long 0, .int (-1), .int (-1)])), (ns, .inr (10, [.long 0, .long 0]))]) [0, 1, 2] (by decide) rfl
  have hKc := hK.sub (tys' := []) [] rfl
  have hFc := va_free (wc := [(h0, .inr (11, [.ref te, .ref ta, .ref re, .ref no, .ref pa, .ref ac, .ref op, .ref im, .ref ik, .ref hi, .ref rf, .int (-1)])), (no, .inr (6, [.ref te, .ref nt, .ref nl, .ref ns, .ref np, .int 0, .int 0, .long 0, .int (-1), .int (-1)])), (ns, .inr (10, [.long 0, .long 0]))]) hD hS hA [0, 1, 2] rfl
  refine va_calll (va_runV (As := [.int (xs 1)]) (rest := []) ⟨hx, hb, hml, hown, hts⟩ (c_X11_time l dC dI h0 (xs 1) te ta re no pa ac op im ik hi rf nt nl ns np H.size) (cwV 1 hts (gi_V tb_c_X11_time tw_697.1 tw_698.1 tw_699.1 tw_324.1) rfl rfl rfl (by decide +kernel) ⟨Nat.le_of_ble_eq_true rfl, Nat.le_of_ble_eq_true rfl⟩) ⟨fun a U g mk q => by obtain ⟨q0, q1, qP, qK, qD⟩ := q; exact ⟨q0, q1, qP, va_K.moved (u := U) (U := U.calling g mk a) (Vm.Alike.refl U.vm) qK, qD⟩, va_recv hKc hPc (ci := 11) (q0 := 0) rfl rfl, fun U hU hW => ⟨rfl, by rw [hU], by rw [hU]; exact hPc, va_K.moved hW.alike hKc, hDc.weaken (fun _ _ _ _ => trivial)⟩⟩ rfl rfl hl.1 rfl (lv_room (Nat.le_of_ble_eq_true rfl)) dL_law_792 ⟨Nat.le_of_ble_eq_true rfl, Nat.le_of_ble_eq_true rfl⟩) hS (fun q _ h => hFc q h) hFc (fun r_1 u t H1 locs ht hvm hw hB hz1 hk1 hS => ?_)
  obtain ⟨hP1, hK1, hD1⟩ := hB
  rw [ht] at hP1
  have hK1 := va_K.moved hvm.symm hK1
  obtain ⟨hP, hD⟩ := va_join (wr := [(h1, .inr (12, [.int 0, .int 0, .ref mr, .ref mt, .ref mw, .ref mu, .ref mp, .ref mi, .ref mk, .ref ms, .int 0, .ref mv, .int 0, .int 0, .int 0, .int 0, .long 0, .int (-1), .int 0, .ref m1w, .ref m2w, .ref m3w, .ref m4w, .int 0, .long 0, .long 0, .long 0])), (mw, .inl (cm3, 906, .inr (.inl fw)))]) (w1 := []) hP hD [0, 1, 2] [3, 4] rfl rfl (by decide) (by decide) hk1 hFc hP1 hD1
  generalize H1 = H at hP hS ⊢
  have hP : va_P (dC, dI) vwCl [(h1, .inr (12, [.int 0, .int 0, .ref mr, .ref mt, .ref mw, .ref mu, .ref mp, .ref mi, .ref mk, .ref ms, .int 0, .ref mv, .int 0, .int 0, .int 0, .int 0, .long 0, .int (-1), .int 0, .ref m1w, .ref m2w, .ref m3w, .ref m4w, .int 0, .long 0, .long 0, .long 0])), (mw, .inl (cm3, 906, .inr (.inl fw)))] H := hP
  have hD : va_D A [(h1, .inr (12, [.int 0, .int 0, .ref mr, .ref mt, .ref mw, .ref mu, .ref mp, .ref mi, .ref mk, .ref ms, .int 0, .ref mv, .int 0, .int 0, .int 0, .int 0, .long 0, .int (-1), .int 0, .ref m1w, .ref m2w, .ref m3w, .ref m4w, .int 0, .long 0, .long 0, .long 0])), (mw, .inl (cm3, 906, .inr (.inl fw)))] := hD
  refine W.widen (k := 786) (n := 20946) (Nat.le_of_ble_eq_true rfl) (Nat.le_of_ble_eq_true rfl) ?_
  have hw : r_1 = sp_time (xs 1) := hw
  subst hw
  refine lv_aload_n hx hb dL_law_795 rfl (lv_at hl 2 rfl) ?_
  refine lv_aload_n hx hb dL_law_796 rfl (lv_at hl 0 rfl) ?_
  refine lv_iload_n hx hb dL_law_797 rfl (lv_at hl 3 rfl) ?_
  refine lv_iconst (v := 1) hx hb dL_law_798 (by decide) ?_
  refine lv_iadd hx hb dL_law_799 ?_
  refine k_topi (y := 1) (by decide) ?_
  refine va_sld hx hb hX hbl hbA hS (by unfold vp_in; decide) dL_law_800 ?_
  refine k_topi (y := xs 1) (congrArg xs (by decide)) ?_
  have hPc := hP.sub (ws' := [(h1, .inr (12, [.int 0, .int 0, .ref mr, .ref mt, .ref mw, .ref mu, .ref mp, .ref mi, .ref mk, .ref ms, .int 0, .ref mv, .int 0, .int 0, .int 0, .int 0, .long 0, .int (-1), .int 0, .ref m1w, .ref m2w, .ref m3w, .ref m4w, .int 0, .long 0, .long 0, .long 0])), (mw, .inl (cm3, 906, .inr (.inl fw)))]) [0, 1] rfl
  have hDc := hD.sub (ws' := [(h1, .inr (12, [.int 0, .int 0, .ref mr, .ref mt, .ref mw, .ref mu, .ref mp, .ref mi, .ref mk, .ref ms, .int 0, .ref mv, .int 0, .int 0, .int 0, .int 0, .long 0, .int (-1), .int 0, .ref m1w, .ref m2w, .ref m3w, .ref m4w, .int 0, .long 0, .long 0, .long 0])), (mw, .inl (cm3, 906, .inr (.inl fw)))]) [0, 1] (by decide) rfl
  have hKc := hK.sub (tys' := [(cm3, .long)]) [0] rfl
  have hFc := va_free (wc := [(h1, .inr (12, [.int 0, .int 0, .ref mr, .ref mt, .ref mw, .ref mu, .ref mp, .ref mi, .ref mk, .ref ms, .int 0, .ref mv, .int 0, .int 0, .int 0, .int 0, .long 0, .int (-1), .int 0, .ref m1w, .ref m2w, .ref m3w, .ref m4w, .int 0, .long 0, .long 0, .long 0])), (mw, .inl (cm3, 906, .inr (.inl fw)))]) hD hS hA [0, 1] rfl
  refine va_calll (va_runV (As := [.int (xs 1)]) (rest := [.long (sp_time (xs 1))]) ⟨hx, hb, hml, hown, hts⟩ (c_X12_time l dC dI h1 (xs 1) mr mt mw mu mp mi mk ms mv m1w m2w m3w m4w cm3 fw H.size hw0 hw1 hw2 hw3 hw4 hw5) (cwV 1 hts (gi_V tb_c_X12_time tw_700.1 tw_701.1 tw_702.1 tw_435.1) rfl rfl rfl (by decide +kernel) ⟨Nat.le_of_ble_eq_true rfl, Nat.le_of_ble_eq_true rfl⟩) ⟨fun a U g mk q => by obtain ⟨q0, q1, qP, qK, qD⟩ := q; exact ⟨q0, q1, qP, va_K.moved (u := U) (U := U.calling g mk a) (Vm.Alike.refl U.vm) qK, qD⟩, va_recv hKc hPc (ci := 12) (q0 := 0) rfl rfl, fun U hU hW => ⟨rfl, by rw [hU], by rw [hU]; exact hPc, va_K.moved hW.alike hKc, hDc.weaken (fun _ _ _ _ => trivial)⟩⟩ rfl rfl hl.1 rfl (lv_room (Nat.le_of_ble_eq_true rfl)) dL_law_801 ⟨Nat.le_of_ble_eq_true rfl, Nat.le_of_ble_eq_true rfl⟩) hS (fun q _ h => hFc q h) hFc (fun r_2 u t H1 locs ht hvm hw hB hz1 hk1 hS => ?_)
  obtain ⟨hP1, hK1, hD1⟩ := hB
  rw [ht] at hP1
  have hK1 := va_K.moved hvm.symm hK1
  obtain ⟨hP, hD⟩ := va_join (wr := []) (w1 := []) hP hD [0, 1] [] rfl rfl (by decide) (by decide) hk1 hFc hP1 hD1
  generalize H1 = H at hP hS ⊢
  have hP : va_P (dC, dI) vwCl [] H := hP
  have hD : va_D A [] := hD
  refine W.widen (k := 786) (n := 20946) (Nat.le_of_ble_eq_true rfl) (Nat.le_of_ble_eq_true rfl) ?_
  have hw : r_2 = sp_time (xs 1) := hw
  subst hw
  refine W.lcmp hx hb dL_law_804 ?_
  refine k_topi (y := 0) ((lg_cmp_eq _ _).mpr rfl) ?_
  refine lv_if_eq (tgt := 1204) hx hb dL_law_805 (by decide) (fun _ => ?_) (fun c => absurd (by decide) c)
  exact law_next C0 hA hbA hAq (hK.sub [] rfl) (hP.sub [] rfl) (hD.sub [] (by decide) rfl) hS (lv_sub hl [0, 1, 2, 3] rfl)
set_option maxHeartbeats 4000000 in
set_option maxRecDepth 100000 in
theorem law_eligible {p : Program} {l : Launch} {e : Env} {s : State} {m : MethodId} {below : List Frame} {meth : Method} {c : Code} {dC : Nat → ClassId} {dI : Nat → Nat → Nat} {b : Nat} {xs : Nat → Int32} {A : Nat → Prop} (C0 : lw_At p s m meth c b 6 xs) (hA : ∀ q : Nat, s.heap.size ≤ q → A q) (hbA : ¬ A b) (hAq : ∀ q : Nat, A q → s.heap.size ≤ q) {h0 : Nat} {h1 : Nat} {te : Nat} {ta : Nat} {re : Nat} {no : Nat} {pa : Nat} {ac : Nat} {op : Nat} {im : Nat} {ik : Nat} {hi : Nat} {rf : Nat} {nt : Nat} {nl : Nat} {ns : Nat} {np : Nat} {mr : Nat} {mt : Nat} {mw : Nat} {mu : Nat} {mp : Nat} {mi : Nat} {mk : Nat} {ms : Nat} {mv : Nat} {m1w : Nat} {m2w : Nat} {m3w : Nat} {m4w : Nat} {cm3 : ClassId} {fw : Nat → Int64} {H : Heap} {locs : List Loc} {ls : Array Slot} (hw0 : fw 0 = 0) (hw1 : fw 1 = 0) (hw2 : fw 2 = 0) (hw3 : fw 3 = (-1)) (hw4 : fw 4 = (-1)) (hw5 : fw 5 = 0) (hK : va_K (dC, dI) vwCl [(cm3, .long)] s) (hP : va_P (dC, dI) vwCl [(h0, .inr (11, [.ref te, .ref ta, .ref re, .ref no, .ref pa, .ref ac, .ref op, .ref im, .ref ik, .ref hi, .ref rf, .int (-1)])), (no, .inr (6, [.ref te, .ref nt, .ref nl, .ref ns, .ref np, .int 0, .int 0, .long 0, .int (-1), .int (-1)])), (ns, .inr (10, [.long 0, .long 0])), (h1, .inr (12, [.int 0, .int 0, .ref mr, .ref mt, .ref mw, .ref mu, .ref mp, .ref mi, .ref mk, .ref ms, .int 0, .ref mv, .int 0, .int 0, .int 0, .int 0, .long 0, .int (-1), .int 0, .ref m1w, .ref m2w, .ref m3w, .ref m4w, .int 0, .long 0, .long 0, .long 0])), (mw, .inl (cm3, 906, .inr (.inl fw)))] H) (hD : va_D A [(h0, .inr (11, [.ref te, .ref ta, .ref re, .ref no, .ref pa, .ref ac, .ref op, .ref im, .ref ik, .ref hi, .ref rf, .int (-1)])), (no, .inr (6, [.ref te, .ref nt, .ref nl, .ref ns, .ref np, .int 0, .int 0, .long 0, .int (-1), .int (-1)])), (ns, .inr (10, [.long 0, .long 0])), (h1, .inr (12, [.int 0, .int 0, .ref mr, .ref mt, .ref mw, .ref mu, .ref mp, .ref mi, .ref mk, .ref ms, .int 0, .ref mv, .int 0, .int 0, .int 0, .int 0, .long 0, .int (-1), .int 0, .ref m1w, .ref m2w, .ref m3w, .ref m4w, .int 0, .long 0, .long 0, .long 0])), (mw, .inl (cm3, 906, .inr (.inl fw)))]) (hS : va_S A s.heap H locs) (hl : lv_has ls 4 [(0, .ref b), (1, .ref h0), (2, .ref h1), (3, .int 0)]) : W p l e room_1 s m #[Value.ref b] below meth c H locs 786 20946 (lw_Z below #[Value.ref b] s) (F0 m 810 ls []) := by
  obtain ⟨hx, hb, hr, hml, hown, hts, hX, hbl, hlocks, hgv⟩ := id C0
  have hown : s.vm.findClass RL = some m.cls := hown
  refine lv_aload_n hx hb dL_law_810 rfl (lv_at hl 1 rfl) ?_
  have hPc := hP.sub (ws' := [(h0, .inr (11, [.ref te, .ref ta, .ref re, .ref no, .ref pa, .ref ac, .ref op, .ref im, .ref ik, .ref hi, .ref rf, .int (-1)])), (no, .inr (6, [.ref te, .ref nt, .ref nl, .ref ns, .ref np, .int 0, .int 0, .long 0, .int (-1), .int (-1)])), (ns, .inr (10, [.long 0, .long 0]))]) [0, 1, 2] rfl
  have hDc := hD.sub (ws' := [(h0, .inr (11, [.ref te, .ref ta, .ref re, .ref no, .ref pa, .ref ac, .ref op, .ref im, .ref ik, .ref hi, .ref rf, .int (-1)])), (no, .inr (6, [.ref te, .ref nt, .ref nl, .ref ns, .ref np, .int 0, .int 0, .long 0, .int (-1), .int (-1)])), (ns, .inr (10, [.long 0, .long 0]))]) [0, 1, 2] (by decide) rfl
  have hKc := hK.sub (tys' := []) [] rfl
  have hFc := va_free (wc := [(h0, .inr (11, [.ref te, .ref ta, .ref re, .ref no, .ref pa, .ref ac, .ref op, .ref im, .ref ik, .ref hi, .ref rf, .int (-1)])), (no, .inr (6, [.ref te, .ref nt, .ref nl, .ref ns, .ref np, .int 0, .int 0, .long 0, .int (-1), .int (-1)])), (ns, .inr (10, [.long 0, .long 0]))]) hD hS hA [0, 1, 2] rfl
  refine va_calli (va_runV (As := []) (rest := []) ⟨hx, hb, hml, hown, hts⟩ (c_X11_eligible l dC dI h0 te ta re no pa ac op im ik hi rf nt nl ns np H.size) (cwV 0 hts (gi_V tb_c_X11_eligible tw_703.1 tw_704.1 tw_705.1 tw_324.1) rfl rfl rfl (by decide +kernel) ⟨Nat.le_of_ble_eq_true rfl, Nat.le_of_ble_eq_true rfl⟩) ⟨fun a U g mk q => by obtain ⟨q0, q1, qP, qK, qD⟩ := q; exact ⟨q0, q1, qP, va_K.moved (u := U) (U := U.calling g mk a) (Vm.Alike.refl U.vm) qK, qD⟩, va_recv hKc hPc (ci := 11) (q0 := 0) rfl rfl, fun U hU hW => ⟨rfl, by rw [hU], by rw [hU]; exact hPc, va_K.moved hW.alike hKc, hDc.weaken (fun _ _ _ _ => trivial)⟩⟩ rfl rfl hl.1 rfl (lv_room (Nat.le_of_ble_eq_true rfl)) dL_law_811 ⟨Nat.le_of_ble_eq_true rfl, Nat.le_of_ble_eq_true rfl⟩) hS (fun q _ h => hFc q h) hFc (fun r_1 u t H1 locs ht hvm hw hB hz1 hk1 hS => ?_)
  obtain ⟨hP1, hK1, hD1⟩ := hB
  rw [ht] at hP1
  have hK1 := va_K.moved hvm.symm hK1
  obtain ⟨hP, hD⟩ := va_join (wr := [(h1, .inr (12, [.int 0, .int 0, .ref mr, .ref mt, .ref mw, .ref mu, .ref mp, .ref mi, .ref mk, .ref ms, .int 0, .ref mv, .int 0, .int 0, .int 0, .int 0, .long 0, .int (-1), .int 0, .ref m1w, .ref m2w, .ref m3w, .ref m4w, .int 0, .long 0, .long 0, .long 0])), (mw, .inl (cm3, 906, .inr (.inl fw)))]) (w1 := []) hP hD [0, 1, 2] [3, 4] rfl rfl (by decide) (by decide) hk1 hFc hP1 hD1
  generalize H1 = H at hP hS ⊢
  have hP : va_P (dC, dI) vwCl [(h1, .inr (12, [.int 0, .int 0, .ref mr, .ref mt, .ref mw, .ref mu, .ref mp, .ref mi, .ref mk, .ref ms, .int 0, .ref mv, .int 0, .int 0, .int 0, .int 0, .long 0, .int (-1), .int 0, .ref m1w, .ref m2w, .ref m3w, .ref m4w, .int 0, .long 0, .long 0, .long 0])), (mw, .inl (cm3, 906, .inr (.inl fw)))] H := hP
  have hD : va_D A [(h1, .inr (12, [.int 0, .int 0, .ref mr, .ref mt, .ref mw, .ref mu, .ref mp, .ref mi, .ref mk, .ref ms, .int 0, .ref mv, .int 0, .int 0, .int 0, .int 0, .long 0, .int (-1), .int 0, .ref m1w, .ref m2w, .ref m3w, .ref m4w, .int 0, .long 0, .long 0, .long 0])), (mw, .inl (cm3, 906, .inr (.inl fw)))] := hD
  refine W.widen (k := 786) (n := 20946) (Nat.le_of_ble_eq_true rfl) (Nat.le_of_ble_eq_true rfl) ?_
  have hw : r_1 = 0 := hw
  subst hw
  refine lv_aload_n hx hb dL_law_814 rfl (lv_at hl 2 rfl) ?_
  have hPc := hP.sub (ws' := [(h1, .inr (12, [.int 0, .int 0, .ref mr, .ref mt, .ref mw, .ref mu, .ref mp, .ref mi, .ref mk, .ref ms, .int 0, .ref mv, .int 0, .int 0, .int 0, .int 0, .long 0, .int (-1), .int 0, .ref m1w, .ref m2w, .ref m3w, .ref m4w, .int 0, .long 0, .long 0, .long 0])), (mw, .inl (cm3, 906, .inr (.inl fw)))]) [0, 1] rfl
  have hDc := hD.sub (ws' := [(h1, .inr (12, [.int 0, .int 0, .ref mr, .ref mt, .ref mw, .ref mu, .ref mp, .ref mi, .ref mk, .ref ms, .int 0, .ref mv, .int 0, .int 0, .int 0, .int 0, .long 0, .int (-1), .int 0, .ref m1w, .ref m2w, .ref m3w, .ref m4w, .int 0, .long 0, .long 0, .long 0])), (mw, .inl (cm3, 906, .inr (.inl fw)))]) [0, 1] (by decide) rfl
  have hKc := hK.sub (tys' := [(cm3, .long)]) [0] rfl
  have hFc := va_free (wc := [(h1, .inr (12, [.int 0, .int 0, .ref mr, .ref mt, .ref mw, .ref mu, .ref mp, .ref mi, .ref mk, .ref ms, .int 0, .ref mv, .int 0, .int 0, .int 0, .int 0, .long 0, .int (-1), .int 0, .ref m1w, .ref m2w, .ref m3w, .ref m4w, .int 0, .long 0, .long 0, .long 0])), (mw, .inl (cm3, 906, .inr (.inl fw)))]) hD hS hA [0, 1] rfl
  refine va_calli (va_runV (As := []) (rest := [.int 0]) ⟨hx, hb, hml, hown, hts⟩ (c_X12_eligible l dC dI h1 mr mt mw mu mp mi mk ms mv m1w m2w m3w m4w cm3 fw H.size hw0 hw1 hw2 hw3 hw4 hw5) (cwV 0 hts (gi_V tb_c_X12_eligible tw_706.1 tw_707.1 tw_708.1 tw_435.1) rfl rfl rfl (by decide +kernel) ⟨Nat.le_of_ble_eq_true rfl, Nat.le_of_ble_eq_true rfl⟩) ⟨fun a U g mk q => by obtain ⟨q0, q1, qP, qK, qD⟩ := q; exact ⟨q0, q1, qP, va_K.moved (u := U) (U := U.calling g mk a) (Vm.Alike.refl U.vm) qK, qD⟩, va_recv hKc hPc (ci := 12) (q0 := 0) rfl rfl, fun U hU hW => ⟨rfl, by rw [hU], by rw [hU]; exact hPc, va_K.moved hW.alike hKc, hDc.weaken (fun _ _ _ _ => trivial)⟩⟩ rfl rfl hl.1 rfl (lv_room (Nat.le_of_ble_eq_true rfl)) dL_law_815 ⟨Nat.le_of_ble_eq_true rfl, Nat.le_of_ble_eq_true rfl⟩) hS (fun q _ h => hFc q h) hFc (fun r_2 u t H1 locs ht hvm hw hB hz1 hk1 hS => ?_)
  obtain ⟨hP1, hK1, hD1⟩ := hB
  rw [ht] at hP1
  have hK1 := va_K.moved hvm.symm hK1
  obtain ⟨hP, hD⟩ := va_join (wr := []) (w1 := []) hP hD [0, 1] [] rfl rfl (by decide) (by decide) hk1 hFc hP1 hD1
  generalize H1 = H at hP hS ⊢
  have hP : va_P (dC, dI) vwCl [] H := hP
  have hD : va_D A [] := hD
  refine W.widen (k := 786) (n := 20946) (Nat.le_of_ble_eq_true rfl) (Nat.le_of_ble_eq_true rfl) ?_
  have hw : r_2 = 0 := hw
  subst hw
  refine lv_icmp_eq (tgt := 1204) hx hb dL_law_818 (by decide) (fun _ => ?_) (fun c => absurd (by decide) c)
  exact law_next C0 hA hbA hAq (hK.sub [] rfl) (hP.sub [] rfl) (hD.sub [] (by decide) rfl) hS (lv_sub hl [0, 1, 2, 3] rfl)
set_option maxHeartbeats 4000000 in
set_option maxRecDepth 100000 in
theorem law_earliest {p : Program} {l : Launch} {e : Env} {s : State} {m : MethodId} {below : List Frame} {meth : Method} {c : Code} {dC : Nat → ClassId} {dI : Nat → Nat → Nat} {b : Nat} {xs : Nat → Int32} {A : Nat → Prop} (C0 : lw_At p s m meth c b 6 xs) (hA : ∀ q : Nat, s.heap.size ≤ q → A q) (hbA : ¬ A b) (hAq : ∀ q : Nat, A q → s.heap.size ≤ q) {h0 : Nat} {h1 : Nat} {te : Nat} {ta : Nat} {re : Nat} {no : Nat} {pa : Nat} {ac : Nat} {op : Nat} {im : Nat} {ik : Nat} {hi : Nat} {rf : Nat} {nt : Nat} {nl : Nat} {ns : Nat} {np : Nat} {mr : Nat} {mt : Nat} {mw : Nat} {mu : Nat} {mp : Nat} {mi : Nat} {mk : Nat} {ms : Nat} {mv : Nat} {m1w : Nat} {m2w : Nat} {m3w : Nat} {m4w : Nat} {cm3 : ClassId} {fw : Nat → Int64} {H : Heap} {locs : List Loc} {ls : Array Slot} (hw0 : fw 0 = 0) (hw1 : fw 1 = 0) (hw2 : fw 2 = 0) (hw3 : fw 3 = (-1)) (hw4 : fw 4 = (-1)) (hw5 : fw 5 = 0) (hK : va_K (dC, dI) vwCl [(cm3, .long)] s) (hP : va_P (dC, dI) vwCl [(h0, .inr (11, [.ref te, .ref ta, .ref re, .ref no, .ref pa, .ref ac, .ref op, .ref im, .ref ik, .ref hi, .ref rf, .int (-1)])), (no, .inr (6, [.ref te, .ref nt, .ref nl, .ref ns, .ref np, .int 0, .int 0, .long 0, .int (-1), .int (-1)])), (ns, .inr (10, [.long 0, .long 0])), (h1, .inr (12, [.int 0, .int 0, .ref mr, .ref mt, .ref mw, .ref mu, .ref mp, .ref mi, .ref mk, .ref ms, .int 0, .ref mv, .int 0, .int 0, .int 0, .int 0, .long 0, .int (-1), .int 0, .ref m1w, .ref m2w, .ref m3w, .ref m4w, .int 0, .long 0, .long 0, .long 0])), (mw, .inl (cm3, 906, .inr (.inl fw)))] H) (hD : va_D A [(h0, .inr (11, [.ref te, .ref ta, .ref re, .ref no, .ref pa, .ref ac, .ref op, .ref im, .ref ik, .ref hi, .ref rf, .int (-1)])), (no, .inr (6, [.ref te, .ref nt, .ref nl, .ref ns, .ref np, .int 0, .int 0, .long 0, .int (-1), .int (-1)])), (ns, .inr (10, [.long 0, .long 0])), (h1, .inr (12, [.int 0, .int 0, .ref mr, .ref mt, .ref mw, .ref mu, .ref mp, .ref mi, .ref mk, .ref ms, .int 0, .ref mv, .int 0, .int 0, .int 0, .int 0, .long 0, .int (-1), .int 0, .ref m1w, .ref m2w, .ref m3w, .ref m4w, .int 0, .long 0, .long 0, .long 0])), (mw, .inl (cm3, 906, .inr (.inl fw)))]) (hS : va_S A s.heap H locs) (hl : lv_has ls 4 [(0, .ref b), (1, .ref h0), (2, .ref h1), (3, .int 0)]) : W p l e room_1 s m #[Value.ref b] below meth c H locs 786 20946 (lw_Z below #[Value.ref b] s) (F0 m 823 ls []) := by
  obtain ⟨hx, hb, hr, hml, hown, hts, hX, hbl, hlocks, hgv⟩ := id C0
  have hown : s.vm.findClass RL = some m.cls := hown
  refine lv_aload_n hx hb dL_law_823 rfl (lv_at hl 1 rfl) ?_
  refine lv_aload_n hx hb dL_law_824 rfl (lv_at hl 0 rfl) ?_
  refine lv_iload_n hx hb dL_law_825 rfl (lv_at hl 3 rfl) ?_
  refine lv_iconst (v := 1) hx hb dL_law_826 (by decide) ?_
  refine lv_iadd hx hb dL_law_827 ?_
  refine k_topi (y := 1) (by decide) ?_
  refine va_sld hx hb hX hbl hbA hS (by unfold vp_in; decide) dL_law_828 ?_
  refine k_topi (y := xs 1) (congrArg xs (by decide)) ?_
  have hPc := hP.sub (ws' := [(h0, .inr (11, [.ref te, .ref ta, .ref re, .ref no, .ref pa, .ref ac, .ref op, .ref im, .ref ik, .ref hi, .ref rf, .int (-1)])), (no, .inr (6, [.ref te, .ref nt, .ref nl, .ref ns, .ref np, .int 0, .int 0, .long 0, .int (-1), .int (-1)])), (ns, .inr (10, [.long 0, .long 0]))]) [0, 1, 2] rfl
  have hDc := hD.sub (ws' := [(h0, .inr (11, [.ref te, .ref ta, .ref re, .ref no, .ref pa, .ref ac, .ref op, .ref im, .ref ik, .ref hi, .ref rf, .int (-1)])), (no, .inr (6, [.ref te, .ref nt, .ref nl, .ref ns, .ref np, .int 0, .int 0, .long 0, .int (-1), .int (-1)])), (ns, .inr (10, [.long 0, .long 0]))]) [0, 1, 2] (by decide) rfl
  have hKc := hK.sub (tys' := []) [] rfl
  have hFc := va_free (wc := [(h0, .inr (11, [.ref te, .ref ta, .ref re, .ref no, .ref pa, .ref ac, .ref op, .ref im, .ref ik, .ref hi, .ref rf, .int (-1)])), (no, .inr (6, [.ref te, .ref nt, .ref nl, .ref ns, .ref np, .int 0, .int 0, .long 0, .int (-1), .int (-1)])), (ns, .inr (10, [.long 0, .long 0]))]) hD hS hA [0, 1, 2] rfl
  refine va_calli (va_runV (As := [.int (xs 1)]) (rest := []) ⟨hx, hb, hml, hown, hts⟩ (c_X11_earliest l dC dI h0 (xs 1) te ta re no pa ac op im ik hi rf nt nl ns np H.size) (cwV 1 hts (gi_V tb_c_X11_earliest tw_709.1 tw_710.1 tw_711.1 tw_324.1) rfl rfl rfl (by decide +kernel) ⟨Nat.le_of_ble_eq_true rfl, Nat.le_of_ble_eq_true rfl⟩) ⟨fun a U g mk q => by obtain ⟨q0, q1, qP, qK, qD⟩ := q; exact ⟨q0, q1, qP, va_K.moved (u := U) (U := U.calling g mk a) (Vm.Alike.refl U.vm) qK, qD⟩, va_recv hKc hPc (ci := 11) (q0 := 0) rfl rfl, fun U hU hW => ⟨rfl, by rw [hU], by rw [hU]; exact hPc, va_K.moved hW.alike hKc, hDc.weaken (fun _ _ _ _ => trivial)⟩⟩ rfl rfl hl.1 rfl (lv_room (Nat.le_of_ble_eq_true rfl)) dL_law_829 ⟨Nat.le_of_ble_eq_true rfl, Nat.le_of_ble_eq_true rfl⟩) hS (fun q _ h => hFc q h) hFc (fun r_1 u t H1 locs ht hvm hw hB hz1 hk1 hS => ?_)
  obtain ⟨hP1, hK1, hD1⟩ := hB
  rw [ht] at hP1
  have hK1 := va_K.moved hvm.symm hK1
  obtain ⟨hP, hD⟩ := va_join (wr := [(h1, .inr (12, [.int 0, .int 0, .ref mr, .ref mt, .ref mw, .ref mu, .ref mp, .ref mi, .ref mk, .ref ms, .int 0, .ref mv, .int 0, .int 0, .int 0, .int 0, .long 0, .int (-1), .int 0, .ref m1w, .ref m2w, .ref m3w, .ref m4w, .int 0, .long 0, .long 0, .long 0])), (mw, .inl (cm3, 906, .inr (.inl fw)))]) (w1 := []) hP hD [0, 1, 2] [3, 4] rfl rfl (by decide) (by decide) hk1 hFc hP1 hD1
  generalize H1 = H at hP hS ⊢
  have hP : va_P (dC, dI) vwCl [(h1, .inr (12, [.int 0, .int 0, .ref mr, .ref mt, .ref mw, .ref mu, .ref mp, .ref mi, .ref mk, .ref ms, .int 0, .ref mv, .int 0, .int 0, .int 0, .int 0, .long 0, .int (-1), .int 0, .ref m1w, .ref m2w, .ref m3w, .ref m4w, .int 0, .long 0, .long 0, .long 0])), (mw, .inl (cm3, 906, .inr (.inl fw)))] H := hP
  have hD : va_D A [(h1, .inr (12, [.int 0, .int 0, .ref mr, .ref mt, .ref mw, .ref mu, .ref mp, .ref mi, .ref mk, .ref ms, .int 0, .ref mv, .int 0, .int 0, .int 0, .int 0, .long 0, .int (-1), .int 0, .ref m1w, .ref m2w, .ref m3w, .ref m4w, .int 0, .long 0, .long 0, .long 0])), (mw, .inl (cm3, 906, .inr (.inl fw)))] := hD
  refine W.widen (k := 786) (n := 20946) (Nat.le_of_ble_eq_true rfl) (Nat.le_of_ble_eq_true rfl) ?_
  have hw : r_1 = (-1) := hw
  subst hw
  refine lv_aload_n hx hb dL_law_832 rfl (lv_at hl 2 rfl) ?_
  refine lv_aload_n hx hb dL_law_833 rfl (lv_at hl 0 rfl) ?_
  refine lv_iload_n hx hb dL_law_834 rfl (lv_at hl 3 rfl) ?_
  refine lv_iconst (v := 1) hx hb dL_law_835 (by decide) ?_
  refine lv_iadd hx hb dL_law_836 ?_
  refine k_topi (y := 1) (by decide) ?_
  refine va_sld hx hb hX hbl hbA hS (by unfold vp_in; decide) dL_law_837 ?_
  refine k_topi (y := xs 1) (congrArg xs (by decide)) ?_
  have hPc := hP.sub (ws' := [(h1, .inr (12, [.int 0, .int 0, .ref mr, .ref mt, .ref mw, .ref mu, .ref mp, .ref mi, .ref mk, .ref ms, .int 0, .ref mv, .int 0, .int 0, .int 0, .int 0, .long 0, .int (-1), .int 0, .ref m1w, .ref m2w, .ref m3w, .ref m4w, .int 0, .long 0, .long 0, .long 0])), (mw, .inl (cm3, 906, .inr (.inl fw)))]) [0, 1] rfl
  have hDc := hD.sub (ws' := [(h1, .inr (12, [.int 0, .int 0, .ref mr, .ref mt, .ref mw, .ref mu, .ref mp, .ref mi, .ref mk, .ref ms, .int 0, .ref mv, .int 0, .int 0, .int 0, .int 0, .long 0, .int (-1), .int 0, .ref m1w, .ref m2w, .ref m3w, .ref m4w, .int 0, .long 0, .long 0, .long 0])), (mw, .inl (cm3, 906, .inr (.inl fw)))]) [0, 1] (by decide) rfl
  have hKc := hK.sub (tys' := [(cm3, .long)]) [0] rfl
  have hFc := va_free (wc := [(h1, .inr (12, [.int 0, .int 0, .ref mr, .ref mt, .ref mw, .ref mu, .ref mp, .ref mi, .ref mk, .ref ms, .int 0, .ref mv, .int 0, .int 0, .int 0, .int 0, .long 0, .int (-1), .int 0, .ref m1w, .ref m2w, .ref m3w, .ref m4w, .int 0, .long 0, .long 0, .long 0])), (mw, .inl (cm3, 906, .inr (.inl fw)))]) hD hS hA [0, 1] rfl
  refine va_calli (va_runV (As := [.int (xs 1)]) (rest := [.int (-1)]) ⟨hx, hb, hml, hown, hts⟩ (c_X12_earliest l dC dI h1 (xs 1) mr mt mw mu mp mi mk ms mv m1w m2w m3w m4w cm3 fw H.size hw0 hw1 hw2 hw3 hw4 hw5) (cwV 1 hts (gi_V tb_c_X12_earliest tw_712.1 tw_713.1 tw_714.1 tw_435.1) rfl rfl rfl (by decide +kernel) ⟨Nat.le_of_ble_eq_true rfl, Nat.le_of_ble_eq_true rfl⟩) ⟨fun a U g mk q => by obtain ⟨q0, q1, qP, qK, qD⟩ := q; exact ⟨q0, q1, qP, va_K.moved (u := U) (U := U.calling g mk a) (Vm.Alike.refl U.vm) qK, qD⟩, va_recv hKc hPc (ci := 12) (q0 := 0) rfl rfl, fun U hU hW => ⟨rfl, by rw [hU], by rw [hU]; exact hPc, va_K.moved hW.alike hKc, hDc.weaken (fun _ _ _ _ => trivial)⟩⟩ rfl rfl hl.1 rfl (lv_room (Nat.le_of_ble_eq_true rfl)) dL_law_838 ⟨Nat.le_of_ble_eq_true rfl, Nat.le_of_ble_eq_true rfl⟩) hS (fun q _ h => hFc q h) hFc (fun r_2 u t H1 locs ht hvm hw hB hz1 hk1 hS => ?_)
  obtain ⟨hP1, hK1, hD1⟩ := hB
  rw [ht] at hP1
  have hK1 := va_K.moved hvm.symm hK1
  obtain ⟨hP, hD⟩ := va_join (wr := []) (w1 := []) hP hD [0, 1] [] rfl rfl (by decide) (by decide) hk1 hFc hP1 hD1
  generalize H1 = H at hP hS ⊢
  have hP : va_P (dC, dI) vwCl [] H := hP
  have hD : va_D A [] := hD
  refine W.widen (k := 786) (n := 20946) (Nat.le_of_ble_eq_true rfl) (Nat.le_of_ble_eq_true rfl) ?_
  have hw : r_2 = (-1) := hw
  subst hw
  refine lv_icmp_eq (tgt := 1204) hx hb dL_law_841 (by decide) (fun _ => ?_) (fun c => absurd (by decide) c)
  exact law_next C0 hA hbA hAq (hK.sub [] rfl) (hP.sub [] rfl) (hD.sub [] (by decide) rfl) hS (lv_sub hl [0, 1, 2, 3] rfl)
set_option maxHeartbeats 4000000 in
set_option maxRecDepth 100000 in
theorem law_rank {p : Program} {l : Launch} {e : Env} {s : State} {m : MethodId} {below : List Frame} {meth : Method} {c : Code} {dC : Nat → ClassId} {dI : Nat → Nat → Nat} {b : Nat} {xs : Nat → Int32} {A : Nat → Prop} (C0 : lw_At p s m meth c b 6 xs) (hA : ∀ q : Nat, s.heap.size ≤ q → A q) (hbA : ¬ A b) (hAq : ∀ q : Nat, A q → s.heap.size ≤ q) {h0 : Nat} {h1 : Nat} {te : Nat} {ta : Nat} {re : Nat} {no : Nat} {pa : Nat} {ac : Nat} {op : Nat} {im : Nat} {ik : Nat} {hi : Nat} {rf : Nat} {nt : Nat} {nl : Nat} {ns : Nat} {np : Nat} {mr : Nat} {mt : Nat} {mw : Nat} {mu : Nat} {mp : Nat} {mi : Nat} {mk : Nat} {ms : Nat} {mv : Nat} {m1w : Nat} {m2w : Nat} {m3w : Nat} {m4w : Nat} {cm3 : ClassId} {fw : Nat → Int64} {H : Heap} {locs : List Loc} {ls : Array Slot} (hw0 : fw 0 = 0) (hw1 : fw 1 = 0) (hw2 : fw 2 = 0) (hw3 : fw 3 = (-1)) (hw4 : fw 4 = (-1)) (hw5 : fw 5 = 0) (hK : va_K (dC, dI) vwCl [(cm3, .long)] s) (hP : va_P (dC, dI) vwCl [(h0, .inr (11, [.ref te, .ref ta, .ref re, .ref no, .ref pa, .ref ac, .ref op, .ref im, .ref ik, .ref hi, .ref rf, .int (-1)])), (no, .inr (6, [.ref te, .ref nt, .ref nl, .ref ns, .ref np, .int 0, .int 0, .long 0, .int (-1), .int (-1)])), (h1, .inr (12, [.int 0, .int 0, .ref mr, .ref mt, .ref mw, .ref mu, .ref mp, .ref mi, .ref mk, .ref ms, .int 0, .ref mv, .int 0, .int 0, .int 0, .int 0, .long 0, .int (-1), .int 0, .ref m1w, .ref m2w, .ref m3w, .ref m4w, .int 0, .long 0, .long 0, .long 0])), (mw, .inl (cm3, 906, .inr (.inl fw)))] H) (hD : va_D A [(h0, .inr (11, [.ref te, .ref ta, .ref re, .ref no, .ref pa, .ref ac, .ref op, .ref im, .ref ik, .ref hi, .ref rf, .int (-1)])), (no, .inr (6, [.ref te, .ref nt, .ref nl, .ref ns, .ref np, .int 0, .int 0, .long 0, .int (-1), .int (-1)])), (h1, .inr (12, [.int 0, .int 0, .ref mr, .ref mt, .ref mw, .ref mu, .ref mp, .ref mi, .ref mk, .ref ms, .int 0, .ref mv, .int 0, .int 0, .int 0, .int 0, .long 0, .int (-1), .int 0, .ref m1w, .ref m2w, .ref m3w, .ref m4w, .int 0, .long 0, .long 0, .long 0])), (mw, .inl (cm3, 906, .inr (.inl fw)))]) (hS : va_S A s.heap H locs) (hl : lv_has ls 4 [(0, .ref b), (1, .ref h0), (2, .ref h1), (3, .int 0)]) : W p l e room_1 s m #[Value.ref b] below meth c H locs 786 20946 (lw_Z below #[Value.ref b] s) (F0 m 846 ls []) := by
  obtain ⟨hx, hb, hr, hml, hown, hts, hX, hbl, hlocks, hgv⟩ := id C0
  have hown : s.vm.findClass RL = some m.cls := hown
  refine lv_aload_n hx hb dL_law_846 rfl (lv_at hl 1 rfl) ?_
  refine lv_aload_n hx hb dL_law_847 rfl (lv_at hl 0 rfl) ?_
  refine lv_iload_n hx hb dL_law_848 rfl (lv_at hl 3 rfl) ?_
  refine lv_iconst (v := 1) hx hb dL_law_849 (by decide) ?_
  refine lv_iadd hx hb dL_law_850 ?_
  refine k_topi (y := 1) (by decide) ?_
  refine va_sld hx hb hX hbl hbA hS (by unfold vp_in; decide) dL_law_851 ?_
  refine k_topi (y := xs 1) (congrArg xs (by decide)) ?_
  have hPc := hP.sub (ws' := [(h0, .inr (11, [.ref te, .ref ta, .ref re, .ref no, .ref pa, .ref ac, .ref op, .ref im, .ref ik, .ref hi, .ref rf, .int (-1)])), (no, .inr (6, [.ref te, .ref nt, .ref nl, .ref ns, .ref np, .int 0, .int 0, .long 0, .int (-1), .int (-1)]))]) [0, 1] rfl
  have hDc := hD.sub (ws' := [(h0, .inr (11, [.ref te, .ref ta, .ref re, .ref no, .ref pa, .ref ac, .ref op, .ref im, .ref ik, .ref hi, .ref rf, .int (-1)])), (no, .inr (6, [.ref te, .ref nt, .ref nl, .ref ns, .ref np, .int 0, .int 0, .long 0, .int (-1), .int (-1)]))]) [0, 1] (by decide) rfl
  have hKc := hK.sub (tys' := []) [] rfl
  have hFc := va_free (wc := [(h0, .inr (11, [.ref te, .ref ta, .ref re, .ref no, .ref pa, .ref ac, .ref op, .ref im, .ref ik, .ref hi, .ref rf, .int (-1)])), (no, .inr (6, [.ref te, .ref nt, .ref nl, .ref ns, .ref np, .int 0, .int 0, .long 0, .int (-1), .int (-1)]))]) hD hS hA [0, 1] rfl
  refine va_calli (va_runV (As := [.int (xs 1)]) (rest := []) ⟨hx, hb, hml, hown, hts⟩ (c_X11_rank l dC dI h0 (xs 1) te ta re no pa ac op im ik hi rf nt nl ns np H.size) (cwV 1 hts (gi_V tb_c_X11_rank tw_715.1 tw_716.1 tw_717.1 tw_324.1) rfl rfl rfl (by decide +kernel) ⟨Nat.le_of_ble_eq_true rfl, Nat.le_of_ble_eq_true rfl⟩) ⟨fun a U g mk q => by obtain ⟨q0, q1, qP, qK, qD⟩ := q; exact ⟨q0, q1, qP, va_K.moved (u := U) (U := U.calling g mk a) (Vm.Alike.refl U.vm) qK, qD⟩, va_recv hKc hPc (ci := 11) (q0 := 0) rfl rfl, fun U hU hW => ⟨rfl, by rw [hU], by rw [hU]; exact hPc, va_K.moved hW.alike hKc, hDc.weaken (fun _ _ _ _ => trivial)⟩⟩ rfl rfl hl.1 rfl (lv_room (Nat.le_of_ble_eq_true rfl)) dL_law_852 ⟨Nat.le_of_ble_eq_true rfl, Nat.le_of_ble_eq_true rfl⟩) hS (fun q _ h => hFc q h) hFc (fun r_1 u t H1 locs ht hvm hw hB hz1 hk1 hS => ?_)
  obtain ⟨hP1, hK1, hD1⟩ := hB
  rw [ht] at hP1
  have hK1 := va_K.moved hvm.symm hK1
  obtain ⟨hP, hD⟩ := va_join (wr := [(h1, .inr (12, [.int 0, .int 0, .ref mr, .ref mt, .ref mw, .ref mu, .ref mp, .ref mi, .ref mk, .ref ms, .int 0, .ref mv, .int 0, .int 0, .int 0, .int 0, .long 0, .int (-1), .int 0, .ref m1w, .ref m2w, .ref m3w, .ref m4w, .int 0, .long 0, .long 0, .long 0])), (mw, .inl (cm3, 906, .inr (.inl fw)))]) (w1 := []) hP hD [0, 1] [2, 3] rfl rfl (by decide) (by decide) hk1 hFc hP1 hD1
  generalize H1 = H at hP hS ⊢
  have hP : va_P (dC, dI) vwCl [(h1, .inr (12, [.int 0, .int 0, .ref mr, .ref mt, .ref mw, .ref mu, .ref mp, .ref mi, .ref mk, .ref ms, .int 0, .ref mv, .int 0, .int 0, .int 0, .int 0, .long 0, .int (-1), .int 0, .ref m1w, .ref m2w, .ref m3w, .ref m4w, .int 0, .long 0, .long 0, .long 0])), (mw, .inl (cm3, 906, .inr (.inl fw)))] H := hP
  have hD : va_D A [(h1, .inr (12, [.int 0, .int 0, .ref mr, .ref mt, .ref mw, .ref mu, .ref mp, .ref mi, .ref mk, .ref ms, .int 0, .ref mv, .int 0, .int 0, .int 0, .int 0, .long 0, .int (-1), .int 0, .ref m1w, .ref m2w, .ref m3w, .ref m4w, .int 0, .long 0, .long 0, .long 0])), (mw, .inl (cm3, 906, .inr (.inl fw)))] := hD
  refine W.widen (k := 786) (n := 20946) (Nat.le_of_ble_eq_true rfl) (Nat.le_of_ble_eq_true rfl) ?_
  have hw : r_1 = (-1) := hw
  subst hw
  refine lv_aload_n hx hb dL_law_855 rfl (lv_at hl 2 rfl) ?_
  refine lv_aload_n hx hb dL_law_856 rfl (lv_at hl 0 rfl) ?_
  refine lv_iload_n hx hb dL_law_857 rfl (lv_at hl 3 rfl) ?_
  refine lv_iconst (v := 1) hx hb dL_law_858 (by decide) ?_
  refine lv_iadd hx hb dL_law_859 ?_
  refine k_topi (y := 1) (by decide) ?_
  refine va_sld hx hb hX hbl hbA hS (by unfold vp_in; decide) dL_law_860 ?_
  refine k_topi (y := xs 1) (congrArg xs (by decide)) ?_
  have hPc := hP.sub (ws' := [(h1, .inr (12, [.int 0, .int 0, .ref mr, .ref mt, .ref mw, .ref mu, .ref mp, .ref mi, .ref mk, .ref ms, .int 0, .ref mv, .int 0, .int 0, .int 0, .int 0, .long 0, .int (-1), .int 0, .ref m1w, .ref m2w, .ref m3w, .ref m4w, .int 0, .long 0, .long 0, .long 0])), (mw, .inl (cm3, 906, .inr (.inl fw)))]) [0, 1] rfl
  have hDc := hD.sub (ws' := [(h1, .inr (12, [.int 0, .int 0, .ref mr, .ref mt, .ref mw, .ref mu, .ref mp, .ref mi, .ref mk, .ref ms, .int 0, .ref mv, .int 0, .int 0, .int 0, .int 0, .long 0, .int (-1), .int 0, .ref m1w, .ref m2w, .ref m3w, .ref m4w, .int 0, .long 0, .long 0, .long 0])), (mw, .inl (cm3, 906, .inr (.inl fw)))]) [0, 1] (by decide) rfl
  have hKc := hK.sub (tys' := [(cm3, .long)]) [0] rfl
  have hFc := va_free (wc := [(h1, .inr (12, [.int 0, .int 0, .ref mr, .ref mt, .ref mw, .ref mu, .ref mp, .ref mi, .ref mk, .ref ms, .int 0, .ref mv, .int 0, .int 0, .int 0, .int 0, .long 0, .int (-1), .int 0, .ref m1w, .ref m2w, .ref m3w, .ref m4w, .int 0, .long 0, .long 0, .long 0])), (mw, .inl (cm3, 906, .inr (.inl fw)))]) hD hS hA [0, 1] rfl
  refine va_calli (va_runV (As := [.int (xs 1)]) (rest := [.int (-1)]) ⟨hx, hb, hml, hown, hts⟩ (c_X12_rank l dC dI h1 (xs 1) mr mt mw mu mp mi mk ms mv m1w m2w m3w m4w cm3 fw H.size hw0 hw1 hw2 hw3 hw4 hw5) (cwV 1 hts (gi_V tb_c_X12_rank tw_718.1 tw_719.1 tw_720.1 tw_435.1) rfl rfl rfl (by decide +kernel) ⟨Nat.le_of_ble_eq_true rfl, Nat.le_of_ble_eq_true rfl⟩) ⟨fun a U g mk q => by obtain ⟨q0, q1, qP, qK, qD⟩ := q; exact ⟨q0, q1, qP, va_K.moved (u := U) (U := U.calling g mk a) (Vm.Alike.refl U.vm) qK, qD⟩, va_recv hKc hPc (ci := 12) (q0 := 0) rfl rfl, fun U hU hW => ⟨rfl, by rw [hU], by rw [hU]; exact hPc, va_K.moved hW.alike hKc, hDc.weaken (fun _ _ _ _ => trivial)⟩⟩ rfl rfl hl.1 rfl (lv_room (Nat.le_of_ble_eq_true rfl)) dL_law_861 ⟨Nat.le_of_ble_eq_true rfl, Nat.le_of_ble_eq_true rfl⟩) hS (fun q _ h => hFc q h) hFc (fun r_2 u t H1 locs ht hvm hw hB hz1 hk1 hS => ?_)
  obtain ⟨hP1, hK1, hD1⟩ := hB
  rw [ht] at hP1
  have hK1 := va_K.moved hvm.symm hK1
  obtain ⟨hP, hD⟩ := va_join (wr := []) (w1 := []) hP hD [0, 1] [] rfl rfl (by decide) (by decide) hk1 hFc hP1 hD1
  generalize H1 = H at hP hS ⊢
  have hP : va_P (dC, dI) vwCl [] H := hP
  have hD : va_D A [] := hD
  refine W.widen (k := 786) (n := 20946) (Nat.le_of_ble_eq_true rfl) (Nat.le_of_ble_eq_true rfl) ?_
  have hw : r_2 = (-1) := hw
  subst hw
  refine lv_icmp_eq (tgt := 1204) hx hb dL_law_864 (by decide) (fun _ => ?_) (fun c => absurd (by decide) c)
  exact law_next C0 hA hbA hAq (hK.sub [] rfl) (hP.sub [] rfl) (hD.sub [] (by decide) rfl) hS (lv_sub hl [0, 1, 2, 3] rfl)
set_option maxHeartbeats 4000000 in
set_option maxRecDepth 100000 in
theorem law_ran {p : Program} {l : Launch} {e : Env} {s : State} {m : MethodId} {below : List Frame} {meth : Method} {c : Code} {dC : Nat → ClassId} {dI : Nat → Nat → Nat} {b : Nat} {xs : Nat → Int32} {A : Nat → Prop} (C0 : lw_At p s m meth c b 6 xs) (hA : ∀ q : Nat, s.heap.size ≤ q → A q) (hbA : ¬ A b) (hAq : ∀ q : Nat, A q → s.heap.size ≤ q) {h0 : Nat} {h1 : Nat} {te : Nat} {ta : Nat} {re : Nat} {no : Nat} {pa : Nat} {ac : Nat} {op : Nat} {im : Nat} {ik : Nat} {hi : Nat} {rf : Nat} {nt : Nat} {nl : Nat} {ns : Nat} {np : Nat} {mr : Nat} {mt : Nat} {mw : Nat} {mu : Nat} {mp : Nat} {mi : Nat} {mk : Nat} {ms : Nat} {mv : Nat} {m1w : Nat} {m2w : Nat} {m3w : Nat} {m4w : Nat} {cm3 : ClassId} {fw : Nat → Int64} {H : Heap} {locs : List Loc} {ls : Array Slot} (hw0 : fw 0 = 0) (hw1 : fw 1 = 0) (hw2 : fw 2 = 0) (hw3 : fw 3 = (-1)) (hw4 : fw 4 = (-1)) (hw5 : fw 5 = 0) (hK : va_K (dC, dI) vwCl [(cm3, .long)] s) (hP : va_P (dC, dI) vwCl [(h0, .inr (11, [.ref te, .ref ta, .ref re, .ref no, .ref pa, .ref ac, .ref op, .ref im, .ref ik, .ref hi, .ref rf, .int (-1)])), (no, .inr (6, [.ref te, .ref nt, .ref nl, .ref ns, .ref np, .int 0, .int 0, .long 0, .int (-1), .int (-1)])), (h1, .inr (12, [.int 0, .int 0, .ref mr, .ref mt, .ref mw, .ref mu, .ref mp, .ref mi, .ref mk, .ref ms, .int 0, .ref mv, .int 0, .int 0, .int 0, .int 0, .long 0, .int (-1), .int 0, .ref m1w, .ref m2w, .ref m3w, .ref m4w, .int 0, .long 0, .long 0, .long 0])), (mw, .inl (cm3, 906, .inr (.inl fw)))] H) (hD : va_D A [(h0, .inr (11, [.ref te, .ref ta, .ref re, .ref no, .ref pa, .ref ac, .ref op, .ref im, .ref ik, .ref hi, .ref rf, .int (-1)])), (no, .inr (6, [.ref te, .ref nt, .ref nl, .ref ns, .ref np, .int 0, .int 0, .long 0, .int (-1), .int (-1)])), (h1, .inr (12, [.int 0, .int 0, .ref mr, .ref mt, .ref mw, .ref mu, .ref mp, .ref mi, .ref mk, .ref ms, .int 0, .ref mv, .int 0, .int 0, .int 0, .int 0, .long 0, .int (-1), .int 0, .ref m1w, .ref m2w, .ref m3w, .ref m4w, .int 0, .long 0, .long 0, .long 0])), (mw, .inl (cm3, 906, .inr (.inl fw)))]) (hS : va_S A s.heap H locs) (hl : lv_has ls 4 [(0, .ref b), (1, .ref h0), (2, .ref h1), (3, .int 0)]) : W p l e room_1 s m #[Value.ref b] below meth c H locs 786 20946 (lw_Z below #[Value.ref b] s) (F0 m 869 ls []) := by
  obtain ⟨hx, hb, hr, hml, hown, hts, hX, hbl, hlocks, hgv⟩ := id C0
  have hown : s.vm.findClass RL = some m.cls := hown
  refine lv_aload_n hx hb dL_law_869 rfl (lv_at hl 1 rfl) ?_
  refine lv_aload_n hx hb dL_law_870 rfl (lv_at hl 0 rfl) ?_
  refine lv_iload_n hx hb dL_law_871 rfl (lv_at hl 3 rfl) ?_
  refine lv_iconst (v := 1) hx hb dL_law_872 (by decide) ?_
  refine lv_iadd hx hb dL_law_873 ?_
  refine k_topi (y := 1) (by decide) ?_
  refine va_sld hx hb hX hbl hbA hS (by unfold vp_in; decide) dL_law_874 ?_
  refine k_topi (y := xs 1) (congrArg xs (by decide)) ?_
  have hPc := hP.sub (ws' := [(h0, .inr (11, [.ref te, .ref ta, .ref re, .ref no, .ref pa, .ref ac, .ref op, .ref im, .ref ik, .ref hi, .ref rf, .int (-1)])), (no, .inr (6, [.ref te, .ref nt, .ref nl, .ref ns, .ref np, .int 0, .int 0, .long 0, .int (-1), .int (-1)]))]) [0, 1] rfl
  have hDc := hD.sub (ws' := [(h0, .inr (11, [.ref te, .ref ta, .ref re, .ref no, .ref pa, .ref ac, .ref op, .ref im, .ref ik, .ref hi, .ref rf, .int (-1)])), (no, .inr (6, [.ref te, .ref nt, .ref nl, .ref ns, .ref np, .int 0, .int 0, .long 0, .int (-1), .int (-1)]))]) [0, 1] (by decide) rfl
  have hKc := hK.sub (tys' := []) [] rfl
  have hFc := va_free (wc := [(h0, .inr (11, [.ref te, .ref ta, .ref re, .ref no, .ref pa, .ref ac, .ref op, .ref im, .ref ik, .ref hi, .ref rf, .int (-1)])), (no, .inr (6, [.ref te, .ref nt, .ref nl, .ref ns, .ref np, .int 0, .int 0, .long 0, .int (-1), .int (-1)]))]) hD hS hA [0, 1] rfl
  refine va_calli (va_runV (As := [.int (xs 1)]) (rest := []) ⟨hx, hb, hml, hown, hts⟩ (c_X11_ran l dC dI h0 (xs 1) te ta re no pa ac op im ik hi rf nt nl ns np H.size) (cwV 1 hts (gi_V tb_c_X11_ran tw_721.1 tw_722.1 tw_723.1 tw_324.1) rfl rfl rfl (by decide +kernel) ⟨Nat.le_of_ble_eq_true rfl, Nat.le_of_ble_eq_true rfl⟩) ⟨fun a U g mk q => by obtain ⟨q0, q1, qP, qK, qD⟩ := q; exact ⟨q0, q1, qP, va_K.moved (u := U) (U := U.calling g mk a) (Vm.Alike.refl U.vm) qK, qD⟩, va_recv hKc hPc (ci := 11) (q0 := 0) rfl rfl, fun U hU hW => ⟨rfl, by rw [hU], by rw [hU]; exact hPc, va_K.moved hW.alike hKc, hDc.weaken (fun _ _ _ _ => trivial)⟩⟩ rfl rfl hl.1 rfl (lv_room (Nat.le_of_ble_eq_true rfl)) dL_law_875 ⟨Nat.le_of_ble_eq_true rfl, Nat.le_of_ble_eq_true rfl⟩) hS (fun q _ h => hFc q h) hFc (fun r_1 u t H1 locs ht hvm hw hB hz1 hk1 hS => ?_)
  obtain ⟨hP1, hK1, hD1⟩ := hB
  rw [ht] at hP1
  have hK1 := va_K.moved hvm.symm hK1
  obtain ⟨hP, hD⟩ := va_join (wr := [(h1, .inr (12, [.int 0, .int 0, .ref mr, .ref mt, .ref mw, .ref mu, .ref mp, .ref mi, .ref mk, .ref ms, .int 0, .ref mv, .int 0, .int 0, .int 0, .int 0, .long 0, .int (-1), .int 0, .ref m1w, .ref m2w, .ref m3w, .ref m4w, .int 0, .long 0, .long 0, .long 0])), (mw, .inl (cm3, 906, .inr (.inl fw)))]) (w1 := []) hP hD [0, 1] [2, 3] rfl rfl (by decide) (by decide) hk1 hFc hP1 hD1
  generalize H1 = H at hP hS ⊢
  have hP : va_P (dC, dI) vwCl [(h1, .inr (12, [.int 0, .int 0, .ref mr, .ref mt, .ref mw, .ref mu, .ref mp, .ref mi, .ref mk, .ref ms, .int 0, .ref mv, .int 0, .int 0, .int 0, .int 0, .long 0, .int (-1), .int 0, .ref m1w, .ref m2w, .ref m3w, .ref m4w, .int 0, .long 0, .long 0, .long 0])), (mw, .inl (cm3, 906, .inr (.inl fw)))] H := hP
  have hD : va_D A [(h1, .inr (12, [.int 0, .int 0, .ref mr, .ref mt, .ref mw, .ref mu, .ref mp, .ref mi, .ref mk, .ref ms, .int 0, .ref mv, .int 0, .int 0, .int 0, .int 0, .long 0, .int (-1), .int 0, .ref m1w, .ref m2w, .ref m3w, .ref m4w, .int 0, .long 0, .long 0, .long 0])), (mw, .inl (cm3, 906, .inr (.inl fw)))] := hD
  refine W.widen (k := 786) (n := 20946) (Nat.le_of_ble_eq_true rfl) (Nat.le_of_ble_eq_true rfl) ?_
  have hw : r_1 = (-1) := hw
  subst hw
  refine lv_aload_n hx hb dL_law_878 rfl (lv_at hl 2 rfl) ?_
  refine lv_aload_n hx hb dL_law_879 rfl (lv_at hl 0 rfl) ?_
  refine lv_iload_n hx hb dL_law_880 rfl (lv_at hl 3 rfl) ?_
  refine lv_iconst (v := 1) hx hb dL_law_881 (by decide) ?_
  refine lv_iadd hx hb dL_law_882 ?_
  refine k_topi (y := 1) (by decide) ?_
  refine va_sld hx hb hX hbl hbA hS (by unfold vp_in; decide) dL_law_883 ?_
  refine k_topi (y := xs 1) (congrArg xs (by decide)) ?_
  have hPc := hP.sub (ws' := [(h1, .inr (12, [.int 0, .int 0, .ref mr, .ref mt, .ref mw, .ref mu, .ref mp, .ref mi, .ref mk, .ref ms, .int 0, .ref mv, .int 0, .int 0, .int 0, .int 0, .long 0, .int (-1), .int 0, .ref m1w, .ref m2w, .ref m3w, .ref m4w, .int 0, .long 0, .long 0, .long 0])), (mw, .inl (cm3, 906, .inr (.inl fw)))]) [0, 1] rfl
  have hDc := hD.sub (ws' := [(h1, .inr (12, [.int 0, .int 0, .ref mr, .ref mt, .ref mw, .ref mu, .ref mp, .ref mi, .ref mk, .ref ms, .int 0, .ref mv, .int 0, .int 0, .int 0, .int 0, .long 0, .int (-1), .int 0, .ref m1w, .ref m2w, .ref m3w, .ref m4w, .int 0, .long 0, .long 0, .long 0])), (mw, .inl (cm3, 906, .inr (.inl fw)))]) [0, 1] (by decide) rfl
  have hKc := hK.sub (tys' := [(cm3, .long)]) [0] rfl
  have hFc := va_free (wc := [(h1, .inr (12, [.int 0, .int 0, .ref mr, .ref mt, .ref mw, .ref mu, .ref mp, .ref mi, .ref mk, .ref ms, .int 0, .ref mv, .int 0, .int 0, .int 0, .int 0, .long 0, .int (-1), .int 0, .ref m1w, .ref m2w, .ref m3w, .ref m4w, .int 0, .long 0, .long 0, .long 0])), (mw, .inl (cm3, 906, .inr (.inl fw)))]) hD hS hA [0, 1] rfl
  refine va_calli (va_runV (As := [.int (xs 1)]) (rest := [.int (-1)]) ⟨hx, hb, hml, hown, hts⟩ (c_X12_ran l dC dI h1 (xs 1) mr mt mw mu mp mi mk ms mv m1w m2w m3w m4w cm3 fw H.size hw0 hw1 hw2 hw3 hw4 hw5) (cwV 1 hts (gi_V tb_c_X12_ran tw_724.1 tw_725.1 tw_726.1 tw_435.1) rfl rfl rfl (by decide +kernel) ⟨Nat.le_of_ble_eq_true rfl, Nat.le_of_ble_eq_true rfl⟩) ⟨fun a U g mk q => by obtain ⟨q0, q1, qP, qK, qD⟩ := q; exact ⟨q0, q1, qP, va_K.moved (u := U) (U := U.calling g mk a) (Vm.Alike.refl U.vm) qK, qD⟩, va_recv hKc hPc (ci := 12) (q0 := 0) rfl rfl, fun U hU hW => ⟨rfl, by rw [hU], by rw [hU]; exact hPc, va_K.moved hW.alike hKc, hDc.weaken (fun _ _ _ _ => trivial)⟩⟩ rfl rfl hl.1 rfl (lv_room (Nat.le_of_ble_eq_true rfl)) dL_law_884 ⟨Nat.le_of_ble_eq_true rfl, Nat.le_of_ble_eq_true rfl⟩) hS (fun q _ h => hFc q h) hFc (fun r_2 u t H1 locs ht hvm hw hB hz1 hk1 hS => ?_)
  obtain ⟨hP1, hK1, hD1⟩ := hB
  rw [ht] at hP1
  have hK1 := va_K.moved hvm.symm hK1
  obtain ⟨hP, hD⟩ := va_join (wr := []) (w1 := []) hP hD [0, 1] [] rfl rfl (by decide) (by decide) hk1 hFc hP1 hD1
  generalize H1 = H at hP hS ⊢
  have hP : va_P (dC, dI) vwCl [] H := hP
  have hD : va_D A [] := hD
  refine W.widen (k := 786) (n := 20946) (Nat.le_of_ble_eq_true rfl) (Nat.le_of_ble_eq_true rfl) ?_
  have hw : r_2 = (-1) := hw
  subst hw
  refine lv_icmp_eq (tgt := 1204) hx hb dL_law_887 (by decide) (fun _ => ?_) (fun c => absurd (by decide) c)
  exact law_next C0 hA hbA hAq (hK.sub [] rfl) (hP.sub [] rfl) (hD.sub [] (by decide) rfl) hS (lv_sub hl [0, 1, 2, 3] rfl)
set_option maxHeartbeats 4000000 in
set_option maxRecDepth 100000 in
theorem law_service {p : Program} {l : Launch} {e : Env} {s : State} {m : MethodId} {below : List Frame} {meth : Method} {c : Code} {dC : Nat → ClassId} {dI : Nat → Nat → Nat} {b : Nat} {xs : Nat → Int32} {A : Nat → Prop} (C0 : lw_At p s m meth c b 6 xs) (hA : ∀ q : Nat, s.heap.size ≤ q → A q) (hbA : ¬ A b) (hAq : ∀ q : Nat, A q → s.heap.size ≤ q) {h0 : Nat} {h1 : Nat} {te : Nat} {ta : Nat} {re : Nat} {no : Nat} {pa : Nat} {ac : Nat} {op : Nat} {im : Nat} {ik : Nat} {hi : Nat} {rf : Nat} {nt : Nat} {nl : Nat} {ns : Nat} {np : Nat} {mr : Nat} {mt : Nat} {mw : Nat} {mu : Nat} {mp : Nat} {mi : Nat} {mk : Nat} {ms : Nat} {mv : Nat} {m1w : Nat} {m2w : Nat} {m3w : Nat} {m4w : Nat} {cm3 : ClassId} {fw : Nat → Int64} {H : Heap} {locs : List Loc} {ls : Array Slot} (hw0 : fw 0 = 0) (hw1 : fw 1 = 0) (hw2 : fw 2 = 0) (hw3 : fw 3 = (-1)) (hw4 : fw 4 = (-1)) (hw5 : fw 5 = 0) (hK : va_K (dC, dI) vwCl [(cm3, .long)] s) (hP : va_P (dC, dI) vwCl [(h0, .inr (11, [.ref te, .ref ta, .ref re, .ref no, .ref pa, .ref ac, .ref op, .ref im, .ref ik, .ref hi, .ref rf, .int (-1)])), (no, .inr (6, [.ref te, .ref nt, .ref nl, .ref ns, .ref np, .int 0, .int 0, .long 0, .int (-1), .int (-1)])), (h1, .inr (12, [.int 0, .int 0, .ref mr, .ref mt, .ref mw, .ref mu, .ref mp, .ref mi, .ref mk, .ref ms, .int 0, .ref mv, .int 0, .int 0, .int 0, .int 0, .long 0, .int (-1), .int 0, .ref m1w, .ref m2w, .ref m3w, .ref m4w, .int 0, .long 0, .long 0, .long 0])), (mw, .inl (cm3, 906, .inr (.inl fw)))] H) (hD : va_D A [(h0, .inr (11, [.ref te, .ref ta, .ref re, .ref no, .ref pa, .ref ac, .ref op, .ref im, .ref ik, .ref hi, .ref rf, .int (-1)])), (no, .inr (6, [.ref te, .ref nt, .ref nl, .ref ns, .ref np, .int 0, .int 0, .long 0, .int (-1), .int (-1)])), (h1, .inr (12, [.int 0, .int 0, .ref mr, .ref mt, .ref mw, .ref mu, .ref mp, .ref mi, .ref mk, .ref ms, .int 0, .ref mv, .int 0, .int 0, .int 0, .int 0, .long 0, .int (-1), .int 0, .ref m1w, .ref m2w, .ref m3w, .ref m4w, .int 0, .long 0, .long 0, .long 0])), (mw, .inl (cm3, 906, .inr (.inl fw)))]) (hS : va_S A s.heap H locs) (hl : lv_has ls 4 [(0, .ref b), (1, .ref h0), (2, .ref h1), (3, .int 0)]) : W p l e room_1 s m #[Value.ref b] below meth c H locs 786 20946 (lw_Z below #[Value.ref b] s) (F0 m 892 ls []) := by
  obtain ⟨hx, hb, hr, hml, hown, hts, hX, hbl, hlocks, hgv⟩ := id C0
  have hown : s.vm.findClass RL = some m.cls := hown
  refine lv_aload_n hx hb dL_law_892 rfl (lv_at hl 1 rfl) ?_
  refine lv_aload_n hx hb dL_law_893 rfl (lv_at hl 0 rfl) ?_
  refine lv_iload_n hx hb dL_law_894 rfl (lv_at hl 3 rfl) ?_
  refine lv_iconst (v := 1) hx hb dL_law_895 (by decide) ?_
  refine lv_iadd hx hb dL_law_896 ?_
  refine k_topi (y := 1) (by decide) ?_
  refine va_sld hx hb hX hbl hbA hS (by unfold vp_in; decide) dL_law_897 ?_
  refine k_topi (y := xs 1) (congrArg xs (by decide)) ?_
  refine lv_aload_n hx hb dL_law_898 rfl (lv_at hl 0 rfl) ?_
  refine lv_iload_n hx hb dL_law_899 rfl (lv_at hl 3 rfl) ?_
  refine lv_iconst (v := 2) hx hb dL_law_900 (by decide) ?_
  refine lv_iadd hx hb dL_law_901 ?_
  refine k_topi (y := 2) (by decide) ?_
  refine va_sld hx hb hX hbl hbA hS (by unfold vp_in; decide) dL_law_902 ?_
  refine k_topi (y := xs 2) (congrArg xs (by decide)) ?_
  refine lv_aload_n hx hb dL_law_903 rfl (lv_at hl 0 rfl) ?_
  refine lv_iload_n hx hb dL_law_904 rfl (lv_at hl 3 rfl) ?_
  refine lv_iconst (v := 3) hx hb dL_law_905 (by decide) ?_
  refine lv_iadd hx hb dL_law_906 ?_
  refine k_topi (y := 3) (by decide) ?_
  refine va_sld hx hb hX hbl hbA hS (by unfold vp_in; decide) dL_law_907 ?_
  refine k_topi (y := xs 3) (congrArg xs (by decide)) ?_
  have hPc := hP.sub (ws' := [(h0, .inr (11, [.ref te, .ref ta, .ref re, .ref no, .ref pa, .ref ac, .ref op, .ref im, .ref ik, .ref hi, .ref rf, .int (-1)])), (no, .inr (6, [.ref te, .ref nt, .ref nl, .ref ns, .ref np, .int 0, .int 0, .long 0, .int (-1), .int (-1)]))]) [0, 1] rfl
  have hDc := hD.sub (ws' := [(h0, .inr (11, [.ref te, .ref ta, .ref re, .ref no, .ref pa, .ref ac, .ref op, .ref im, .ref ik, .ref hi, .ref rf, .int (-1)])), (no, .inr (6, [.ref te, .ref nt, .ref nl, .ref ns, .ref np, .int 0, .int 0, .long 0, .int (-1), .int (-1)]))]) [0, 1] (by decide) rfl
  have hKc := hK.sub (tys' := []) [] rfl
  have hFc := va_free (wc := [(h0, .inr (11, [.ref te, .ref ta, .ref re, .ref no, .ref pa, .ref ac, .ref op, .ref im, .ref ik, .ref hi, .ref rf, .int (-1)])), (no, .inr (6, [.ref te, .ref nt, .ref nl, .ref ns, .ref np, .int 0, .int 0, .long 0, .int (-1), .int (-1)]))]) hD hS hA [0, 1] rfl
  refine va_calli (va_runV (As := [.int (xs 1), .int (xs 2), .int (xs 3)]) (rest := []) ⟨hx, hb, hml, hown, hts⟩ (c_X11_service l dC dI h0 (xs 1) (xs 2) (xs 3) te ta re no pa ac op im ik hi rf nt nl ns np H.size) (cwV 3 hts (gi_V tb_c_X11_service tw_727.1 tw_728.1 tw_729.1 tw_324.1) rfl rfl rfl (by decide +kernel) ⟨Nat.le_of_ble_eq_true rfl, Nat.le_of_ble_eq_true rfl⟩) ⟨fun a U g mk q => by obtain ⟨q0, q1, qP, qK, qD⟩ := q; exact ⟨q0, q1, qP, va_K.moved (u := U) (U := U.calling g mk a) (Vm.Alike.refl U.vm) qK, qD⟩, va_recv hKc hPc (ci := 11) (q0 := 0) rfl rfl, fun U hU hW => ⟨rfl, by rw [hU], by rw [hU]; exact hPc, va_K.moved hW.alike hKc, hDc.weaken (fun _ _ _ _ => trivial)⟩⟩ rfl rfl hl.1 rfl (lv_room (Nat.le_of_ble_eq_true rfl)) dL_law_908 ⟨Nat.le_of_ble_eq_true rfl, Nat.le_of_ble_eq_true rfl⟩) hS (fun q _ h => hFc q h) hFc (fun r_1 u t H1 locs ht hvm hw hB hz1 hk1 hS => ?_)
  obtain ⟨hP1, hK1, hD1⟩ := hB
  rw [ht] at hP1
  have hK1 := va_K.moved hvm.symm hK1
  obtain ⟨hP, hD⟩ := va_join (wr := [(h1, .inr (12, [.int 0, .int 0, .ref mr, .ref mt, .ref mw, .ref mu, .ref mp, .ref mi, .ref mk, .ref ms, .int 0, .ref mv, .int 0, .int 0, .int 0, .int 0, .long 0, .int (-1), .int 0, .ref m1w, .ref m2w, .ref m3w, .ref m4w, .int 0, .long 0, .long 0, .long 0])), (mw, .inl (cm3, 906, .inr (.inl fw)))]) (w1 := []) hP hD [0, 1] [2, 3] rfl rfl (by decide) (by decide) hk1 hFc hP1 hD1
  generalize H1 = H at hP hS ⊢
  have hP : va_P (dC, dI) vwCl [(h1, .inr (12, [.int 0, .int 0, .ref mr, .ref mt, .ref mw, .ref mu, .ref mp, .ref mi, .ref mk, .ref ms, .int 0, .ref mv, .int 0, .int 0, .int 0, .int 0, .long 0, .int (-1), .int 0, .ref m1w, .ref m2w, .ref m3w, .ref m4w, .int 0, .long 0, .long 0, .long 0])), (mw, .inl (cm3, 906, .inr (.inl fw)))] H := hP
  have hD : va_D A [(h1, .inr (12, [.int 0, .int 0, .ref mr, .ref mt, .ref mw, .ref mu, .ref mp, .ref mi, .ref mk, .ref ms, .int 0, .ref mv, .int 0, .int 0, .int 0, .int 0, .long 0, .int (-1), .int 0, .ref m1w, .ref m2w, .ref m3w, .ref m4w, .int 0, .long 0, .long 0, .long 0])), (mw, .inl (cm3, 906, .inr (.inl fw)))] := hD
  refine W.widen (k := 786) (n := 20946) (Nat.le_of_ble_eq_true rfl) (Nat.le_of_ble_eq_true rfl) ?_
  have hw : r_1 = (-1) := hw
  subst hw
  refine lv_aload_n hx hb dL_law_911 rfl (lv_at hl 2 rfl) ?_
  refine lv_aload_n hx hb dL_law_912 rfl (lv_at hl 0 rfl) ?_
  refine lv_iload_n hx hb dL_law_913 rfl (lv_at hl 3 rfl) ?_
  refine lv_iconst (v := 1) hx hb dL_law_914 (by decide) ?_
  refine lv_iadd hx hb dL_law_915 ?_
  refine k_topi (y := 1) (by decide) ?_
  refine va_sld hx hb hX hbl hbA hS (by unfold vp_in; decide) dL_law_916 ?_
  refine k_topi (y := xs 1) (congrArg xs (by decide)) ?_
  refine lv_aload_n hx hb dL_law_917 rfl (lv_at hl 0 rfl) ?_
  refine lv_iload_n hx hb dL_law_918 rfl (lv_at hl 3 rfl) ?_
  refine lv_iconst (v := 2) hx hb dL_law_919 (by decide) ?_
  refine lv_iadd hx hb dL_law_920 ?_
  refine k_topi (y := 2) (by decide) ?_
  refine va_sld hx hb hX hbl hbA hS (by unfold vp_in; decide) dL_law_921 ?_
  refine k_topi (y := xs 2) (congrArg xs (by decide)) ?_
  refine lv_aload_n hx hb dL_law_922 rfl (lv_at hl 0 rfl) ?_
  refine lv_iload_n hx hb dL_law_923 rfl (lv_at hl 3 rfl) ?_
  refine lv_iconst (v := 3) hx hb dL_law_924 (by decide) ?_
  refine lv_iadd hx hb dL_law_925 ?_
  refine k_topi (y := 3) (by decide) ?_
  refine va_sld hx hb hX hbl hbA hS (by unfold vp_in; decide) dL_law_926 ?_
  refine k_topi (y := xs 3) (congrArg xs (by decide)) ?_
  have hPc := hP.sub (ws' := [(h1, .inr (12, [.int 0, .int 0, .ref mr, .ref mt, .ref mw, .ref mu, .ref mp, .ref mi, .ref mk, .ref ms, .int 0, .ref mv, .int 0, .int 0, .int 0, .int 0, .long 0, .int (-1), .int 0, .ref m1w, .ref m2w, .ref m3w, .ref m4w, .int 0, .long 0, .long 0, .long 0])), (mw, .inl (cm3, 906, .inr (.inl fw)))]) [0, 1] rfl
  have hDc := hD.sub (ws' := [(h1, .inr (12, [.int 0, .int 0, .ref mr, .ref mt, .ref mw, .ref mu, .ref mp, .ref mi, .ref mk, .ref ms, .int 0, .ref mv, .int 0, .int 0, .int 0, .int 0, .long 0, .int (-1), .int 0, .ref m1w, .ref m2w, .ref m3w, .ref m4w, .int 0, .long 0, .long 0, .long 0])), (mw, .inl (cm3, 906, .inr (.inl fw)))]) [0, 1] (by decide) rfl
  have hKc := hK.sub (tys' := [(cm3, .long)]) [0] rfl
  have hFc := va_free (wc := [(h1, .inr (12, [.int 0, .int 0, .ref mr, .ref mt, .ref mw, .ref mu, .ref mp, .ref mi, .ref mk, .ref ms, .int 0, .ref mv, .int 0, .int 0, .int 0, .int 0, .long 0, .int (-1), .int 0, .ref m1w, .ref m2w, .ref m3w, .ref m4w, .int 0, .long 0, .long 0, .long 0])), (mw, .inl (cm3, 906, .inr (.inl fw)))]) hD hS hA [0, 1] rfl
  refine va_calli (va_runV (As := [.int (xs 1), .int (xs 2), .int (xs 3)]) (rest := [.int (-1)]) ⟨hx, hb, hml, hown, hts⟩ (c_X12_service l dC dI h1 (xs 1) (xs 2) (xs 3) mr mt mw mu mp mi mk ms mv m1w m2w m3w m4w cm3 fw H.size hw0 hw1 hw2 hw3 hw4 hw5) (cwV 3 hts (gi_V tb_c_X12_service tw_730.1 tw_731.1 tw_732.1 tw_435.1) rfl rfl rfl (by decide +kernel) ⟨Nat.le_of_ble_eq_true rfl, Nat.le_of_ble_eq_true rfl⟩) ⟨fun a U g mk q => by obtain ⟨q0, q1, qP, qK, qD⟩ := q; exact ⟨q0, q1, qP, va_K.moved (u := U) (U := U.calling g mk a) (Vm.Alike.refl U.vm) qK, qD⟩, va_recv hKc hPc (ci := 12) (q0 := 0) rfl rfl, fun U hU hW => ⟨rfl, by rw [hU], by rw [hU]; exact hPc, va_K.moved hW.alike hKc, hDc.weaken (fun _ _ _ _ => trivial)⟩⟩ rfl rfl hl.1 rfl (lv_room (Nat.le_of_ble_eq_true rfl)) dL_law_927 ⟨Nat.le_of_ble_eq_true rfl, Nat.le_of_ble_eq_true rfl⟩) hS (fun q _ h => hFc q h) hFc (fun r_2 u t H1 locs ht hvm hw hB hz1 hk1 hS => ?_)
  obtain ⟨hP1, hK1, hD1⟩ := hB
  rw [ht] at hP1
  have hK1 := va_K.moved hvm.symm hK1
  obtain ⟨hP, hD⟩ := va_join (wr := []) (w1 := []) hP hD [0, 1] [] rfl rfl (by decide) (by decide) hk1 hFc hP1 hD1
  generalize H1 = H at hP hS ⊢
  have hP : va_P (dC, dI) vwCl [] H := hP
  have hD : va_D A [] := hD
  refine W.widen (k := 786) (n := 20946) (Nat.le_of_ble_eq_true rfl) (Nat.le_of_ble_eq_true rfl) ?_
  have hw : r_2 = (-1) := hw
  subst hw
  refine lv_icmp_eq (tgt := 1204) hx hb dL_law_930 (by decide) (fun _ => ?_) (fun c => absurd (by decide) c)
  exact law_next C0 hA hbA hAq (hK.sub [] rfl) (hP.sub [] rfl) (hD.sub [] (by decide) rfl) hS (lv_sub hl [0, 1, 2, 3] rfl)
set_option maxHeartbeats 4000000 in
set_option maxRecDepth 100000 in
theorem law_share {p : Program} {l : Launch} {e : Env} {s : State} {m : MethodId} {below : List Frame} {meth : Method} {c : Code} {dC : Nat → ClassId} {dI : Nat → Nat → Nat} {b : Nat} {xs : Nat → Int32} {A : Nat → Prop} (C0 : lw_At p s m meth c b 6 xs) (hA : ∀ q : Nat, s.heap.size ≤ q → A q) (hbA : ¬ A b) (hAq : ∀ q : Nat, A q → s.heap.size ≤ q) {h0 : Nat} {h1 : Nat} {te : Nat} {ta : Nat} {re : Nat} {no : Nat} {pa : Nat} {ac : Nat} {op : Nat} {im : Nat} {ik : Nat} {hi : Nat} {rf : Nat} {nt : Nat} {nl : Nat} {ns : Nat} {np : Nat} {mr : Nat} {mt : Nat} {mw : Nat} {mu : Nat} {mp : Nat} {mi : Nat} {mk : Nat} {ms : Nat} {mv : Nat} {m1w : Nat} {m2w : Nat} {m3w : Nat} {m4w : Nat} {cm3 : ClassId} {fw : Nat → Int64} {H : Heap} {locs : List Loc} {ls : Array Slot} (hw0 : fw 0 = 0) (hw1 : fw 1 = 0) (hw2 : fw 2 = 0) (hw3 : fw 3 = (-1)) (hw4 : fw 4 = (-1)) (hw5 : fw 5 = 0) (hK : va_K (dC, dI) vwCl [(cm3, .long)] s) (hP : va_P (dC, dI) vwCl [(h0, .inr (11, [.ref te, .ref ta, .ref re, .ref no, .ref pa, .ref ac, .ref op, .ref im, .ref ik, .ref hi, .ref rf, .int (-1)])), (no, .inr (6, [.ref te, .ref nt, .ref nl, .ref ns, .ref np, .int 0, .int 0, .long 0, .int (-1), .int (-1)])), (h1, .inr (12, [.int 0, .int 0, .ref mr, .ref mt, .ref mw, .ref mu, .ref mp, .ref mi, .ref mk, .ref ms, .int 0, .ref mv, .int 0, .int 0, .int 0, .int 0, .long 0, .int (-1), .int 0, .ref m1w, .ref m2w, .ref m3w, .ref m4w, .int 0, .long 0, .long 0, .long 0])), (mw, .inl (cm3, 906, .inr (.inl fw)))] H) (hD : va_D A [(h0, .inr (11, [.ref te, .ref ta, .ref re, .ref no, .ref pa, .ref ac, .ref op, .ref im, .ref ik, .ref hi, .ref rf, .int (-1)])), (no, .inr (6, [.ref te, .ref nt, .ref nl, .ref ns, .ref np, .int 0, .int 0, .long 0, .int (-1), .int (-1)])), (h1, .inr (12, [.int 0, .int 0, .ref mr, .ref mt, .ref mw, .ref mu, .ref mp, .ref mi, .ref mk, .ref ms, .int 0, .ref mv, .int 0, .int 0, .int 0, .int 0, .long 0, .int (-1), .int 0, .ref m1w, .ref m2w, .ref m3w, .ref m4w, .int 0, .long 0, .long 0, .long 0])), (mw, .inl (cm3, 906, .inr (.inl fw)))]) (hS : va_S A s.heap H locs) (hl : lv_has ls 4 [(0, .ref b), (1, .ref h0), (2, .ref h1), (3, .int 0)]) : W p l e room_1 s m #[Value.ref b] below meth c H locs 786 20946 (lw_Z below #[Value.ref b] s) (F0 m 935 ls []) := by
  obtain ⟨hx, hb, hr, hml, hown, hts, hX, hbl, hlocks, hgv⟩ := id C0
  have hown : s.vm.findClass RL = some m.cls := hown
  refine lv_aload_n hx hb dL_law_935 rfl (lv_at hl 1 rfl) ?_
  refine lv_aload_n hx hb dL_law_936 rfl (lv_at hl 0 rfl) ?_
  refine lv_iload_n hx hb dL_law_937 rfl (lv_at hl 3 rfl) ?_
  refine lv_iconst (v := 1) hx hb dL_law_938 (by decide) ?_
  refine lv_iadd hx hb dL_law_939 ?_
  refine k_topi (y := 1) (by decide) ?_
  refine va_sld hx hb hX hbl hbA hS (by unfold vp_in; decide) dL_law_940 ?_
  refine k_topi (y := xs 1) (congrArg xs (by decide)) ?_
  refine lv_aload_n hx hb dL_law_941 rfl (lv_at hl 0 rfl) ?_
  refine lv_iload_n hx hb dL_law_942 rfl (lv_at hl 3 rfl) ?_
  refine lv_iconst (v := 2) hx hb dL_law_943 (by decide) ?_
  refine lv_iadd hx hb dL_law_944 ?_
  refine k_topi (y := 2) (by decide) ?_
  refine va_sld hx hb hX hbl hbA hS (by unfold vp_in; decide) dL_law_945 ?_
  refine k_topi (y := xs 2) (congrArg xs (by decide)) ?_
  refine lv_aload_n hx hb dL_law_946 rfl (lv_at hl 0 rfl) ?_
  refine lv_iload_n hx hb dL_law_947 rfl (lv_at hl 3 rfl) ?_
  refine lv_iconst (v := 3) hx hb dL_law_948 (by decide) ?_
  refine lv_iadd hx hb dL_law_949 ?_
  refine k_topi (y := 3) (by decide) ?_
  refine va_sld hx hb hX hbl hbA hS (by unfold vp_in; decide) dL_law_950 ?_
  refine k_topi (y := xs 3) (congrArg xs (by decide)) ?_
  have hPc := hP.sub (ws' := [(h0, .inr (11, [.ref te, .ref ta, .ref re, .ref no, .ref pa, .ref ac, .ref op, .ref im, .ref ik, .ref hi, .ref rf, .int (-1)])), (no, .inr (6, [.ref te, .ref nt, .ref nl, .ref ns, .ref np, .int 0, .int 0, .long 0, .int (-1), .int (-1)]))]) [0, 1] rfl
  have hDc := hD.sub (ws' := [(h0, .inr (11, [.ref te, .ref ta, .ref re, .ref no, .ref pa, .ref ac, .ref op, .ref im, .ref ik, .ref hi, .ref rf, .int (-1)])), (no, .inr (6, [.ref te, .ref nt, .ref nl, .ref ns, .ref np, .int 0, .int 0, .long 0, .int (-1), .int (-1)]))]) [0, 1] (by decide) rfl
  have hKc := hK.sub (tys' := []) [] rfl
  have hFc := va_free (wc := [(h0, .inr (11, [.ref te, .ref ta, .ref re, .ref no, .ref pa, .ref ac, .ref op, .ref im, .ref ik, .ref hi, .ref rf, .int (-1)])), (no, .inr (6, [.ref te, .ref nt, .ref nl, .ref ns, .ref np, .int 0, .int 0, .long 0, .int (-1), .int (-1)]))]) hD hS hA [0, 1] rfl
  refine va_calll (va_runV (As := [.int (xs 1), .int (xs 2), .int (xs 3)]) (rest := []) ⟨hx, hb, hml, hown, hts⟩ (c_X11_share l dC dI h0 (xs 1) (xs 2) (xs 3) te ta re no pa ac op im ik hi rf nt nl ns np H.size) (cwV 3 hts (gi_V tb_c_X11_share tw_733.1 tw_734.1 tw_735.1 tw_324.1) rfl rfl rfl (by decide +kernel) ⟨Nat.le_of_ble_eq_true rfl, Nat.le_of_ble_eq_true rfl⟩) ⟨fun a U g mk q => by obtain ⟨q0, q1, qP, qK, qD⟩ := q; exact ⟨q0, q1, qP, va_K.moved (u := U) (U := U.calling g mk a) (Vm.Alike.refl U.vm) qK, qD⟩, va_recv hKc hPc (ci := 11) (q0 := 0) rfl rfl, fun U hU hW => ⟨rfl, by rw [hU], by rw [hU]; exact hPc, va_K.moved hW.alike hKc, hDc.weaken (fun _ _ _ _ => trivial)⟩⟩ rfl rfl hl.1 rfl (lv_room (Nat.le_of_ble_eq_true rfl)) dL_law_951 ⟨Nat.le_of_ble_eq_true rfl, Nat.le_of_ble_eq_true rfl⟩) hS (fun q _ h => hFc q h) hFc (fun r_1 u t H1 locs ht hvm hw hB hz1 hk1 hS => ?_)
  obtain ⟨hP1, hK1, hD1⟩ := hB
  rw [ht] at hP1
  have hK1 := va_K.moved hvm.symm hK1
  obtain ⟨hP, hD⟩ := va_join (wr := [(h1, .inr (12, [.int 0, .int 0, .ref mr, .ref mt, .ref mw, .ref mu, .ref mp, .ref mi, .ref mk, .ref ms, .int 0, .ref mv, .int 0, .int 0, .int 0, .int 0, .long 0, .int (-1), .int 0, .ref m1w, .ref m2w, .ref m3w, .ref m4w, .int 0, .long 0, .long 0, .long 0])), (mw, .inl (cm3, 906, .inr (.inl fw)))]) (w1 := []) hP hD [0, 1] [2, 3] rfl rfl (by decide) (by decide) hk1 hFc hP1 hD1
  generalize H1 = H at hP hS ⊢
  have hP : va_P (dC, dI) vwCl [(h1, .inr (12, [.int 0, .int 0, .ref mr, .ref mt, .ref mw, .ref mu, .ref mp, .ref mi, .ref mk, .ref ms, .int 0, .ref mv, .int 0, .int 0, .int 0, .int 0, .long 0, .int (-1), .int 0, .ref m1w, .ref m2w, .ref m3w, .ref m4w, .int 0, .long 0, .long 0, .long 0])), (mw, .inl (cm3, 906, .inr (.inl fw)))] H := hP
  have hD : va_D A [(h1, .inr (12, [.int 0, .int 0, .ref mr, .ref mt, .ref mw, .ref mu, .ref mp, .ref mi, .ref mk, .ref ms, .int 0, .ref mv, .int 0, .int 0, .int 0, .int 0, .long 0, .int (-1), .int 0, .ref m1w, .ref m2w, .ref m3w, .ref m4w, .int 0, .long 0, .long 0, .long 0])), (mw, .inl (cm3, 906, .inr (.inl fw)))] := hD
  refine W.widen (k := 786) (n := 20946) (Nat.le_of_ble_eq_true rfl) (Nat.le_of_ble_eq_true rfl) ?_
  have hw : r_1 = (-9223372036854775808) := hw
  subst hw
  refine lv_aload_n hx hb dL_law_954 rfl (lv_at hl 2 rfl) ?_
  refine lv_aload_n hx hb dL_law_955 rfl (lv_at hl 0 rfl) ?_
  refine lv_iload_n hx hb dL_law_956 rfl (lv_at hl 3 rfl) ?_
  refine lv_iconst (v := 1) hx hb dL_law_957 (by decide) ?_
  refine lv_iadd hx hb dL_law_958 ?_
  refine k_topi (y := 1) (by decide) ?_
  refine va_sld hx hb hX hbl hbA hS (by unfold vp_in; decide) dL_law_959 ?_
  refine k_topi (y := xs 1) (congrArg xs (by decide)) ?_
  refine lv_aload_n hx hb dL_law_960 rfl (lv_at hl 0 rfl) ?_
  refine lv_iload_n hx hb dL_law_961 rfl (lv_at hl 3 rfl) ?_
  refine lv_iconst (v := 2) hx hb dL_law_962 (by decide) ?_
  refine lv_iadd hx hb dL_law_963 ?_
  refine k_topi (y := 2) (by decide) ?_
  refine va_sld hx hb hX hbl hbA hS (by unfold vp_in; decide) dL_law_964 ?_
  refine k_topi (y := xs 2) (congrArg xs (by decide)) ?_
  refine lv_aload_n hx hb dL_law_965 rfl (lv_at hl 0 rfl) ?_
  refine lv_iload_n hx hb dL_law_966 rfl (lv_at hl 3 rfl) ?_
  refine lv_iconst (v := 3) hx hb dL_law_967 (by decide) ?_
  refine lv_iadd hx hb dL_law_968 ?_
  refine k_topi (y := 3) (by decide) ?_
  refine va_sld hx hb hX hbl hbA hS (by unfold vp_in; decide) dL_law_969 ?_
  refine k_topi (y := xs 3) (congrArg xs (by decide)) ?_
  have hPc := hP.sub (ws' := [(h1, .inr (12, [.int 0, .int 0, .ref mr, .ref mt, .ref mw, .ref mu, .ref mp, .ref mi, .ref mk, .ref ms, .int 0, .ref mv, .int 0, .int 0, .int 0, .int 0, .long 0, .int (-1), .int 0, .ref m1w, .ref m2w, .ref m3w, .ref m4w, .int 0, .long 0, .long 0, .long 0])), (mw, .inl (cm3, 906, .inr (.inl fw)))]) [0, 1] rfl
  have hDc := hD.sub (ws' := [(h1, .inr (12, [.int 0, .int 0, .ref mr, .ref mt, .ref mw, .ref mu, .ref mp, .ref mi, .ref mk, .ref ms, .int 0, .ref mv, .int 0, .int 0, .int 0, .int 0, .long 0, .int (-1), .int 0, .ref m1w, .ref m2w, .ref m3w, .ref m4w, .int 0, .long 0, .long 0, .long 0])), (mw, .inl (cm3, 906, .inr (.inl fw)))]) [0, 1] (by decide) rfl
  have hKc := hK.sub (tys' := [(cm3, .long)]) [0] rfl
  have hFc := va_free (wc := [(h1, .inr (12, [.int 0, .int 0, .ref mr, .ref mt, .ref mw, .ref mu, .ref mp, .ref mi, .ref mk, .ref ms, .int 0, .ref mv, .int 0, .int 0, .int 0, .int 0, .long 0, .int (-1), .int 0, .ref m1w, .ref m2w, .ref m3w, .ref m4w, .int 0, .long 0, .long 0, .long 0])), (mw, .inl (cm3, 906, .inr (.inl fw)))]) hD hS hA [0, 1] rfl
  refine va_calll (va_runV (As := [.int (xs 1), .int (xs 2), .int (xs 3)]) (rest := [.long (-9223372036854775808)]) ⟨hx, hb, hml, hown, hts⟩ (c_X12_share l dC dI h1 (xs 1) (xs 2) (xs 3) mr mt mw mu mp mi mk ms mv m1w m2w m3w m4w cm3 fw H.size hw0 hw1 hw2 hw3 hw4 hw5) (cwV 3 hts (gi_V tb_c_X12_share tw_736.1 tw_737.1 tw_738.1 tw_435.1) rfl rfl rfl (by decide +kernel) ⟨Nat.le_of_ble_eq_true rfl, Nat.le_of_ble_eq_true rfl⟩) ⟨fun a U g mk q => by obtain ⟨q0, q1, qP, qK, qD⟩ := q; exact ⟨q0, q1, qP, va_K.moved (u := U) (U := U.calling g mk a) (Vm.Alike.refl U.vm) qK, qD⟩, va_recv hKc hPc (ci := 12) (q0 := 0) rfl rfl, fun U hU hW => ⟨rfl, by rw [hU], by rw [hU]; exact hPc, va_K.moved hW.alike hKc, hDc.weaken (fun _ _ _ _ => trivial)⟩⟩ rfl rfl hl.1 rfl (lv_room (Nat.le_of_ble_eq_true rfl)) dL_law_970 ⟨Nat.le_of_ble_eq_true rfl, Nat.le_of_ble_eq_true rfl⟩) hS (fun q _ h => hFc q h) hFc (fun r_2 u t H1 locs ht hvm hw hB hz1 hk1 hS => ?_)
  obtain ⟨hP1, hK1, hD1⟩ := hB
  rw [ht] at hP1
  have hK1 := va_K.moved hvm.symm hK1
  obtain ⟨hP, hD⟩ := va_join (wr := []) (w1 := []) hP hD [0, 1] [] rfl rfl (by decide) (by decide) hk1 hFc hP1 hD1
  generalize H1 = H at hP hS ⊢
  have hP : va_P (dC, dI) vwCl [] H := hP
  have hD : va_D A [] := hD
  refine W.widen (k := 786) (n := 20946) (Nat.le_of_ble_eq_true rfl) (Nat.le_of_ble_eq_true rfl) ?_
  have hw : r_2 = (-9223372036854775808) := hw
  subst hw
  refine W.lcmp hx hb dL_law_973 ?_
  refine k_topi (y := 0) (by decide) ?_
  refine lv_if_eq (tgt := 1204) hx hb dL_law_974 (by decide) (fun _ => ?_) (fun c => absurd (by decide) c)
  exact law_next C0 hA hbA hAq (hK.sub [] rfl) (hP.sub [] rfl) (hD.sub [] (by decide) rfl) hS (lv_sub hl [0, 1, 2, 3] rfl)
set_option maxHeartbeats 4000000 in
set_option maxRecDepth 100000 in
theorem law_worst {p : Program} {l : Launch} {e : Env} {s : State} {m : MethodId} {below : List Frame} {meth : Method} {c : Code} {dC : Nat → ClassId} {dI : Nat → Nat → Nat} {b : Nat} {xs : Nat → Int32} {A : Nat → Prop} (C0 : lw_At p s m meth c b 6 xs) (hA : ∀ q : Nat, s.heap.size ≤ q → A q) (hbA : ¬ A b) (hAq : ∀ q : Nat, A q → s.heap.size ≤ q) {h0 : Nat} {h1 : Nat} {te : Nat} {ta : Nat} {re : Nat} {no : Nat} {pa : Nat} {ac : Nat} {op : Nat} {im : Nat} {ik : Nat} {hi : Nat} {rf : Nat} {nt : Nat} {nl : Nat} {ns : Nat} {np : Nat} {mr : Nat} {mt : Nat} {mw : Nat} {mu : Nat} {mp : Nat} {mi : Nat} {mk : Nat} {ms : Nat} {mv : Nat} {m1w : Nat} {m2w : Nat} {m3w : Nat} {m4w : Nat} {cm3 : ClassId} {fw : Nat → Int64} {H : Heap} {locs : List Loc} {ls : Array Slot} (hw0 : fw 0 = 0) (hw1 : fw 1 = 0) (hw2 : fw 2 = 0) (hw3 : fw 3 = (-1)) (hw4 : fw 4 = (-1)) (hw5 : fw 5 = 0) (hK : va_K (dC, dI) vwCl [(cm3, .long)] s) (hP : va_P (dC, dI) vwCl [(h0, .inr (11, [.ref te, .ref ta, .ref re, .ref no, .ref pa, .ref ac, .ref op, .ref im, .ref ik, .ref hi, .ref rf, .int (-1)])), (no, .inr (6, [.ref te, .ref nt, .ref nl, .ref ns, .ref np, .int 0, .int 0, .long 0, .int (-1), .int (-1)])), (h1, .inr (12, [.int 0, .int 0, .ref mr, .ref mt, .ref mw, .ref mu, .ref mp, .ref mi, .ref mk, .ref ms, .int 0, .ref mv, .int 0, .int 0, .int 0, .int 0, .long 0, .int (-1), .int 0, .ref m1w, .ref m2w, .ref m3w, .ref m4w, .int 0, .long 0, .long 0, .long 0])), (mw, .inl (cm3, 906, .inr (.inl fw)))] H) (hD : va_D A [(h0, .inr (11, [.ref te, .ref ta, .ref re, .ref no, .ref pa, .ref ac, .ref op, .ref im, .ref ik, .ref hi, .ref rf, .int (-1)])), (no, .inr (6, [.ref te, .ref nt, .ref nl, .ref ns, .ref np, .int 0, .int 0, .long 0, .int (-1), .int (-1)])), (h1, .inr (12, [.int 0, .int 0, .ref mr, .ref mt, .ref mw, .ref mu, .ref mp, .ref mi, .ref mk, .ref ms, .int 0, .ref mv, .int 0, .int 0, .int 0, .int 0, .long 0, .int (-1), .int 0, .ref m1w, .ref m2w, .ref m3w, .ref m4w, .int 0, .long 0, .long 0, .long 0])), (mw, .inl (cm3, 906, .inr (.inl fw)))]) (hS : va_S A s.heap H locs) (hl : lv_has ls 4 [(0, .ref b), (1, .ref h0), (2, .ref h1), (3, .int 0)]) : W p l e room_1 s m #[Value.ref b] below meth c H locs 786 20946 (lw_Z below #[Value.ref b] s) (F0 m 979 ls []) := by
  obtain ⟨hx, hb, hr, hml, hown, hts, hX, hbl, hlocks, hgv⟩ := id C0
  have hown : s.vm.findClass RL = some m.cls := hown
  refine lv_aload_n hx hb dL_law_979 rfl (lv_at hl 1 rfl) ?_
  refine lv_aload_n hx hb dL_law_980 rfl (lv_at hl 0 rfl) ?_
  refine lv_iload_n hx hb dL_law_981 rfl (lv_at hl 3 rfl) ?_
  refine lv_iconst (v := 1) hx hb dL_law_982 (by decide) ?_
  refine lv_iadd hx hb dL_law_983 ?_
  refine k_topi (y := 1) (by decide) ?_
  refine va_sld hx hb hX hbl hbA hS (by unfold vp_in; decide) dL_law_984 ?_
  refine k_topi (y := xs 1) (congrArg xs (by decide)) ?_
  refine lv_aload_n hx hb dL_law_985 rfl (lv_at hl 0 rfl) ?_
  refine lv_iload_n hx hb dL_law_986 rfl (lv_at hl 3 rfl) ?_
  refine lv_iconst (v := 2) hx hb dL_law_987 (by decide) ?_
  refine lv_iadd hx hb dL_law_988 ?_
  refine k_topi (y := 2) (by decide) ?_
  refine va_sld hx hb hX hbl hbA hS (by unfold vp_in; decide) dL_law_989 ?_
  refine k_topi (y := xs 2) (congrArg xs (by decide)) ?_
  have hPc := hP.sub (ws' := [(h0, .inr (11, [.ref te, .ref ta, .ref re, .ref no, .ref pa, .ref ac, .ref op, .ref im, .ref ik, .ref hi, .ref rf, .int (-1)])), (no, .inr (6, [.ref te, .ref nt, .ref nl, .ref ns, .ref np, .int 0, .int 0, .long 0, .int (-1), .int (-1)]))]) [0, 1] rfl
  have hDc := hD.sub (ws' := [(h0, .inr (11, [.ref te, .ref ta, .ref re, .ref no, .ref pa, .ref ac, .ref op, .ref im, .ref ik, .ref hi, .ref rf, .int (-1)])), (no, .inr (6, [.ref te, .ref nt, .ref nl, .ref ns, .ref np, .int 0, .int 0, .long 0, .int (-1), .int (-1)]))]) [0, 1] (by decide) rfl
  have hKc := hK.sub (tys' := []) [] rfl
  have hFc := va_free (wc := [(h0, .inr (11, [.ref te, .ref ta, .ref re, .ref no, .ref pa, .ref ac, .ref op, .ref im, .ref ik, .ref hi, .ref rf, .int (-1)])), (no, .inr (6, [.ref te, .ref nt, .ref nl, .ref ns, .ref np, .int 0, .int 0, .long 0, .int (-1), .int (-1)]))]) hD hS hA [0, 1] rfl
  refine va_calll (va_runV (As := [.int (xs 1), .int (xs 2)]) (rest := []) ⟨hx, hb, hml, hown, hts⟩ (c_X11_worst l dC dI h0 (xs 1) (xs 2) te ta re no pa ac op im ik hi rf nt nl ns np H.size) (cwV 2 hts (gi_V tb_c_X11_worst tw_739.1 tw_740.1 tw_741.1 tw_324.1) rfl rfl rfl (by decide +kernel) ⟨Nat.le_of_ble_eq_true rfl, Nat.le_of_ble_eq_true rfl⟩) ⟨fun a U g mk q => by obtain ⟨q0, q1, qP, qK, qD⟩ := q; exact ⟨q0, q1, qP, va_K.moved (u := U) (U := U.calling g mk a) (Vm.Alike.refl U.vm) qK, qD⟩, va_recv hKc hPc (ci := 11) (q0 := 0) rfl rfl, fun U hU hW => ⟨rfl, by rw [hU], by rw [hU]; exact hPc, va_K.moved hW.alike hKc, hDc.weaken (fun _ _ _ _ => trivial)⟩⟩ rfl rfl hl.1 rfl (lv_room (Nat.le_of_ble_eq_true rfl)) dL_law_990 ⟨Nat.le_of_ble_eq_true rfl, Nat.le_of_ble_eq_true rfl⟩) hS (fun q _ h => hFc q h) hFc (fun r_1 u t H1 locs ht hvm hw hB hz1 hk1 hS => ?_)
  obtain ⟨hP1, hK1, hD1⟩ := hB
  rw [ht] at hP1
  have hK1 := va_K.moved hvm.symm hK1
  obtain ⟨hP, hD⟩ := va_join (wr := [(h1, .inr (12, [.int 0, .int 0, .ref mr, .ref mt, .ref mw, .ref mu, .ref mp, .ref mi, .ref mk, .ref ms, .int 0, .ref mv, .int 0, .int 0, .int 0, .int 0, .long 0, .int (-1), .int 0, .ref m1w, .ref m2w, .ref m3w, .ref m4w, .int 0, .long 0, .long 0, .long 0])), (mw, .inl (cm3, 906, .inr (.inl fw)))]) (w1 := []) hP hD [0, 1] [2, 3] rfl rfl (by decide) (by decide) hk1 hFc hP1 hD1
  generalize H1 = H at hP hS ⊢
  have hP : va_P (dC, dI) vwCl [(h1, .inr (12, [.int 0, .int 0, .ref mr, .ref mt, .ref mw, .ref mu, .ref mp, .ref mi, .ref mk, .ref ms, .int 0, .ref mv, .int 0, .int 0, .int 0, .int 0, .long 0, .int (-1), .int 0, .ref m1w, .ref m2w, .ref m3w, .ref m4w, .int 0, .long 0, .long 0, .long 0])), (mw, .inl (cm3, 906, .inr (.inl fw)))] H := hP
  have hD : va_D A [(h1, .inr (12, [.int 0, .int 0, .ref mr, .ref mt, .ref mw, .ref mu, .ref mp, .ref mi, .ref mk, .ref ms, .int 0, .ref mv, .int 0, .int 0, .int 0, .int 0, .long 0, .int (-1), .int 0, .ref m1w, .ref m2w, .ref m3w, .ref m4w, .int 0, .long 0, .long 0, .long 0])), (mw, .inl (cm3, 906, .inr (.inl fw)))] := hD
  refine W.widen (k := 786) (n := 20946) (Nat.le_of_ble_eq_true rfl) (Nat.le_of_ble_eq_true rfl) ?_
  have hw : r_1 = (-9223372036854775808) := hw
  subst hw
  refine lv_aload_n hx hb dL_law_993 rfl (lv_at hl 2 rfl) ?_
  refine lv_aload_n hx hb dL_law_994 rfl (lv_at hl 0 rfl) ?_
  refine lv_iload_n hx hb dL_law_995 rfl (lv_at hl 3 rfl) ?_
  refine lv_iconst (v := 1) hx hb dL_law_996 (by decide) ?_
  refine lv_iadd hx hb dL_law_997 ?_
  refine k_topi (y := 1) (by decide) ?_
  refine va_sld hx hb hX hbl hbA hS (by unfold vp_in; decide) dL_law_998 ?_
  refine k_topi (y := xs 1) (congrArg xs (by decide)) ?_
  refine lv_aload_n hx hb dL_law_999 rfl (lv_at hl 0 rfl) ?_
  refine lv_iload_n hx hb dL_law_1000 rfl (lv_at hl 3 rfl) ?_
  refine lv_iconst (v := 2) hx hb dL_law_1001 (by decide) ?_
  refine lv_iadd hx hb dL_law_1002 ?_
  refine k_topi (y := 2) (by decide) ?_
  refine va_sld hx hb hX hbl hbA hS (by unfold vp_in; decide) dL_law_1003 ?_
  refine k_topi (y := xs 2) (congrArg xs (by decide)) ?_
  have hPc := hP.sub (ws' := [(h1, .inr (12, [.int 0, .int 0, .ref mr, .ref mt, .ref mw, .ref mu, .ref mp, .ref mi, .ref mk, .ref ms, .int 0, .ref mv, .int 0, .int 0, .int 0, .int 0, .long 0, .int (-1), .int 0, .ref m1w, .ref m2w, .ref m3w, .ref m4w, .int 0, .long 0, .long 0, .long 0])), (mw, .inl (cm3, 906, .inr (.inl fw)))]) [0, 1] rfl
  have hDc := hD.sub (ws' := [(h1, .inr (12, [.int 0, .int 0, .ref mr, .ref mt, .ref mw, .ref mu, .ref mp, .ref mi, .ref mk, .ref ms, .int 0, .ref mv, .int 0, .int 0, .int 0, .int 0, .long 0, .int (-1), .int 0, .ref m1w, .ref m2w, .ref m3w, .ref m4w, .int 0, .long 0, .long 0, .long 0])), (mw, .inl (cm3, 906, .inr (.inl fw)))]) [0, 1] (by decide) rfl
  have hKc := hK.sub (tys' := [(cm3, .long)]) [0] rfl
  have hFc := va_free (wc := [(h1, .inr (12, [.int 0, .int 0, .ref mr, .ref mt, .ref mw, .ref mu, .ref mp, .ref mi, .ref mk, .ref ms, .int 0, .ref mv, .int 0, .int 0, .int 0, .int 0, .long 0, .int (-1), .int 0, .ref m1w, .ref m2w, .ref m3w, .ref m4w, .int 0, .long 0, .long 0, .long 0])), (mw, .inl (cm3, 906, .inr (.inl fw)))]) hD hS hA [0, 1] rfl
  refine va_calll (va_runV (As := [.int (xs 1), .int (xs 2)]) (rest := [.long (-9223372036854775808)]) ⟨hx, hb, hml, hown, hts⟩ (c_X12_worst l dC dI h1 (xs 1) (xs 2) mr mt mw mu mp mi mk ms mv m1w m2w m3w m4w cm3 fw H.size hw0 hw1 hw2 hw3 hw4 hw5) (cwV 2 hts (gi_V tb_c_X12_worst tw_742.1 tw_743.1 tw_744.1 tw_435.1) rfl rfl rfl (by decide +kernel) ⟨Nat.le_of_ble_eq_true rfl, Nat.le_of_ble_eq_true rfl⟩) ⟨fun a U g mk q => by obtain ⟨q0, q1, qP, qK, qD⟩ := q; exact ⟨q0, q1, qP, va_K.moved (u := U) (U := U.calling g mk a) (Vm.Alike.refl U.vm) qK, qD⟩, va_recv hKc hPc (ci := 12) (q0 := 0) rfl rfl, fun U hU hW => ⟨rfl, by rw [hU], by rw [hU]; exact hPc, va_K.moved hW.alike hKc, hDc.weaken (fun _ _ _ _ => trivial)⟩⟩ rfl rfl hl.1 rfl (lv_room (Nat.le_of_ble_eq_true rfl)) dL_law_1004 ⟨Nat.le_of_ble_eq_true rfl, Nat.le_of_ble_eq_true rfl⟩) hS (fun q _ h => hFc q h) hFc (fun r_2 u t H1 locs ht hvm hw hB hz1 hk1 hS => ?_)
  obtain ⟨hP1, hK1, hD1⟩ := hB
  rw [ht] at hP1
  have hK1 := va_K.moved hvm.symm hK1
  obtain ⟨hP, hD⟩ := va_join (wr := []) (w1 := []) hP hD [0, 1] [] rfl rfl (by decide) (by decide) hk1 hFc hP1 hD1
  generalize H1 = H at hP hS ⊢
  have hP : va_P (dC, dI) vwCl [] H := hP
  have hD : va_D A [] := hD
  refine W.widen (k := 786) (n := 20946) (Nat.le_of_ble_eq_true rfl) (Nat.le_of_ble_eq_true rfl) ?_
  have hw : r_2 = (-9223372036854775808) := hw
  subst hw
  refine W.lcmp hx hb dL_law_1007 ?_
  refine k_topi (y := 0) (by decide) ?_
  refine lv_if_eq (tgt := 1204) hx hb dL_law_1008 (by decide) (fun _ => ?_) (fun c => absurd (by decide) c)
  exact law_next C0 hA hbA hAq (hK.sub [] rfl) (hP.sub [] rfl) (hD.sub [] (by decide) rfl) hS (lv_sub hl [0, 1, 2, 3] rfl)
set_option maxHeartbeats 4000000 in
set_option maxRecDepth 100000 in
theorem law_ahead {p : Program} {l : Launch} {e : Env} {s : State} {m : MethodId} {below : List Frame} {meth : Method} {c : Code} {dC : Nat → ClassId} {dI : Nat → Nat → Nat} {b : Nat} {xs : Nat → Int32} {A : Nat → Prop} (C0 : lw_At p s m meth c b 6 xs) (hA : ∀ q : Nat, s.heap.size ≤ q → A q) (hbA : ¬ A b) (hAq : ∀ q : Nat, A q → s.heap.size ≤ q) {h0 : Nat} {h1 : Nat} {te : Nat} {ta : Nat} {re : Nat} {no : Nat} {pa : Nat} {ac : Nat} {op : Nat} {im : Nat} {ik : Nat} {hi : Nat} {rf : Nat} {nt : Nat} {nl : Nat} {ns : Nat} {np : Nat} {nr : Nat} {cl1 : ClassId} {pt : Nat} {pl : Nat} {ps : Nat} {pp : Nat} {pr : Nat} {cl2 : ClassId} {mr : Nat} {mt : Nat} {mw : Nat} {mu : Nat} {mp : Nat} {mi : Nat} {mk : Nat} {ms : Nat} {mv : Nat} {m1w : Nat} {m2w : Nat} {m3w : Nat} {m4w : Nat} {cm2 : ClassId} {ft : Nat → Int32} {cm3 : ClassId} {fw : Nat → Int64} {cm5 : ClassId} {H : Heap} {locs : List Loc} {ls : Array Slot} (ht0 : ft 0 = 0) (ht1 : ft 1 = 1) (ht2 : ft 2 = 1) (hw0 : fw 0 = 0) (hw1 : fw 1 = 0) (hw2 : fw 2 = 0) (hw3 : fw 3 = (-1)) (hw4 : fw 4 = (-1)) (hw5 : fw 5 = 0) (hK : va_K (dC, dI) vwCl [(cl1, .long), (cl2, .long), (cm2, .int), (cm3, .long), (cm5, .long)] s) (hP : va_P (dC, dI) vwCl [(h0, .inr (11, [.ref te, .ref ta, .ref re, .ref no, .ref pa, .ref ac, .ref op, .ref im, .ref ik, .ref hi, .ref rf, .int (-1)])), (te, .inr (9, [.int 0, .int 1, .int 1])), (no, .inr (6, [.ref te, .ref nt, .ref nl, .ref ns, .ref np, .int 0, .int 0, .long 0, .int (-1), .int (-1)])), (nl, .inr (2, [.ref nr])), (nr, .inl (cl1, 128, .inr (.inl (fun _ => 0)))), (ns, .inr (10, [.long 0, .long 0])), (pa, .inr (6, [.ref te, .ref pt, .ref pl, .ref ps, .ref pp, .int 0, .int 0, .long 0, .int (-1), .int (-1)])), (pl, .inr (2, [.ref pr])), (pr, .inl (cl2, 128, .inr (.inl (fun _ => 0)))), (ps, .inr (10, [.long 0, .long 0])), (ac, .inr (0, [.ref te, .int 0, .long 0])), (h1, .inr (12, [.int 0, .int 0, .ref mr, .ref mt, .ref mw, .ref mu, .ref mp, .ref mi, .ref mk, .ref ms, .int 0, .ref mv, .int 0, .int 0, .int 0, .int 0, .long 0, .int (-1), .int 0, .ref m1w, .ref m2w, .ref m3w, .ref m4w, .int 0, .long 0, .long 0, .long 0])), (mt, .inl (cm2, 3, .inl ft)), (mw, .inl (cm3, 906, .inr (.inl fw))), (mp, .inl (cm5, 906, .inr (.inl (fun _ => 0))))] H) (hD : va_D A [(h0, .inr (11, [.ref te, .ref ta, .ref re, .ref no, .ref pa, .ref ac, .ref op, .ref im, .ref ik, .ref hi, .ref rf, .int (-1)])), (te, .inr (9, [.int 0, .int 1, .int 1])), (no, .inr (6, [.ref te, .ref nt, .ref nl, .ref ns, .ref np, .int 0, .int 0, .long 0, .int (-1), .int (-1)])), (nl, .inr (2, [.ref nr])), (nr, .inl (cl1, 128, .inr (.inl (fun _ => 0)))), (ns, .inr (10, [.long 0, .long 0])), (pa, .inr (6, [.ref te, .ref pt, .ref pl, .ref ps, .ref pp, .int 0, .int 0, .long 0, .int (-1), .int (-1)])), (pl, .inr (2, [.ref pr])), (pr, .inl (cl2, 128, .inr (.inl (fun _ => 0)))), (ps, .inr (10, [.long 0, .long 0])), (ac, .inr (0, [.ref te, .int 0, .long 0])), (h1, .inr (12, [.int 0, .int 0, .ref mr, .ref mt, .ref mw, .ref mu, .ref mp, .ref mi, .ref mk, .ref ms, .int 0, .ref mv, .int 0, .int 0, .int 0, .int 0, .long 0, .int (-1), .int 0, .ref m1w, .ref m2w, .ref m3w, .ref m4w, .int 0, .long 0, .long 0, .long 0])), (mt, .inl (cm2, 3, .inl ft)), (mw, .inl (cm3, 906, .inr (.inl fw))), (mp, .inl (cm5, 906, .inr (.inl (fun _ => 0))))]) (hS : va_S A s.heap H locs) (hl : lv_has ls 4 [(0, .ref b), (1, .ref h0), (2, .ref h1), (3, .int 0)]) : W p l e room_1 s m #[Value.ref b] below meth c H locs 786 20946 (lw_Z below #[Value.ref b] s) (F0 m 1013 ls []) := by
  obtain ⟨hx, hb, hr, hml, hown, hts, hX, hbl, hlocks, hgv⟩ := id C0
  have hown : s.vm.findClass RL = some m.cls := hown
  refine lv_aload_n hx hb dL_law_1013 rfl (lv_at hl 1 rfl) ?_
  refine lv_aload_n hx hb dL_law_1014 rfl (lv_at hl 0 rfl) ?_
  refine lv_iload_n hx hb dL_law_1015 rfl (lv_at hl 3 rfl) ?_
  refine lv_iconst (v := 1) hx hb dL_law_1016 (by decide) ?_
  refine lv_iadd hx hb dL_law_1017 ?_
  refine k_topi (y := 1) (by decide) ?_
  refine va_sld hx hb hX hbl hbA hS (by unfold vp_in; decide) dL_law_1018 ?_
  refine k_topi (y := xs 1) (congrArg xs (by decide)) ?_
  have hPc := hP.sub (ws' := [(h0, .inr (11, [.ref te, .ref ta, .ref re, .ref no, .ref pa, .ref ac, .ref op, .ref im, .ref ik, .ref hi, .ref rf, .int (-1)])), (te, .inr (9, [.int 0, .int 1, .int 1])), (no, .inr (6, [.ref te, .ref nt, .ref nl, .ref ns, .ref np, .int 0, .int 0, .long 0, .int (-1), .int (-1)])), (nl, .inr (2, [.ref nr])), (nr, .inl (cl1, 128, .inr (.inl (fun _ => 0)))), (ns, .inr (10, [.long 0, .long 0])), (pa, .inr (6, [.ref te, .ref pt, .ref pl, .ref ps, .ref pp, .int 0, .int 0, .long 0, .int (-1), .int (-1)])), (pl, .inr (2, [.ref pr])), (pr, .inl (cl2, 128, .inr (.inl (fun _ => 0)))), (ps, .inr (10, [.long 0, .long 0])), (ac, .inr (0, [.ref te, .int 0, .long 0]))]) [0, 1, 2, 3, 4, 5, 6, 7, 8, 9, 10] rfl
  have hDc := hD.sub (ws' := [(h0, .inr (11, [.ref te, .ref ta, .ref re, .ref no, .ref pa, .ref ac, .ref op, .ref im, .ref ik, .ref hi, .ref rf, .int (-1)])), (te, .inr (9, [.int 0, .int 1, .int 1])), (no, .inr (6, [.ref te, .ref nt, .ref nl, .ref ns, .ref np, .int 0, .int 0, .long 0, .int (-1), .int (-1)])), (nl, .inr (2, [.ref nr])), (nr, .inl (cl1, 128, .inr (.inl (fun _ => 0)))), (ns, .inr (10, [.long 0, .long 0])), (pa, .inr (6, [.ref te, .ref pt, .ref pl, .ref ps, .ref pp, .int 0, .int 0, .long 0, .int (-1), .int (-1)])), (pl, .inr (2, [.ref pr])), (pr, .inl (cl2, 128, .inr (.inl (fun _ => 0)))), (ps, .inr (10, [.long 0, .long 0])), (ac, .inr (0, [.ref te, .int 0, .long 0]))]) [0, 1, 2, 3, 4, 5, 6, 7, 8, 9, 10] (by decide) rfl
  have hKc := hK.sub (tys' := [(cl1, .long), (cl2, .long)]) [0, 1] rfl
  have hFc := va_free (wc := [(h0, .inr (11, [.ref te, .ref ta, .ref re, .ref no, .ref pa, .ref ac, .ref op, .ref im, .ref ik, .ref hi, .ref rf, .int (-1)])), (te, .inr (9, [.int 0, .int 1, .int 1])), (no, .inr (6, [.ref te, .ref nt, .ref nl, .ref ns, .ref np, .int 0, .int 0, .long 0, .int (-1), .int (-1)])), (nl, .inr (2, [.ref nr])), (nr, .inl (cl1, 128, .inr (.inl (fun _ => 0)))), (ns, .inr (10, [.long 0, .long 0])), (pa, .inr (6, [.ref te, .ref pt, .ref pl, .ref ps, .ref pp, .int 0, .int 0, .long 0, .int (-1), .int (-1)])), (pl, .inr (2, [.ref pr])), (pr, .inl (cl2, 128, .inr (.inl (fun _ => 0)))), (ps, .inr (10, [.long 0, .long 0])), (ac, .inr (0, [.ref te, .int 0, .long 0]))]) hD hS hA [0, 1, 2, 3, 4, 5, 6, 7, 8, 9, 10] rfl
  refine va_calli (va_runV (As := [.int (xs 1)]) (rest := []) ⟨hx, hb, hml, hown, hts⟩ (c_X11_ahead l dC dI h0 (xs 1) te ta re no pa ac op im ik hi rf nt nl ns np nr cl1 pt pl ps pp pr cl2 H.size) (cwV 1 hts (gi_V tb_c_X11_ahead tw_745.1 tw_746.1 tw_747.1 tw_324.1) rfl rfl rfl (by decide +kernel) ⟨Nat.le_of_ble_eq_true rfl, Nat.le_of_ble_eq_true rfl⟩) ⟨fun a U g mk q => by obtain ⟨q0, q1, qP, qK, qD⟩ := q; exact ⟨q0, q1, qP, va_K.moved (u := U) (U := U.calling g mk a) (Vm.Alike.refl U.vm) qK, qD⟩, va_recv hKc hPc (ci := 11) (q0 := 0) rfl rfl, fun U hU hW => ⟨rfl, by rw [hU], by rw [hU]; exact hPc, va_K.moved hW.alike hKc, hDc.weaken (fun _ _ _ _ => trivial)⟩⟩ rfl rfl hl.1 rfl (lv_room (Nat.le_of_ble_eq_true rfl)) dL_law_1019 ⟨Nat.le_of_ble_eq_true rfl, Nat.le_of_ble_eq_true rfl⟩) hS (fun q _ h => hFc q h) hFc (fun r_1 u t H1 locs ht hvm hw hB hz1 hk1 hS => ?_)
  obtain ⟨hP1, hK1, hD1⟩ := hB
  rw [ht] at hP1
  have hK1 := va_K.moved hvm.symm hK1
  obtain ⟨hP, hD⟩ := va_join (wr := [(h1, .inr (12, [.int 0, .int 0, .ref mr, .ref mt, .ref mw, .ref mu, .ref mp, .ref mi, .ref mk, .ref ms, .int 0, .ref mv, .int 0, .int 0, .int 0, .int 0, .long 0, .int (-1), .int 0, .ref m1w, .ref m2w, .ref m3w, .ref m4w, .int 0, .long 0, .long 0, .long 0])), (mt, .inl (cm2, 3, .inl ft)), (mw, .inl (cm3, 906, .inr (.inl fw))), (mp, .inl (cm5, 906, .inr (.inl (fun _ => 0))))]) (w1 := []) hP hD [0, 1, 2, 3, 4, 5, 6, 7, 8, 9, 10] [11, 12, 13, 14] rfl rfl (by decide) (by decide) hk1 hFc hP1 hD1
  generalize H1 = H at hP hS ⊢
  have hP : va_P (dC, dI) vwCl [(h1, .inr (12, [.int 0, .int 0, .ref mr, .ref mt, .ref mw, .ref mu, .ref mp, .ref mi, .ref mk, .ref ms, .int 0, .ref mv, .int 0, .int 0, .int 0, .int 0, .long 0, .int (-1), .int 0, .ref m1w, .ref m2w, .ref m3w, .ref m4w, .int 0, .long 0, .long 0, .long 0])), (mt, .inl (cm2, 3, .inl ft)), (mw, .inl (cm3, 906, .inr (.inl fw))), (mp, .inl (cm5, 906, .inr (.inl (fun _ => 0))))] H := hP
  have hD : va_D A [(h1, .inr (12, [.int 0, .int 0, .ref mr, .ref mt, .ref mw, .ref mu, .ref mp, .ref mi, .ref mk, .ref ms, .int 0, .ref mv, .int 0, .int 0, .int 0, .int 0, .long 0, .int (-1), .int 0, .ref m1w, .ref m2w, .ref m3w, .ref m4w, .int 0, .long 0, .long 0, .long 0])), (mt, .inl (cm2, 3, .inl ft)), (mw, .inl (cm3, 906, .inr (.inl fw))), (mp, .inl (cm5, 906, .inr (.inl (fun _ => 0))))] := hD
  refine W.widen (k := 786) (n := 20946) (Nat.le_of_ble_eq_true rfl) (Nat.le_of_ble_eq_true rfl) ?_
  have hw : r_1 = (-1) := hw
  subst hw
  refine lv_aload_n hx hb dL_law_1022 rfl (lv_at hl 2 rfl) ?_
  refine lv_aload_n hx hb dL_law_1023 rfl (lv_at hl 0 rfl) ?_
  refine lv_iload_n hx hb dL_law_1024 rfl (lv_at hl 3 rfl) ?_
  refine lv_iconst (v := 1) hx hb dL_law_1025 (by decide) ?_
  refine lv_iadd hx hb dL_law_1026 ?_
  refine k_topi (y := 1) (by decide) ?_
  refine va_sld hx hb hX hbl hbA hS (by unfold vp_in; decide) dL_law_1027 ?_
  refine k_topi (y := xs 1) (congrArg xs (by decide)) ?_
  have hPc := hP.sub (ws' := [(h1, .inr (12, [.int 0, .int 0, .ref mr, .ref mt, .ref mw, .ref mu, .ref mp, .ref mi, .ref mk, .ref ms, .int 0, .ref mv, .int 0, .int 0, .int 0, .int 0, .long 0, .int (-1), .int 0, .ref m1w, .ref m2w, .ref m3w, .ref m4w, .int 0, .long 0, .long 0, .long 0])), (mt, .inl (cm2, 3, .inl ft)), (mw, .inl (cm3, 906, .inr (.inl fw))), (mp, .inl (cm5, 906, .inr (.inl (fun _ => 0))))]) [0, 1, 2, 3] rfl
  have hDc := hD.sub (ws' := [(h1, .inr (12, [.int 0, .int 0, .ref mr, .ref mt, .ref mw, .ref mu, .ref mp, .ref mi, .ref mk, .ref ms, .int 0, .ref mv, .int 0, .int 0, .int 0, .int 0, .long 0, .int (-1), .int 0, .ref m1w, .ref m2w, .ref m3w, .ref m4w, .int 0, .long 0, .long 0, .long 0])), (mt, .inl (cm2, 3, .inl ft)), (mw, .inl (cm3, 906, .inr (.inl fw))), (mp, .inl (cm5, 906, .inr (.inl (fun _ => 0))))]) [0, 1, 2, 3] (by decide) rfl
  have hKc := hK.sub (tys' := [(cm2, .int), (cm3, .long), (cm5, .long)]) [2, 3, 4] rfl
  have hFc := va_free (wc := [(h1, .inr (12, [.int 0, .int 0, .ref mr, .ref mt, .ref mw, .ref mu, .ref mp, .ref mi, .ref mk, .ref ms, .int 0, .ref mv, .int 0, .int 0, .int 0, .int 0, .long 0, .int (-1), .int 0, .ref m1w, .ref m2w, .ref m3w, .ref m4w, .int 0, .long 0, .long 0, .long 0])), (mt, .inl (cm2, 3, .inl ft)), (mw, .inl (cm3, 906, .inr (.inl fw))), (mp, .inl (cm5, 906, .inr (.inl (fun _ => 0))))]) hD hS hA [0, 1, 2, 3] rfl
  refine va_calli (va_runV (As := [.int (xs 1)]) (rest := [.int (-1)]) ⟨hx, hb, hml, hown, hts⟩ (c_X12_ahead l dC dI h1 (xs 1) mr mt mw mu mp mi mk ms mv m1w m2w m3w m4w cm2 ft cm3 fw cm5 H.size ht0 ht1 ht2 hw0 hw1 hw2 hw3 hw4 hw5) (cwV 1 hts (gi_V tb_c_X12_ahead tw_748.1 tw_749.1 tw_750.1 tw_435.1) rfl rfl rfl (by decide +kernel) ⟨Nat.le_of_ble_eq_true rfl, Nat.le_of_ble_eq_true rfl⟩) ⟨fun a U g mk q => by obtain ⟨q0, q1, qP, qK, qD⟩ := q; exact ⟨q0, q1, qP, va_K.moved (u := U) (U := U.calling g mk a) (Vm.Alike.refl U.vm) qK, qD⟩, va_recv hKc hPc (ci := 12) (q0 := 0) rfl rfl, fun U hU hW => ⟨rfl, by rw [hU], by rw [hU]; exact hPc, va_K.moved hW.alike hKc, hDc.weaken (fun _ _ _ _ => trivial)⟩⟩ rfl rfl hl.1 rfl (lv_room (Nat.le_of_ble_eq_true rfl)) dL_law_1028 ⟨Nat.le_of_ble_eq_true rfl, Nat.le_of_ble_eq_true rfl⟩) hS (fun q _ h => hFc q h) hFc (fun r_2 u t H1 locs ht hvm hw hB hz1 hk1 hS => ?_)
  obtain ⟨hP1, hK1, hD1⟩ := hB
  rw [ht] at hP1
  have hK1 := va_K.moved hvm.symm hK1
  obtain ⟨hP, hD⟩ := va_join (wr := []) (w1 := []) hP hD [0, 1, 2, 3] [] rfl rfl (by decide) (by decide) hk1 hFc hP1 hD1
  generalize H1 = H at hP hS ⊢
  have hP : va_P (dC, dI) vwCl [] H := hP
  have hD : va_D A [] := hD
  refine W.widen (k := 786) (n := 20946) (Nat.le_of_ble_eq_true rfl) (Nat.le_of_ble_eq_true rfl) ?_
  have hw : r_2 = (-1) := hw
  subst hw
  refine lv_icmp_eq (tgt := 1204) hx hb dL_law_1031 (by decide) (fun _ => ?_) (fun c => absurd (by decide) c)
  exact law_next C0 hA hbA hAq (hK.sub [] rfl) (hP.sub [] rfl) (hD.sub [] (by decide) rfl) hS (lv_sub hl [0, 1, 2, 3] rfl)
set_option maxHeartbeats 4000000 in
set_option maxRecDepth 100000 in
theorem law_finish {p : Program} {l : Launch} {e : Env} {s : State} {m : MethodId} {below : List Frame} {meth : Method} {c : Code} {dC : Nat → ClassId} {dI : Nat → Nat → Nat} {b : Nat} {xs : Nat → Int32} {A : Nat → Prop} (C0 : lw_At p s m meth c b 6 xs) (hA : ∀ q : Nat, s.heap.size ≤ q → A q) (hbA : ¬ A b) (hAq : ∀ q : Nat, A q → s.heap.size ≤ q) {h0 : Nat} {h1 : Nat} {te : Nat} {ta : Nat} {re : Nat} {no : Nat} {pa : Nat} {ac : Nat} {op : Nat} {im : Nat} {ik : Nat} {hi : Nat} {rf : Nat} {nt : Nat} {nl : Nat} {ns : Nat} {np : Nat} {mr : Nat} {mt : Nat} {mw : Nat} {mu : Nat} {mp : Nat} {mi : Nat} {mk : Nat} {ms : Nat} {mv : Nat} {m1w : Nat} {m2w : Nat} {m3w : Nat} {m4w : Nat} {cm3 : ClassId} {fw : Nat → Int64} {H : Heap} {locs : List Loc} {ls : Array Slot} (hw0 : fw 0 = 0) (hw1 : fw 1 = 0) (hw2 : fw 2 = 0) (hw3 : fw 3 = (-1)) (hw4 : fw 4 = (-1)) (hw5 : fw 5 = 0) (hK : va_K (dC, dI) vwCl [(cm3, .long)] s) (hP : va_P (dC, dI) vwCl [(h0, .inr (11, [.ref te, .ref ta, .ref re, .ref no, .ref pa, .ref ac, .ref op, .ref im, .ref ik, .ref hi, .ref rf, .int (-1)])), (no, .inr (6, [.ref te, .ref nt, .ref nl, .ref ns, .ref np, .int 0, .int 0, .long 0, .int (-1), .int (-1)])), (h1, .inr (12, [.int 0, .int 0, .ref mr, .ref mt, .ref mw, .ref mu, .ref mp, .ref mi, .ref mk, .ref ms, .int 0, .ref mv, .int 0, .int 0, .int 0, .int 0, .long 0, .int (-1), .int 0, .ref m1w, .ref m2w, .ref m3w, .ref m4w, .int 0, .long 0, .long 0, .long 0])), (mw, .inl (cm3, 906, .inr (.inl fw)))] H) (hD : va_D A [(h0, .inr (11, [.ref te, .ref ta, .ref re, .ref no, .ref pa, .ref ac, .ref op, .ref im, .ref ik, .ref hi, .ref rf, .int (-1)])), (no, .inr (6, [.ref te, .ref nt, .ref nl, .ref ns, .ref np, .int 0, .int 0, .long 0, .int (-1), .int (-1)])), (h1, .inr (12, [.int 0, .int 0, .ref mr, .ref mt, .ref mw, .ref mu, .ref mp, .ref mi, .ref mk, .ref ms, .int 0, .ref mv, .int 0, .int 0, .int 0, .int 0, .long 0, .int (-1), .int 0, .ref m1w, .ref m2w, .ref m3w, .ref m4w, .int 0, .long 0, .long 0, .long 0])), (mw, .inl (cm3, 906, .inr (.inl fw)))]) (hS : va_S A s.heap H locs) (hl : lv_has ls 4 [(0, .ref b), (1, .ref h0), (2, .ref h1), (3, .int 0)]) : W p l e room_1 s m #[Value.ref b] below meth c H locs 786 20946 (lw_Z below #[Value.ref b] s) (F0 m 1036 ls []) := by
  obtain ⟨hx, hb, hr, hml, hown, hts, hX, hbl, hlocks, hgv⟩ := id C0
  have hown : s.vm.findClass RL = some m.cls := hown
  refine lv_aload_n hx hb dL_law_1036 rfl (lv_at hl 1 rfl) ?_
  refine lv_aload_n hx hb dL_law_1037 rfl (lv_at hl 0 rfl) ?_
  refine lv_iload_n hx hb dL_law_1038 rfl (lv_at hl 3 rfl) ?_
  refine lv_iconst (v := 1) hx hb dL_law_1039 (by decide) ?_
  refine lv_iadd hx hb dL_law_1040 ?_
  refine k_topi (y := 1) (by decide) ?_
  refine va_sld hx hb hX hbl hbA hS (by unfold vp_in; decide) dL_law_1041 ?_
  refine k_topi (y := xs 1) (congrArg xs (by decide)) ?_
  have hPc := hP.sub (ws' := [(h0, .inr (11, [.ref te, .ref ta, .ref re, .ref no, .ref pa, .ref ac, .ref op, .ref im, .ref ik, .ref hi, .ref rf, .int (-1)])), (no, .inr (6, [.ref te, .ref nt, .ref nl, .ref ns, .ref np, .int 0, .int 0, .long 0, .int (-1), .int (-1)]))]) [0, 1] rfl
  have hDc := hD.sub (ws' := [(h0, .inr (11, [.ref te, .ref ta, .ref re, .ref no, .ref pa, .ref ac, .ref op, .ref im, .ref ik, .ref hi, .ref rf, .int (-1)])), (no, .inr (6, [.ref te, .ref nt, .ref nl, .ref ns, .ref np, .int 0, .int 0, .long 0, .int (-1), .int (-1)]))]) [0, 1] (by decide) rfl
  have hKc := hK.sub (tys' := []) [] rfl
  have hFc := va_free (wc := [(h0, .inr (11, [.ref te, .ref ta, .ref re, .ref no, .ref pa, .ref ac, .ref op, .ref im, .ref ik, .ref hi, .ref rf, .int (-1)])), (no, .inr (6, [.ref te, .ref nt, .ref nl, .ref ns, .ref np, .int 0, .int 0, .long 0, .int (-1), .int (-1)]))]) hD hS hA [0, 1] rfl
  refine va_calli (va_runV (As := [.int (xs 1)]) (rest := []) ⟨hx, hb, hml, hown, hts⟩ (c_X11_finish l dC dI h0 (xs 1) te ta re no pa ac op im ik hi rf nt nl ns np H.size) (cwV 1 hts (gi_V tb_c_X11_finish tw_751.1 tw_752.1 tw_753.1 tw_324.1) rfl rfl rfl (by decide +kernel) ⟨Nat.le_of_ble_eq_true rfl, Nat.le_of_ble_eq_true rfl⟩) ⟨fun a U g mk q => by obtain ⟨q0, q1, qP, qK, qD⟩ := q; exact ⟨q0, q1, qP, va_K.moved (u := U) (U := U.calling g mk a) (Vm.Alike.refl U.vm) qK, qD⟩, va_recv hKc hPc (ci := 11) (q0 := 0) rfl rfl, fun U hU hW => ⟨rfl, by rw [hU], by rw [hU]; exact hPc, va_K.moved hW.alike hKc, hDc.weaken (fun _ _ _ _ => trivial)⟩⟩ rfl rfl hl.1 rfl (lv_room (Nat.le_of_ble_eq_true rfl)) dL_law_1042 ⟨Nat.le_of_ble_eq_true rfl, Nat.le_of_ble_eq_true rfl⟩) hS (fun q _ h => hFc q h) hFc (fun r_1 u t H1 locs ht hvm hw hB hz1 hk1 hS => ?_)
  obtain ⟨hP1, hK1, hD1⟩ := hB
  rw [ht] at hP1
  have hK1 := va_K.moved hvm.symm hK1
  obtain ⟨hP, hD⟩ := va_join (wr := [(h1, .inr (12, [.int 0, .int 0, .ref mr, .ref mt, .ref mw, .ref mu, .ref mp, .ref mi, .ref mk, .ref ms, .int 0, .ref mv, .int 0, .int 0, .int 0, .int 0, .long 0, .int (-1), .int 0, .ref m1w, .ref m2w, .ref m3w, .ref m4w, .int 0, .long 0, .long 0, .long 0])), (mw, .inl (cm3, 906, .inr (.inl fw)))]) (w1 := []) hP hD [0, 1] [2, 3] rfl rfl (by decide) (by decide) hk1 hFc hP1 hD1
  generalize H1 = H at hP hS ⊢
  have hP : va_P (dC, dI) vwCl [(h1, .inr (12, [.int 0, .int 0, .ref mr, .ref mt, .ref mw, .ref mu, .ref mp, .ref mi, .ref mk, .ref ms, .int 0, .ref mv, .int 0, .int 0, .int 0, .int 0, .long 0, .int (-1), .int 0, .ref m1w, .ref m2w, .ref m3w, .ref m4w, .int 0, .long 0, .long 0, .long 0])), (mw, .inl (cm3, 906, .inr (.inl fw)))] H := hP
  have hD : va_D A [(h1, .inr (12, [.int 0, .int 0, .ref mr, .ref mt, .ref mw, .ref mu, .ref mp, .ref mi, .ref mk, .ref ms, .int 0, .ref mv, .int 0, .int 0, .int 0, .int 0, .long 0, .int (-1), .int 0, .ref m1w, .ref m2w, .ref m3w, .ref m4w, .int 0, .long 0, .long 0, .long 0])), (mw, .inl (cm3, 906, .inr (.inl fw)))] := hD
  refine W.widen (k := 786) (n := 20946) (Nat.le_of_ble_eq_true rfl) (Nat.le_of_ble_eq_true rfl) ?_
  have hw : r_1 = (-1) := hw
  subst hw
  refine lv_aload_n hx hb dL_law_1045 rfl (lv_at hl 2 rfl) ?_
  refine lv_aload_n hx hb dL_law_1046 rfl (lv_at hl 0 rfl) ?_
  refine lv_iload_n hx hb dL_law_1047 rfl (lv_at hl 3 rfl) ?_
  refine lv_iconst (v := 1) hx hb dL_law_1048 (by decide) ?_
  refine lv_iadd hx hb dL_law_1049 ?_
  refine k_topi (y := 1) (by decide) ?_
  refine va_sld hx hb hX hbl hbA hS (by unfold vp_in; decide) dL_law_1050 ?_
  refine k_topi (y := xs 1) (congrArg xs (by decide)) ?_
  have hPc := hP.sub (ws' := [(h1, .inr (12, [.int 0, .int 0, .ref mr, .ref mt, .ref mw, .ref mu, .ref mp, .ref mi, .ref mk, .ref ms, .int 0, .ref mv, .int 0, .int 0, .int 0, .int 0, .long 0, .int (-1), .int 0, .ref m1w, .ref m2w, .ref m3w, .ref m4w, .int 0, .long 0, .long 0, .long 0])), (mw, .inl (cm3, 906, .inr (.inl fw)))]) [0, 1] rfl
  have hDc := hD.sub (ws' := [(h1, .inr (12, [.int 0, .int 0, .ref mr, .ref mt, .ref mw, .ref mu, .ref mp, .ref mi, .ref mk, .ref ms, .int 0, .ref mv, .int 0, .int 0, .int 0, .int 0, .long 0, .int (-1), .int 0, .ref m1w, .ref m2w, .ref m3w, .ref m4w, .int 0, .long 0, .long 0, .long 0])), (mw, .inl (cm3, 906, .inr (.inl fw)))]) [0, 1] (by decide) rfl
  have hKc := hK.sub (tys' := [(cm3, .long)]) [0] rfl
  have hFc := va_free (wc := [(h1, .inr (12, [.int 0, .int 0, .ref mr, .ref mt, .ref mw, .ref mu, .ref mp, .ref mi, .ref mk, .ref ms, .int 0, .ref mv, .int 0, .int 0, .int 0, .int 0, .long 0, .int (-1), .int 0, .ref m1w, .ref m2w, .ref m3w, .ref m4w, .int 0, .long 0, .long 0, .long 0])), (mw, .inl (cm3, 906, .inr (.inl fw)))]) hD hS hA [0, 1] rfl
  refine va_calli (va_runV (As := [.int (xs 1)]) (rest := [.int (-1)]) ⟨hx, hb, hml, hown, hts⟩ (c_X12_finish l dC dI h1 (xs 1) mr mt mw mu mp mi mk ms mv m1w m2w m3w m4w cm3 fw H.size hw0 hw1 hw2 hw3 hw4 hw5) (cwV 1 hts (gi_V tb_c_X12_finish tw_754.1 tw_755.1 tw_756.1 tw_435.1) rfl rfl rfl (by decide +kernel) ⟨Nat.le_of_ble_eq_true rfl, Nat.le_of_ble_eq_true rfl⟩) ⟨fun a U g mk q => by obtain ⟨q0, q1, qP, qK, qD⟩ := q; exact ⟨q0, q1, qP, va_K.moved (u := U) (U := U.calling g mk a) (Vm.Alike.refl U.vm) qK, qD⟩, va_recv hKc hPc (ci := 12) (q0 := 0) rfl rfl, fun U hU hW => ⟨rfl, by rw [hU], by rw [hU]; exact hPc, va_K.moved hW.alike hKc, hDc.weaken (fun _ _ _ _ => trivial)⟩⟩ rfl rfl hl.1 rfl (lv_room (Nat.le_of_ble_eq_true rfl)) dL_law_1051 ⟨Nat.le_of_ble_eq_true rfl, Nat.le_of_ble_eq_true rfl⟩) hS (fun q _ h => hFc q h) hFc (fun r_2 u t H1 locs ht hvm hw hB hz1 hk1 hS => ?_)
  obtain ⟨hP1, hK1, hD1⟩ := hB
  rw [ht] at hP1
  have hK1 := va_K.moved hvm.symm hK1
  obtain ⟨hP, hD⟩ := va_join (wr := []) (w1 := []) hP hD [0, 1] [] rfl rfl (by decide) (by decide) hk1 hFc hP1 hD1
  generalize H1 = H at hP hS ⊢
  have hP : va_P (dC, dI) vwCl [] H := hP
  have hD : va_D A [] := hD
  refine W.widen (k := 786) (n := 20946) (Nat.le_of_ble_eq_true rfl) (Nat.le_of_ble_eq_true rfl) ?_
  have hw : r_2 = (-1) := hw
  subst hw
  refine lv_icmp_eq (tgt := 1204) hx hb dL_law_1054 (by decide) (fun _ => ?_) (fun c => absurd (by decide) c)
  exact law_next C0 hA hbA hAq (hK.sub [] rfl) (hP.sub [] rfl) (hD.sub [] (by decide) rfl) hS (lv_sub hl [0, 1, 2, 3] rfl)
set_option maxHeartbeats 4000000 in
set_option maxRecDepth 100000 in
theorem law_due {p : Program} {l : Launch} {e : Env} {s : State} {m : MethodId} {below : List Frame} {meth : Method} {c : Code} {dC : Nat → ClassId} {dI : Nat → Nat → Nat} {b : Nat} {xs : Nat → Int32} {A : Nat → Prop} (C0 : lw_At p s m meth c b 6 xs) (hA : ∀ q : Nat, s.heap.size ≤ q → A q) (hbA : ¬ A b) (hAq : ∀ q : Nat, A q → s.heap.size ≤ q) {h0 : Nat} {h1 : Nat} {te : Nat} {ta : Nat} {re : Nat} {no : Nat} {pa : Nat} {ac : Nat} {op : Nat} {im : Nat} {ik : Nat} {hi : Nat} {rf : Nat} {nt : Nat} {nl : Nat} {ns : Nat} {np : Nat} {mr : Nat} {mt : Nat} {mw : Nat} {mu : Nat} {mp : Nat} {mi : Nat} {mk : Nat} {ms : Nat} {mv : Nat} {m1w : Nat} {m2w : Nat} {m3w : Nat} {m4w : Nat} {cm3 : ClassId} {fw : Nat → Int64} {H : Heap} {locs : List Loc} {ls : Array Slot} (hw0 : fw 0 = 0) (hw1 : fw 1 = 0) (hw2 : fw 2 = 0) (hw3 : fw 3 = (-1)) (hw4 : fw 4 = (-1)) (hw5 : fw 5 = 0) (hK : va_K (dC, dI) vwCl [(cm3, .long)] s) (hP : va_P (dC, dI) vwCl [(h0, .inr (11, [.ref te, .ref ta, .ref re, .ref no, .ref pa, .ref ac, .ref op, .ref im, .ref ik, .ref hi, .ref rf, .int (-1)])), (no, .inr (6, [.ref te, .ref nt, .ref nl, .ref ns, .ref np, .int 0, .int 0, .long 0, .int (-1), .int (-1)])), (h1, .inr (12, [.int 0, .int 0, .ref mr, .ref mt, .ref mw, .ref mu, .ref mp, .ref mi, .ref mk, .ref ms, .int 0, .ref mv, .int 0, .int 0, .int 0, .int 0, .long 0, .int (-1), .int 0, .ref m1w, .ref m2w, .ref m3w, .ref m4w, .int 0, .long 0, .long 0, .long 0])), (mw, .inl (cm3, 906, .inr (.inl fw)))] H) (hD : va_D A [(h0, .inr (11, [.ref te, .ref ta, .ref re, .ref no, .ref pa, .ref ac, .ref op, .ref im, .ref ik, .ref hi, .ref rf, .int (-1)])), (no, .inr (6, [.ref te, .ref nt, .ref nl, .ref ns, .ref np, .int 0, .int 0, .long 0, .int (-1), .int (-1)])), (h1, .inr (12, [.int 0, .int 0, .ref mr, .ref mt, .ref mw, .ref mu, .ref mp, .ref mi, .ref mk, .ref ms, .int 0, .ref mv, .int 0, .int 0, .int 0, .int 0, .long 0, .int (-1), .int 0, .ref m1w, .ref m2w, .ref m3w, .ref m4w, .int 0, .long 0, .long 0, .long 0])), (mw, .inl (cm3, 906, .inr (.inl fw)))]) (hS : va_S A s.heap H locs) (hl : lv_has ls 4 [(0, .ref b), (1, .ref h0), (2, .ref h1), (3, .int 0)]) : W p l e room_1 s m #[Value.ref b] below meth c H locs 786 20946 (lw_Z below #[Value.ref b] s) (F0 m 1059 ls []) := by
  obtain ⟨hx, hb, hr, hml, hown, hts, hX, hbl, hlocks, hgv⟩ := id C0
  have hown : s.vm.findClass RL = some m.cls := hown
  refine lv_aload_n hx hb dL_law_1059 rfl (lv_at hl 1 rfl) ?_
  refine lv_aload_n hx hb dL_law_1060 rfl (lv_at hl 0 rfl) ?_
  refine lv_iload_n hx hb dL_law_1061 rfl (lv_at hl 3 rfl) ?_
  refine lv_iconst (v := 1) hx hb dL_law_1062 (by decide) ?_
  refine lv_iadd hx hb dL_law_1063 ?_
  refine k_topi (y := 1) (by decide) ?_
  refine va_sld hx hb hX hbl hbA hS (by unfold vp_in; decide) dL_law_1064 ?_
  refine k_topi (y := xs 1) (congrArg xs (by decide)) ?_
  have hPc := hP.sub (ws' := [(h0, .inr (11, [.ref te, .ref ta, .ref re, .ref no, .ref pa, .ref ac, .ref op, .ref im, .ref ik, .ref hi, .ref rf, .int (-1)])), (no, .inr (6, [.ref te, .ref nt, .ref nl, .ref ns, .ref np, .int 0, .int 0, .long 0, .int (-1), .int (-1)]))]) [0, 1] rfl
  have hDc := hD.sub (ws' := [(h0, .inr (11, [.ref te, .ref ta, .ref re, .ref no, .ref pa, .ref ac, .ref op, .ref im, .ref ik, .ref hi, .ref rf, .int (-1)])), (no, .inr (6, [.ref te, .ref nt, .ref nl, .ref ns, .ref np, .int 0, .int 0, .long 0, .int (-1), .int (-1)]))]) [0, 1] (by decide) rfl
  have hKc := hK.sub (tys' := []) [] rfl
  have hFc := va_free (wc := [(h0, .inr (11, [.ref te, .ref ta, .ref re, .ref no, .ref pa, .ref ac, .ref op, .ref im, .ref ik, .ref hi, .ref rf, .int (-1)])), (no, .inr (6, [.ref te, .ref nt, .ref nl, .ref ns, .ref np, .int 0, .int 0, .long 0, .int (-1), .int (-1)]))]) hD hS hA [0, 1] rfl
  refine va_calli (va_runV (As := [.int (xs 1)]) (rest := []) ⟨hx, hb, hml, hown, hts⟩ (c_X11_due l dC dI h0 (xs 1) te ta re no pa ac op im ik hi rf nt nl ns np H.size) (cwV 1 hts (gi_V tb_c_X11_due tw_757.1 tw_758.1 tw_759.1 tw_324.1) rfl rfl rfl (by decide +kernel) ⟨Nat.le_of_ble_eq_true rfl, Nat.le_of_ble_eq_true rfl⟩) ⟨fun a U g mk q => by obtain ⟨q0, q1, qP, qK, qD⟩ := q; exact ⟨q0, q1, qP, va_K.moved (u := U) (U := U.calling g mk a) (Vm.Alike.refl U.vm) qK, qD⟩, va_recv hKc hPc (ci := 11) (q0 := 0) rfl rfl, fun U hU hW => ⟨rfl, by rw [hU], by rw [hU]; exact hPc, va_K.moved hW.alike hKc, hDc.weaken (fun _ _ _ _ => trivial)⟩⟩ rfl rfl hl.1 rfl (lv_room (Nat.le_of_ble_eq_true rfl)) dL_law_1065 ⟨Nat.le_of_ble_eq_true rfl, Nat.le_of_ble_eq_true rfl⟩) hS (fun q _ h => hFc q h) hFc (fun r_1 u t H1 locs ht hvm hw hB hz1 hk1 hS => ?_)
  obtain ⟨hP1, hK1, hD1⟩ := hB
  rw [ht] at hP1
  have hK1 := va_K.moved hvm.symm hK1
  obtain ⟨hP, hD⟩ := va_join (wr := [(h1, .inr (12, [.int 0, .int 0, .ref mr, .ref mt, .ref mw, .ref mu, .ref mp, .ref mi, .ref mk, .ref ms, .int 0, .ref mv, .int 0, .int 0, .int 0, .int 0, .long 0, .int (-1), .int 0, .ref m1w, .ref m2w, .ref m3w, .ref m4w, .int 0, .long 0, .long 0, .long 0])), (mw, .inl (cm3, 906, .inr (.inl fw)))]) (w1 := []) hP hD [0, 1] [2, 3] rfl rfl (by decide) (by decide) hk1 hFc hP1 hD1
  generalize H1 = H at hP hS ⊢
  have hP : va_P (dC, dI) vwCl [(h1, .inr (12, [.int 0, .int 0, .ref mr, .ref mt, .ref mw, .ref mu, .ref mp, .ref mi, .ref mk, .ref ms, .int 0, .ref mv, .int 0, .int 0, .int 0, .int 0, .long 0, .int (-1), .int 0, .ref m1w, .ref m2w, .ref m3w, .ref m4w, .int 0, .long 0, .long 0, .long 0])), (mw, .inl (cm3, 906, .inr (.inl fw)))] H := hP
  have hD : va_D A [(h1, .inr (12, [.int 0, .int 0, .ref mr, .ref mt, .ref mw, .ref mu, .ref mp, .ref mi, .ref mk, .ref ms, .int 0, .ref mv, .int 0, .int 0, .int 0, .int 0, .long 0, .int (-1), .int 0, .ref m1w, .ref m2w, .ref m3w, .ref m4w, .int 0, .long 0, .long 0, .long 0])), (mw, .inl (cm3, 906, .inr (.inl fw)))] := hD
  refine W.widen (k := 786) (n := 20946) (Nat.le_of_ble_eq_true rfl) (Nat.le_of_ble_eq_true rfl) ?_
  have hw : r_1 = (-1) := hw
  subst hw
  refine lv_aload_n hx hb dL_law_1068 rfl (lv_at hl 2 rfl) ?_
  refine lv_aload_n hx hb dL_law_1069 rfl (lv_at hl 0 rfl) ?_
  refine lv_iload_n hx hb dL_law_1070 rfl (lv_at hl 3 rfl) ?_
  refine lv_iconst (v := 1) hx hb dL_law_1071 (by decide) ?_
  refine lv_iadd hx hb dL_law_1072 ?_
  refine k_topi (y := 1) (by decide) ?_
  refine va_sld hx hb hX hbl hbA hS (by unfold vp_in; decide) dL_law_1073 ?_
  refine k_topi (y := xs 1) (congrArg xs (by decide)) ?_
  have hPc := hP.sub (ws' := [(h1, .inr (12, [.int 0, .int 0, .ref mr, .ref mt, .ref mw, .ref mu, .ref mp, .ref mi, .ref mk, .ref ms, .int 0, .ref mv, .int 0, .int 0, .int 0, .int 0, .long 0, .int (-1), .int 0, .ref m1w, .ref m2w, .ref m3w, .ref m4w, .int 0, .long 0, .long 0, .long 0])), (mw, .inl (cm3, 906, .inr (.inl fw)))]) [0, 1] rfl
  have hDc := hD.sub (ws' := [(h1, .inr (12, [.int 0, .int 0, .ref mr, .ref mt, .ref mw, .ref mu, .ref mp, .ref mi, .ref mk, .ref ms, .int 0, .ref mv, .int 0, .int 0, .int 0, .int 0, .long 0, .int (-1), .int 0, .ref m1w, .ref m2w, .ref m3w, .ref m4w, .int 0, .long 0, .long 0, .long 0])), (mw, .inl (cm3, 906, .inr (.inl fw)))]) [0, 1] (by decide) rfl
  have hKc := hK.sub (tys' := [(cm3, .long)]) [0] rfl
  have hFc := va_free (wc := [(h1, .inr (12, [.int 0, .int 0, .ref mr, .ref mt, .ref mw, .ref mu, .ref mp, .ref mi, .ref mk, .ref ms, .int 0, .ref mv, .int 0, .int 0, .int 0, .int 0, .long 0, .int (-1), .int 0, .ref m1w, .ref m2w, .ref m3w, .ref m4w, .int 0, .long 0, .long 0, .long 0])), (mw, .inl (cm3, 906, .inr (.inl fw)))]) hD hS hA [0, 1] rfl
  refine va_calli (va_runV (As := [.int (xs 1)]) (rest := [.int (-1)]) ⟨hx, hb, hml, hown, hts⟩ (c_X12_due l dC dI h1 (xs 1) mr mt mw mu mp mi mk ms mv m1w m2w m3w m4w cm3 fw H.size hw0 hw1 hw2 hw3 hw4 hw5) (cwV 1 hts (gi_V tb_c_X12_due tw_760.1 tw_761.1 tw_762.1 tw_435.1) rfl rfl rfl (by decide +kernel) ⟨Nat.le_of_ble_eq_true rfl, Nat.le_of_ble_eq_true rfl⟩) ⟨fun a U g mk q => by obtain ⟨q0, q1, qP, qK, qD⟩ := q; exact ⟨q0, q1, qP, va_K.moved (u := U) (U := U.calling g mk a) (Vm.Alike.refl U.vm) qK, qD⟩, va_recv hKc hPc (ci := 12) (q0 := 0) rfl rfl, fun U hU hW => ⟨rfl, by rw [hU], by rw [hU]; exact hPc, va_K.moved hW.alike hKc, hDc.weaken (fun _ _ _ _ => trivial)⟩⟩ rfl rfl hl.1 rfl (lv_room (Nat.le_of_ble_eq_true rfl)) dL_law_1074 ⟨Nat.le_of_ble_eq_true rfl, Nat.le_of_ble_eq_true rfl⟩) hS (fun q _ h => hFc q h) hFc (fun r_2 u t H1 locs ht hvm hw hB hz1 hk1 hS => ?_)
  obtain ⟨hP1, hK1, hD1⟩ := hB
  rw [ht] at hP1
  have hK1 := va_K.moved hvm.symm hK1
  obtain ⟨hP, hD⟩ := va_join (wr := []) (w1 := []) hP hD [0, 1] [] rfl rfl (by decide) (by decide) hk1 hFc hP1 hD1
  generalize H1 = H at hP hS ⊢
  have hP : va_P (dC, dI) vwCl [] H := hP
  have hD : va_D A [] := hD
  refine W.widen (k := 786) (n := 20946) (Nat.le_of_ble_eq_true rfl) (Nat.le_of_ble_eq_true rfl) ?_
  have hw : r_2 = (-1) := hw
  subst hw
  refine lv_icmp_eq (tgt := 1204) hx hb dL_law_1077 (by decide) (fun _ => ?_) (fun c => absurd (by decide) c)
  exact law_next C0 hA hbA hAq (hK.sub [] rfl) (hP.sub [] rfl) (hD.sub [] (by decide) rfl) hS (lv_sub hl [0, 1, 2, 3] rfl)
set_option maxHeartbeats 4000000 in
set_option maxRecDepth 100000 in
theorem law_least {p : Program} {l : Launch} {e : Env} {s : State} {m : MethodId} {below : List Frame} {meth : Method} {c : Code} {dC : Nat → ClassId} {dI : Nat → Nat → Nat} {b : Nat} {xs : Nat → Int32} {A : Nat → Prop} (C0 : lw_At p s m meth c b 6 xs) (hA : ∀ q : Nat, s.heap.size ≤ q → A q) (hbA : ¬ A b) (hAq : ∀ q : Nat, A q → s.heap.size ≤ q) {h0 : Nat} {h1 : Nat} {te : Nat} {ta : Nat} {re : Nat} {no : Nat} {pa : Nat} {ac : Nat} {op : Nat} {im : Nat} {ik : Nat} {hi : Nat} {rf : Nat} {nt : Nat} {nl : Nat} {ns : Nat} {np : Nat} {mr : Nat} {mt : Nat} {mw : Nat} {mu : Nat} {mp : Nat} {mi : Nat} {mk : Nat} {ms : Nat} {mv : Nat} {m1w : Nat} {m2w : Nat} {m3w : Nat} {m4w : Nat} {cm3 : ClassId} {fw : Nat → Int64} {H : Heap} {locs : List Loc} {ls : Array Slot} (hw0 : fw 0 = 0) (hw1 : fw 1 = 0) (hw2 : fw 2 = 0) (hw3 : fw 3 = (-1)) (hw4 : fw 4 = (-1)) (hw5 : fw 5 = 0) (hK : va_K (dC, dI) vwCl [(cm3, .long)] s) (hP : va_P (dC, dI) vwCl [(h0, .inr (11, [.ref te, .ref ta, .ref re, .ref no, .ref pa, .ref ac, .ref op, .ref im, .ref ik, .ref hi, .ref rf, .int (-1)])), (no, .inr (6, [.ref te, .ref nt, .ref nl, .ref ns, .ref np, .int 0, .int 0, .long 0, .int (-1), .int (-1)])), (h1, .inr (12, [.int 0, .int 0, .ref mr, .ref mt, .ref mw, .ref mu, .ref mp, .ref mi, .ref mk, .ref ms, .int 0, .ref mv, .int 0, .int 0, .int 0, .int 0, .long 0, .int (-1), .int 0, .ref m1w, .ref m2w, .ref m3w, .ref m4w, .int 0, .long 0, .long 0, .long 0])), (mw, .inl (cm3, 906, .inr (.inl fw)))] H) (hD : va_D A [(h0, .inr (11, [.ref te, .ref ta, .ref re, .ref no, .ref pa, .ref ac, .ref op, .ref im, .ref ik, .ref hi, .ref rf, .int (-1)])), (no, .inr (6, [.ref te, .ref nt, .ref nl, .ref ns, .ref np, .int 0, .int 0, .long 0, .int (-1), .int (-1)])), (h1, .inr (12, [.int 0, .int 0, .ref mr, .ref mt, .ref mw, .ref mu, .ref mp, .ref mi, .ref mk, .ref ms, .int 0, .ref mv, .int 0, .int 0, .int 0, .int 0, .long 0, .int (-1), .int 0, .ref m1w, .ref m2w, .ref m3w, .ref m4w, .int 0, .long 0, .long 0, .long 0])), (mw, .inl (cm3, 906, .inr (.inl fw)))]) (hS : va_S A s.heap H locs) (hl : lv_has ls 4 [(0, .ref b), (1, .ref h0), (2, .ref h1), (3, .int 0)]) : W p l e room_1 s m #[Value.ref b] below meth c H locs 786 20946 (lw_Z below #[Value.ref b] s) (F0 m 1082 ls []) := by
  obtain ⟨hx, hb, hr, hml, hown, hts, hX, hbl, hlocks, hgv⟩ := id C0
  have hown : s.vm.findClass RL = some m.cls := hown
  refine lv_aload_n hx hb dL_law_1082 rfl (lv_at hl 1 rfl) ?_
  refine lv_aload_n hx hb dL_law_1083 rfl (lv_at hl 0 rfl) ?_
  refine lv_iload_n hx hb dL_law_1084 rfl (lv_at hl 3 rfl) ?_
  refine lv_iconst (v := 1) hx hb dL_law_1085 (by decide) ?_
  refine lv_iadd hx hb dL_law_1086 ?_
  refine k_topi (y := 1) (by decide) ?_
  refine va_sld hx hb hX hbl hbA hS (by unfold vp_in; decide) dL_law_1087 ?_
  refine k_topi (y := xs 1) (congrArg xs (by decide)) ?_
  refine lv_aload_n hx hb dL_law_1088 rfl (lv_at hl 0 rfl) ?_
  refine lv_iload_n hx hb dL_law_1089 rfl (lv_at hl 3 rfl) ?_
  refine lv_iconst (v := 2) hx hb dL_law_1090 (by decide) ?_
  refine lv_iadd hx hb dL_law_1091 ?_
  refine k_topi (y := 2) (by decide) ?_
  refine va_sld hx hb hX hbl hbA hS (by unfold vp_in; decide) dL_law_1092 ?_
  refine k_topi (y := xs 2) (congrArg xs (by decide)) ?_
  refine lv_aload_n hx hb dL_law_1093 rfl (lv_at hl 0 rfl) ?_
  refine lv_iload_n hx hb dL_law_1094 rfl (lv_at hl 3 rfl) ?_
  refine lv_iconst (v := 3) hx hb dL_law_1095 (by decide) ?_
  refine lv_iadd hx hb dL_law_1096 ?_
  refine k_topi (y := 3) (by decide) ?_
  refine va_sld hx hb hX hbl hbA hS (by unfold vp_in; decide) dL_law_1097 ?_
  refine k_topi (y := xs 3) (congrArg xs (by decide)) ?_
  have hPc := hP.sub (ws' := [(h0, .inr (11, [.ref te, .ref ta, .ref re, .ref no, .ref pa, .ref ac, .ref op, .ref im, .ref ik, .ref hi, .ref rf, .int (-1)])), (no, .inr (6, [.ref te, .ref nt, .ref nl, .ref ns, .ref np, .int 0, .int 0, .long 0, .int (-1), .int (-1)]))]) [0, 1] rfl
  have hDc := hD.sub (ws' := [(h0, .inr (11, [.ref te, .ref ta, .ref re, .ref no, .ref pa, .ref ac, .ref op, .ref im, .ref ik, .ref hi, .ref rf, .int (-1)])), (no, .inr (6, [.ref te, .ref nt, .ref nl, .ref ns, .ref np, .int 0, .int 0, .long 0, .int (-1), .int (-1)]))]) [0, 1] (by decide) rfl
  have hKc := hK.sub (tys' := []) [] rfl
  have hFc := va_free (wc := [(h0, .inr (11, [.ref te, .ref ta, .ref re, .ref no, .ref pa, .ref ac, .ref op, .ref im, .ref ik, .ref hi, .ref rf, .int (-1)])), (no, .inr (6, [.ref te, .ref nt, .ref nl, .ref ns, .ref np, .int 0, .int 0, .long 0, .int (-1), .int (-1)]))]) hD hS hA [0, 1] rfl
  refine va_calli (va_runV (As := [.int (xs 1), .int (xs 2), .int (xs 3)]) (rest := []) ⟨hx, hb, hml, hown, hts⟩ (c_X11_least l dC dI h0 (xs 1) (xs 2) (xs 3) te ta re no pa ac op im ik hi rf nt nl ns np H.size) (cwV 3 hts (gi_V tb_c_X11_least tw_763.1 tw_764.1 tw_765.1 tw_324.1) rfl rfl rfl (by decide +kernel) ⟨Nat.le_of_ble_eq_true rfl, Nat.le_of_ble_eq_true rfl⟩) ⟨fun a U g mk q => by obtain ⟨q0, q1, qP, qK, qD⟩ := q; exact ⟨q0, q1, qP, va_K.moved (u := U) (U := U.calling g mk a) (Vm.Alike.refl U.vm) qK, qD⟩, va_recv hKc hPc (ci := 11) (q0 := 0) rfl rfl, fun U hU hW => ⟨rfl, by rw [hU], by rw [hU]; exact hPc, va_K.moved hW.alike hKc, hDc.weaken (fun _ _ _ _ => trivial)⟩⟩ rfl rfl hl.1 rfl (lv_room (Nat.le_of_ble_eq_true rfl)) dL_law_1098 ⟨Nat.le_of_ble_eq_true rfl, Nat.le_of_ble_eq_true rfl⟩) hS (fun q _ h => hFc q h) hFc (fun r_1 u t H1 locs ht hvm hw hB hz1 hk1 hS => ?_)
  obtain ⟨hP1, hK1, hD1⟩ := hB
  rw [ht] at hP1
  have hK1 := va_K.moved hvm.symm hK1
  obtain ⟨hP, hD⟩ := va_join (wr := [(h1, .inr (12, [.int 0, .int 0, .ref mr, .ref mt, .ref mw, .ref mu, .ref mp, .ref mi, .ref mk, .ref ms, .int 0, .ref mv, .int 0, .int 0, .int 0, .int 0, .long 0, .int (-1), .int 0, .ref m1w, .ref m2w, .ref m3w, .ref m4w, .int 0, .long 0, .long 0, .long 0])), (mw, .inl (cm3, 906, .inr (.inl fw)))]) (w1 := []) hP hD [0, 1] [2, 3] rfl rfl (by decide) (by decide) hk1 hFc hP1 hD1
  generalize H1 = H at hP hS ⊢
  have hP : va_P (dC, dI) vwCl [(h1, .inr (12, [.int 0, .int 0, .ref mr, .ref mt, .ref mw, .ref mu, .ref mp, .ref mi, .ref mk, .ref ms, .int 0, .ref mv, .int 0, .int 0, .int 0, .int 0, .long 0, .int (-1), .int 0, .ref m1w, .ref m2w, .ref m3w, .ref m4w, .int 0, .long 0, .long 0, .long 0])), (mw, .inl (cm3, 906, .inr (.inl fw)))] H := hP
  have hD : va_D A [(h1, .inr (12, [.int 0, .int 0, .ref mr, .ref mt, .ref mw, .ref mu, .ref mp, .ref mi, .ref mk, .ref ms, .int 0, .ref mv, .int 0, .int 0, .int 0, .int 0, .long 0, .int (-1), .int 0, .ref m1w, .ref m2w, .ref m3w, .ref m4w, .int 0, .long 0, .long 0, .long 0])), (mw, .inl (cm3, 906, .inr (.inl fw)))] := hD
  refine W.widen (k := 786) (n := 20946) (Nat.le_of_ble_eq_true rfl) (Nat.le_of_ble_eq_true rfl) ?_
  have hw : r_1 = (-1) := hw
  subst hw
  refine lv_aload_n hx hb dL_law_1101 rfl (lv_at hl 2 rfl) ?_
  refine lv_aload_n hx hb dL_law_1102 rfl (lv_at hl 0 rfl) ?_
  refine lv_iload_n hx hb dL_law_1103 rfl (lv_at hl 3 rfl) ?_
  refine lv_iconst (v := 1) hx hb dL_law_1104 (by decide) ?_
  refine lv_iadd hx hb dL_law_1105 ?_
  refine k_topi (y := 1) (by decide) ?_
  refine va_sld hx hb hX hbl hbA hS (by unfold vp_in; decide) dL_law_1106 ?_
  refine k_topi (y := xs 1) (congrArg xs (by decide)) ?_
  refine lv_aload_n hx hb dL_law_1107 rfl (lv_at hl 0 rfl) ?_
  refine lv_iload_n hx hb dL_law_1108 rfl (lv_at hl 3 rfl) ?_
  refine lv_iconst (v := 2) hx hb dL_law_1109 (by decide) ?_
  refine lv_iadd hx hb dL_law_1110 ?_
  refine k_topi (y := 2) (by decide) ?_
  refine va_sld hx hb hX hbl hbA hS (by unfold vp_in; decide) dL_law_1111 ?_
  refine k_topi (y := xs 2) (congrArg xs (by decide)) ?_
  refine lv_aload_n hx hb dL_law_1112 rfl (lv_at hl 0 rfl) ?_
  refine lv_iload_n hx hb dL_law_1113 rfl (lv_at hl 3 rfl) ?_
  refine lv_iconst (v := 3) hx hb dL_law_1114 (by decide) ?_
  refine lv_iadd hx hb dL_law_1115 ?_
  refine k_topi (y := 3) (by decide) ?_
  refine va_sld hx hb hX hbl hbA hS (by unfold vp_in; decide) dL_law_1116 ?_
  refine k_topi (y := xs 3) (congrArg xs (by decide)) ?_
  have hPc := hP.sub (ws' := [(h1, .inr (12, [.int 0, .int 0, .ref mr, .ref mt, .ref mw, .ref mu, .ref mp, .ref mi, .ref mk, .ref ms, .int 0, .ref mv, .int 0, .int 0, .int 0, .int 0, .long 0, .int (-1), .int 0, .ref m1w, .ref m2w, .ref m3w, .ref m4w, .int 0, .long 0, .long 0, .long 0])), (mw, .inl (cm3, 906, .inr (.inl fw)))]) [0, 1] rfl
  have hDc := hD.sub (ws' := [(h1, .inr (12, [.int 0, .int 0, .ref mr, .ref mt, .ref mw, .ref mu, .ref mp, .ref mi, .ref mk, .ref ms, .int 0, .ref mv, .int 0, .int 0, .int 0, .int 0, .long 0, .int (-1), .int 0, .ref m1w, .ref m2w, .ref m3w, .ref m4w, .int 0, .long 0, .long 0, .long 0])), (mw, .inl (cm3, 906, .inr (.inl fw)))]) [0, 1] (by decide) rfl
  have hKc := hK.sub (tys' := [(cm3, .long)]) [0] rfl
  have hFc := va_free (wc := [(h1, .inr (12, [.int 0, .int 0, .ref mr, .ref mt, .ref mw, .ref mu, .ref mp, .ref mi, .ref mk, .ref ms, .int 0, .ref mv, .int 0, .int 0, .int 0, .int 0, .long 0, .int (-1), .int 0, .ref m1w, .ref m2w, .ref m3w, .ref m4w, .int 0, .long 0, .long 0, .long 0])), (mw, .inl (cm3, 906, .inr (.inl fw)))]) hD hS hA [0, 1] rfl
  refine va_calli (va_runV (As := [.int (xs 1), .int (xs 2), .int (xs 3)]) (rest := [.int (-1)]) ⟨hx, hb, hml, hown, hts⟩ (c_X12_least l dC dI h1 (xs 1) (xs 2) (xs 3) mr mt mw mu mp mi mk ms mv m1w m2w m3w m4w cm3 fw H.size hw0 hw1 hw2 hw3 hw4 hw5) (cwV 3 hts (gi_V tb_c_X12_least tw_766.1 tw_767.1 tw_768.1 tw_435.1) rfl rfl rfl (by decide +kernel) ⟨Nat.le_of_ble_eq_true rfl, Nat.le_of_ble_eq_true rfl⟩) ⟨fun a U g mk q => by obtain ⟨q0, q1, qP, qK, qD⟩ := q; exact ⟨q0, q1, qP, va_K.moved (u := U) (U := U.calling g mk a) (Vm.Alike.refl U.vm) qK, qD⟩, va_recv hKc hPc (ci := 12) (q0 := 0) rfl rfl, fun U hU hW => ⟨rfl, by rw [hU], by rw [hU]; exact hPc, va_K.moved hW.alike hKc, hDc.weaken (fun _ _ _ _ => trivial)⟩⟩ rfl rfl hl.1 rfl (lv_room (Nat.le_of_ble_eq_true rfl)) dL_law_1117 ⟨Nat.le_of_ble_eq_true rfl, Nat.le_of_ble_eq_true rfl⟩) hS (fun q _ h => hFc q h) hFc (fun r_2 u t H1 locs ht hvm hw hB hz1 hk1 hS => ?_)
  obtain ⟨hP1, hK1, hD1⟩ := hB
  rw [ht] at hP1
  have hK1 := va_K.moved hvm.symm hK1
  obtain ⟨hP, hD⟩ := va_join (wr := []) (w1 := []) hP hD [0, 1] [] rfl rfl (by decide) (by decide) hk1 hFc hP1 hD1
  generalize H1 = H at hP hS ⊢
  have hP : va_P (dC, dI) vwCl [] H := hP
  have hD : va_D A [] := hD
  refine W.widen (k := 786) (n := 20946) (Nat.le_of_ble_eq_true rfl) (Nat.le_of_ble_eq_true rfl) ?_
  have hw : r_2 = (-1) := hw
  subst hw
  refine lv_icmp_eq (tgt := 1204) hx hb dL_law_1120 (by decide) (fun _ => ?_) (fun c => absurd (by decide) c)
  exact law_next C0 hA hbA hAq (hK.sub [] rfl) (hP.sub [] rfl) (hD.sub [] (by decide) rfl) hS (lv_sub hl [0, 1, 2, 3] rfl)
set_option maxHeartbeats 4000000 in
set_option maxRecDepth 100000 in
theorem law_would {p : Program} {l : Launch} {e : Env} {s : State} {m : MethodId} {below : List Frame} {meth : Method} {c : Code} {dC : Nat → ClassId} {dI : Nat → Nat → Nat} {b : Nat} {xs : Nat → Int32} {A : Nat → Prop} (C0 : lw_At p s m meth c b 6 xs) (hA : ∀ q : Nat, s.heap.size ≤ q → A q) (hbA : ¬ A b) (hAq : ∀ q : Nat, A q → s.heap.size ≤ q) {h0 : Nat} {h1 : Nat} {te : Nat} {ta : Nat} {re : Nat} {no : Nat} {pa : Nat} {ac : Nat} {op : Nat} {im : Nat} {ik : Nat} {hi : Nat} {rf : Nat} {nt : Nat} {nl : Nat} {ns : Nat} {np : Nat} {nr : Nat} {cl1 : ClassId} {pt : Nat} {pl : Nat} {ps : Nat} {pp : Nat} {pr : Nat} {cl2 : ClassId} {mr : Nat} {mt : Nat} {mw : Nat} {mu : Nat} {mp : Nat} {mi : Nat} {mk : Nat} {ms : Nat} {mv : Nat} {m1w : Nat} {m2w : Nat} {m3w : Nat} {m4w : Nat} {cm2 : ClassId} {ft : Nat → Int32} {cm3 : ClassId} {fw : Nat → Int64} {cm5 : ClassId} {H : Heap} {locs : List Loc} {ls : Array Slot} (ht0 : ft 0 = 0) (ht1 : ft 1 = 1) (ht2 : ft 2 = 1) (hw0 : fw 0 = 0) (hw1 : fw 1 = 0) (hw2 : fw 2 = 0) (hw3 : fw 3 = (-1)) (hw4 : fw 4 = (-1)) (hw5 : fw 5 = 0) (hK : va_K (dC, dI) vwCl [(cl1, .long), (cl2, .long), (cm2, .int), (cm3, .long), (cm5, .long)] s) (hP : va_P (dC, dI) vwCl [(h0, .inr (11, [.ref te, .ref ta, .ref re, .ref no, .ref pa, .ref ac, .ref op, .ref im, .ref ik, .ref hi, .ref rf, .int (-1)])), (te, .inr (9, [.int 0, .int 1, .int 1])), (no, .inr (6, [.ref te, .ref nt, .ref nl, .ref ns, .ref np, .int 0, .int 0, .long 0, .int (-1), .int (-1)])), (nl, .inr (2, [.ref nr])), (nr, .inl (cl1, 128, .inr (.inl (fun _ => 0)))), (pa, .inr (6, [.ref te, .ref pt, .ref pl, .ref ps, .ref pp, .int 0, .int 0, .long 0, .int (-1), .int (-1)])), (pl, .inr (2, [.ref pr])), (pr, .inl (cl2, 128, .inr (.inl (fun _ => 0)))), (ps, .inr (10, [.long 0, .long 0])), (op, .inr (0, [.ref te, .int 0, .long 0])), (h1, .inr (12, [.int 0, .int 0, .ref mr, .ref mt, .ref mw, .ref mu, .ref mp, .ref mi, .ref mk, .ref ms, .int 0, .ref mv, .int 0, .int 0, .int 0, .int 0, .long 0, .int (-1), .int 0, .ref m1w, .ref m2w, .ref m3w, .ref m4w, .int 0, .long 0, .long 0, .long 0])), (mt, .inl (cm2, 3, .inl ft)), (mw, .inl (cm3, 906, .inr (.inl fw))), (mp, .inl (cm5, 906, .inr (.inl (fun _ => 0))))] H) (hD : va_D A [(h0, .inr (11, [.ref te, .ref ta, .ref re, .ref no, .ref pa, .ref ac, .ref op, .ref im, .ref ik, .ref hi, .ref rf, .int (-1)])), (te, .inr (9, [.int 0, .int 1, .int 1])), (no, .inr (6, [.ref te, .ref nt, .ref nl, .ref ns, .ref np, .int 0, .int 0, .long 0, .int (-1), .int (-1)])), (nl, .inr (2, [.ref nr])), (nr, .inl (cl1, 128, .inr (.inl (fun _ => 0)))), (pa, .inr (6, [.ref te, .ref pt, .ref pl, .ref ps, .ref pp, .int 0, .int 0, .long 0, .int (-1), .int (-1)])), (pl, .inr (2, [.ref pr])), (pr, .inl (cl2, 128, .inr (.inl (fun _ => 0)))), (ps, .inr (10, [.long 0, .long 0])), (op, .inr (0, [.ref te, .int 0, .long 0])), (h1, .inr (12, [.int 0, .int 0, .ref mr, .ref mt, .ref mw, .ref mu, .ref mp, .ref mi, .ref mk, .ref ms, .int 0, .ref mv, .int 0, .int 0, .int 0, .int 0, .long 0, .int (-1), .int 0, .ref m1w, .ref m2w, .ref m3w, .ref m4w, .int 0, .long 0, .long 0, .long 0])), (mt, .inl (cm2, 3, .inl ft)), (mw, .inl (cm3, 906, .inr (.inl fw))), (mp, .inl (cm5, 906, .inr (.inl (fun _ => 0))))]) (hS : va_S A s.heap H locs) (hl : lv_has ls 4 [(0, .ref b), (1, .ref h0), (2, .ref h1), (3, .int 0)]) : W p l e room_1 s m #[Value.ref b] below meth c H locs 786 20946 (lw_Z below #[Value.ref b] s) (F0 m 1125 ls []) := by
  obtain ⟨hx, hb, hr, hml, hown, hts, hX, hbl, hlocks, hgv⟩ := id C0
  have hown : s.vm.findClass RL = some m.cls := hown
  refine lv_aload_n hx hb dL_law_1125 rfl (lv_at hl 1 rfl) ?_
  refine lv_aload_n hx hb dL_law_1126 rfl (lv_at hl 0 rfl) ?_
  refine lv_iload_n hx hb dL_law_1127 rfl (lv_at hl 3 rfl) ?_
  refine lv_iconst (v := 1) hx hb dL_law_1128 (by decide) ?_
  refine lv_iadd hx hb dL_law_1129 ?_
  refine k_topi (y := 1) (by decide) ?_
  refine va_sld hx hb hX hbl hbA hS (by unfold vp_in; decide) dL_law_1130 ?_
  refine k_topi (y := xs 1) (congrArg xs (by decide)) ?_
  refine lv_aload_n hx hb dL_law_1131 rfl (lv_at hl 0 rfl) ?_
  refine lv_iload_n hx hb dL_law_1132 rfl (lv_at hl 3 rfl) ?_
  refine lv_iconst (v := 2) hx hb dL_law_1133 (by decide) ?_
  refine lv_iadd hx hb dL_law_1134 ?_
  refine k_topi (y := 2) (by decide) ?_
  refine va_sld hx hb hX hbl hbA hS (by unfold vp_in; decide) dL_law_1135 ?_
  refine k_topi (y := xs 2) (congrArg xs (by decide)) ?_
  refine lv_aload_n hx hb dL_law_1136 rfl (lv_at hl 0 rfl) ?_
  refine lv_iload_n hx hb dL_law_1137 rfl (lv_at hl 3 rfl) ?_
  refine lv_iconst (v := 3) hx hb dL_law_1138 (by decide) ?_
  refine lv_iadd hx hb dL_law_1139 ?_
  refine k_topi (y := 3) (by decide) ?_
  refine va_sld hx hb hX hbl hbA hS (by unfold vp_in; decide) dL_law_1140 ?_
  refine k_topi (y := xs 3) (congrArg xs (by decide)) ?_
  have hPc := hP.sub (ws' := [(h0, .inr (11, [.ref te, .ref ta, .ref re, .ref no, .ref pa, .ref ac, .ref op, .ref im, .ref ik, .ref hi, .ref rf, .int (-1)])), (te, .inr (9, [.int 0, .int 1, .int 1])), (no, .inr (6, [.ref te, .ref nt, .ref nl, .ref ns, .ref np, .int 0, .int 0, .long 0, .int (-1), .int (-1)])), (nl, .inr (2, [.ref nr])), (nr, .inl (cl1, 128, .inr (.inl (fun _ => 0)))), (pa, .inr (6, [.ref te, .ref pt, .ref pl, .ref ps, .ref pp, .int 0, .int 0, .long 0, .int (-1), .int (-1)])), (pl, .inr (2, [.ref pr])), (pr, .inl (cl2, 128, .inr (.inl (fun _ => 0)))), (ps, .inr (10, [.long 0, .long 0])), (op, .inr (0, [.ref te, .int 0, .long 0]))]) [0, 1, 2, 3, 4, 5, 6, 7, 8, 9] rfl
  have hDc := hD.sub (ws' := [(h0, .inr (11, [.ref te, .ref ta, .ref re, .ref no, .ref pa, .ref ac, .ref op, .ref im, .ref ik, .ref hi, .ref rf, .int (-1)])), (te, .inr (9, [.int 0, .int 1, .int 1])), (no, .inr (6, [.ref te, .ref nt, .ref nl, .ref ns, .ref np, .int 0, .int 0, .long 0, .int (-1), .int (-1)])), (nl, .inr (2, [.ref nr])), (nr, .inl (cl1, 128, .inr (.inl (fun _ => 0)))), (pa, .inr (6, [.ref te, .ref pt, .ref pl, .ref ps, .ref pp, .int 0, .int 0, .long 0, .int (-1), .int (-1)])), (pl, .inr (2, [.ref pr])), (pr, .inl (cl2, 128, .inr (.inl (fun _ => 0)))), (ps, .inr (10, [.long 0, .long 0])), (op, .inr (0, [.ref te, .int 0, .long 0]))]) [0, 1, 2, 3, 4, 5, 6, 7, 8, 9] (by decide) rfl
  have hKc := hK.sub (tys' := [(cl1, .long), (cl2, .long)]) [0, 1] rfl
  have hFc := va_free (wc := [(h0, .inr (11, [.ref te, .ref ta, .ref re, .ref no, .ref pa, .ref ac, .ref op, .ref im, .ref ik, .ref hi, .ref rf, .int (-1)])), (te, .inr (9, [.int 0, .int 1, .int 1])), (no, .inr (6, [.ref te, .ref nt, .ref nl, .ref ns, .ref np, .int 0, .int 0, .long 0, .int (-1), .int (-1)])), (nl, .inr (2, [.ref nr])), (nr, .inl (cl1, 128, .inr (.inl (fun _ => 0)))), (pa, .inr (6, [.ref te, .ref pt, .ref pl, .ref ps, .ref pp, .int 0, .int 0, .long 0, .int (-1), .int (-1)])), (pl, .inr (2, [.ref pr])), (pr, .inl (cl2, 128, .inr (.inl (fun _ => 0)))), (ps, .inr (10, [.long 0, .long 0])), (op, .inr (0, [.ref te, .int 0, .long 0]))]) hD hS hA [0, 1, 2, 3, 4, 5, 6, 7, 8, 9] rfl
  refine va_calli (va_runV (As := [.int (xs 1), .int (xs 2), .int (xs 3)]) (rest := []) ⟨hx, hb, hml, hown, hts⟩ (c_X11_would l dC dI h0 (xs 1) (xs 2) (xs 3) te ta re no pa ac op im ik hi rf nt nl ns np nr cl1 pt pl ps pp pr cl2 H.size) (cwV 3 hts (gi_V tb_c_X11_would tw_769.1 tw_770.1 tw_771.1 tw_324.1) rfl rfl rfl (by decide +kernel) ⟨Nat.le_of_ble_eq_true rfl, Nat.le_of_ble_eq_true rfl⟩) ⟨fun a U g mk q => by obtain ⟨q0, q1, qP, qK, qD⟩ := q; exact ⟨q0, q1, qP, va_K.moved (u := U) (U := U.calling g mk a) (Vm.Alike.refl U.vm) qK, qD⟩, va_recv hKc hPc (ci := 11) (q0 := 0) rfl rfl, fun U hU hW => ⟨rfl, by rw [hU], by rw [hU]; exact hPc, va_K.moved hW.alike hKc, hDc.weaken (fun _ _ _ _ => trivial)⟩⟩ rfl rfl hl.1 rfl (lv_room (Nat.le_of_ble_eq_true rfl)) dL_law_1141 ⟨Nat.le_of_ble_eq_true rfl, Nat.le_of_ble_eq_true rfl⟩) hS (fun q _ h => hFc q h) hFc (fun r_1 u t H1 locs ht hvm hw hB hz1 hk1 hS => ?_)
  obtain ⟨hP1, hK1, hD1⟩ := hB
  rw [ht] at hP1
  have hK1 := va_K.moved hvm.symm hK1
  obtain ⟨hP, hD⟩ := va_join (wr := [(h1, .inr (12, [.int 0, .int 0, .ref mr, .ref mt, .ref mw, .ref mu, .ref mp, .ref mi, .ref mk, .ref ms, .int 0, .ref mv, .int 0, .int 0, .int 0, .int 0, .long 0, .int (-1), .int 0, .ref m1w, .ref m2w, .ref m3w, .ref m4w, .int 0, .long 0, .long 0, .long 0])), (mt, .inl (cm2, 3, .inl ft)), (mw, .inl (cm3, 906, .inr (.inl fw))), (mp, .inl (cm5, 906, .inr (.inl (fun _ => 0))))]) (w1 := []) hP hD [0, 1, 2, 3, 4, 5, 6, 7, 8, 9] [10, 11, 12, 13] rfl rfl (by decide) (by decide) hk1 hFc hP1 hD1
  generalize H1 = H at hP hS ⊢
  have hP : va_P (dC, dI) vwCl [(h1, .inr (12, [.int 0, .int 0, .ref mr, .ref mt, .ref mw, .ref mu, .ref mp, .ref mi, .ref mk, .ref ms, .int 0, .ref mv, .int 0, .int 0, .int 0, .int 0, .long 0, .int (-1), .int 0, .ref m1w, .ref m2w, .ref m3w, .ref m4w, .int 0, .long 0, .long 0, .long 0])), (mt, .inl (cm2, 3, .inl ft)), (mw, .inl (cm3, 906, .inr (.inl fw))), (mp, .inl (cm5, 906, .inr (.inl (fun _ => 0))))] H := hP
  have hD : va_D A [(h1, .inr (12, [.int 0, .int 0, .ref mr, .ref mt, .ref mw, .ref mu, .ref mp, .ref mi, .ref mk, .ref ms, .int 0, .ref mv, .int 0, .int 0, .int 0, .int 0, .long 0, .int (-1), .int 0, .ref m1w, .ref m2w, .ref m3w, .ref m4w, .int 0, .long 0, .long 0, .long 0])), (mt, .inl (cm2, 3, .inl ft)), (mw, .inl (cm3, 906, .inr (.inl fw))), (mp, .inl (cm5, 906, .inr (.inl (fun _ => 0))))] := hD
  refine W.widen (k := 786) (n := 20946) (Nat.le_of_ble_eq_true rfl) (Nat.le_of_ble_eq_true rfl) ?_
  have hw : r_1 = sp_would (xs 1) (xs 2) (xs 3) := hw
  subst hw
  refine lv_aload_n hx hb dL_law_1144 rfl (lv_at hl 2 rfl) ?_
  refine lv_aload_n hx hb dL_law_1145 rfl (lv_at hl 0 rfl) ?_
  refine lv_iload_n hx hb dL_law_1146 rfl (lv_at hl 3 rfl) ?_
  refine lv_iconst (v := 1) hx hb dL_law_1147 (by decide) ?_
  refine lv_iadd hx hb dL_law_1148 ?_
  refine k_topi (y := 1) (by decide) ?_
  refine va_sld hx hb hX hbl hbA hS (by unfold vp_in; decide) dL_law_1149 ?_
  refine k_topi (y := xs 1) (congrArg xs (by decide)) ?_
  refine lv_aload_n hx hb dL_law_1150 rfl (lv_at hl 0 rfl) ?_
  refine lv_iload_n hx hb dL_law_1151 rfl (lv_at hl 3 rfl) ?_
  refine lv_iconst (v := 2) hx hb dL_law_1152 (by decide) ?_
  refine lv_iadd hx hb dL_law_1153 ?_
  refine k_topi (y := 2) (by decide) ?_
  refine va_sld hx hb hX hbl hbA hS (by unfold vp_in; decide) dL_law_1154 ?_
  refine k_topi (y := xs 2) (congrArg xs (by decide)) ?_
  refine lv_aload_n hx hb dL_law_1155 rfl (lv_at hl 0 rfl) ?_
  refine lv_iload_n hx hb dL_law_1156 rfl (lv_at hl 3 rfl) ?_
  refine lv_iconst (v := 3) hx hb dL_law_1157 (by decide) ?_
  refine lv_iadd hx hb dL_law_1158 ?_
  refine k_topi (y := 3) (by decide) ?_
  refine va_sld hx hb hX hbl hbA hS (by unfold vp_in; decide) dL_law_1159 ?_
  refine k_topi (y := xs 3) (congrArg xs (by decide)) ?_
  have hPc := hP.sub (ws' := [(h1, .inr (12, [.int 0, .int 0, .ref mr, .ref mt, .ref mw, .ref mu, .ref mp, .ref mi, .ref mk, .ref ms, .int 0, .ref mv, .int 0, .int 0, .int 0, .int 0, .long 0, .int (-1), .int 0, .ref m1w, .ref m2w, .ref m3w, .ref m4w, .int 0, .long 0, .long 0, .long 0])), (mt, .inl (cm2, 3, .inl ft)), (mw, .inl (cm3, 906, .inr (.inl fw))), (mp, .inl (cm5, 906, .inr (.inl (fun _ => 0))))]) [0, 1, 2, 3] rfl
  have hDc := hD.sub (ws' := [(h1, .inr (12, [.int 0, .int 0, .ref mr, .ref mt, .ref mw, .ref mu, .ref mp, .ref mi, .ref mk, .ref ms, .int 0, .ref mv, .int 0, .int 0, .int 0, .int 0, .long 0, .int (-1), .int 0, .ref m1w, .ref m2w, .ref m3w, .ref m4w, .int 0, .long 0, .long 0, .long 0])), (mt, .inl (cm2, 3, .inl ft)), (mw, .inl (cm3, 906, .inr (.inl fw))), (mp, .inl (cm5, 906, .inr (.inl (fun _ => 0))))]) [0, 1, 2, 3] (by decide) rfl
  have hKc := hK.sub (tys' := [(cm2, .int), (cm3, .long), (cm5, .long)]) [2, 3, 4] rfl
  have hFc := va_free (wc := [(h1, .inr (12, [.int 0, .int 0, .ref mr, .ref mt, .ref mw, .ref mu, .ref mp, .ref mi, .ref mk, .ref ms, .int 0, .ref mv, .int 0, .int 0, .int 0, .int 0, .long 0, .int (-1), .int 0, .ref m1w, .ref m2w, .ref m3w, .ref m4w, .int 0, .long 0, .long 0, .long 0])), (mt, .inl (cm2, 3, .inl ft)), (mw, .inl (cm3, 906, .inr (.inl fw))), (mp, .inl (cm5, 906, .inr (.inl (fun _ => 0))))]) hD hS hA [0, 1, 2, 3] rfl
  refine va_calli (va_runV (As := [.int (xs 1), .int (xs 2), .int (xs 3)]) (rest := [.int (sp_would (xs 1) (xs 2) (xs 3))]) ⟨hx, hb, hml, hown, hts⟩ (c_X12_would l dC dI h1 (xs 1) (xs 2) (xs 3) mr mt mw mu mp mi mk ms mv m1w m2w m3w m4w cm2 ft cm3 fw cm5 H.size ht0 ht1 ht2 hw0 hw1 hw2 hw3 hw4 hw5) (cwV 3 hts (gi_V tb_c_X12_would tw_772.1 tw_773.1 tw_774.1 tw_435.1) rfl rfl rfl (by decide +kernel) ⟨Nat.le_of_ble_eq_true rfl, Nat.le_of_ble_eq_true rfl⟩) ⟨fun a U g mk q => by obtain ⟨q0, q1, qP, qK, qD⟩ := q; exact ⟨q0, q1, qP, va_K.moved (u := U) (U := U.calling g mk a) (Vm.Alike.refl U.vm) qK, qD⟩, va_recv hKc hPc (ci := 12) (q0 := 0) rfl rfl, fun U hU hW => ⟨rfl, by rw [hU], by rw [hU]; exact hPc, va_K.moved hW.alike hKc, hDc.weaken (fun _ _ _ _ => trivial)⟩⟩ rfl rfl hl.1 rfl (lv_room (Nat.le_of_ble_eq_true rfl)) dL_law_1160 ⟨Nat.le_of_ble_eq_true rfl, Nat.le_of_ble_eq_true rfl⟩) hS (fun q _ h => hFc q h) hFc (fun r_2 u t H1 locs ht hvm hw hB hz1 hk1 hS => ?_)
  obtain ⟨hP1, hK1, hD1⟩ := hB
  rw [ht] at hP1
  have hK1 := va_K.moved hvm.symm hK1
  obtain ⟨hP, hD⟩ := va_join (wr := []) (w1 := []) hP hD [0, 1, 2, 3] [] rfl rfl (by decide) (by decide) hk1 hFc hP1 hD1
  generalize H1 = H at hP hS ⊢
  have hP : va_P (dC, dI) vwCl [] H := hP
  have hD : va_D A [] := hD
  refine W.widen (k := 786) (n := 20946) (Nat.le_of_ble_eq_true rfl) (Nat.le_of_ble_eq_true rfl) ?_
  have hw : r_2 = sp_would (xs 1) (xs 2) (xs 3) := hw
  subst hw
  refine lv_icmp_eq (tgt := 1204) hx hb dL_law_1163 (by decide) (fun _ => ?_) (fun c => absurd rfl c)
  exact law_next C0 hA hbA hAq (hK.sub [] rfl) (hP.sub [] rfl) (hD.sub [] (by decide) rfl) hS (lv_sub hl [0, 1, 2, 3] rfl)
set_option maxHeartbeats 4000000 in
set_option maxRecDepth 100000 in
theorem law_count {p : Program} {l : Launch} {e : Env} {s : State} {m : MethodId} {below : List Frame} {meth : Method} {c : Code} {dC : Nat → ClassId} {dI : Nat → Nat → Nat} {b : Nat} {xs : Nat → Int32} {A : Nat → Prop} (C0 : lw_At p s m meth c b 6 xs) (hA : ∀ q : Nat, s.heap.size ≤ q → A q) (hbA : ¬ A b) (hAq : ∀ q : Nat, A q → s.heap.size ≤ q) {h0 : Nat} {h1 : Nat} {te : Nat} {ta : Nat} {re : Nat} {no : Nat} {pa : Nat} {ac : Nat} {op : Nat} {im : Nat} {ik : Nat} {hi : Nat} {rf : Nat} {tb : Nat} {nt : Nat} {nl : Nat} {ns : Nat} {np : Nat} {hbf : Nat} {hac : Nat} {rc : Nat} {ci2 : ClassId} {mr : Nat} {mt : Nat} {mw : Nat} {mu : Nat} {mp : Nat} {mi : Nat} {mk : Nat} {ms : Nat} {mv : Nat} {m1w : Nat} {m2w : Nat} {m3w : Nat} {m4w : Nat} {cm1 : ClassId} {cm2 : ClassId} {ft : Nat → Int32} {cm3 : ClassId} {fw : Nat → Int64} {H : Heap} {locs : List Loc} {ls : Array Slot} (ht0 : ft 0 = 0) (ht1 : ft 1 = 1) (ht2 : ft 2 = 1) (hw0 : fw 0 = 0) (hw1 : fw 1 = 0) (hw2 : fw 2 = 0) (hw3 : fw 3 = (-1)) (hw4 : fw 4 = (-1)) (hw5 : fw 5 = 0) (hK : va_K (dC, dI) vwCl [(ci2, .int), (cm1, .int), (cm2, .int), (cm3, .long)] s) (hP : va_P (dC, dI) vwCl [(h0, .inr (11, [.ref te, .ref ta, .ref re, .ref no, .ref pa, .ref ac, .ref op, .ref im, .ref ik, .ref hi, .ref rf, .int (-1)])), (te, .inr (9, [.int 0, .int 1, .int 1])), (ta, .inr (7, [.ref tb, .int 0])), (no, .inr (6, [.ref te, .ref nt, .ref nl, .ref ns, .ref np, .int 0, .int 0, .long 0, .int (-1), .int (-1)])), (hi, .inr (1, [.ref hbf, .ref hac, .int 0, .int 0])), (rf, .inr (4, [.ref rc, .int 0])), (rc, .inl (ci2, 5, .inl (fun _ => 0))), (h1, .inr (12, [.int 0, .int 0, .ref mr, .ref mt, .ref mw, .ref mu, .ref mp, .ref mi, .ref mk, .ref ms, .int 0, .ref mv, .int 0, .int 0, .int 0, .int 0, .long 0, .int (-1), .int 0, .ref m1w, .ref m2w, .ref m3w, .ref m4w, .int 0, .long 0, .long 0, .long 0])), (mr, .inl (cm1, 7, .inl (fun _ => 0))), (mt, .inl (cm2, 3, .inl ft)), (mw, .inl (cm3, 906, .inr (.inl fw)))] H) (hD : va_D A [(h0, .inr (11, [.ref te, .ref ta, .ref re, .ref no, .ref pa, .ref ac, .ref op, .ref im, .ref ik, .ref hi, .ref rf, .int (-1)])), (te, .inr (9, [.int 0, .int 1, .int 1])), (ta, .inr (7, [.ref tb, .int 0])), (no, .inr (6, [.ref te, .ref nt, .ref nl, .ref ns, .ref np, .int 0, .int 0, .long 0, .int (-1), .int (-1)])), (hi, .inr (1, [.ref hbf, .ref hac, .int 0, .int 0])), (rf, .inr (4, [.ref rc, .int 0])), (rc, .inl (ci2, 5, .inl (fun _ => 0))), (h1, .inr (12, [.int 0, .int 0, .ref mr, .ref mt, .ref mw, .ref mu, .ref mp, .ref mi, .ref mk, .ref ms, .int 0, .ref mv, .int 0, .int 0, .int 0, .int 0, .long 0, .int (-1), .int 0, .ref m1w, .ref m2w, .ref m3w, .ref m4w, .int 0, .long 0, .long 0, .long 0])), (mr, .inl (cm1, 7, .inl (fun _ => 0))), (mt, .inl (cm2, 3, .inl ft)), (mw, .inl (cm3, 906, .inr (.inl fw)))]) (hS : va_S A s.heap H locs) (hl : lv_has ls 4 [(0, .ref b), (1, .ref h0), (2, .ref h1), (3, .int 0)]) : W p l e room_1 s m #[Value.ref b] below meth c H locs 786 20946 (lw_Z below #[Value.ref b] s) (F0 m 1168 ls []) := by
  obtain ⟨hx, hb, hr, hml, hown, hts, hX, hbl, hlocks, hgv⟩ := id C0
  have hown : s.vm.findClass RL = some m.cls := hown
  refine lv_aload_n hx hb dL_law_1168 rfl (lv_at hl 1 rfl) ?_
  refine lv_aload_n hx hb dL_law_1169 rfl (lv_at hl 0 rfl) ?_
  refine lv_iload_n hx hb dL_law_1170 rfl (lv_at hl 3 rfl) ?_
  refine lv_iconst (v := 1) hx hb dL_law_1171 (by decide) ?_
  refine lv_iadd hx hb dL_law_1172 ?_
  refine k_topi (y := 1) (by decide) ?_
  refine va_sld hx hb hX hbl hbA hS (by unfold vp_in; decide) dL_law_1173 ?_
  refine k_topi (y := xs 1) (congrArg xs (by decide)) ?_
  have hPc := hP.sub (ws' := [(h0, .inr (11, [.ref te, .ref ta, .ref re, .ref no, .ref pa, .ref ac, .ref op, .ref im, .ref ik, .ref hi, .ref rf, .int (-1)])), (te, .inr (9, [.int 0, .int 1, .int 1])), (ta, .inr (7, [.ref tb, .int 0])), (no, .inr (6, [.ref te, .ref nt, .ref nl, .ref ns, .ref np, .int 0, .int 0, .long 0, .int (-1), .int (-1)])), (hi, .inr (1, [.ref hbf, .ref hac, .int 0, .int 0])), (rf, .inr (4, [.ref rc, .int 0])), (rc, .inl (ci2, 5, .inl (fun _ => 0)))]) [0, 1, 2, 3, 4, 5, 6] rfl
  have hDc := hD.sub (ws' := [(h0, .inr (11, [.ref te, .ref ta, .ref re, .ref no, .ref pa, .ref ac, .ref op, .ref im, .ref ik, .ref hi, .ref rf, .int (-1)])), (te, .inr (9, [.int 0, .int 1, .int 1])), (ta, .inr (7, [.ref tb, .int 0])), (no, .inr (6, [.ref te, .ref nt, .ref nl, .ref ns, .ref np, .int 0, .int 0, .long 0, .int (-1), .int (-1)])), (hi, .inr (1, [.ref hbf, .ref hac, .int 0, .int 0])), (rf, .inr (4, [.ref rc, .int 0])), (rc, .inl (ci2, 5, .inl (fun _ => 0)))]) [0, 1, 2, 3, 4, 5, 6] (by decide) rfl
  have hKc := hK.sub (tys' := [(ci2, .int)]) [0] rfl
  have hFc := va_free (wc := [(h0, .inr (11, [.ref te, .ref ta, .ref re, .ref no, .ref pa, .ref ac, .ref op, .ref im, .ref ik, .ref hi, .ref rf, .int (-1)])), (te, .inr (9, [.int 0, .int 1, .int 1])), (ta, .inr (7, [.ref tb, .int 0])), (no, .inr (6, [.ref te, .ref nt, .ref nl, .ref ns, .ref np, .int 0, .int 0, .long 0, .int (-1), .int (-1)])), (hi, .inr (1, [.ref hbf, .ref hac, .int 0, .int 0])), (rf, .inr (4, [.ref rc, .int 0])), (rc, .inl (ci2, 5, .inl (fun _ => 0)))]) hD hS hA [0, 1, 2, 3, 4, 5, 6] rfl
  refine va_calli (va_runV (As := [.int (xs 1)]) (rest := []) ⟨hx, hb, hml, hown, hts⟩ (c_X11_count l dC dI h0 (xs 1) te ta re no pa ac op im ik hi rf tb nt nl ns np hbf hac rc ci2 H.size) (cwV 1 hts (gi_V tb_c_X11_count tw_775.1 tw_776.1 tw_777.1 tw_324.1) rfl rfl rfl (by decide +kernel) ⟨Nat.le_of_ble_eq_true rfl, Nat.le_of_ble_eq_true rfl⟩) ⟨fun a U g mk q => by obtain ⟨q0, q1, qP, qK, qD⟩ := q; exact ⟨q0, q1, qP, va_K.moved (u := U) (U := U.calling g mk a) (Vm.Alike.refl U.vm) qK, qD⟩, va_recv hKc hPc (ci := 11) (q0 := 0) rfl rfl, fun U hU hW => ⟨rfl, by rw [hU], by rw [hU]; exact hPc, va_K.moved hW.alike hKc, hDc.weaken (fun _ _ _ _ => trivial)⟩⟩ rfl rfl hl.1 rfl (lv_room (Nat.le_of_ble_eq_true rfl)) dL_law_1174 ⟨Nat.le_of_ble_eq_true rfl, Nat.le_of_ble_eq_true rfl⟩) hS (fun q _ h => hFc q h) hFc (fun r_1 u t H1 locs ht hvm hw hB hz1 hk1 hS => ?_)
  obtain ⟨hP1, hK1, hD1⟩ := hB
  rw [ht] at hP1
  have hK1 := va_K.moved hvm.symm hK1
  obtain ⟨hP, hD⟩ := va_join (wr := [(h1, .inr (12, [.int 0, .int 0, .ref mr, .ref mt, .ref mw, .ref mu, .ref mp, .ref mi, .ref mk, .ref ms, .int 0, .ref mv, .int 0, .int 0, .int 0, .int 0, .long 0, .int (-1), .int 0, .ref m1w, .ref m2w, .ref m3w, .ref m4w, .int 0, .long 0, .long 0, .long 0])), (mr, .inl (cm1, 7, .inl (fun _ => 0))), (mt, .inl (cm2, 3, .inl ft)), (mw, .inl (cm3, 906, .inr (.inl fw)))]) (w1 := []) hP hD [0, 1, 2, 3, 4, 5, 6] [7, 8, 9, 10] rfl rfl (by decide) (by decide) hk1 hFc hP1 hD1
  generalize H1 = H at hP hS ⊢
  have hP : va_P (dC, dI) vwCl [(h1, .inr (12, [.int 0, .int 0, .ref mr, .ref mt, .ref mw, .ref mu, .ref mp, .ref mi, .ref mk, .ref ms, .int 0, .ref mv, .int 0, .int 0, .int 0, .int 0, .long 0, .int (-1), .int 0, .ref m1w, .ref m2w, .ref m3w, .ref m4w, .int 0, .long 0, .long 0, .long 0])), (mr, .inl (cm1, 7, .inl (fun _ => 0))), (mt, .inl (cm2, 3, .inl ft)), (mw, .inl (cm3, 906, .inr (.inl fw)))] H := hP
  have hD : va_D A [(h1, .inr (12, [.int 0, .int 0, .ref mr, .ref mt, .ref mw, .ref mu, .ref mp, .ref mi, .ref mk, .ref ms, .int 0, .ref mv, .int 0, .int 0, .int 0, .int 0, .long 0, .int (-1), .int 0, .ref m1w, .ref m2w, .ref m3w, .ref m4w, .int 0, .long 0, .long 0, .long 0])), (mr, .inl (cm1, 7, .inl (fun _ => 0))), (mt, .inl (cm2, 3, .inl ft)), (mw, .inl (cm3, 906, .inr (.inl fw)))] := hD
  refine W.widen (k := 786) (n := 20946) (Nat.le_of_ble_eq_true rfl) (Nat.le_of_ble_eq_true rfl) ?_
  have hw : r_1 = sp_count (xs 1) := hw
  subst hw
  refine lv_aload_n hx hb dL_law_1177 rfl (lv_at hl 2 rfl) ?_
  refine lv_aload_n hx hb dL_law_1178 rfl (lv_at hl 0 rfl) ?_
  refine lv_iload_n hx hb dL_law_1179 rfl (lv_at hl 3 rfl) ?_
  refine lv_iconst (v := 1) hx hb dL_law_1180 (by decide) ?_
  refine lv_iadd hx hb dL_law_1181 ?_
  refine k_topi (y := 1) (by decide) ?_
  refine va_sld hx hb hX hbl hbA hS (by unfold vp_in; decide) dL_law_1182 ?_
  refine k_topi (y := xs 1) (congrArg xs (by decide)) ?_
  have hPc := hP.sub (ws' := [(h1, .inr (12, [.int 0, .int 0, .ref mr, .ref mt, .ref mw, .ref mu, .ref mp, .ref mi, .ref mk, .ref ms, .int 0, .ref mv, .int 0, .int 0, .int 0, .int 0, .long 0, .int (-1), .int 0, .ref m1w, .ref m2w, .ref m3w, .ref m4w, .int 0, .long 0, .long 0, .long 0])), (mr, .inl (cm1, 7, .inl (fun _ => 0))), (mt, .inl (cm2, 3, .inl ft)), (mw, .inl (cm3, 906, .inr (.inl fw)))]) [0, 1, 2, 3] rfl
  have hDc := hD.sub (ws' := [(h1, .inr (12, [.int 0, .int 0, .ref mr, .ref mt, .ref mw, .ref mu, .ref mp, .ref mi, .ref mk, .ref ms, .int 0, .ref mv, .int 0, .int 0, .int 0, .int 0, .long 0, .int (-1), .int 0, .ref m1w, .ref m2w, .ref m3w, .ref m4w, .int 0, .long 0, .long 0, .long 0])), (mr, .inl (cm1, 7, .inl (fun _ => 0))), (mt, .inl (cm2, 3, .inl ft)), (mw, .inl (cm3, 906, .inr (.inl fw)))]) [0, 1, 2, 3] (by decide) rfl
  have hKc := hK.sub (tys' := [(cm1, .int), (cm2, .int), (cm3, .long)]) [1, 2, 3] rfl
  have hFc := va_free (wc := [(h1, .inr (12, [.int 0, .int 0, .ref mr, .ref mt, .ref mw, .ref mu, .ref mp, .ref mi, .ref mk, .ref ms, .int 0, .ref mv, .int 0, .int 0, .int 0, .int 0, .long 0, .int (-1), .int 0, .ref m1w, .ref m2w, .ref m3w, .ref m4w, .int 0, .long 0, .long 0, .long 0])), (mr, .inl (cm1, 7, .inl (fun _ => 0))), (mt, .inl (cm2, 3, .inl ft)), (mw, .inl (cm3, 906, .inr (.inl fw)))]) hD hS hA [0, 1, 2, 3] rfl
  refine va_calli (va_runV (As := [.int (xs 1)]) (rest := [.int (sp_count (xs 1))]) ⟨hx, hb, hml, hown, hts⟩ (c_X12_count l dC dI h1 (xs 1) mr mt mw mu mp mi mk ms mv m1w m2w m3w m4w cm1 cm2 ft cm3 fw H.size ht0 ht1 ht2 hw0 hw1 hw2 hw3 hw4 hw5) (cwV 1 hts (gi_V tb_c_X12_count tw_778.1 tw_779.1 tw_780.1 tw_435.1) rfl rfl rfl (by decide +kernel) ⟨Nat.le_of_ble_eq_true rfl, Nat.le_of_ble_eq_true rfl⟩) ⟨fun a U g mk q => by obtain ⟨q0, q1, qP, qK, qD⟩ := q; exact ⟨q0, q1, qP, va_K.moved (u := U) (U := U.calling g mk a) (Vm.Alike.refl U.vm) qK, qD⟩, va_recv hKc hPc (ci := 12) (q0 := 0) rfl rfl, fun U hU hW => ⟨rfl, by rw [hU], by rw [hU]; exact hPc, va_K.moved hW.alike hKc, hDc.weaken (fun _ _ _ _ => trivial)⟩⟩ rfl rfl hl.1 rfl (lv_room (Nat.le_of_ble_eq_true rfl)) dL_law_1183 ⟨Nat.le_of_ble_eq_true rfl, Nat.le_of_ble_eq_true rfl⟩) hS (fun q _ h => hFc q h) hFc (fun r_2 u t H1 locs ht hvm hw hB hz1 hk1 hS => ?_)
  obtain ⟨hP1, hK1, hD1⟩ := hB
  rw [ht] at hP1
  have hK1 := va_K.moved hvm.symm hK1
  obtain ⟨hP, hD⟩ := va_join (wr := []) (w1 := []) hP hD [0, 1, 2, 3] [] rfl rfl (by decide) (by decide) hk1 hFc hP1 hD1
  generalize H1 = H at hP hS ⊢
  have hP : va_P (dC, dI) vwCl [] H := hP
  have hD : va_D A [] := hD
  refine W.widen (k := 786) (n := 20946) (Nat.le_of_ble_eq_true rfl) (Nat.le_of_ble_eq_true rfl) ?_
  have hw : r_2 = sp_count (xs 1) := hw
  subst hw
  refine lv_icmp_eq (tgt := 1204) hx hb dL_law_1186 (by decide) (fun _ => ?_) (fun c => absurd rfl c)
  exact law_next C0 hA hbA hAq (hK.sub [] rfl) (hP.sub [] rfl) (hD.sub [] (by decide) rfl) hS (lv_sub hl [0, 1, 2, 3] rfl)
set_option maxHeartbeats 4000000 in
set_option maxRecDepth 100000 in
theorem law_status {p : Program} {l : Launch} {e : Env} {s : State} {m : MethodId} {below : List Frame} {meth : Method} {c : Code} {dC : Nat → ClassId} {dI : Nat → Nat → Nat} {b : Nat} {xs : Nat → Int32} {A : Nat → Prop} (C0 : lw_At p s m meth c b 6 xs) (hA : ∀ q : Nat, s.heap.size ≤ q → A q) (hbA : ¬ A b) (hAq : ∀ q : Nat, A q → s.heap.size ≤ q) {h0 : Nat} {h1 : Nat} {te : Nat} {ta : Nat} {re : Nat} {no : Nat} {pa : Nat} {ac : Nat} {op : Nat} {im : Nat} {ik : Nat} {hi : Nat} {rf : Nat} {rc : Nat} {mr : Nat} {mt : Nat} {mw : Nat} {mu : Nat} {mp : Nat} {mi : Nat} {mk : Nat} {ms : Nat} {mv : Nat} {m1w : Nat} {m2w : Nat} {m3w : Nat} {m4w : Nat} {H : Heap} {locs : List Loc} {ls : Array Slot} (hK : va_K (dC, dI) vwCl [] s) (hP : va_P (dC, dI) vwCl [(h0, .inr (11, [.ref te, .ref ta, .ref re, .ref no, .ref pa, .ref ac, .ref op, .ref im, .ref ik, .ref hi, .ref rf, .int (-1)])), (rf, .inr (4, [.ref rc, .int 0])), (h1, .inr (12, [.int 0, .int 0, .ref mr, .ref mt, .ref mw, .ref mu, .ref mp, .ref mi, .ref mk, .ref ms, .int 0, .ref mv, .int 0, .int 0, .int 0, .int 0, .long 0, .int (-1), .int 0, .ref m1w, .ref m2w, .ref m3w, .ref m4w, .int 0, .long 0, .long 0, .long 0]))] H) (hD : va_D A [(h0, .inr (11, [.ref te, .ref ta, .ref re, .ref no, .ref pa, .ref ac, .ref op, .ref im, .ref ik, .ref hi, .ref rf, .int (-1)])), (rf, .inr (4, [.ref rc, .int 0])), (h1, .inr (12, [.int 0, .int 0, .ref mr, .ref mt, .ref mw, .ref mu, .ref mp, .ref mi, .ref mk, .ref ms, .int 0, .ref mv, .int 0, .int 0, .int 0, .int 0, .long 0, .int (-1), .int 0, .ref m1w, .ref m2w, .ref m3w, .ref m4w, .int 0, .long 0, .long 0, .long 0]))]) (hS : va_S A s.heap H locs) (hl : lv_has ls 4 [(0, .ref b), (1, .ref h0), (2, .ref h1), (3, .int 0)]) : W p l e room_1 s m #[Value.ref b] below meth c H locs 786 20946 (lw_Z below #[Value.ref b] s) (F0 m 1191 ls []) := by
  obtain ⟨hx, hb, hr, hml, hown, hts, hX, hbl, hlocks, hgv⟩ := id C0
  have hown : s.vm.findClass RL = some m.cls := hown
  refine lv_aload_n hx hb dL_law_1191 rfl (lv_at hl 1 rfl) ?_
  have hPc := hP.sub (ws' := [(h0, .inr (11, [.ref te, .ref ta, .ref re, .ref no, .ref pa, .ref ac, .ref op, .ref im, .ref ik, .ref hi, .ref rf, .int (-1)])), (rf, .inr (4, [.ref rc, .int 0]))]) [0, 1] rfl
  have hDc := hD.sub (ws' := [(h0, .inr (11, [.ref te, .ref ta, .ref re, .ref no, .ref pa, .ref ac, .ref op, .ref im, .ref ik, .ref hi, .ref rf, .int (-1)])), (rf, .inr (4, [.ref rc, .int 0]))]) [0, 1] (by decide) rfl
  have hKc := hK.sub (tys' := []) [] rfl
  have hFc := va_free (wc := [(h0, .inr (11, [.ref te, .ref ta, .ref re, .ref no, .ref pa, .ref ac, .ref op, .ref im, .ref ik, .ref hi, .ref rf, .int (-1)])), (rf, .inr (4, [.ref rc, .int 0]))]) hD hS hA [0, 1] rfl
  refine va_calli (va_runV (As := []) (rest := []) ⟨hx, hb, hml, hown, hts⟩ (c_X11_status l dC dI h0 te ta re no pa ac op im ik hi rf rc H.size) (cwV 0 hts (gi_V tb_c_X11_status tw_781.1 tw_782.1 tw_783.1 tw_324.1) rfl rfl rfl (by decide +kernel) ⟨Nat.le_of_ble_eq_true rfl, Nat.le_of_ble_eq_true rfl⟩) ⟨fun a U g mk q => by obtain ⟨q0, q1, qP, qK, qD⟩ := q; exact ⟨q0, q1, qP, va_K.moved (u := U) (U := U.calling g mk a) (Vm.Alike.refl U.vm) qK, qD⟩, va_recv hKc hPc (ci := 11) (q0 := 0) rfl rfl, fun U hU hW => ⟨rfl, by rw [hU], by rw [hU]; exact hPc, va_K.moved hW.alike hKc, hDc.weaken (fun _ _ _ _ => trivial)⟩⟩ rfl rfl hl.1 rfl (lv_room (Nat.le_of_ble_eq_true rfl)) dL_law_1192 ⟨Nat.le_of_ble_eq_true rfl, Nat.le_of_ble_eq_true rfl⟩) hS (fun q _ h => hFc q h) hFc (fun r_1 u t H1 locs ht hvm hw hB hz1 hk1 hS => ?_)
  obtain ⟨hP1, hK1, hD1⟩ := hB
  rw [ht] at hP1
  have hK1 := va_K.moved hvm.symm hK1
  obtain ⟨hP, hD⟩ := va_join (wr := [(h1, .inr (12, [.int 0, .int 0, .ref mr, .ref mt, .ref mw, .ref mu, .ref mp, .ref mi, .ref mk, .ref ms, .int 0, .ref mv, .int 0, .int 0, .int 0, .int 0, .long 0, .int (-1), .int 0, .ref m1w, .ref m2w, .ref m3w, .ref m4w, .int 0, .long 0, .long 0, .long 0]))]) (w1 := []) hP hD [0, 1] [2] rfl rfl (by decide) (by decide) hk1 hFc hP1 hD1
  generalize H1 = H at hP hS ⊢
  have hP : va_P (dC, dI) vwCl [(h1, .inr (12, [.int 0, .int 0, .ref mr, .ref mt, .ref mw, .ref mu, .ref mp, .ref mi, .ref mk, .ref ms, .int 0, .ref mv, .int 0, .int 0, .int 0, .int 0, .long 0, .int (-1), .int 0, .ref m1w, .ref m2w, .ref m3w, .ref m4w, .int 0, .long 0, .long 0, .long 0]))] H := hP
  have hD : va_D A [(h1, .inr (12, [.int 0, .int 0, .ref mr, .ref mt, .ref mw, .ref mu, .ref mp, .ref mi, .ref mk, .ref ms, .int 0, .ref mv, .int 0, .int 0, .int 0, .int 0, .long 0, .int (-1), .int 0, .ref m1w, .ref m2w, .ref m3w, .ref m4w, .int 0, .long 0, .long 0, .long 0]))] := hD
  refine W.widen (k := 786) (n := 20946) (Nat.le_of_ble_eq_true rfl) (Nat.le_of_ble_eq_true rfl) ?_
  have hw : r_1 = 0 := hw
  subst hw
  refine lv_aload_n hx hb dL_law_1195 rfl (lv_at hl 2 rfl) ?_
  have hPc := hP.sub (ws' := [(h1, .inr (12, [.int 0, .int 0, .ref mr, .ref mt, .ref mw, .ref mu, .ref mp, .ref mi, .ref mk, .ref ms, .int 0, .ref mv, .int 0, .int 0, .int 0, .int 0, .long 0, .int (-1), .int 0, .ref m1w, .ref m2w, .ref m3w, .ref m4w, .int 0, .long 0, .long 0, .long 0]))]) [0] rfl
  have hDc := hD.sub (ws' := [(h1, .inr (12, [.int 0, .int 0, .ref mr, .ref mt, .ref mw, .ref mu, .ref mp, .ref mi, .ref mk, .ref ms, .int 0, .ref mv, .int 0, .int 0, .int 0, .int 0, .long 0, .int (-1), .int 0, .ref m1w, .ref m2w, .ref m3w, .ref m4w, .int 0, .long 0, .long 0, .long 0]))]) [0] (by decide) rfl
  have hKc := hK.sub (tys' := []) [] rfl
  have hFc := va_free (wc := [(h1, .inr (12, [.int 0, .int 0, .ref mr, .ref mt, .ref mw, .ref mu, .ref mp, .ref mi, .ref mk, .ref ms, .int 0, .ref mv, .int 0, .int 0, .int 0, .int 0, .long 0, .int (-1), .int 0, .ref m1w, .ref m2w, .ref m3w, .ref m4w, .int 0, .long 0, .long 0, .long 0]))]) hD hS hA [0] rfl
  refine va_calli (va_runV (As := []) (rest := [.int 0]) ⟨hx, hb, hml, hown, hts⟩ (c_X12_status l dC dI h1 mr mt mw mu mp mi mk ms mv m1w m2w m3w m4w H.size) (cwV 0 hts (gi_V tb_c_X12_status tw_784.1 tw_785.1 tw_786.1 tw_435.1) rfl rfl rfl (by decide +kernel) ⟨Nat.le_of_ble_eq_true rfl, Nat.le_of_ble_eq_true rfl⟩) ⟨fun a U g mk q => by obtain ⟨q0, q1, qP, qK, qD⟩ := q; exact ⟨q0, q1, qP, va_K.moved (u := U) (U := U.calling g mk a) (Vm.Alike.refl U.vm) qK, qD⟩, va_recv hKc hPc (ci := 12) (q0 := 0) rfl rfl, fun U hU hW => ⟨rfl, by rw [hU], by rw [hU]; exact hPc, va_K.moved hW.alike hKc, hDc.weaken (fun _ _ _ _ => trivial)⟩⟩ rfl rfl hl.1 rfl (lv_room (Nat.le_of_ble_eq_true rfl)) dL_law_1196 ⟨Nat.le_of_ble_eq_true rfl, Nat.le_of_ble_eq_true rfl⟩) hS (fun q _ h => hFc q h) hFc (fun r_2 u t H1 locs ht hvm hw hB hz1 hk1 hS => ?_)
  obtain ⟨hP1, hK1, hD1⟩ := hB
  rw [ht] at hP1
  have hK1 := va_K.moved hvm.symm hK1
  obtain ⟨hP, hD⟩ := va_join (wr := []) (w1 := []) hP hD [0] [] rfl rfl (by decide) (by decide) hk1 hFc hP1 hD1
  generalize H1 = H at hP hS ⊢
  have hP : va_P (dC, dI) vwCl [] H := hP
  have hD : va_D A [] := hD
  refine W.widen (k := 786) (n := 20946) (Nat.le_of_ble_eq_true rfl) (Nat.le_of_ble_eq_true rfl) ?_
  have hw : r_2 = 0 := hw
  subst hw
  refine lv_icmp_eq (tgt := 1204) hx hb dL_law_1199 (by decide) (fun _ => ?_) (fun c => absurd (by decide) c)
  exact law_next C0 hA hbA hAq (hK.sub [] rfl) (hP.sub [] rfl) (hD.sub [] (by decide) rfl) hS (lv_sub hl [0, 1, 2, 3] rfl)
