theorem tw_1312 : q_g (.instantiable RX11 12) := ⟨(List.mem_append_right _ (List.mem_of_getElem? (i := 21) (by decide +kernel))), good_of_word (by decide +kernel)⟩
theorem tw_1313 : q_g (.instantiable RX12 27) := ⟨(List.mem_append_right _ (List.mem_of_getElem? (i := 1086) (by decide +kernel))), good_of_word (by decide +kernel)⟩
theorem tw_1314 : q_g (.classLink RL 7 RX11) := ⟨(List.mem_append_right _ (List.mem_of_getElem? (i := 20) (by decide +kernel))), good_of_word (by decide +kernel)⟩
theorem tw_1315 : q_g (.methodLink RL 9 yX11_init) := ⟨(List.mem_append_right _ (List.mem_of_getElem? (i := 22) (by decide +kernel))), good_of_word (by decide +kernel)⟩
theorem tw_1316 : q_g (.instanceMethod yX11_init) := ⟨(List.mem_append_right _ (List.mem_of_getElem? (i := 23) (by decide +kernel))), good_of_word (by decide +kernel)⟩
theorem tw_1317 : q_g (.classLink RL 10 RX12) := ⟨(List.mem_append_right _ (List.mem_of_getElem? (i := 1085) (by decide +kernel))), good_of_word (by decide +kernel)⟩
theorem tw_1318 : q_g (.methodLink RL 12 yX12_init) := ⟨(List.mem_append_right _ (List.mem_of_getElem? (i := 1087) (by decide +kernel))), good_of_word (by decide +kernel)⟩
theorem tw_1319 : q_g (.instanceMethod yX12_init) := ⟨(List.mem_append_right _ (List.mem_of_getElem? (i := 1088) (by decide +kernel))), good_of_word (by decide +kernel)⟩
set_option maxHeartbeats 4000000 in
set_option maxRecDepth 100000 in
theorem whole_start {p : Program} {e : Env} {s : State} {m : MethodId} {below : List Frame} {meth : Method} {c : Code} (l : Launch) (hflags : l.flags = flags0) {b L : Nat} {xs : Nat → Int32} (hL : L ≤ 3072) (C0 : lw_At p s m meth c b L xs) : W p l e room_1 s m #[Value.ref b] below meth c s.heap [] 0 0 (lw_Z below #[Value.ref b] s) (entryFrame m ([Value.ref b] : List Value).toArray 4) := by
  obtain ⟨hx, hb, hr, hml, hown, hts, hX, hbl, hlocks, hgv⟩ := id C0
  have hown : s.vm.findClass RL = some m.cls := hown
  obtain ⟨A, hAe⟩ : ∃ A : Nat → Prop, A = (fun q : Nat => s.heap.size ≤ q) := ⟨_, rfl⟩
  have hA : ∀ q : Nat, s.heap.size ≤ q → A q := fun q h => by rw [hAe]; exact h
  have hAq : ∀ q : Nat, A q → s.heap.size ≤ q := fun q h => by rw [hAe] at h; exact h
  have hbA : ¬ A b := fun h => absurd (hAq b h) (Nat.not_le.mpr hbl)
  obtain ⟨adK, adV, hKE⟩ := ke_start (A := A) hts hgv (fun a h h9 => absurd (hAq a h9) (Nat.not_le.mpr h))
  have hE0 : va_Nw (.methodLinkNest RX11 11 yX9_init "DeadlineShare") s := va_Nw.of rfl (hts (.methodLinkNest RX11 11 yX9_init "DeadlineShare") (List.mem_append_right _ (List.mem_of_getElem? (i := 30) (by decide +kernel))))
  have hE1 : va_Nw (.methodLinkNest RX11 20 yX7_init "DeadlineShare") s := va_Nw.of rfl (hts (.methodLinkNest RX11 20 yX7_init "DeadlineShare") (List.mem_append_right _ (List.mem_of_getElem? (i := 52) (by decide +kernel))))
  have hE2 : va_Nw (.methodLinkNest RX11 27 yX3_init "DeadlineShare") s := va_Nw.of rfl (hts (.methodLinkNest RX11 27 yX3_init "DeadlineShare") (List.mem_append_right _ (List.mem_of_getElem? (i := 68) (by decide +kernel))))
  have hE3 : va_Nw (.methodLinkNest RX11 71 yX4_init "DeadlineShare") s := va_Nw.of rfl (hts (.methodLinkNest RX11 71 yX4_init "DeadlineShare") (List.mem_append_right _ (List.mem_of_getElem? (i := 308) (by decide +kernel))))
  have hE4 : va_Nw (.methodLinkNest RX3 11 yX5_init "DeadlineShare") s := va_Nw.of rfl (hts (.methodLinkNest RX3 11 yX5_init "DeadlineShare") (List.mem_append_right _ (List.mem_of_getElem? (i := 74) (by decide +kernel))))
  have hE5 : va_AO "DeadlineShare$State" s := va_AO.of (hts (.arrayOver (.object "DeadlineShare$State")) (List.mem_append_right _ (List.mem_of_getElem? (i := 282) (by decide +kernel))))
  have hE6 : va_AO "DeadlineShare$Task" s := va_AO.of (hts (.arrayOver (.object "DeadlineShare$Task")) (List.mem_append_right _ (List.mem_of_getElem? (i := 115) (by decide +kernel))))
  have hE7 : va_Nw (.methodLinkNest RX6 19 yX2_init "DeadlineShare") s := va_Nw.of rfl (hts (.methodLinkNest RX6 19 yX2_init "DeadlineShare") (List.mem_append_right _ (List.mem_of_getElem? (i := 118) (by decide +kernel))))
  have hE8 : va_Nw (.methodLinkNest RX6 26 yX10_init "DeadlineShare") s := va_Nw.of rfl (hts (.methodLinkNest RX6 26 yX10_init "DeadlineShare") (List.mem_append_right _ (List.mem_of_getElem? (i := 129) (by decide +kernel))))
  have hE9 : va_Nw (.methodLinkNest RX8 11 yX5_init "DeadlineShare") s := va_Nw.of rfl (hts (.methodLinkNest RX8 11 yX5_init "DeadlineShare") (List.mem_append_right _ (List.mem_of_getElem? (i := 146) (by decide +kernel))))
  have hE10 : va_Nw (.methodLinkNest RX8 20 yX10_init "DeadlineShare") s := va_Nw.of rfl (hts (.methodLinkNest RX8 20 yX10_init "DeadlineShare") (List.mem_append_right _ (List.mem_of_getElem? (i := 148) (by decide +kernel))))
  obtain ⟨cc0, iS0, hKn0⟩ := u_known (C := RX0) (T := TX0) (N := 3) (n := 3) hts (fun w h => (tu_X0 w h).1) (hts (.instantiable RX0 3) tw_1074.1)
  obtain ⟨cc1, iS1, hKn1⟩ := u_known (C := RX1) (T := TX1) (N := 4) (n := 4) hts (fun w h => (tu_X1 w h).1) (hts (.instantiable RX1 4) tw_1069.1)
  obtain ⟨cc2, iS2, hKn2⟩ := u_known (C := RX2) (T := TX2) (N := 1) (n := 1) hts (fun w h => (tu_X2 w h).1) (hts (.instantiable RX2 1) tw_1053.1)
  obtain ⟨cc3, iS3, hKn3⟩ := u_known (C := RX3) (T := TX3) (N := 2) (n := 2) hts (fun w h => (tu_X3 w h).1) (hts (.instantiable RX3 2) tw_1079.1)
  obtain ⟨cc4, iS4, hKn4⟩ := u_known (C := RX4) (T := TX4) (N := 2) (n := 2) hts (fun w h => (tu_X4 w h).1) (hts (.instantiable RX4 2) tw_1065.1)
  obtain ⟨cc5, iS5, hKn5⟩ := u_known (C := RX5) (T := TX5) (N := 5) (n := 5) hts (fun w h => (tu_X5 w h).1) (hts (.instantiable RX5 5) tw_1038.1)
  obtain ⟨cc6, iS6, hKn6⟩ := u_known (C := RX6) (T := TX6) (N := 10) (n := 10) hts (fun w h => (tu_X6 w h).1) (hts (.instantiable RX6 10) tw_1060.1)
  obtain ⟨cc7, iS7, hKn7⟩ := u_known (C := RX7) (T := TX7) (N := 2) (n := 2) hts (fun w h => (tu_X7 w h).1) (hts (.instantiable RX7 2) tw_1082.1)
  obtain ⟨cc8, iS8, hKn8⟩ := u_known (C := RX8) (T := TX8) (N := 18) (n := 18) hts (fun w h => (tu_X8 w h).1) (hts (.instantiable RX8 18) tw_1050.1)
  obtain ⟨cc9, iS9, hKn9⟩ := u_known (C := RX9) (T := TX9) (N := 3) (n := 3) hts (fun w h => (tu_X9 w h).1) (hts (.instantiable RX9 3) tw_1085.1)
  obtain ⟨cc10, iS10, hKn10⟩ := u_known (C := RX10) (T := TX10) (N := 2) (n := 2) hts (fun w h => (tu_X10 w h).1) (hts (.instantiable RX10 2) tw_1043.1)
  obtain ⟨cc11, iS11, hKn11⟩ := u_known (C := RX11) (T := TX11) (N := 12) (n := 12) hts (fun w h => (tu_X11 w h).1) (hts (.instantiable RX11 12) tw_1312.1)
  obtain ⟨cc12, iS12, hKn12⟩ := u_known (C := RX12) (T := TX12) (N := 27) (n := 27) hts (fun w h => (tu_X12 w h).1) (hts (.instantiable RX12 27) tw_1313.1)
  obtain ⟨dC, dI, hKc⟩ : ∃ (dC : Nat → ClassId) (dI : Nat → Nat → Nat), ∀ (k : Nat) (q : vw_C), vwCl[k]? = some q → u_Kn s q.1 q.2.1 q.2.2 (dC k) (dI k) := by
    refine ⟨fun k => if k = 0 then cc0 else if k = 1 then cc1 else if k = 2 then cc2 else if k = 3 then cc3 else if k = 4 then cc4 else if k = 5 then cc5 else if k = 6 then cc6 else if k = 7 then cc7 else if k = 8 then cc8 else if k = 9 then cc9 else if k = 10 then cc10 else if k = 11 then cc11 else cc12, fun k => if k = 0 then iS0 else if k = 1 then iS1 else if k = 2 then iS2 else if k = 3 then iS3 else if k = 4 then iS4 else if k = 5 then iS5 else if k = 6 then iS6 else if k = 7 then iS7 else if k = 8 then iS8 else if k = 9 then iS9 else if k = 10 then iS10 else if k = 11 then iS11 else iS12, ?_⟩
    intro k q hq
    match k, hq with
    | 0, hq => cases hq; exact hKn0
    | 1, hq => cases hq; exact hKn1
    | 2, hq => cases hq; exact hKn2
    | 3, hq => cases hq; exact hKn3
    | 4, hq => cases hq; exact hKn4
    | 5, hq => cases hq; exact hKn5
    | 6, hq => cases hq; exact hKn6
    | 7, hq => cases hq; exact hKn7
    | 8, hq => cases hq; exact hKn8
    | 9, hq => cases hq; exact hKn9
    | 10, hq => cases hq; exact hKn10
    | 11, hq => cases hq; exact hKn11
    | 12, hq => cases hq; exact hKn12
    | k + 13, hq => simp [vwCl] at hq
  have hS : va_S A s.heap s.heap [] := va_S.rf
  have hK : va_K (dC, dI) vwCl [] s := ⟨hKc, fun k q h => by simp at h⟩
  have hP : va_P (dC, dI) vwCl [] s.heap := fun k q h => by simp at h
  have hD : va_D A [] := ⟨fun i j p q h => by simp at h, fun k q h => by simp at h⟩
  have hl := lv_entry ([.ref b]) (n := 4) (Nat.le_of_ble_eq_true rfl)
  rw [lg_entry_eq]
  generalize (lg_sl ([.ref b]) ++ List.replicate (4 - (lg_sl ([.ref b])).length) Slot.unset).toArray = ls at hl ⊢
  have hl : lv_has ls 4 [(0, .ref b)] := hl
  refine va_new (ci := 11) (fs := [.null, .null, .null, .null, .null, .null, .null, .null, .null, .null, .null, .int 0]) (C := RX11) (T := TX11) (N := 12) hx hb hts (fun w h => (tu_X11 w h).1) tyX11 tyX11_ok hown (hts (.classLink RL 7 RX11) tw_1314.1) (hts (.instantiable RX11 12) tw_1312.1) (hts (.initialized RX11) tw_56.1) hK hP hD hS hA rfl (fun j hj => by match j, hj with | 0, _ => rfl | 1, _ => rfl | 2, _ => rfl | 3, _ => rfl | 4, _ => rfl | 5, _ => rfl | 6, _ => rfl | 7, _ => rfl | 8, _ => rfl | 9, _ => rfl | 10, _ => rfl | 11, _ => rfl | (j9 + 12), h => exact absurd h (by omega)) (Nat.le_of_ble_eq_true rfl) (Nat.le_of_ble_eq_true rfl) dL_law_0 (fun q_1 H hP hD hS => ?_)
  have hP : va_P (dC, dI) vwCl [(q_1, .inr (11, [.null, .null, .null, .null, .null, .null, .null, .null, .null, .null, .null, .int 0]))] H := hP
  have hD : va_D A [(q_1, .inr (11, [.null, .null, .null, .null, .null, .null, .null, .null, .null, .null, .null, .int 0]))] := hD
  refine W.widen (k := 1) (n := 12) (Nat.le_of_ble_eq_true rfl) (Nat.le_of_ble_eq_true rfl) ?_
  refine lv_dup hx hb dL_law_3 rfl ?_
  have hFc := va_free (wc := [(q_1, .inr (11, [.null, .null, .null, .null, .null, .null, .null, .null, .null, .null, .null, .int 0]))]) hD hS hA [0] rfl
  refine va_callv (va_runI (As := []) (rest := [.ref q_1]) ⟨hx, hb, hml, hown, hts⟩ (n_X11 l dC dI q_1 H.size) (cwI 0 hts tb_n_X11 rfl rfl rfl (hts (.initialized RX11) tw_56.1) (hts (.methodLink RL 9 yX11_init) tw_1315.1) (hts (.instanceMethod yX11_init) tw_1316.1) rfl (by decide +kernel) ⟨Nat.le_of_ble_eq_true rfl, Nat.le_of_ble_eq_true rfl⟩) ⟨fun a U g mk q => by obtain ⟨q0, q1, qP, qK, qD, qE0, qE1, qE2, qE3, qE4, qE5, qE6, qE7, qE8, qE9, qE10⟩ := q; exact ⟨q0, q1, qP, va_K.moved (u := U) (U := U.calling g mk a) (Vm.Alike.refl U.vm) qK, qD, va_Nw.same (u := U) rfl rfl qE0, va_Nw.same (u := U) rfl rfl qE1, va_Nw.same (u := U) rfl rfl qE2, va_Nw.same (u := U) rfl rfl qE3, va_Nw.same (u := U) rfl rfl qE4, va_AO.moved (u := U) (U := U.calling g mk a) (Vm.Alike.refl U.vm) qE5, va_AO.moved (u := U) (U := U.calling g mk a) (Vm.Alike.refl U.vm) qE6, va_Nw.same (u := U) rfl rfl qE7, va_Nw.same (u := U) rfl rfl qE8, va_Nw.same (u := U) rfl rfl qE9, va_Nw.same (u := U) rfl rfl qE10⟩, fun U hU hW => ⟨rfl, by rw [hU], by rw [hU]; exact hP, va_K.moved hW.alike hK, hD.weaken (fun _ _ _ _ => trivial), va_Nw.warmM hW hE0, va_Nw.warmM hW hE1, va_Nw.warmM hW hE2, va_Nw.warmM hW hE3, va_Nw.warmM hW hE4, va_AO.moved hW.alike hE5, va_AO.moved hW.alike hE6, va_Nw.warmM hW hE7, va_Nw.warmM hW hE8, va_Nw.warmM hW hE9, va_Nw.warmM hW hE10⟩⟩ rfl rfl hl.1 rfl (lv_room (Nat.le_of_ble_eq_true rfl)) dL_law_4 ⟨Nat.le_of_ble_eq_true rfl, Nat.le_of_ble_eq_true rfl⟩) hS (fun q _ h => hFc q h) hFc (fun u t H1 locs ht hvm hw hB hz1 hk1 hS => ?_)
  obtain ⟨te, L9, k9, f9, hP1, hD1, hT9, hm9, hte9, hfe9⟩ := hB
  rw [ht] at hP1
  have hT9 := PT.moved hvm.symm hT9
  obtain ⟨hP, hD⟩ := va_join (wr := []) (w1 := va_pl L9 f9) hP hD [0] [] rfl rfl (by decide) (by decide) hk1 hFc hP1 hD1
  generalize H1 = H at hP hS ⊢
  have hP : va_P (dC, dI) vwCl ([] ++ va_pl L9 f9) H := hP
  have hD : va_D A ([] ++ va_pl L9 f9) := hD
  refine W.widen (k := 772) (n := 7987) (Nat.le_of_ble_eq_true rfl) (Nat.le_of_ble_eq_true rfl) ?_
  refine lv_astore_n (lv' := [(1, .ref q_1), (0, .ref b)]) hx hb dL_law_7 rfl hl (by decide) rfl (fun ls hl => ?_)
  refine va_new (ci := 12) (fs := [.int 0, .int 0, .null, .null, .null, .null, .null, .null, .null, .null, .int 0, .null, .int 0, .int 0, .int 0, .int 0, .long 0, .int 0, .int 0, .null, .null, .null, .null, .int 0, .long 0, .long 0, .long 0]) (C := RX12) (T := TX12) (N := 27) hx hb hts (fun w h => (tu_X12 w h).1) tyX12 tyX12_ok hown (hts (.classLink RL 10 RX12) tw_1317.1) (hts (.instantiable RX12 27) tw_1313.1) (hts (.initialized RX12) tw_728.1) hK hP hD hS hA rfl (fun j hj => by match j, hj with | 0, _ => rfl | 1, _ => rfl | 2, _ => rfl | 3, _ => rfl | 4, _ => rfl | 5, _ => rfl | 6, _ => rfl | 7, _ => rfl | 8, _ => rfl | 9, _ => rfl | 10, _ => rfl | 11, _ => rfl | 12, _ => rfl | 13, _ => rfl | 14, _ => rfl | 15, _ => rfl | 16, _ => rfl | 17, _ => rfl | 18, _ => rfl | 19, _ => rfl | 20, _ => rfl | 21, _ => rfl | 22, _ => rfl | 23, _ => rfl | 24, _ => rfl | 25, _ => rfl | 26, _ => rfl | (j9 + 27), h => exact absurd h (by omega)) (Nat.le_of_ble_eq_true rfl) (Nat.le_of_ble_eq_true rfl) dL_law_8 (fun q_2 H hP hD hS => ?_)
  have hP := hP.swap
  have hD := hD.swap
  have hP : va_P (dC, dI) vwCl ([(q_2, .inr (12, [.int 0, .int 0, .null, .null, .null, .null, .null, .null, .null, .null, .int 0, .null, .int 0, .int 0, .int 0, .int 0, .long 0, .int 0, .int 0, .null, .null, .null, .null, .int 0, .long 0, .long 0, .long 0]))] ++ va_pl L9 f9) H := hP
  have hD : va_D A ([(q_2, .inr (12, [.int 0, .int 0, .null, .null, .null, .null, .null, .null, .null, .null, .int 0, .null, .int 0, .int 0, .int 0, .int 0, .long 0, .int 0, .int 0, .null, .null, .null, .null, .int 0, .long 0, .long 0, .long 0]))] ++ va_pl L9 f9) := hD
  refine W.widen (k := 773) (n := 8014) (Nat.le_of_ble_eq_true rfl) (Nat.le_of_ble_eq_true rfl) ?_
  refine lv_dup hx hb dL_law_11 rfl ?_
  have hPc := hP.sub (ws' := [(q_2, .inr (12, [.int 0, .int 0, .null, .null, .null, .null, .null, .null, .null, .null, .int 0, .null, .int 0, .int 0, .int 0, .int 0, .long 0, .int 0, .int 0, .null, .null, .null, .null, .int 0, .long 0, .long 0, .long 0]))]) [0] rfl
  have hDc := hD.sub (ws' := [(q_2, .inr (12, [.int 0, .int 0, .null, .null, .null, .null, .null, .null, .null, .null, .int 0, .null, .int 0, .int 0, .int 0, .int 0, .long 0, .int 0, .int 0, .null, .null, .null, .null, .int 0, .long 0, .long 0, .long 0]))]) [0] (by decide) rfl
  have hKc := hK.sub (tys' := []) [] rfl
  have hFc := va_free (wc := [(q_2, .inr (12, [.int 0, .int 0, .null, .null, .null, .null, .null, .null, .null, .null, .int 0, .null, .int 0, .int 0, .int 0, .int 0, .long 0, .int 0, .int 0, .null, .null, .null, .null, .int 0, .long 0, .long 0, .long 0]))]) hD hS hA [0] rfl
  refine va_callv (va_runI (As := []) (rest := [.ref q_2]) ⟨hx, hb, hml, hown, hts⟩ (n_X12 l dC dI q_2 H.size) (cwI 0 hts tb_n_X12 rfl rfl rfl (hts (.initialized RX12) tw_728.1) (hts (.methodLink RL 12 yX12_init) tw_1318.1) (hts (.instanceMethod yX12_init) tw_1319.1) rfl (by decide +kernel) ⟨Nat.le_of_ble_eq_true rfl, Nat.le_of_ble_eq_true rfl⟩) ⟨fun a U g mk q => by obtain ⟨q0, q1, qP, qK, qD⟩ := q; exact ⟨q0, q1, qP, va_K.moved (u := U) (U := U.calling g mk a) (Vm.Alike.refl U.vm) qK, qD⟩, fun U hU hW => ⟨rfl, by rw [hU], by rw [hU]; exact hPc, va_K.moved hW.alike hKc, hDc.weaken (fun _ _ _ _ => trivial)⟩⟩ rfl rfl hl.1 rfl (lv_room (Nat.le_of_ble_eq_true rfl)) dL_law_12 ⟨Nat.le_of_ble_eq_true rfl, Nat.le_of_ble_eq_true rfl⟩) hS (fun q _ h => hFc q h) hFc (fun u t H1 locs ht hvm hw hB hz1 hk1 hS => ?_)
  obtain ⟨mr_3, mt_4, mw_5, mu_6, mp_7, mi_8, mk_9, ms_10, mv_11, m1w_12, m2w_13, m3w_14, m4w_15, cm_16, cm_17, cm_18, cm_19, cm_20, cm_21, cm_22, cm_23, cm_24, cm_25, cm_26, cm_27, cm_28, ft_29, fw_30, fo_31, fm_32, k_33, k_34, k_35, k_36, k_37, k_38, k_39, k_40, k_41, k_42, k_43, k_44, k_45, k_46, hP1, hK1, hD1⟩ := hB
  rw [ht] at hP1
  have hK1 := va_K.moved hvm.symm hK1
  obtain ⟨hP, hD⟩ := va_joinQ (X := [(q_2, .inr (12, [.int 0, .int 0, .null, .null, .null, .null, .null, .null, .null, .null, .int 0, .null, .int 0, .int 0, .int 0, .int 0, .long 0, .int 0, .int 0, .null, .null, .null, .null, .int 0, .long 0, .long 0, .long 0]))]) (pl := va_pl L9 f9) (wr := []) (w1 := [(q_2, .inr (12, [.int 0, .int 0, .ref mr_3, .ref mt_4, .ref mw_5, .ref mu_6, .ref mp_7, .ref mi_8, .ref mk_9, .ref ms_10, .int 0, .ref mv_11, .int 0, .int 0, .int 0, .int 0, .long 0, .int (-1), .int 0, .ref m1w_12, .ref m2w_13, .ref m3w_14, .ref m4w_15, .int 0, .long 0, .long 0, .long 0])), (mr_3, .inl (cm_16, 7, .inl (fun _ => 0))), (mt_4, .inl (cm_17, 3, .inl ft_29)), (mw_5, .inl (cm_18, 906, .inr (.inl fw_30))), (mu_6, .inl (cm_19, 9060, .inr (.inl (fun _ => 0)))), (mp_7, .inl (cm_20, 906, .inr (.inl (fun _ => 0)))), (mi_8, .inl (cm_21, 1812, .inr (.inl (fun _ => 0)))), (mk_9, .inl (cm_22, 2, .inl (fun _ => 0))), (ms_10, .inl (cm_23, 10, .inl (fun _ => 0))), (mv_11, .inl (cm_24, 200, .inl (fun _ => 0))), (m1w_12, .inl (cm_25, 5, .inr (.inl fo_31))), (m2w_13, .inl (cm_26, 5, .inl fm_32)), (m3w_14, .inl (cm_27, 8, .inl (fun _ => 0))), (m4w_15, .inl (cm_28, 8, .inl (fun _ => 0)))]) hP hD [0] [] rfl rfl (by decide) (by decide) hk1 hFc hP1 hD1
  have hK := hK.app hK1
  have hK : va_K (dC, dI) vwCl [(cm_16, .int), (cm_17, .int), (cm_18, .long), (cm_19, .long), (cm_20, .long), (cm_21, .long), (cm_22, .boolean), (cm_23, .int), (cm_24, .int), (cm_25, .long), (cm_26, .int), (cm_27, .int), (cm_28, .int)] s := hK
  generalize H1 = H at hP hS ⊢
  have hP : va_P (dC, dI) vwCl ([(q_2, .inr (12, [.int 0, .int 0, .ref mr_3, .ref mt_4, .ref mw_5, .ref mu_6, .ref mp_7, .ref mi_8, .ref mk_9, .ref ms_10, .int 0, .ref mv_11, .int 0, .int 0, .int 0, .int 0, .long 0, .int (-1), .int 0, .ref m1w_12, .ref m2w_13, .ref m3w_14, .ref m4w_15, .int 0, .long 0, .long 0, .long 0])), (mr_3, .inl (cm_16, 7, .inl (fun _ => 0))), (mt_4, .inl (cm_17, 3, .inl ft_29)), (mw_5, .inl (cm_18, 906, .inr (.inl fw_30))), (mu_6, .inl (cm_19, 9060, .inr (.inl (fun _ => 0)))), (mp_7, .inl (cm_20, 906, .inr (.inl (fun _ => 0)))), (mi_8, .inl (cm_21, 1812, .inr (.inl (fun _ => 0)))), (mk_9, .inl (cm_22, 2, .inl (fun _ => 0))), (ms_10, .inl (cm_23, 10, .inl (fun _ => 0))), (mv_11, .inl (cm_24, 200, .inl (fun _ => 0))), (m1w_12, .inl (cm_25, 5, .inr (.inl fo_31))), (m2w_13, .inl (cm_26, 5, .inl fm_32)), (m3w_14, .inl (cm_27, 8, .inl (fun _ => 0))), (m4w_15, .inl (cm_28, 8, .inl (fun _ => 0)))] ++ va_pl L9 f9) H := hP
  have hD : va_D A ([(q_2, .inr (12, [.int 0, .int 0, .ref mr_3, .ref mt_4, .ref mw_5, .ref mu_6, .ref mp_7, .ref mi_8, .ref mk_9, .ref ms_10, .int 0, .ref mv_11, .int 0, .int 0, .int 0, .int 0, .long 0, .int (-1), .int 0, .ref m1w_12, .ref m2w_13, .ref m3w_14, .ref m4w_15, .int 0, .long 0, .long 0, .long 0])), (mr_3, .inl (cm_16, 7, .inl (fun _ => 0))), (mt_4, .inl (cm_17, 3, .inl ft_29)), (mw_5, .inl (cm_18, 906, .inr (.inl fw_30))), (mu_6, .inl (cm_19, 9060, .inr (.inl (fun _ => 0)))), (mp_7, .inl (cm_20, 906, .inr (.inl (fun _ => 0)))), (mi_8, .inl (cm_21, 1812, .inr (.inl (fun _ => 0)))), (mk_9, .inl (cm_22, 2, .inl (fun _ => 0))), (ms_10, .inl (cm_23, 10, .inl (fun _ => 0))), (mv_11, .inl (cm_24, 200, .inl (fun _ => 0))), (m1w_12, .inl (cm_25, 5, .inr (.inl fo_31))), (m2w_13, .inl (cm_26, 5, .inl fm_32)), (m3w_14, .inl (cm_27, 8, .inl (fun _ => 0))), (m4w_15, .inl (cm_28, 8, .inl (fun _ => 0)))] ++ va_pl L9 f9) := hD
  refine W.widen (k := 786) (n := 20946) (Nat.le_of_ble_eq_true rfl) (Nat.le_of_ble_eq_true rfl) ?_
  refine lv_astore_n (lv' := [(2, .ref q_2), (1, .ref q_1), (0, .ref b)]) hx hb dL_law_15 rfl hl (by decide) rfl (fun ls hl => ?_)
  refine lv_iconst (v := 0) hx hb dL_law_16 (by decide) ?_
  refine lv_istore_n (lv' := [(3, .int 0), (2, .ref q_2), (1, .ref q_1), (0, .ref b)]) hx hb dL_law_17 rfl hl (by decide) rfl (fun ls hl => ?_)
  obtain ⟨g, f1, hG, hI, hKg, hgK, hgV, i_x, i_m, hLI⟩ := start_g hP hD (hK.sub (tys' := [(cm_16, .int), (cm_17, .int), (cm_18, .long), (cm_19, .long), (cm_20, .long), (cm_21, .long), (cm_22, .boolean), (cm_23, .int), (cm_24, .int), (cm_25, .long), (cm_26, .int), (cm_27, .int), (cm_28, .int)]) [0, 1, 2, 3, 4, 5, 6, 7, 8, 9, 10, 11, 12] rfl) hT9 hm9 hte9 hfe9 k_33 k_34 k_35 k_36 k_37 k_38 k_39 k_40 k_41 k_42 k_43 k_44 k_45 k_46 adK adV
  exact law_loop C0 hL hbA hG hKg (hKE g hgK hgV) i_x i_m L 0 f1 _ _ _ (by omega) (by omega) hI hS hLI (lv_sub hl [3, 2, 1, 0] rfl) hAq
-- ===== YOUR PART ENDS =====
set_option maxHeartbeats 4000000 in
theorem lw_walk (l : Launch) (hflags : l.flags = flags0) (b : Addr) (xs : List Int32) : MetFree l x (headSpec (Jvm.Cond.code x code maxLocals ret :: tables_1) room_1) (lw_P b xs) (fun _ _ _ _ _ => True) lw_Q := by
  refine MetFree.of_bodyS (code := code) (maxLocals := maxLocals) (ret := ret) (by decide) ?_ ?_
  · intro args s m h hn
    obtain ⟨meth, c, h1, h2, h3, h4, h5, h6, -, -⟩ := Cond.code_spec hn (atoms_spec (ws := Jvm.Cond.code x code maxLocals ret :: tables_1) h _ List.mem_cons_self)
    exact ⟨meth, c, h1, h2, h3, h4, h5, h6⟩
  · intro p e s m args below meth c s₁ B hml0 hP _
    obtain ⟨rfl, hx, hbd, hgv⟩ := hP
    obtain ⟨scr, harrAt, hlist, hof, hsmall⟩ := hx
    obtain ⟨hcb, hkn, -, -⟩ := State.arrayAt?_spec harrAt
    have hown : s.vm.findClass R_law = some m.cls := findClass_of_methodNamed B.named
    have hts0 : ∀ c ∈ (Jvm.Cond.code x code maxLocals ret :: tables_1), c.before #[Value.ref b] s = true := atoms_spec (ws := Jvm.Cond.code x code maxLocals ret :: tables_1) B.pre
    have hts : ∀ w ∈ lw_tbl, w.before #[Value.ref b] s = true := k2_hts_sels lw_privs (fun w hw => hts0 w (List.mem_cons_of_mem _ hw)) lw_privs_ok
    have hml : c.maxLocals = 4 := B.maxLocals_eq (hts0 _ List.mem_cons_self)
    have X₀ : Stand p l e room_1 s m #[Value.ref b] below meth c s₁ [] 0 0 := Stand.of_body B
    have hh0 : s₁.heap = s.heap := by rw [B.state]; rfl
    have hsz : scr.slots.size = xs.length := by rw [← Array.length_toList, hlist, List.length_map]
    have hval : ∀ j : Nat, j < xs.length → scr.slots[j]? = some (.int (xs.getD j 0)) := fun j hj => by
      rw [← Array.getElem?_toList, hlist]
      simp [hj]
    have hbl : b < s.heap.size := (Array.getElem?_eq_some_iff.mp hcb).1
    have hX : va_X b xs.length (fun j => xs.getD j 0) s s.heap := ⟨scr, hcb, hof, hkn, hsz, hval⟩
    have K : W p l e room_1 s m #[Value.ref b] below meth c s₁.heap [] 0 0 (lw_Z below #[Value.ref b] s) (entryFrame m ([Value.ref b] : List Value).toArray 4) := by
      rw [hh0]
      exact whole_start l hflags hbd ⟨B.exec, B.bytes, B.returns, hml, hown, hts, hX, hbl, B.notSynchronized, hgv⟩
    obtain ⟨t, a1, o, b1, b2, b3⟩ := K s₁ rfl X₀
    exact ⟨t, o, a1, b1, b2, b3⟩
theorem lw_pre_spec {args : Array Value} {s : State} (h : (Jvm.Cond.and given_1 narrow_1).before args s = true) (hr : rest_1_c.before args s = true) : ∃ (b : Addr) (xs : List Int32), lw_P b xs args s := by
  have hs := flat_of_before _ h
  have hq := flat_of_before _ hr
  have hc : (Cond.count 1).before args s = true := hs _ (by decide +kernel)
  have harr : (Cond.arrayOf (.arg 0) .int).before args s = true := hs _ (by decide +kernel)
  have hle : (Cond.le (.length (.arg 0)) (.int 3072)).before args s = true := hs _ (by decide +kernel)
  have hlen : (Cond.isInt (.length (.arg 0))).before args s = true := hq _ (by decide +kernel)
  have hall : (Cond.all (.arg 0) (.isInt (.elem (.arg 0) (.index 0)))).before args s = true := hq _ (by decide +kernel)
  obtain ⟨b, xs, hb, hx⟩ := State.ints_of_pre rfl harr hlen hall
  have hsm : xs.length < 2 ^ 31 := hx.choose_spec.2.2.2
  have hev : (Term.length (.arg 0)).eval args s none [] s = some (.int xs.length.toInt32) := hx.length_eval hb
  have hv := Cond.le_ints hev (show (Term.int 3072).eval args s none [] s = some (.int 3072) from rfl)
  have hd : xs.length.toInt32 ≤ 3072 := by
    simpa [Cond.before, Cond.holds, hv] using hle
  have hN : xs.length ≤ 3072 := (Int32.ofNat_le_ofNat hsm (by decide)).mp (show Int32.ofNat xs.length ≤ Int32.ofNat 3072 from hd)
  exact ⟨b, xs, Cond.one_arg hc (show args[0]? = some (.ref b) from hb), hx, hN, h⟩
theorem lw_comes (l : Launch) (hflags : l.flags = flags0) : Comes l x (Jvm.Cond.code x code maxLocals ret :: tables_1) room_1 (fun tb e args s => Calls_1 tb e args s ∧ rest_1 tb e args s ∧ Pre_1 tb e args s)
    (fun _ _ args s o t => lw_Q args s o t) := by
  intro p e ha hc hk s m args below hf hfit hheap happ hpre
  obtain ⟨b, xs, hP⟩ := lw_pre_spec hpre.2.2 hpre.2.1
  obtain ⟨k, o, h1, h2, h3, hQ⟩ := lw_walk l hflags b xs p e ha hc hk s m args below hf ((Spec.applies_iff_loose hf).mp happ).1 hP trivial
  exact ⟨k, o, h1, h2, h3, hQ⟩
theorem lw_frame {s t : State} {o : Outcome} {args : Array Value} (h : Framed s o t [] 600000 7302250) :
    Framed s o t (fieldLocs frame_1_writes args s ++ arrayLocs frame_1_arrays args s ++ staticLocs frame_1_statics s) 600000 7302250 := h
theorem lw_limb (L : Cond) (hL : ∀ (args : Array Value) (s t : State), L.after args s (.returned (some (.int 1))) t = true) :
    ArmFor flags0 classFile x code maxLocals ret World_1 tables_1 room_1 Calls_1 rest_1 Pre_1
      (fun tb e a s o t => postC L tb e a s o t ∧ Framed s o t (fieldLocs frame_1_writes a s ++ arrayLocs frame_1_arrays a s ++ staticLocs frame_1_statics s) 600000 7302250) := by
  intro l hflags _ _ p e ha hc hk s m args below hf hfit hheap happ hpre
  obtain ⟨k, o, h1, h2, h3, rfl, hF⟩ := lw_comes l hflags p e ha hc hk s m args below hf hfit hheap happ hpre
  exact ⟨k, _, h1, h2, h3, hL args s _, lw_frame hF⟩
theorem i_vc : Claimed_1_1 ∧ Claimed_1_2 := ⟨lw_limb limb_1_1 (fun args s t => by simp [limb_1_1, Cond.after, Cond.holds, Cond.value]), lw_limb limb_1_2 (fun args s t => Cond.after_iff.mpr (by
  first | (rw [show limb_1_2 = Cond.eq .result (.int 1) from rfl, Cond.eq_ints (x := 1) (y := 1) rfl rfl]; simp; done) | (simp [limb_1_2, Cond.value, Term.eval]; done)))⟩

