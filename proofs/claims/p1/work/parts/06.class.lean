def sp_allow (a b : Int32) : Int32 := if (a.toInt = 0 ∧ 0 ≤ b.toInt ∧ b.toInt ≤ 1) ∨ (a.toInt = 1 ∧ 0 ≤ b.toInt ∧ b.toInt ≤ 3) ∨ (a.toInt = 2 ∧ 0 ≤ b.toInt ∧ b.toInt ≤ 1000000) then 1 else 0
def sp_get (a : Int32) : Int32 := if a.toInt = 0 then 0 else 1
theorem sp_allow0 (a b : Int32) : sp_allow a b = 0 ↔ ¬ ((a.toInt = 0 ∧ 0 ≤ b.toInt ∧ b.toInt ≤ 1) ∨ (a.toInt = 1 ∧ 0 ≤ b.toInt ∧ b.toInt ≤ 3) ∨ (a.toInt = 2 ∧ 0 ≤ b.toInt ∧ b.toInt ≤ 1000000)) := by
  unfold sp_allow; split
  · rename_i h; exact ⟨fun q => absurd q (by decide), fun q => absurd h q⟩
  · rename_i h; exact ⟨fun _ => h, fun _ => rfl⟩
theorem sp_allow1 (a b : Int32) : (¬ sp_allow a b = 0) ↔ ((a.toInt = 0 ∧ 0 ≤ b.toInt ∧ b.toInt ≤ 1) ∨ (a.toInt = 1 ∧ 0 ≤ b.toInt ∧ b.toInt ≤ 3) ∨ (a.toInt = 2 ∧ 0 ≤ b.toInt ∧ b.toInt ≤ 1000000)) := by rw [sp_allow0]; exact Classical.not_not
def sp_terms (a b : Int32) : Int32 := if (a.toInt = 0 ∧ 0 ≤ b.toInt ∧ b.toInt ≤ 1) ∨ (a.toInt = 1 ∧ 0 ≤ b.toInt ∧ b.toInt ≤ 3) ∨ (a.toInt = 2 ∧ 0 ≤ b.toInt ∧ b.toInt ≤ 1000000) then sp_get a else (-1)
def sp_end (n : Int32) : Int32 := if n.toInt = 0 then 0 else (-1)
def sp_two (a b : Int32) (l1 h1 l2 h2 : Int) (y : Int32) : Int32 := if l1 ≤ a.toInt ∧ a.toInt ≤ h1 ∧ l2 ≤ b.toInt ∧ b.toInt ≤ h2 then y else (-1)
def sp_one (a : Int32) (l1 h1 : Int) (y : Int32) : Int32 := if l1 ≤ a.toInt ∧ a.toInt ≤ h1 then y else (-1)
def sp_quota (n m : Int32) : Int32 := if 0 ≤ n.toInt ∧ n.toInt ≤ 50 ∧ (n.toInt = 0 ∨ (n.toInt < m.toInt ∧ m.toInt ≤ 60)) then (-2) else (-1)
def sp_time (a : Int32) : Int64 := if 0 ≤ a.toInt ∧ a.toInt ≤ 3 then 0 else (-9223372036854775808)
def sp_count (a : Int32) : Int32 := if a.toInt = 4 then (-1) else if a.toInt = 14 ∨ a.toInt = 15 then 1 else if 0 ≤ a.toInt ∧ a.toInt ≤ 16 then 0 else (-1)
def sp_would (w n k : Int32) : Int32 := if 0 ≤ w.toInt ∧ w.toInt ≤ 4 ∧ 1 ≤ n.toInt ∧ n.toInt ≤ 60 ∧ 0 ≤ k.toInt ∧ k.toInt ≤ 3 then (if k.toInt = 3 then n else 0) else (-2147483648)
def ow_c_X11_isWeight : List Cond := []
def wq_c_X11_isWeight : List Cond := .code yX11_isWeight cX11_isWeight 1 (some .boolean) :: (ow_c_X11_isWeight ++ ([] : List Cond))
theorem tb_c_X11_isWeight : ∀ w ∈ wq_c_X11_isWeight, q_g w := by
  unfold wq_c_X11_isWeight ow_c_X11_isWeight
  exact q_cons tw_268 (q_app q_nil q_nil)
set_option maxHeartbeats 4000000 in
set_option maxRecDepth 100000 in
theorem c_X11_isWeight (l : Launch) (dC : Nat → ClassId) (dI : Nat → Nat → Nat) (wt : Int32) (sz : Nat) : Met l yX11_isWeight wq_c_X11_isWeight ({ frames := 0, cells := 0, slots := 0, locals := 0 } : Room) (va_Pc [.int wt] (fun U => U.heap.size = sz ∧ va_P (dC, dI) vwCl [] U.heap ∧ va_K (dC, dI) vwCl [] U ∧ va_D (fun _ => True) [])) (va_Qi (fun (r : Int32) (_ : Unit) => r = sp_r wt 1 8) (fun (_ : Unit) t => va_P (dC, dI) vwCl [] t.heap ∧ va_K (dC, dI) vwCl [] t ∧ va_D (va_A [] sz) []) (va_A [] sz)) 0 0 (va_A [] sz) := by
  refine Met.ofW (cc := cX11_isWeight) (maxL := 1) (ret := (some .boolean)) (by decide) rfl ?_
  intro p e s m args below meth c s₁ B hml hv
  obtain ⟨rfl, hsz, hP, hK, hD0⟩ := hv
  have hx := B.exec
  have hb := B.bytes
  have hr := B.returns
  have hts := atoms_spec (ws := wq_c_X11_isWeight) B.pre
  have hown : s.vm.findClass RX11 = some m.cls := findClass_of_methodNamed B.named
  have hlocks := B.notSynchronized
  subst hsz
  have hD := hD0.self (sz := s.heap.size)
  obtain ⟨A, hAe⟩ : ∃ A, A = va_A [] s.heap.size := ⟨_, rfl⟩
  rw [← hAe] at hD ⊢
  have hA : ∀ q : Nat, s.heap.size ≤ q → A q := fun q h => by rw [hAe]; exact Or.inr h
  have hS : va_S A s.heap s.heap [] := va_S.rf
  have hP : va_P (dC, dI) vwCl [] s.heap := hP
  have hl := lv_entry ([.int wt]) (n := 1) (Nat.le_of_ble_eq_true rfl)
  rw [lg_entry_eq]
  generalize (lg_sl ([.int wt]) ++ List.replicate (1 - (lg_sl ([.int wt])).length) Slot.unset).toArray = ls at hl ⊢
  have hl : lv_has ls 1 [(0, .int wt)] := hl
  refine lv_iload_n hx hb dX11_isWeight_0 rfl (lv_at hl 0 rfl) ?_
  refine lv_iconst (v := 1) hx hb dX11_isWeight_1 (by decide) ?_
  refine lv_icmp_lt (tgt := 15) hx hb dX11_isWeight_2 (by decide) (fun c_1 => ?_) (fun c_1 => ?_)
  · refine lv_iconst (v := 0) hx hb dX11_isWeight_15 (by decide) ?_
    have hP9 := hP.sub (ws' := []) [] rfl
    have hD9 := hD.sub (ws' := []) [] (by decide) rfl
    have hK9 := hK.sub (tys' := []) [] rfl
    refine W.widen (k := 0) (n := 0) (Nat.le_of_ble_eq_true rfl) (Nat.le_of_ble_eq_true rfl) ?_
    exact W.zret (v := 0) hx hb hr rfl (fun t ht hW => ⟨⟨0, (), rfl, (by have z0 := (fa_lt _ _).mp c_1; have li1 : Int32.toInt 1 = 1 := (by decide); unfold sp_r; (repeat' split) <;> first | rfl | omega | (refine Int32.toInt_inj.mp ?_; omega)), by rw [ht]; exact hP9, va_K.moved hW.alike hK9, hD9⟩, hS.F ht⟩) hS.2.2 dX11_isWeight_16
  · refine lv_iload_n hx hb dX11_isWeight_5 rfl (lv_at hl 0 rfl) ?_
    refine lv_bipush (v := 8) hx hb dX11_isWeight_6 (by decide) ?_
    refine lv_icmp_gt (tgt := 15) hx hb dX11_isWeight_8 (by decide) (fun c_2 => ?_) (fun c_2 => ?_)
    · refine lv_iconst (v := 0) hx hb dX11_isWeight_15 (by decide) ?_
      have hP9 := hP.sub (ws' := []) [] rfl
      have hD9 := hD.sub (ws' := []) [] (by decide) rfl
      have hK9 := hK.sub (tys' := []) [] rfl
      refine W.widen (k := 0) (n := 0) (Nat.le_of_ble_eq_true rfl) (Nat.le_of_ble_eq_true rfl) ?_
      exact W.zret (v := 0) hx hb hr rfl (fun t ht hW => ⟨⟨0, (), rfl, (by have z0 : ¬ _ := fun h9 => c_1 ((fa_lt _ _).mpr h9); have z1 := (fa_lt _ _).mp c_2; have li1 : Int32.toInt 1 = 1 := (by decide); have li8 : Int32.toInt 8 = 8 := (by decide); unfold sp_r; (repeat' split) <;> first | rfl | omega | (refine Int32.toInt_inj.mp ?_; omega)), by rw [ht]; exact hP9, va_K.moved hW.alike hK9, hD9⟩, hS.F ht⟩) hS.2.2 dX11_isWeight_16
    · refine lv_iconst (v := 1) hx hb dX11_isWeight_11 (by decide) ?_
      refine lv_goto (tgt := 16) hx hb dX11_isWeight_12 (by decide) ?_
      have hP9 := hP.sub (ws' := []) [] rfl
      have hD9 := hD.sub (ws' := []) [] (by decide) rfl
      have hK9 := hK.sub (tys' := []) [] rfl
      refine W.widen (k := 0) (n := 0) (Nat.le_of_ble_eq_true rfl) (Nat.le_of_ble_eq_true rfl) ?_
      exact W.zret (v := 1) hx hb hr rfl (fun t ht hW => ⟨⟨1, (), rfl, (by have z0 : ¬ _ := fun h9 => c_1 ((fa_lt _ _).mpr h9); have z1 : ¬ _ := fun h9 => c_2 ((fa_lt _ _).mpr h9); have li1 : Int32.toInt 1 = 1 := (by decide); have li8 : Int32.toInt 8 = 8 := (by decide); unfold sp_r; (repeat' split) <;> first | rfl | omega | (refine Int32.toInt_inj.mp ?_; omega)), by rw [ht]; exact hP9, va_K.moved hW.alike hK9, hD9⟩, hS.F ht⟩) hS.2.2 dX11_isWeight_16
def ow_c_X11_isSlice : List Cond := []
def wq_c_X11_isSlice : List Cond := .code yX11_isSlice cX11_isSlice 1 (some .boolean) :: (ow_c_X11_isSlice ++ ([] : List Cond))
theorem tb_c_X11_isSlice : ∀ w ∈ wq_c_X11_isSlice, q_g w := by
  unfold wq_c_X11_isSlice ow_c_X11_isSlice
  exact q_cons tw_269 (q_app q_nil q_nil)
set_option maxHeartbeats 4000000 in
set_option maxRecDepth 100000 in
theorem c_X11_isSlice (l : Launch) (dC : Nat → ClassId) (dI : Nat → Nat → Nat) (sl : Int32) (sz : Nat) : Met l yX11_isSlice wq_c_X11_isSlice ({ frames := 0, cells := 0, slots := 0, locals := 0 } : Room) (va_Pc [.int sl] (fun U => U.heap.size = sz ∧ va_P (dC, dI) vwCl [] U.heap ∧ va_K (dC, dI) vwCl [] U ∧ va_D (fun _ => True) [])) (va_Qi (fun (r : Int32) (_ : Unit) => r = sp_r sl 1 20) (fun (_ : Unit) t => va_P (dC, dI) vwCl [] t.heap ∧ va_K (dC, dI) vwCl [] t ∧ va_D (va_A [] sz) []) (va_A [] sz)) 0 0 (va_A [] sz) := by
  refine Met.ofW (cc := cX11_isSlice) (maxL := 1) (ret := (some .boolean)) (by decide) rfl ?_
  intro p e s m args below meth c s₁ B hml hv
  obtain ⟨rfl, hsz, hP, hK, hD0⟩ := hv
  have hx := B.exec
  have hb := B.bytes
  have hr := B.returns
  have hts := atoms_spec (ws := wq_c_X11_isSlice) B.pre
  have hown : s.vm.findClass RX11 = some m.cls := findClass_of_methodNamed B.named
  have hlocks := B.notSynchronized
  subst hsz
  have hD := hD0.self (sz := s.heap.size)
  obtain ⟨A, hAe⟩ : ∃ A, A = va_A [] s.heap.size := ⟨_, rfl⟩
  rw [← hAe] at hD ⊢
  have hA : ∀ q : Nat, s.heap.size ≤ q → A q := fun q h => by rw [hAe]; exact Or.inr h
  have hS : va_S A s.heap s.heap [] := va_S.rf
  have hP : va_P (dC, dI) vwCl [] s.heap := hP
  have hl := lv_entry ([.int sl]) (n := 1) (Nat.le_of_ble_eq_true rfl)
  rw [lg_entry_eq]
  generalize (lg_sl ([.int sl]) ++ List.replicate (1 - (lg_sl ([.int sl])).length) Slot.unset).toArray = ls at hl ⊢
  have hl : lv_has ls 1 [(0, .int sl)] := hl
  refine lv_iload_n hx hb dX11_isSlice_0 rfl (lv_at hl 0 rfl) ?_
  refine lv_iconst (v := 1) hx hb dX11_isSlice_1 (by decide) ?_
  refine lv_icmp_lt (tgt := 15) hx hb dX11_isSlice_2 (by decide) (fun c_1 => ?_) (fun c_1 => ?_)
  · refine lv_iconst (v := 0) hx hb dX11_isSlice_15 (by decide) ?_
    have hP9 := hP.sub (ws' := []) [] rfl
    have hD9 := hD.sub (ws' := []) [] (by decide) rfl
    have hK9 := hK.sub (tys' := []) [] rfl
    refine W.widen (k := 0) (n := 0) (Nat.le_of_ble_eq_true rfl) (Nat.le_of_ble_eq_true rfl) ?_
    exact W.zret (v := 0) hx hb hr rfl (fun t ht hW => ⟨⟨0, (), rfl, (by have z0 := (fa_lt _ _).mp c_1; have li1 : Int32.toInt 1 = 1 := (by decide); unfold sp_r; (repeat' split) <;> first | rfl | omega | (refine Int32.toInt_inj.mp ?_; omega)), by rw [ht]; exact hP9, va_K.moved hW.alike hK9, hD9⟩, hS.F ht⟩) hS.2.2 dX11_isSlice_16
  · refine lv_iload_n hx hb dX11_isSlice_5 rfl (lv_at hl 0 rfl) ?_
    refine lv_bipush (v := 20) hx hb dX11_isSlice_6 (by decide) ?_
    refine lv_icmp_gt (tgt := 15) hx hb dX11_isSlice_8 (by decide) (fun c_2 => ?_) (fun c_2 => ?_)
    · refine lv_iconst (v := 0) hx hb dX11_isSlice_15 (by decide) ?_
      have hP9 := hP.sub (ws' := []) [] rfl
      have hD9 := hD.sub (ws' := []) [] (by decide) rfl
      have hK9 := hK.sub (tys' := []) [] rfl
      refine W.widen (k := 0) (n := 0) (Nat.le_of_ble_eq_true rfl) (Nat.le_of_ble_eq_true rfl) ?_
      exact W.zret (v := 0) hx hb hr rfl (fun t ht hW => ⟨⟨0, (), rfl, (by have z0 : ¬ _ := fun h9 => c_1 ((fa_lt _ _).mpr h9); have z1 := (fa_lt _ _).mp c_2; have li1 : Int32.toInt 1 = 1 := (by decide); have li20 : Int32.toInt 20 = 20 := (by decide); unfold sp_r; (repeat' split) <;> first | rfl | omega | (refine Int32.toInt_inj.mp ?_; omega)), by rw [ht]; exact hP9, va_K.moved hW.alike hK9, hD9⟩, hS.F ht⟩) hS.2.2 dX11_isSlice_16
    · refine lv_iconst (v := 1) hx hb dX11_isSlice_11 (by decide) ?_
      refine lv_goto (tgt := 16) hx hb dX11_isSlice_12 (by decide) ?_
      have hP9 := hP.sub (ws' := []) [] rfl
      have hD9 := hD.sub (ws' := []) [] (by decide) rfl
      have hK9 := hK.sub (tys' := []) [] rfl
      refine W.widen (k := 0) (n := 0) (Nat.le_of_ble_eq_true rfl) (Nat.le_of_ble_eq_true rfl) ?_
      exact W.zret (v := 1) hx hb hr rfl (fun t ht hW => ⟨⟨1, (), rfl, (by have z0 : ¬ _ := fun h9 => c_1 ((fa_lt _ _).mpr h9); have z1 : ¬ _ := fun h9 => c_2 ((fa_lt _ _).mpr h9); have li1 : Int32.toInt 1 = 1 := (by decide); have li20 : Int32.toInt 20 = 20 := (by decide); unfold sp_r; (repeat' split) <;> first | rfl | omega | (refine Int32.toInt_inj.mp ?_; omega)), by rw [ht]; exact hP9, va_K.moved hW.alike hK9, hD9⟩, hS.F ht⟩) hS.2.2 dX11_isSlice_16
def ow_c_X11_isImage : List Cond := []
def wq_c_X11_isImage : List Cond := .code yX11_isImage cX11_isImage 1 (some .boolean) :: (ow_c_X11_isImage ++ ([] : List Cond))
theorem tb_c_X11_isImage : ∀ w ∈ wq_c_X11_isImage, q_g w := by
  unfold wq_c_X11_isImage ow_c_X11_isImage
  exact q_cons tw_270 (q_app q_nil q_nil)
set_option maxHeartbeats 4000000 in
set_option maxRecDepth 100000 in
theorem c_X11_isImage (l : Launch) (dC : Nat → ClassId) (dI : Nat → Nat → Nat) (kk : Int32) (sz : Nat) : Met l yX11_isImage wq_c_X11_isImage ({ frames := 0, cells := 0, slots := 0, locals := 0 } : Room) (va_Pc [.int kk] (fun U => U.heap.size = sz ∧ va_P (dC, dI) vwCl [] U.heap ∧ va_K (dC, dI) vwCl [] U ∧ va_D (fun _ => True) [])) (va_Qi (fun (r : Int32) (_ : Unit) => r = sp_r kk 0 1) (fun (_ : Unit) t => va_P (dC, dI) vwCl [] t.heap ∧ va_K (dC, dI) vwCl [] t ∧ va_D (va_A [] sz) []) (va_A [] sz)) 0 0 (va_A [] sz) := by
  refine Met.ofW (cc := cX11_isImage) (maxL := 1) (ret := (some .boolean)) (by decide) rfl ?_
  intro p e s m args below meth c s₁ B hml hv
  obtain ⟨rfl, hsz, hP, hK, hD0⟩ := hv
  have hx := B.exec
  have hb := B.bytes
  have hr := B.returns
  have hts := atoms_spec (ws := wq_c_X11_isImage) B.pre
  have hown : s.vm.findClass RX11 = some m.cls := findClass_of_methodNamed B.named
  have hlocks := B.notSynchronized
  subst hsz
  have hD := hD0.self (sz := s.heap.size)
  obtain ⟨A, hAe⟩ : ∃ A, A = va_A [] s.heap.size := ⟨_, rfl⟩
  rw [← hAe] at hD ⊢
  have hA : ∀ q : Nat, s.heap.size ≤ q → A q := fun q h => by rw [hAe]; exact Or.inr h
  have hS : va_S A s.heap s.heap [] := va_S.rf
  have hP : va_P (dC, dI) vwCl [] s.heap := hP
  have hl := lv_entry ([.int kk]) (n := 1) (Nat.le_of_ble_eq_true rfl)
  rw [lg_entry_eq]
  generalize (lg_sl ([.int kk]) ++ List.replicate (1 - (lg_sl ([.int kk])).length) Slot.unset).toArray = ls at hl ⊢
  have hl : lv_has ls 1 [(0, .int kk)] := hl
  refine lv_iload_n hx hb dX11_isImage_0 rfl (lv_at hl 0 rfl) ?_
  refine lv_if_lt (tgt := 13) hx hb dX11_isImage_1 (by decide) (fun c_1 => ?_) (fun c_1 => ?_)
  · refine lv_iconst (v := 0) hx hb dX11_isImage_13 (by decide) ?_
    have hP9 := hP.sub (ws' := []) [] rfl
    have hD9 := hD.sub (ws' := []) [] (by decide) rfl
    have hK9 := hK.sub (tys' := []) [] rfl
    refine W.widen (k := 0) (n := 0) (Nat.le_of_ble_eq_true rfl) (Nat.le_of_ble_eq_true rfl) ?_
    exact W.zret (v := 0) hx hb hr rfl (fun t ht hW => ⟨⟨0, (), rfl, (by have z0 := (fa_lt _ _).mp c_1; have li0 : Int32.toInt 0 = 0 := (by decide); unfold sp_r; (repeat' split) <;> first | rfl | omega | (refine Int32.toInt_inj.mp ?_; omega)), by rw [ht]; exact hP9, va_K.moved hW.alike hK9, hD9⟩, hS.F ht⟩) hS.2.2 dX11_isImage_14
  · refine lv_iload_n hx hb dX11_isImage_4 rfl (lv_at hl 0 rfl) ?_
    refine lv_iconst (v := 2) hx hb dX11_isImage_5 (by decide) ?_
    refine lv_icmp_ge (tgt := 13) hx hb dX11_isImage_6 (by decide) (fun c_2 => ?_) (fun c_2 => ?_)
    · refine lv_iconst (v := 0) hx hb dX11_isImage_13 (by decide) ?_
      have hP9 := hP.sub (ws' := []) [] rfl
      have hD9 := hD.sub (ws' := []) [] (by decide) rfl
      have hK9 := hK.sub (tys' := []) [] rfl
      refine W.widen (k := 0) (n := 0) (Nat.le_of_ble_eq_true rfl) (Nat.le_of_ble_eq_true rfl) ?_
      exact W.zret (v := 0) hx hb hr rfl (fun t ht hW => ⟨⟨0, (), rfl, (by have z0 : ¬ _ := fun h9 => c_1 ((fa_lt _ _).mpr h9); have z1 := (fa_le _ _).mp c_2; have li0 : Int32.toInt 0 = 0 := (by decide); have li2 : Int32.toInt 2 = 2 := (by decide); unfold sp_r; (repeat' split) <;> first | rfl | omega | (refine Int32.toInt_inj.mp ?_; omega)), by rw [ht]; exact hP9, va_K.moved hW.alike hK9, hD9⟩, hS.F ht⟩) hS.2.2 dX11_isImage_14
    · refine lv_iconst (v := 1) hx hb dX11_isImage_9 (by decide) ?_
      refine lv_goto (tgt := 14) hx hb dX11_isImage_10 (by decide) ?_
      have hP9 := hP.sub (ws' := []) [] rfl
      have hD9 := hD.sub (ws' := []) [] (by decide) rfl
      have hK9 := hK.sub (tys' := []) [] rfl
      refine W.widen (k := 0) (n := 0) (Nat.le_of_ble_eq_true rfl) (Nat.le_of_ble_eq_true rfl) ?_
      exact W.zret (v := 1) hx hb hr rfl (fun t ht hW => ⟨⟨1, (), rfl, (by have z0 : ¬ _ := fun h9 => c_1 ((fa_lt _ _).mpr h9); have z1 : ¬ _ := fun h9 => c_2 ((fa_le _ _).mpr h9); have li0 : Int32.toInt 0 = 0 := (by decide); have li2 : Int32.toInt 2 = 2 := (by decide); unfold sp_r; (repeat' split) <;> first | rfl | omega | (refine Int32.toInt_inj.mp ?_; omega)), by rw [ht]; exact hP9, va_K.moved hW.alike hK9, hD9⟩, hS.F ht⟩) hS.2.2 dX11_isImage_14
def ow_c_X11_canTick : List Cond := [.fieldLink RX11 37 "DeadlineShare" "now" "LDeadlineShare$State;", .fieldLink RX11 223 "DeadlineShare$State" "time" "I"]
def wq_c_X11_canTick : List Cond := .code yX11_canTick cX11_canTick 2 (some .boolean) :: (ow_c_X11_canTick ++ (u_ws RX11 TX11 12 ++ (u_ws RX6 TX6 10 ++ ([] : List Cond))))
theorem tb_c_X11_canTick : ∀ w ∈ wq_c_X11_canTick, q_g w := by
  unfold wq_c_X11_canTick ow_c_X11_canTick
  exact q_cons tw_272 (q_app (q_cons tw_101 (q_cons tw_271 q_nil)) (q_app tu_X11 (q_app tu_X6 q_nil)))
set_option maxHeartbeats 4000000 in
set_option maxRecDepth 100000 in
theorem c_X11_canTick (l : Launch) (dC : Nat → ClassId) (dI : Nat → Nat → Nat) (h0 : Nat) (nt_ : Int32) (te : Nat) (ta : Nat) (re : Nat) (no : Nat) (pa : Nat) (ac : Nat) (op : Nat) (im : Nat) (ik : Nat) (hi : Nat) (rf : Nat) (nt : Nat) (nl : Nat) (ns : Nat) (np : Nat) (sz : Nat) : Met l yX11_canTick wq_c_X11_canTick ({ frames := 0, cells := 0, slots := 0, locals := 0 } : Room) (va_Pc [.ref h0, .int nt_] (fun U => U.heap.size = sz ∧ va_P (dC, dI) vwCl [(h0, .inr (11, [.ref te, .ref ta, .ref re, .ref no, .ref pa, .ref ac, .ref op, .ref im, .ref ik, .ref hi, .ref rf, .int (-1)])), (no, .inr (6, [.ref te, .ref nt, .ref nl, .ref ns, .ref np, .int 0, .int 0, .long 0, .int (-1), .int (-1)]))] U.heap ∧ va_K (dC, dI) vwCl [] U ∧ va_D (fun _ => True) [(h0, .inr (11, [.ref te, .ref ta, .ref re, .ref no, .ref pa, .ref ac, .ref op, .ref im, .ref ik, .ref hi, .ref rf, .int (-1)])), (no, .inr (6, [.ref te, .ref nt, .ref nl, .ref ns, .ref np, .int 0, .int 0, .long 0, .int (-1), .int (-1)]))])) (va_Qi (fun (r : Int32) (_ : Unit) => r = sp_r nt_ 1 60) (fun (_ : Unit) t => va_P (dC, dI) vwCl [(h0, .inr (11, [.ref te, .ref ta, .ref re, .ref no, .ref pa, .ref ac, .ref op, .ref im, .ref ik, .ref hi, .ref rf, .int (-1)])), (no, .inr (6, [.ref te, .ref nt, .ref nl, .ref ns, .ref np, .int 0, .int 0, .long 0, .int (-1), .int (-1)]))] t.heap ∧ va_K (dC, dI) vwCl [] t ∧ va_D (va_A [(h0, .inr (11, [.ref te, .ref ta, .ref re, .ref no, .ref pa, .ref ac, .ref op, .ref im, .ref ik, .ref hi, .ref rf, .int (-1)])), (no, .inr (6, [.ref te, .ref nt, .ref nl, .ref ns, .ref np, .int 0, .int 0, .long 0, .int (-1), .int (-1)]))] sz) [(h0, .inr (11, [.ref te, .ref ta, .ref re, .ref no, .ref pa, .ref ac, .ref op, .ref im, .ref ik, .ref hi, .ref rf, .int (-1)])), (no, .inr (6, [.ref te, .ref nt, .ref nl, .ref ns, .ref np, .int 0, .int 0, .long 0, .int (-1), .int (-1)]))]) (va_A [(h0, .inr (11, [.ref te, .ref ta, .ref re, .ref no, .ref pa, .ref ac, .ref op, .ref im, .ref ik, .ref hi, .ref rf, .int (-1)])), (no, .inr (6, [.ref te, .ref nt, .ref nl, .ref ns, .ref np, .int 0, .int 0, .long 0, .int (-1), .int (-1)]))] sz)) 0 0 (va_A [(h0, .inr (11, [.ref te, .ref ta, .ref re, .ref no, .ref pa, .ref ac, .ref op, .ref im, .ref ik, .ref hi, .ref rf, .int (-1)])), (no, .inr (6, [.ref te, .ref nt, .ref nl, .ref ns, .ref np, .int 0, .int 0, .long 0, .int (-1), .int (-1)]))] sz) := by
  refine Met.ofW (cc := cX11_canTick) (maxL := 2) (ret := (some .boolean)) (by decide) rfl ?_
  intro p e s m args below meth c s₁ B hml hv
  obtain ⟨rfl, hsz, hP, hK, hD0⟩ := hv
  have hx := B.exec
  have hb := B.bytes
  have hr := B.returns
  have hts := atoms_spec (ws := wq_c_X11_canTick) B.pre
  have hown : s.vm.findClass RX11 = some m.cls := findClass_of_methodNamed B.named
  have hlocks := B.notSynchronized
  subst hsz
  have hD := hD0.self (sz := s.heap.size)
  obtain ⟨A, hAe⟩ : ∃ A, A = va_A [(h0, .inr (11, [.ref te, .ref ta, .ref re, .ref no, .ref pa, .ref ac, .ref op, .ref im, .ref ik, .ref hi, .ref rf, .int (-1)])), (no, .inr (6, [.ref te, .ref nt, .ref nl, .ref ns, .ref np, .int 0, .int 0, .long 0, .int (-1), .int (-1)]))] s.heap.size := ⟨_, rfl⟩
  rw [← hAe] at hD ⊢
  have hA : ∀ q : Nat, s.heap.size ≤ q → A q := fun q h => by rw [hAe]; exact Or.inr h
  have hS : va_S A s.heap s.heap [] := va_S.rf
  have hP : va_P (dC, dI) vwCl [(h0, .inr (11, [.ref te, .ref ta, .ref re, .ref no, .ref pa, .ref ac, .ref op, .ref im, .ref ik, .ref hi, .ref rf, .int (-1)])), (no, .inr (6, [.ref te, .ref nt, .ref nl, .ref ns, .ref np, .int 0, .int 0, .long 0, .int (-1), .int (-1)]))] s.heap := hP
  have hl := lv_entry ([.ref h0, .int nt_]) (n := 2) (Nat.le_of_ble_eq_true rfl)
  rw [lg_entry_eq]
  generalize (lg_sl ([.ref h0, .int nt_]) ++ List.replicate (2 - (lg_sl ([.ref h0, .int nt_])).length) Slot.unset).toArray = ls at hl ⊢
  have hl : lv_has ls 2 [(0, .ref h0), (1, .int nt_)] := hl
  refine lv_iload_n hx hb dX11_canTick_0 rfl (lv_at hl 1 rfl) ?_
  refine lv_iconst (v := 1) hx hb dX11_canTick_1 (by decide) ?_
  refine lv_icmp_lt (tgt := 30) hx hb dX11_canTick_2 (by decide) (fun c_1 => ?_) (fun c_1 => ?_)
  · refine lv_iconst (v := 0) hx hb dX11_canTick_30 (by decide) ?_
    have hP9 := hP.sub (ws' := [(h0, .inr (11, [.ref te, .ref ta, .ref re, .ref no, .ref pa, .ref ac, .ref op, .ref im, .ref ik, .ref hi, .ref rf, .int (-1)])), (no, .inr (6, [.ref te, .ref nt, .ref nl, .ref ns, .ref np, .int 0, .int 0, .long 0, .int (-1), .int (-1)]))]) [0, 1] rfl
    have hD9 := hD.sub (ws' := [(h0, .inr (11, [.ref te, .ref ta, .ref re, .ref no, .ref pa, .ref ac, .ref op, .ref im, .ref ik, .ref hi, .ref rf, .int (-1)])), (no, .inr (6, [.ref te, .ref nt, .ref nl, .ref ns, .ref np, .int 0, .int 0, .long 0, .int (-1), .int (-1)]))]) [0, 1] (by decide) rfl
    have hK9 := hK.sub (tys' := []) [] rfl
    refine W.widen (k := 0) (n := 0) (Nat.le_of_ble_eq_true rfl) (Nat.le_of_ble_eq_true rfl) ?_
    exact W.zret (v := 0) hx hb hr rfl (fun t ht hW => ⟨⟨0, (), rfl, (by have z0 := (fa_lt _ _).mp c_1; have li1 : Int32.toInt 1 = 1 := (by decide); unfold sp_r; (repeat' split) <;> first | rfl | omega | (refine Int32.toInt_inj.mp ?_; omega)), by rw [ht]; exact hP9, va_K.moved hW.alike hK9, hD9⟩, hS.F ht⟩) hS.2.2 dX11_canTick_31
  · refine lv_iload_n hx hb dX11_canTick_5 rfl (lv_at hl 1 rfl) ?_
    refine lv_bipush (v := 60) hx hb dX11_canTick_6 (by decide) ?_
    refine lv_icmp_gt (tgt := 30) hx hb dX11_canTick_8 (by decide) (fun c_2 => ?_) (fun c_2 => ?_)
    · refine lv_iconst (v := 0) hx hb dX11_canTick_30 (by decide) ?_
      have hP9 := hP.sub (ws' := [(h0, .inr (11, [.ref te, .ref ta, .ref re, .ref no, .ref pa, .ref ac, .ref op, .ref im, .ref ik, .ref hi, .ref rf, .int (-1)])), (no, .inr (6, [.ref te, .ref nt, .ref nl, .ref ns, .ref np, .int 0, .int 0, .long 0, .int (-1), .int (-1)]))]) [0, 1] rfl
      have hD9 := hD.sub (ws' := [(h0, .inr (11, [.ref te, .ref ta, .ref re, .ref no, .ref pa, .ref ac, .ref op, .ref im, .ref ik, .ref hi, .ref rf, .int (-1)])), (no, .inr (6, [.ref te, .ref nt, .ref nl, .ref ns, .ref np, .int 0, .int 0, .long 0, .int (-1), .int (-1)]))]) [0, 1] (by decide) rfl
      have hK9 := hK.sub (tys' := []) [] rfl
      refine W.widen (k := 0) (n := 0) (Nat.le_of_ble_eq_true rfl) (Nat.le_of_ble_eq_true rfl) ?_
      exact W.zret (v := 0) hx hb hr rfl (fun t ht hW => ⟨⟨0, (), rfl, (by have z0 : ¬ _ := fun h9 => c_1 ((fa_lt _ _).mpr h9); have z1 := (fa_lt _ _).mp c_2; have li1 : Int32.toInt 1 = 1 := (by decide); have li60 : Int32.toInt 60 = 60 := (by decide); unfold sp_r; (repeat' split) <;> first | rfl | omega | (refine Int32.toInt_inj.mp ?_; omega)), by rw [ht]; exact hP9, va_K.moved hW.alike hK9, hD9⟩, hS.F ht⟩) hS.2.2 dX11_canTick_31
    · refine lv_aload_n hx hb dX11_canTick_11 rfl (lv_at hl 0 rfl) ?_
      refine va_get (D := (dC, dI)) (ci := 11) (v := .ref no) (C := RX11) (T := TX11) (N := 12) hx hb hts (fun _ h0_ => List.mem_cons_of_mem _ (List.mem_append_right _ (List.mem_append_left _ h0_))) hown hK hP 0 rfl rfl 3 (by decide) (hts (.fieldLink RX11 37 "DeadlineShare" "now" "LDeadlineShare$State;") (List.mem_cons_of_mem _ (List.mem_append_left _ (List.mem_of_getElem? (i := 0) rfl)))) (fun _ h9 => h9) rfl dX11_canTick_12 ?_
      refine va_get (D := (dC, dI)) (ci := 6) (v := .int 0) (C := RX6) (T := TX6) (N := 10) hx hb hts (fun _ h0_ => List.mem_cons_of_mem _ (List.mem_append_right _ (List.mem_append_right _ (List.mem_append_left _ h0_)))) hown hK hP 1 rfl rfl 6 (by decide) (hts (.fieldLink RX11 223 "DeadlineShare$State" "time" "I") (List.mem_cons_of_mem _ (List.mem_append_left _ (List.mem_of_getElem? (i := 1) rfl)))) (fun _ h9 => h9) rfl dX11_canTick_15 ?_
      refine lv_iload_n hx hb dX11_canTick_18 rfl (lv_at hl 1 rfl) ?_
      refine lv_iadd hx hb dX11_canTick_19 ?_
      refine k_topi (y := nt_) (Int32.zero_add _) ?_
      refine lv_sipush (v := 9999) hx hb dX11_canTick_20 (by decide) ?_
      refine lv_icmp_gt (tgt := 30) hx hb dX11_canTick_23 (by decide) (fun c => absurd c (fun h8 => by have h7 := (fa_lt _ _).mp h8; have z0 : ¬ _ := fun h9 => c_1 ((fa_lt _ _).mpr h9); have z1 : ¬ _ := fun h9 => c_2 ((fa_lt _ _).mpr h9); have li1 : Int32.toInt 1 = 1 := (by decide); have li60 : Int32.toInt 60 = 60 := (by decide); have li9999 : Int32.toInt 9999 = 9999 := (by decide); skip; omega)) (fun _ => ?_)
      refine lv_iconst (v := 1) hx hb dX11_canTick_26 (by decide) ?_
      refine lv_goto (tgt := 31) hx hb dX11_canTick_27 (by decide) ?_
      have hP9 := hP.sub (ws' := [(h0, .inr (11, [.ref te, .ref ta, .ref re, .ref no, .ref pa, .ref ac, .ref op, .ref im, .ref ik, .ref hi, .ref rf, .int (-1)])), (no, .inr (6, [.ref te, .ref nt, .ref nl, .ref ns, .ref np, .int 0, .int 0, .long 0, .int (-1), .int (-1)]))]) [0, 1] rfl
      have hD9 := hD.sub (ws' := [(h0, .inr (11, [.ref te, .ref ta, .ref re, .ref no, .ref pa, .ref ac, .ref op, .ref im, .ref ik, .ref hi, .ref rf, .int (-1)])), (no, .inr (6, [.ref te, .ref nt, .ref nl, .ref ns, .ref np, .int 0, .int 0, .long 0, .int (-1), .int (-1)]))]) [0, 1] (by decide) rfl
      have hK9 := hK.sub (tys' := []) [] rfl
      refine W.widen (k := 0) (n := 0) (Nat.le_of_ble_eq_true rfl) (Nat.le_of_ble_eq_true rfl) ?_
      exact W.zret (v := 1) hx hb hr rfl (fun t ht hW => ⟨⟨1, (), rfl, (by have z0 : ¬ _ := fun h9 => c_1 ((fa_lt _ _).mpr h9); have z1 : ¬ _ := fun h9 => c_2 ((fa_lt _ _).mpr h9); have li1 : Int32.toInt 1 = 1 := (by decide); have li60 : Int32.toInt 60 = 60 := (by decide); unfold sp_r; (repeat' split) <;> first | rfl | omega | (refine Int32.toInt_inj.mp ?_; omega)), by rw [ht]; exact hP9, va_K.moved hW.alike hK9, hD9⟩, hS.F ht⟩) hS.2.2 dX11_canTick_31
def ow_c_X9_allows : List Cond := [.constant RX9 16 (1000000)]
def wq_c_X9_allows : List Cond := .code yX9_allows cX9_allows 3 (some .boolean) :: (ow_c_X9_allows ++ ([] : List Cond))
theorem tb_c_X9_allows : ∀ w ∈ wq_c_X9_allows, q_g w := by
  unfold wq_c_X9_allows ow_c_X9_allows
  exact q_cons tw_274 (q_app (q_cons tw_273 q_nil) q_nil)
set_option maxHeartbeats 4000000 in
set_option maxRecDepth 100000 in
theorem c_X9_allows (l : Launch) (dC : Nat → ClassId) (dI : Nat → Nat → Nat) (h0 : Nat) (wa : Int32) (va : Int32) (sz : Nat) : Met l yX9_allows wq_c_X9_allows ({ frames := 0, cells := 0, slots := 0, locals := 0 } : Room) (va_Pc [.ref h0, .int wa, .int va] (fun U => U.heap.size = sz ∧ va_P (dC, dI) vwCl [(h0, .inr (9, [.int 0, .int 1, .int 1]))] U.heap ∧ va_K (dC, dI) vwCl [] U ∧ va_D (fun _ => True) [(h0, .inr (9, [.int 0, .int 1, .int 1]))])) (va_Qi (fun (r : Int32) (_ : Unit) => r = sp_allow wa va) (fun (_ : Unit) t => va_P (dC, dI) vwCl [(h0, .inr (9, [.int 0, .int 1, .int 1]))] t.heap ∧ va_K (dC, dI) vwCl [] t ∧ va_D (va_A [(h0, .inr (9, [.int 0, .int 1, .int 1]))] sz) [(h0, .inr (9, [.int 0, .int 1, .int 1]))]) (va_A [(h0, .inr (9, [.int 0, .int 1, .int 1]))] sz)) 0 0 (va_A [(h0, .inr (9, [.int 0, .int 1, .int 1]))] sz) := by
  refine Met.ofW (cc := cX9_allows) (maxL := 3) (ret := (some .boolean)) (by decide) rfl ?_
  intro p e s m args below meth c s₁ B hml hv
  obtain ⟨rfl, hsz, hP, hK, hD0⟩ := hv
  have hx := B.exec
  have hb := B.bytes
  have hr := B.returns
  have hts := atoms_spec (ws := wq_c_X9_allows) B.pre
  have hown : s.vm.findClass RX9 = some m.cls := findClass_of_methodNamed B.named
  have hlocks := B.notSynchronized
  subst hsz
  have hD := hD0.self (sz := s.heap.size)
  obtain ⟨A, hAe⟩ : ∃ A, A = va_A [(h0, .inr (9, [.int 0, .int 1, .int 1]))] s.heap.size := ⟨_, rfl⟩
  rw [← hAe] at hD ⊢
  have hA : ∀ q : Nat, s.heap.size ≤ q → A q := fun q h => by rw [hAe]; exact Or.inr h
  have hS : va_S A s.heap s.heap [] := va_S.rf
  have hP : va_P (dC, dI) vwCl [(h0, .inr (9, [.int 0, .int 1, .int 1]))] s.heap := hP
  have hl := lv_entry ([.ref h0, .int wa, .int va]) (n := 3) (Nat.le_of_ble_eq_true rfl)
  rw [lg_entry_eq]
  generalize (lg_sl ([.ref h0, .int wa, .int va]) ++ List.replicate (3 - (lg_sl ([.ref h0, .int wa, .int va])).length) Slot.unset).toArray = ls at hl ⊢
  have hl : lv_has ls 3 [(0, .ref h0), (1, .int wa), (2, .int va)] := hl
  refine lv_iload_n hx hb dX9_allows_0 rfl (lv_at hl 1 rfl) ?_
  by_cases h_1 : wa = 0
  · subst h_1
    refine lv_tableIn (tgt := 28) hx hb dX9_allows_1 (by decide) (by decide) rfl (by decide) ?_
    refine lv_iload_n hx hb dX9_allows_28 rfl (lv_at hl 2 rfl) ?_
    refine lv_if_lt (tgt := 41) hx hb dX9_allows_29 (by decide) (fun c_2 => ?_) (fun c_2 => ?_)
    · refine lv_iconst (v := 0) hx hb dX9_allows_41 (by decide) ?_
      have hP9 := hP.sub (ws' := [(h0, .inr (9, [.int 0, .int 1, .int 1]))]) [0] rfl
      have hD9 := hD.sub (ws' := [(h0, .inr (9, [.int 0, .int 1, .int 1]))]) [0] (by decide) rfl
      have hK9 := hK.sub (tys' := []) [] rfl
      refine W.widen (k := 0) (n := 0) (Nat.le_of_ble_eq_true rfl) (Nat.le_of_ble_eq_true rfl) ?_
      exact W.zret (v := 0) hx hb hr rfl (fun t ht hW => ⟨⟨0, (), rfl, (by have z0 := (fa_lt _ _).mp c_2; have li0 : Int32.toInt 0 = 0 := (by decide); unfold sp_allow; (repeat' split) <;> first | rfl | omega | (refine Int32.toInt_inj.mp ?_; omega)), by rw [ht]; exact hP9, va_K.moved hW.alike hK9, hD9⟩, hS.F ht⟩) hS.2.2 dX9_allows_42
    · refine lv_iload_n hx hb dX9_allows_32 rfl (lv_at hl 2 rfl) ?_
      refine lv_iconst (v := 1) hx hb dX9_allows_33 (by decide) ?_
      refine lv_icmp_gt (tgt := 41) hx hb dX9_allows_34 (by decide) (fun c_3 => ?_) (fun c_3 => ?_)
      · refine lv_iconst (v := 0) hx hb dX9_allows_41 (by decide) ?_
        have hP9 := hP.sub (ws' := [(h0, .inr (9, [.int 0, .int 1, .int 1]))]) [0] rfl
        have hD9 := hD.sub (ws' := [(h0, .inr (9, [.int 0, .int 1, .int 1]))]) [0] (by decide) rfl
        have hK9 := hK.sub (tys' := []) [] rfl
        refine W.widen (k := 0) (n := 0) (Nat.le_of_ble_eq_true rfl) (Nat.le_of_ble_eq_true rfl) ?_
        exact W.zret (v := 0) hx hb hr rfl (fun t ht hW => ⟨⟨0, (), rfl, (by have z0 : ¬ _ := fun h9 => c_2 ((fa_lt _ _).mpr h9); have z1 := (fa_lt _ _).mp c_3; have li0 : Int32.toInt 0 = 0 := (by decide); have li1 : Int32.toInt 1 = 1 := (by decide); unfold sp_allow; (repeat' split) <;> first | rfl | omega | (refine Int32.toInt_inj.mp ?_; omega)), by rw [ht]; exact hP9, va_K.moved hW.alike hK9, hD9⟩, hS.F ht⟩) hS.2.2 dX9_allows_42
      · refine lv_iconst (v := 1) hx hb dX9_allows_37 (by decide) ?_
        refine lv_goto (tgt := 42) hx hb dX9_allows_38 (by decide) ?_
        have hP9 := hP.sub (ws' := [(h0, .inr (9, [.int 0, .int 1, .int 1]))]) [0] rfl
        have hD9 := hD.sub (ws' := [(h0, .inr (9, [.int 0, .int 1, .int 1]))]) [0] (by decide) rfl
        have hK9 := hK.sub (tys' := []) [] rfl
        refine W.widen (k := 0) (n := 0) (Nat.le_of_ble_eq_true rfl) (Nat.le_of_ble_eq_true rfl) ?_
        exact W.zret (v := 1) hx hb hr rfl (fun t ht hW => ⟨⟨1, (), rfl, (by have z0 : ¬ _ := fun h9 => c_2 ((fa_lt _ _).mpr h9); have z1 : ¬ _ := fun h9 => c_3 ((fa_lt _ _).mpr h9); have li0 : Int32.toInt 0 = 0 := (by decide); have li1 : Int32.toInt 1 = 1 := (by decide); unfold sp_allow; (repeat' split) <;> first | rfl | omega | (refine Int32.toInt_inj.mp ?_; omega)), by rw [ht]; exact hP9, va_K.moved hW.alike hK9, hD9⟩, hS.F ht⟩) hS.2.2 dX9_allows_42
  by_cases h_4 : wa = 1
  · subst h_4
    refine lv_tableIn (tgt := 43) hx hb dX9_allows_1 (by decide) (by decide) rfl (by decide) ?_
    refine lv_iload_n hx hb dX9_allows_43 rfl (lv_at hl 2 rfl) ?_
    refine lv_if_lt (tgt := 56) hx hb dX9_allows_44 (by decide) (fun c_5 => ?_) (fun c_5 => ?_)
    · refine lv_iconst (v := 0) hx hb dX9_allows_56 (by decide) ?_
      have hP9 := hP.sub (ws' := [(h0, .inr (9, [.int 0, .int 1, .int 1]))]) [0] rfl
      have hD9 := hD.sub (ws' := [(h0, .inr (9, [.int 0, .int 1, .int 1]))]) [0] (by decide) rfl
      have hK9 := hK.sub (tys' := []) [] rfl
      refine W.widen (k := 0) (n := 0) (Nat.le_of_ble_eq_true rfl) (Nat.le_of_ble_eq_true rfl) ?_
      exact W.zret (v := 0) hx hb hr rfl (fun t ht hW => ⟨⟨0, (), rfl, (by have z0 := (fa_lt _ _).mp c_5; have li0 : Int32.toInt 0 = 0 := (by decide); have li1 : Int32.toInt 1 = 1 := (by decide); unfold sp_allow; (repeat' split) <;> first | rfl | omega | (refine Int32.toInt_inj.mp ?_; omega)), by rw [ht]; exact hP9, va_K.moved hW.alike hK9, hD9⟩, hS.F ht⟩) hS.2.2 dX9_allows_57
    · refine lv_iload_n hx hb dX9_allows_47 rfl (lv_at hl 2 rfl) ?_
      refine lv_iconst (v := 3) hx hb dX9_allows_48 (by decide) ?_
      refine lv_icmp_gt (tgt := 56) hx hb dX9_allows_49 (by decide) (fun c_6 => ?_) (fun c_6 => ?_)
      · refine lv_iconst (v := 0) hx hb dX9_allows_56 (by decide) ?_
        have hP9 := hP.sub (ws' := [(h0, .inr (9, [.int 0, .int 1, .int 1]))]) [0] rfl
        have hD9 := hD.sub (ws' := [(h0, .inr (9, [.int 0, .int 1, .int 1]))]) [0] (by decide) rfl
        have hK9 := hK.sub (tys' := []) [] rfl
        refine W.widen (k := 0) (n := 0) (Nat.le_of_ble_eq_true rfl) (Nat.le_of_ble_eq_true rfl) ?_
        exact W.zret (v := 0) hx hb hr rfl (fun t ht hW => ⟨⟨0, (), rfl, (by have z0 : ¬ _ := fun h9 => c_5 ((fa_lt _ _).mpr h9); have z1 := (fa_lt _ _).mp c_6; have li0 : Int32.toInt 0 = 0 := (by decide); have li1 : Int32.toInt 1 = 1 := (by decide); have li3 : Int32.toInt 3 = 3 := (by decide); unfold sp_allow; (repeat' split) <;> first | rfl | omega | (refine Int32.toInt_inj.mp ?_; omega)), by rw [ht]; exact hP9, va_K.moved hW.alike hK9, hD9⟩, hS.F ht⟩) hS.2.2 dX9_allows_57
      · refine lv_iconst (v := 1) hx hb dX9_allows_52 (by decide) ?_
        refine lv_goto (tgt := 57) hx hb dX9_allows_53 (by decide) ?_
        have hP9 := hP.sub (ws' := [(h0, .inr (9, [.int 0, .int 1, .int 1]))]) [0] rfl
        have hD9 := hD.sub (ws' := [(h0, .inr (9, [.int 0, .int 1, .int 1]))]) [0] (by decide) rfl
        have hK9 := hK.sub (tys' := []) [] rfl
        refine W.widen (k := 0) (n := 0) (Nat.le_of_ble_eq_true rfl) (Nat.le_of_ble_eq_true rfl) ?_
        exact W.zret (v := 1) hx hb hr rfl (fun t ht hW => ⟨⟨1, (), rfl, (by have z0 : ¬ _ := fun h9 => c_5 ((fa_lt _ _).mpr h9); have z1 : ¬ _ := fun h9 => c_6 ((fa_lt _ _).mpr h9); have li0 : Int32.toInt 0 = 0 := (by decide); have li1 : Int32.toInt 1 = 1 := (by decide); have li3 : Int32.toInt 3 = 3 := (by decide); unfold sp_allow; (repeat' split) <;> first | rfl | omega | (refine Int32.toInt_inj.mp ?_; omega)), by rw [ht]; exact hP9, va_K.moved hW.alike hK9, hD9⟩, hS.F ht⟩) hS.2.2 dX9_allows_57
  by_cases h_7 : wa = 2
  · subst h_7
    refine lv_tableIn (tgt := 58) hx hb dX9_allows_1 (by decide) (by decide) rfl (by decide) ?_
    refine lv_iload_n hx hb dX9_allows_58 rfl (lv_at hl 2 rfl) ?_
    refine lv_if_lt (tgt := 72) hx hb dX9_allows_59 (by decide) (fun c_8 => ?_) (fun c_8 => ?_)
    · refine lv_iconst (v := 0) hx hb dX9_allows_72 (by decide) ?_
      have hP9 := hP.sub (ws' := [(h0, .inr (9, [.int 0, .int 1, .int 1]))]) [0] rfl
      have hD9 := hD.sub (ws' := [(h0, .inr (9, [.int 0, .int 1, .int 1]))]) [0] (by decide) rfl
      have hK9 := hK.sub (tys' := []) [] rfl
      refine W.widen (k := 0) (n := 0) (Nat.le_of_ble_eq_true rfl) (Nat.le_of_ble_eq_true rfl) ?_
      exact W.zret (v := 0) hx hb hr rfl (fun t ht hW => ⟨⟨0, (), rfl, (by have z0 := (fa_lt _ _).mp c_8; have li0 : Int32.toInt 0 = 0 := (by decide); have li2 : Int32.toInt 2 = 2 := (by decide); unfold sp_allow; (repeat' split) <;> first | rfl | omega | (refine Int32.toInt_inj.mp ?_; omega)), by rw [ht]; exact hP9, va_K.moved hW.alike hK9, hD9⟩, hS.F ht⟩) hS.2.2 dX9_allows_73
    · refine lv_iload_n hx hb dX9_allows_62 rfl (lv_at hl 2 rfl) ?_
      refine lv_ldc hx hb hown (hts (.constant RX9 16 (1000000)) (List.mem_cons_of_mem _ (List.mem_append_left _ (List.mem_of_getElem? (i := 0) rfl)))) dX9_allows_63 ?_
      refine lv_icmp_gt (tgt := 72) hx hb dX9_allows_65 (by decide) (fun c_9 => ?_) (fun c_9 => ?_)
      · refine lv_iconst (v := 0) hx hb dX9_allows_72 (by decide) ?_
        have hP9 := hP.sub (ws' := [(h0, .inr (9, [.int 0, .int 1, .int 1]))]) [0] rfl
        have hD9 := hD.sub (ws' := [(h0, .inr (9, [.int 0, .int 1, .int 1]))]) [0] (by decide) rfl
        have hK9 := hK.sub (tys' := []) [] rfl
        refine W.widen (k := 0) (n := 0) (Nat.le_of_ble_eq_true rfl) (Nat.le_of_ble_eq_true rfl) ?_
        exact W.zret (v := 0) hx hb hr rfl (fun t ht hW => ⟨⟨0, (), rfl, (by have z0 : ¬ _ := fun h9 => c_8 ((fa_lt _ _).mpr h9); have z1 := (fa_lt _ _).mp c_9; have li0 : Int32.toInt 0 = 0 := (by decide); have li2 : Int32.toInt 2 = 2 := (by decide); have li1000000 : Int32.toInt 1000000 = 1000000 := (by decide); unfold sp_allow; (repeat' split) <;> first | rfl | omega | (refine Int32.toInt_inj.mp ?_; omega)), by rw [ht]; exact hP9, va_K.moved hW.alike hK9, hD9⟩, hS.F ht⟩) hS.2.2 dX9_allows_73
      · refine lv_iconst (v := 1) hx hb dX9_allows_68 (by decide) ?_
        refine lv_goto (tgt := 73) hx hb dX9_allows_69 (by decide) ?_
        have hP9 := hP.sub (ws' := [(h0, .inr (9, [.int 0, .int 1, .int 1]))]) [0] rfl
        have hD9 := hD.sub (ws' := [(h0, .inr (9, [.int 0, .int 1, .int 1]))]) [0] (by decide) rfl
        have hK9 := hK.sub (tys' := []) [] rfl
        refine W.widen (k := 0) (n := 0) (Nat.le_of_ble_eq_true rfl) (Nat.le_of_ble_eq_true rfl) ?_
        exact W.zret (v := 1) hx hb hr rfl (fun t ht hW => ⟨⟨1, (), rfl, (by have z0 : ¬ _ := fun h9 => c_8 ((fa_lt _ _).mpr h9); have z1 : ¬ _ := fun h9 => c_9 ((fa_lt _ _).mpr h9); have li0 : Int32.toInt 0 = 0 := (by decide); have li2 : Int32.toInt 2 = 2 := (by decide); have li1000000 : Int32.toInt 1000000 = 1000000 := (by decide); unfold sp_allow; (repeat' split) <;> first | rfl | omega | (refine Int32.toInt_inj.mp ?_; omega)), by rw [ht]; exact hP9, va_K.moved hW.alike hK9, hD9⟩, hS.F ht⟩) hS.2.2 dX9_allows_73
  have z_10 := lv_neT (a := 0) h_1 (by decide)
  have z_11 := lv_neT (a := 1) h_4 (by decide)
  have z_12 := lv_neT (a := 2) h_7 (by decide)
  refine lv_tableOut (tgt := 74) hx hb dX9_allows_1 (by omega) (by decide) ?_
  refine lv_iconst (v := 0) hx hb dX9_allows_74 (by decide) ?_
  have hP9 := hP.sub (ws' := [(h0, .inr (9, [.int 0, .int 1, .int 1]))]) [0] rfl
  have hD9 := hD.sub (ws' := [(h0, .inr (9, [.int 0, .int 1, .int 1]))]) [0] (by decide) rfl
  have hK9 := hK.sub (tys' := []) [] rfl
  refine W.widen (k := 0) (n := 0) (Nat.le_of_ble_eq_true rfl) (Nat.le_of_ble_eq_true rfl) ?_
  exact W.zret (v := 0) hx hb hr rfl (fun t ht hW => ⟨⟨0, (), rfl, (by have nh_1 := lv_neT (a := 0) h_1 (by decide); have nh_4 := lv_neT (a := 1) h_4 (by decide); have nh_7 := lv_neT (a := 2) h_7 (by decide); unfold sp_allow; (repeat' split) <;> first | rfl | omega | (refine Int32.toInt_inj.mp ?_; omega)), by rw [ht]; exact hP9, va_K.moved hW.alike hK9, hD9⟩, hS.F ht⟩) hS.2.2 dX9_allows_75
def ow_c_X9_get : List Cond := [.fieldLink RX9 17 "DeadlineShare$Terms" "mode" "I", .fieldLink RX9 7 "DeadlineShare$Terms" "carry" "I", .fieldLink RX9 13 "DeadlineShare$Terms" "seed" "I"]
def wq_c_X9_get : List Cond := .code yX9_get cX9_get 2 (some .int) :: (ow_c_X9_get ++ (u_ws RX9 TX9 3 ++ ([] : List Cond)))
theorem tb_c_X9_get : ∀ w ∈ wq_c_X9_get, q_g w := by
  unfold wq_c_X9_get ow_c_X9_get
  exact q_cons tw_276 (q_app (q_cons tw_275 (q_cons tw_10 (q_cons tw_9 q_nil))) (q_app tu_X9 q_nil))
set_option maxHeartbeats 4000000 in
set_option maxRecDepth 100000 in
theorem c_X9_get (l : Launch) (dC : Nat → ClassId) (dI : Nat → Nat → Nat) (h0 : Nat) (wa : Int32) (sz : Nat) : Met l yX9_get wq_c_X9_get ({ frames := 0, cells := 0, slots := 0, locals := 0 } : Room) (va_Pc [.ref h0, .int wa] (fun U => U.heap.size = sz ∧ va_P (dC, dI) vwCl [(h0, .inr (9, [.int 0, .int 1, .int 1]))] U.heap ∧ va_K (dC, dI) vwCl [] U ∧ va_D (fun _ => True) [(h0, .inr (9, [.int 0, .int 1, .int 1]))])) (va_Qi (fun (r : Int32) (_ : Unit) => r = sp_get wa) (fun (_ : Unit) t => va_P (dC, dI) vwCl [(h0, .inr (9, [.int 0, .int 1, .int 1]))] t.heap ∧ va_K (dC, dI) vwCl [] t ∧ va_D (va_A [(h0, .inr (9, [.int 0, .int 1, .int 1]))] sz) [(h0, .inr (9, [.int 0, .int 1, .int 1]))]) (va_A [(h0, .inr (9, [.int 0, .int 1, .int 1]))] sz)) 0 0 (va_A [(h0, .inr (9, [.int 0, .int 1, .int 1]))] sz) := by
  refine Met.ofW (cc := cX9_get) (maxL := 2) (ret := (some .int)) (by decide) rfl ?_
  intro p e s m args below meth c s₁ B hml hv
  obtain ⟨rfl, hsz, hP, hK, hD0⟩ := hv
  have hx := B.exec
  have hb := B.bytes
  have hr := B.returns
  have hts := atoms_spec (ws := wq_c_X9_get) B.pre
  have hown : s.vm.findClass RX9 = some m.cls := findClass_of_methodNamed B.named
  have hlocks := B.notSynchronized
  subst hsz
  have hD := hD0.self (sz := s.heap.size)
  obtain ⟨A, hAe⟩ : ∃ A, A = va_A [(h0, .inr (9, [.int 0, .int 1, .int 1]))] s.heap.size := ⟨_, rfl⟩
  rw [← hAe] at hD ⊢
  have hA : ∀ q : Nat, s.heap.size ≤ q → A q := fun q h => by rw [hAe]; exact Or.inr h
  have hS : va_S A s.heap s.heap [] := va_S.rf
  have hP : va_P (dC, dI) vwCl [(h0, .inr (9, [.int 0, .int 1, .int 1]))] s.heap := hP
  have hl := lv_entry ([.ref h0, .int wa]) (n := 2) (Nat.le_of_ble_eq_true rfl)
  rw [lg_entry_eq]
  generalize (lg_sl ([.ref h0, .int wa]) ++ List.replicate (2 - (lg_sl ([.ref h0, .int wa])).length) Slot.unset).toArray = ls at hl ⊢
  have hl : lv_has ls 2 [(0, .ref h0), (1, .int wa)] := hl
  refine lv_iload_n hx hb dX9_get_0 rfl (lv_at hl 1 rfl) ?_
  by_cases h_1 : wa = 0
  · subst h_1
    refine lv_lookup (tgt := 28) hx hb dX9_get_1 (by decide) rfl (by decide) ?_
    refine lv_aload_n hx hb dX9_get_28 rfl (lv_at hl 0 rfl) ?_
    refine va_get (D := (dC, dI)) (ci := 9) (v := .int 0) (C := RX9) (T := TX9) (N := 3) hx hb hts (fun _ h0_ => List.mem_cons_of_mem _ (List.mem_append_right _ (List.mem_append_left _ h0_))) hown hK hP 0 rfl rfl 0 (by decide) (hts (.fieldLink RX9 17 "DeadlineShare$Terms" "mode" "I") (List.mem_cons_of_mem _ (List.mem_append_left _ (List.mem_of_getElem? (i := 0) rfl)))) (fun _ h9 => h9) rfl dX9_get_29 ?_
    have hP9 := hP.sub (ws' := [(h0, .inr (9, [.int 0, .int 1, .int 1]))]) [0] rfl
    have hD9 := hD.sub (ws' := [(h0, .inr (9, [.int 0, .int 1, .int 1]))]) [0] (by decide) rfl
    have hK9 := hK.sub (tys' := []) [] rfl
    refine W.widen (k := 0) (n := 0) (Nat.le_of_ble_eq_true rfl) (Nat.le_of_ble_eq_true rfl) ?_
    exact W.iret (v := 0) hx hb hr (fun t ht hW => ⟨⟨0, (), rfl, (by decide), by rw [ht]; exact hP9, va_K.moved hW.alike hK9, hD9⟩, hS.F ht⟩) hS.2.2 dX9_get_32
  by_cases h_2 : wa = 1
  · subst h_2
    refine lv_lookup (tgt := 33) hx hb dX9_get_1 (by decide) rfl (by decide) ?_
    refine lv_aload_n hx hb dX9_get_33 rfl (lv_at hl 0 rfl) ?_
    refine va_get (D := (dC, dI)) (ci := 9) (v := .int 1) (C := RX9) (T := TX9) (N := 3) hx hb hts (fun _ h0_ => List.mem_cons_of_mem _ (List.mem_append_right _ (List.mem_append_left _ h0_))) hown hK hP 0 rfl rfl 1 (by decide) (hts (.fieldLink RX9 7 "DeadlineShare$Terms" "carry" "I") (List.mem_cons_of_mem _ (List.mem_append_left _ (List.mem_of_getElem? (i := 1) rfl)))) (fun _ h9 => h9) rfl dX9_get_34 ?_
    have hP9 := hP.sub (ws' := [(h0, .inr (9, [.int 0, .int 1, .int 1]))]) [0] rfl
    have hD9 := hD.sub (ws' := [(h0, .inr (9, [.int 0, .int 1, .int 1]))]) [0] (by decide) rfl
    have hK9 := hK.sub (tys' := []) [] rfl
    refine W.widen (k := 0) (n := 0) (Nat.le_of_ble_eq_true rfl) (Nat.le_of_ble_eq_true rfl) ?_
    exact W.iret (v := 1) hx hb hr (fun t ht hW => ⟨⟨1, (), rfl, (by decide), by rw [ht]; exact hP9, va_K.moved hW.alike hK9, hD9⟩, hS.F ht⟩) hS.2.2 dX9_get_37
  refine lv_lookup (off := 37) (tgt := 38) hx hb dX9_get_1 (by decide) ((lv_osw h_1 (by decide)).trans ((lv_osw h_2 (by decide)).trans rfl)) (by decide) ?_
  refine lv_aload_n hx hb dX9_get_38 rfl (lv_at hl 0 rfl) ?_
  refine va_get (D := (dC, dI)) (ci := 9) (v := .int 1) (C := RX9) (T := TX9) (N := 3) hx hb hts (fun _ h0_ => List.mem_cons_of_mem _ (List.mem_append_right _ (List.mem_append_left _ h0_))) hown hK hP 0 rfl rfl 2 (by decide) (hts (.fieldLink RX9 13 "DeadlineShare$Terms" "seed" "I") (List.mem_cons_of_mem _ (List.mem_append_left _ (List.mem_of_getElem? (i := 2) rfl)))) (fun _ h9 => h9) rfl dX9_get_39 ?_
  have hP9 := hP.sub (ws' := [(h0, .inr (9, [.int 0, .int 1, .int 1]))]) [0] rfl
  have hD9 := hD.sub (ws' := [(h0, .inr (9, [.int 0, .int 1, .int 1]))]) [0] (by decide) rfl
  have hK9 := hK.sub (tys' := []) [] rfl
  refine W.widen (k := 0) (n := 0) (Nat.le_of_ble_eq_true rfl) (Nat.le_of_ble_eq_true rfl) ?_
  exact W.iret (v := 1) hx hb hr (fun t ht hW => ⟨⟨1, (), rfl, (by have nh_1 := lv_neT (a := 0) h_1 (by decide); have nh_2 := lv_neT (a := 1) h_2 (by decide); unfold sp_get; (repeat' split) <;> first | rfl | omega | (refine Int32.toInt_inj.mp ?_; omega)), by rw [ht]; exact hP9, va_K.moved hW.alike hK9, hD9⟩, hS.F ht⟩) hS.2.2 dX9_get_42
def ow_c_X9_set : List Cond := [.fieldLink RX9 17 "DeadlineShare$Terms" "mode" "I", .fieldLink RX9 7 "DeadlineShare$Terms" "carry" "I", .fieldLink RX9 13 "DeadlineShare$Terms" "seed" "I"]
def wq_c_X9_set : List Cond := .code yX9_set cX9_set 3 none :: (ow_c_X9_set ++ (u_ws RX9 TX9 3 ++ ([] : List Cond)))
theorem tb_c_X9_set : ∀ w ∈ wq_c_X9_set, q_g w := by
  unfold wq_c_X9_set ow_c_X9_set
  exact q_cons tw_277 (q_app (q_cons tw_275 (q_cons tw_10 (q_cons tw_9 q_nil))) (q_app tu_X9 q_nil))
set_option maxHeartbeats 4000000 in
set_option maxRecDepth 100000 in
theorem c_X9_set (l : Launch) (dC : Nat → ClassId) (dI : Nat → Nat → Nat) (h0 : Nat) (wa : Int32) (va : Int32) (sz : Nat) : Met l yX9_set wq_c_X9_set ({ frames := 0, cells := 0, slots := 0, locals := 0 } : Room) (va_Pc [.ref h0, .int wa, .int va] (fun U => U.heap.size = sz ∧ va_P (dC, dI) vwCl [(h0, .inr (9, [.int 0, .int 1, .int 1]))] U.heap ∧ va_K (dC, dI) vwCl [] U ∧ va_D (fun _ => True) [(h0, .inr (9, [.int 0, .int 1, .int 1]))])) (va_Qv (fun (_ : Unit) => True) (fun (_ : Unit) t => va_P (dC, dI) vwCl [] t.heap ∧ va_K (dC, dI) vwCl [] t ∧ va_D (va_A [(h0, .inr (9, [.int 0, .int 1, .int 1]))] sz) []) (va_A [(h0, .inr (9, [.int 0, .int 1, .int 1]))] sz)) 0 0 (va_A [(h0, .inr (9, [.int 0, .int 1, .int 1]))] sz) := by
  refine Met.ofW (cc := cX9_set) (maxL := 3) (ret := none) (by decide) rfl ?_
  intro p e s m args below meth c s₁ B hml hv
  obtain ⟨rfl, hsz, hP, hK, hD0⟩ := hv
  have hx := B.exec
  have hb := B.bytes
  have hr := B.returns
  have hts := atoms_spec (ws := wq_c_X9_set) B.pre
  have hown : s.vm.findClass RX9 = some m.cls := findClass_of_methodNamed B.named
  have hlocks := B.notSynchronized
  subst hsz
  have hD := hD0.self (sz := s.heap.size)
  obtain ⟨A, hAe⟩ : ∃ A, A = va_A [(h0, .inr (9, [.int 0, .int 1, .int 1]))] s.heap.size := ⟨_, rfl⟩
  rw [← hAe] at hD ⊢
  have hA : ∀ q : Nat, s.heap.size ≤ q → A q := fun q h => by rw [hAe]; exact Or.inr h
  have hS : va_S A s.heap s.heap [] := va_S.rf
  have hP : va_P (dC, dI) vwCl [(h0, .inr (9, [.int 0, .int 1, .int 1]))] s.heap := hP
  have hl := lv_entry ([.ref h0, .int wa, .int va]) (n := 3) (Nat.le_of_ble_eq_true rfl)
  rw [lg_entry_eq]
  generalize (lg_sl ([.ref h0, .int wa, .int va]) ++ List.replicate (3 - (lg_sl ([.ref h0, .int wa, .int va])).length) Slot.unset).toArray = ls at hl ⊢
  have hl : lv_has ls 3 [(0, .ref h0), (1, .int wa), (2, .int va)] := hl
  refine lv_iload_n hx hb dX9_set_0 rfl (lv_at hl 1 rfl) ?_
  by_cases h_1 : wa = 0
  · subst h_1
    refine lv_lookup (tgt := 28) hx hb dX9_set_1 (by decide) rfl (by decide) ?_
    refine lv_aload_n hx hb dX9_set_28 rfl (lv_at hl 0 rfl) ?_
    refine lv_iload_n hx hb dX9_set_29 rfl (lv_at hl 2 rfl) ?_
    refine va_put (D := (dC, dI)) (ci := 9) (v := .int va) (ty := .int) (C := RX9) (T := TX9) (N := 3) hx hb hts (fun _ h0_ => List.mem_cons_of_mem _ (List.mem_append_right _ (List.mem_append_left _ h0_))) tyX9 tyX9_ok nmX9 hown hK hP hD hS 0 rfl rfl 0 (by decide) (hts (.fieldLink RX9 17 "DeadlineShare$Terms" "mode" "I") (List.mem_cons_of_mem _ (List.mem_append_left _ (List.mem_of_getElem? (i := 0) rfl)))) (fun _ h9 => h9) rfl (by decide +kernel) rfl rfl (Nat.le_of_ble_eq_true rfl) dX9_set_30 (fun H locs hP hD hS => ?_)
    have hP : va_P (dC, dI) vwCl [(h0, .inr (9, [.int va, .int 1, .int 1]))] H := hP
    have hD : va_D A [(h0, .inr (9, [.int va, .int 1, .int 1]))] := hD
    refine lv_goto (tgt := 49) hx hb dX9_set_33 (by decide) ?_
    have hP9 := hP.sub (ws' := []) [] rfl
    have hD9 := hD.sub (ws' := []) [] (by decide) rfl
    have hK9 := hK.sub (tys' := []) [] rfl
    refine W.widen (k := 0) (n := 0) (Nat.le_of_ble_eq_true rfl) (Nat.le_of_ble_eq_true rfl) ?_
    exact W.vret hx hb hr (fun t ht hW => ⟨⟨(), rfl, trivial, by rw [ht]; exact hP9, va_K.moved hW.alike hK9, hD9⟩, hS.F ht⟩) hS.2.2 dX9_set_49
  by_cases h_2 : wa = 1
  · subst h_2
    refine lv_lookup (tgt := 36) hx hb dX9_set_1 (by decide) rfl (by decide) ?_
    refine lv_aload_n hx hb dX9_set_36 rfl (lv_at hl 0 rfl) ?_
    refine lv_iload_n hx hb dX9_set_37 rfl (lv_at hl 2 rfl) ?_
    refine va_put (D := (dC, dI)) (ci := 9) (v := .int va) (ty := .int) (C := RX9) (T := TX9) (N := 3) hx hb hts (fun _ h0_ => List.mem_cons_of_mem _ (List.mem_append_right _ (List.mem_append_left _ h0_))) tyX9 tyX9_ok nmX9 hown hK hP hD hS 0 rfl rfl 1 (by decide) (hts (.fieldLink RX9 7 "DeadlineShare$Terms" "carry" "I") (List.mem_cons_of_mem _ (List.mem_append_left _ (List.mem_of_getElem? (i := 1) rfl)))) (fun _ h9 => h9) rfl (by decide +kernel) rfl rfl (Nat.le_of_ble_eq_true rfl) dX9_set_38 (fun H locs hP hD hS => ?_)
    have hP : va_P (dC, dI) vwCl [(h0, .inr (9, [.int 0, .int va, .int 1]))] H := hP
    have hD : va_D A [(h0, .inr (9, [.int 0, .int va, .int 1]))] := hD
    refine lv_goto (tgt := 49) hx hb dX9_set_41 (by decide) ?_
    have hP9 := hP.sub (ws' := []) [] rfl
    have hD9 := hD.sub (ws' := []) [] (by decide) rfl
    have hK9 := hK.sub (tys' := []) [] rfl
    refine W.widen (k := 0) (n := 0) (Nat.le_of_ble_eq_true rfl) (Nat.le_of_ble_eq_true rfl) ?_
    exact W.vret hx hb hr (fun t ht hW => ⟨⟨(), rfl, trivial, by rw [ht]; exact hP9, va_K.moved hW.alike hK9, hD9⟩, hS.F ht⟩) hS.2.2 dX9_set_49
  refine lv_lookup (off := 43) (tgt := 44) hx hb dX9_set_1 (by decide) ((lv_osw h_1 (by decide)).trans ((lv_osw h_2 (by decide)).trans rfl)) (by decide) ?_
  refine lv_aload_n hx hb dX9_set_44 rfl (lv_at hl 0 rfl) ?_
  refine lv_iload_n hx hb dX9_set_45 rfl (lv_at hl 2 rfl) ?_
  refine va_put (D := (dC, dI)) (ci := 9) (v := .int va) (ty := .int) (C := RX9) (T := TX9) (N := 3) hx hb hts (fun _ h0_ => List.mem_cons_of_mem _ (List.mem_append_right _ (List.mem_append_left _ h0_))) tyX9 tyX9_ok nmX9 hown hK hP hD hS 0 rfl rfl 2 (by decide) (hts (.fieldLink RX9 13 "DeadlineShare$Terms" "seed" "I") (List.mem_cons_of_mem _ (List.mem_append_left _ (List.mem_of_getElem? (i := 2) rfl)))) (fun _ h9 => h9) rfl (by decide +kernel) rfl rfl (Nat.le_of_ble_eq_true rfl) dX9_set_46 (fun H locs hP hD hS => ?_)
  have hP : va_P (dC, dI) vwCl [(h0, .inr (9, [.int 0, .int 1, .int va]))] H := hP
  have hD : va_D A [(h0, .inr (9, [.int 0, .int 1, .int va]))] := hD
  have hP9 := hP.sub (ws' := []) [] rfl
  have hD9 := hD.sub (ws' := []) [] (by decide) rfl
  have hK9 := hK.sub (tys' := []) [] rfl
  refine W.widen (k := 0) (n := 0) (Nat.le_of_ble_eq_true rfl) (Nat.le_of_ble_eq_true rfl) ?_
  exact W.vret hx hb hr (fun t ht hW => ⟨⟨(), rfl, trivial, by rw [ht]; exact hP9, va_K.moved hW.alike hK9, hD9⟩, hS.F ht⟩) hS.2.2 dX9_set_49
def ow_c_X11_terms : List Cond := [.fieldLink RX11 12 "DeadlineShare" "terms" "LDeadlineShare$Terms;", .methodLink RX11 80 yX9_allows, .instanceMethod yX9_allows, .selects RX9 yX9_allows yX9_allows, .initialized RX9, .methodLink RX11 88 yX9_get, .instanceMethod yX9_get, .selects RX9 yX9_get yX9_get, .methodLink RX11 91 yX9_set, .instanceMethod yX9_set, .selects RX9 yX9_set yX9_set, .fieldLink RX11 72 "DeadlineShare" "refusals" "LDeadlineShare$Refusals;", .methodLink RX11 95 yX4_none, .instanceMethod yX4_none, .selects RX4 yX4_none yX4_none, .initialized RX4, .methodLink RX11 84 yX4_add, .instanceMethod yX4_add, .selects RX4 yX4_add yX4_add]
def wq_c_X11_terms : List Cond := .code yX11_terms cX11_terms 4 (some .int) :: (ow_c_X11_terms ++ (u_ws RX11 TX11 12 ++ (wq_c_X9_allows ++ (wq_c_X9_get ++ (wq_c_X9_set ++ (wq_c_X4_none ++ (wq_c_X4_add_1 ++ ([] : List Cond))))))))
theorem tb_c_X11_terms : ∀ w ∈ wq_c_X11_terms, q_g w := by
  unfold wq_c_X11_terms ow_c_X11_terms
  exact q_cons tw_293 (q_app (q_cons tw_114 (q_cons tw_292 (q_cons tw_291 (q_cons tw_290 (q_cons tw_116 (q_cons tw_289 (q_cons tw_288 (q_cons tw_287 (q_cons tw_286 (q_cons tw_285 (q_cons tw_284 (q_cons tw_80 (q_cons tw_283 (q_cons tw_282 (q_cons tw_281 (q_cons tw_1 (q_cons tw_280 (q_cons tw_279 (q_cons tw_278 q_nil))))))))))))))))))) (q_app tu_X11 (q_app tb_c_X9_allows (q_app tb_c_X9_get (q_app tb_c_X9_set (q_app tb_c_X4_none (q_app tb_c_X4_add_1 q_nil)))))))
set_option maxHeartbeats 4000000 in
set_option maxRecDepth 100000 in
theorem c_X11_terms (l : Launch) (dC : Nat → ClassId) (dI : Nat → Nat → Nat) (h0 : Nat) (wa : Int32) (va : Int32) (te : Nat) (ta : Nat) (re : Nat) (no : Nat) (pa : Nat) (ac : Nat) (op : Nat) (im : Nat) (ik : Nat) (hi : Nat) (rf : Nat) (rc : Nat) (ci2 : ClassId) (sz : Nat) : Met l yX11_terms wq_c_X11_terms ({ frames := 2, cells := 0, slots := 0, locals := 41 } : Room) (va_Pc [.ref h0, .int wa, .int va] (fun U => U.heap.size = sz ∧ va_P (dC, dI) vwCl [(h0, .inr (11, [.ref te, .ref ta, .ref re, .ref no, .ref pa, .ref ac, .ref op, .ref im, .ref ik, .ref hi, .ref rf, .int (-1)])), (te, .inr (9, [.int 0, .int 1, .int 1])), (rf, .inr (4, [.ref rc, .int 0])), (rc, .inl (ci2, 5, .inl (fun _ => 0)))] U.heap ∧ va_K (dC, dI) vwCl [(ci2, .int)] U ∧ va_D (fun _ => True) [(h0, .inr (11, [.ref te, .ref ta, .ref re, .ref no, .ref pa, .ref ac, .ref op, .ref im, .ref ik, .ref hi, .ref rf, .int (-1)])), (te, .inr (9, [.int 0, .int 1, .int 1])), (rf, .inr (4, [.ref rc, .int 0])), (rc, .inl (ci2, 5, .inl (fun _ => 0)))])) (va_Qi (fun (r : Int32) (_ : Unit) => r = sp_terms wa va) (fun (_ : Unit) t => va_P (dC, dI) vwCl [] t.heap ∧ va_K (dC, dI) vwCl [] t ∧ va_D (va_A [(h0, .inr (11, [.ref te, .ref ta, .ref re, .ref no, .ref pa, .ref ac, .ref op, .ref im, .ref ik, .ref hi, .ref rf, .int (-1)])), (te, .inr (9, [.int 0, .int 1, .int 1])), (rf, .inr (4, [.ref rc, .int 0])), (rc, .inl (ci2, 5, .inl (fun _ => 0)))] sz) []) (va_A [(h0, .inr (11, [.ref te, .ref ta, .ref re, .ref no, .ref pa, .ref ac, .ref op, .ref im, .ref ik, .ref hi, .ref rf, .int (-1)])), (te, .inr (9, [.int 0, .int 1, .int 1])), (rf, .inr (4, [.ref rc, .int 0])), (rc, .inl (ci2, 5, .inl (fun _ => 0)))] sz)) 0 0 (va_A [(h0, .inr (11, [.ref te, .ref ta, .ref re, .ref no, .ref pa, .ref ac, .ref op, .ref im, .ref ik, .ref hi, .ref rf, .int (-1)])), (te, .inr (9, [.int 0, .int 1, .int 1])), (rf, .inr (4, [.ref rc, .int 0])), (rc, .inl (ci2, 5, .inl (fun _ => 0)))] sz) := by
  refine Met.ofW (cc := cX11_terms) (maxL := 4) (ret := (some .int)) (by decide) rfl ?_
  intro p e s m args below meth c s₁ B hml hv
  obtain ⟨rfl, hsz, hP, hK, hD0⟩ := hv
  have hx := B.exec
  have hb := B.bytes
  have hr := B.returns
  have hts := atoms_spec (ws := wq_c_X11_terms) B.pre
  have hown : s.vm.findClass RX11 = some m.cls := findClass_of_methodNamed B.named
  have hlocks := B.notSynchronized
  subst hsz
  have hD := hD0.self (sz := s.heap.size)
  obtain ⟨A, hAe⟩ : ∃ A, A = va_A [(h0, .inr (11, [.ref te, .ref ta, .ref re, .ref no, .ref pa, .ref ac, .ref op, .ref im, .ref ik, .ref hi, .ref rf, .int (-1)])), (te, .inr (9, [.int 0, .int 1, .int 1])), (rf, .inr (4, [.ref rc, .int 0])), (rc, .inl (ci2, 5, .inl (fun _ => 0)))] s.heap.size := ⟨_, rfl⟩
  rw [← hAe] at hD ⊢
  have hA : ∀ q : Nat, s.heap.size ≤ q → A q := fun q h => by rw [hAe]; exact Or.inr h
  have hS : va_S A s.heap s.heap [] := va_S.rf
  have hP : va_P (dC, dI) vwCl [(h0, .inr (11, [.ref te, .ref ta, .ref re, .ref no, .ref pa, .ref ac, .ref op, .ref im, .ref ik, .ref hi, .ref rf, .int (-1)])), (te, .inr (9, [.int 0, .int 1, .int 1])), (rf, .inr (4, [.ref rc, .int 0])), (rc, .inl (ci2, 5, .inl (fun _ => 0)))] s.heap := hP
  have hl := lv_entry ([.ref h0, .int wa, .int va]) (n := 4) (Nat.le_of_ble_eq_true rfl)
  rw [lg_entry_eq]
  generalize (lg_sl ([.ref h0, .int wa, .int va]) ++ List.replicate (4 - (lg_sl ([.ref h0, .int wa, .int va])).length) Slot.unset).toArray = ls at hl ⊢
  have hl : lv_has ls 4 [(0, .ref h0), (1, .int wa), (2, .int va)] := hl
  refine lv_aload_n hx hb dX11_terms_0 rfl (lv_at hl 0 rfl) ?_
  refine va_get (D := (dC, dI)) (ci := 11) (v := .ref te) (C := RX11) (T := TX11) (N := 12) hx hb hts (fun _ h0_ => List.mem_cons_of_mem _ (List.mem_append_right _ (List.mem_append_left _ h0_))) hown hK hP 0 rfl rfl 0 (by decide) (hts (.fieldLink RX11 12 "DeadlineShare" "terms" "LDeadlineShare$Terms;") (List.mem_cons_of_mem _ (List.mem_append_left _ (List.mem_of_getElem? (i := 0) rfl)))) (fun _ h9 => h9) rfl dX11_terms_1 ?_
  refine lv_iload_n hx hb dX11_terms_4 rfl (lv_at hl 1 rfl) ?_
  refine lv_iload_n hx hb dX11_terms_5 rfl (lv_at hl 2 rfl) ?_
  have hPc := hP.sub (ws' := [(te, .inr (9, [.int 0, .int 1, .int 1]))]) [1] rfl
  have hDc := hD.sub (ws' := [(te, .inr (9, [.int 0, .int 1, .int 1]))]) [1] (by decide) rfl
  have hKc := hK.sub (tys' := []) [] rfl
  have hFc := va_free (wc := [(te, .inr (9, [.int 0, .int 1, .int 1]))]) hD hS hA [1] rfl
  refine va_calli (va_runV (As := [.int wa, .int va]) (rest := []) ⟨hx, hb, hml, hown, hts⟩ (c_X9_allows l dC dI te wa va s.heap.size) (cwV 2 hts (gi_V (fun w_ h0_ => ⟨List.mem_cons_of_mem _ (List.mem_append_right _ (List.mem_append_right _ (List.mem_append_left _ h0_))), (tb_c_X9_allows w_ h0_).2⟩) (List.mem_cons_of_mem _ (List.mem_append_left _ (List.mem_of_getElem? (i := 1) rfl))) (List.mem_cons_of_mem _ (List.mem_append_left _ (List.mem_of_getElem? (i := 2) rfl))) (List.mem_cons_of_mem _ (List.mem_append_left _ (List.mem_of_getElem? (i := 3) rfl))) (List.mem_cons_of_mem _ (List.mem_append_left _ (List.mem_of_getElem? (i := 4) rfl)))) rfl rfl rfl (by decide +kernel) ⟨Nat.le_of_ble_eq_true rfl, Nat.le_of_ble_eq_true rfl⟩) ⟨fun a U g mk q => by obtain ⟨q0, q1, qP, qK, qD⟩ := q; exact ⟨q0, q1, qP, va_K.moved (u := U) (U := U.calling g mk a) (Vm.Alike.refl U.vm) qK, qD⟩, va_recv hKc hPc (ci := 9) (q0 := 0) rfl rfl, fun U hU hW => ⟨rfl, by rw [hU], by rw [hU]; exact hPc, va_K.moved hW.alike hKc, hDc.weaken (fun _ _ _ _ => trivial)⟩⟩ rfl rfl hl.1 rfl (lv_room (Nat.le_of_ble_eq_true rfl)) dX11_terms_6 ⟨Nat.le_of_ble_eq_true rfl, Nat.le_of_ble_eq_true rfl⟩) hS (fun q _ h => hFc q h) hFc (fun r_1 u t H1 locs ht hvm hw hB hz1 hk1 hS => ?_)
  obtain ⟨hP1, hK1, hD1⟩ := hB
  rw [ht] at hP1
  have hK1 := va_K.moved hvm.symm hK1
  obtain ⟨hP, hD⟩ := va_join (wr := [(h0, .inr (11, [.ref te, .ref ta, .ref re, .ref no, .ref pa, .ref ac, .ref op, .ref im, .ref ik, .ref hi, .ref rf, .int (-1)])), (rf, .inr (4, [.ref rc, .int 0])), (rc, .inl (ci2, 5, .inl (fun _ => 0)))]) (w1 := [(te, .inr (9, [.int 0, .int 1, .int 1]))]) hP hD [1] [0, 2, 3] rfl rfl (by decide) (by decide) hk1 hFc hP1 hD1
  generalize H1 = H at hP hS ⊢
  have hP : va_P (dC, dI) vwCl [(h0, .inr (11, [.ref te, .ref ta, .ref re, .ref no, .ref pa, .ref ac, .ref op, .ref im, .ref ik, .ref hi, .ref rf, .int (-1)])), (rf, .inr (4, [.ref rc, .int 0])), (rc, .inl (ci2, 5, .inl (fun _ => 0))), (te, .inr (9, [.int 0, .int 1, .int 1]))] H := hP
  have hD : va_D A [(h0, .inr (11, [.ref te, .ref ta, .ref re, .ref no, .ref pa, .ref ac, .ref op, .ref im, .ref ik, .ref hi, .ref rf, .int (-1)])), (rf, .inr (4, [.ref rc, .int 0])), (rc, .inl (ci2, 5, .inl (fun _ => 0))), (te, .inr (9, [.int 0, .int 1, .int 1]))] := hD
  refine W.widen (k := 0) (n := 0) (Nat.le_of_ble_eq_true rfl) (Nat.le_of_ble_eq_true rfl) ?_
  have hw : r_1 = sp_allow wa va := hw
  subst hw
  refine lv_if_ne (tgt := 21) hx hb dX11_terms_9 (by decide) (fun c_2 => ?_) (fun c_2 => ?_)
  · refine lv_aload_n hx hb dX11_terms_21 rfl (lv_at hl 0 rfl) ?_
    refine va_get (D := (dC, dI)) (ci := 11) (v := .ref te) (C := RX11) (T := TX11) (N := 12) hx hb hts (fun _ h0_ => List.mem_cons_of_mem _ (List.mem_append_right _ (List.mem_append_left _ h0_))) hown hK hP 0 rfl rfl 0 (by decide) (hts (.fieldLink RX11 12 "DeadlineShare" "terms" "LDeadlineShare$Terms;") (List.mem_cons_of_mem _ (List.mem_append_left _ (List.mem_of_getElem? (i := 0) rfl)))) (fun _ h9 => h9) rfl dX11_terms_22 ?_
    refine lv_iload_n hx hb dX11_terms_25 rfl (lv_at hl 1 rfl) ?_
    have hPc := hP.sub (ws' := [(te, .inr (9, [.int 0, .int 1, .int 1]))]) [3] rfl
    have hDc := hD.sub (ws' := [(te, .inr (9, [.int 0, .int 1, .int 1]))]) [3] (by decide) rfl
    have hKc := hK.sub (tys' := []) [] rfl
    have hFc := va_free (wc := [(te, .inr (9, [.int 0, .int 1, .int 1]))]) hD hS hA [3] rfl
    refine va_calli (va_runV (As := [.int wa]) (rest := []) ⟨hx, hb, hml, hown, hts⟩ (c_X9_get l dC dI te wa H.size) (cwV 1 hts (gi_V (fun w_ h0_ => ⟨List.mem_cons_of_mem _ (List.mem_append_right _ (List.mem_append_right _ (List.mem_append_right _ (List.mem_append_left _ h0_)))), (tb_c_X9_get w_ h0_).2⟩) (List.mem_cons_of_mem _ (List.mem_append_left _ (List.mem_of_getElem? (i := 5) rfl))) (List.mem_cons_of_mem _ (List.mem_append_left _ (List.mem_of_getElem? (i := 6) rfl))) (List.mem_cons_of_mem _ (List.mem_append_left _ (List.mem_of_getElem? (i := 7) rfl))) (List.mem_cons_of_mem _ (List.mem_append_left _ (List.mem_of_getElem? (i := 4) rfl)))) rfl rfl rfl (by decide +kernel) ⟨Nat.le_of_ble_eq_true rfl, Nat.le_of_ble_eq_true rfl⟩) ⟨fun a U g mk q => by obtain ⟨q0, q1, qP, qK, qD⟩ := q; exact ⟨q0, q1, qP, va_K.moved (u := U) (U := U.calling g mk a) (Vm.Alike.refl U.vm) qK, qD⟩, va_recv hKc hPc (ci := 9) (q0 := 0) rfl rfl, fun U hU hW => ⟨rfl, by rw [hU], by rw [hU]; exact hPc, va_K.moved hW.alike hKc, hDc.weaken (fun _ _ _ _ => trivial)⟩⟩ rfl rfl hl.1 rfl (lv_room (Nat.le_of_ble_eq_true rfl)) dX11_terms_26 ⟨Nat.le_of_ble_eq_true rfl, Nat.le_of_ble_eq_true rfl⟩) hS (fun q _ h => hFc q h) hFc (fun r_3 u t H1 locs ht hvm hw hB hz1 hk1 hS => ?_)
    obtain ⟨hP1, hK1, hD1⟩ := hB
    rw [ht] at hP1
    have hK1 := va_K.moved hvm.symm hK1
    obtain ⟨hP, hD⟩ := va_join (wr := [(h0, .inr (11, [.ref te, .ref ta, .ref re, .ref no, .ref pa, .ref ac, .ref op, .ref im, .ref ik, .ref hi, .ref rf, .int (-1)])), (rf, .inr (4, [.ref rc, .int 0])), (rc, .inl (ci2, 5, .inl (fun _ => 0)))]) (w1 := [(te, .inr (9, [.int 0, .int 1, .int 1]))]) hP hD [3] [0, 1, 2] rfl rfl (by decide) (by decide) hk1 hFc hP1 hD1
    generalize H1 = H at hP hS ⊢
    have hP : va_P (dC, dI) vwCl [(h0, .inr (11, [.ref te, .ref ta, .ref re, .ref no, .ref pa, .ref ac, .ref op, .ref im, .ref ik, .ref hi, .ref rf, .int (-1)])), (rf, .inr (4, [.ref rc, .int 0])), (rc, .inl (ci2, 5, .inl (fun _ => 0))), (te, .inr (9, [.int 0, .int 1, .int 1]))] H := hP
    have hD : va_D A [(h0, .inr (11, [.ref te, .ref ta, .ref re, .ref no, .ref pa, .ref ac, .ref op, .ref im, .ref ik, .ref hi, .ref rf, .int (-1)])), (rf, .inr (4, [.ref rc, .int 0])), (rc, .inl (ci2, 5, .inl (fun _ => 0))), (te, .inr (9, [.int 0, .int 1, .int 1]))] := hD
    refine W.widen (k := 0) (n := 0) (Nat.le_of_ble_eq_true rfl) (Nat.le_of_ble_eq_true rfl) ?_
    have hw : r_3 = sp_get wa := hw
    subst hw
    refine lv_istore_n (lv' := [(3, .int (sp_get wa)), (0, .ref h0), (1, .int wa), (2, .int va)]) hx hb dX11_terms_29 rfl hl (by decide) rfl (fun ls hl => ?_)
    refine lv_aload_n hx hb dX11_terms_30 rfl (lv_at hl 1 rfl) ?_
    refine va_get (D := (dC, dI)) (ci := 11) (v := .ref te) (C := RX11) (T := TX11) (N := 12) hx hb hts (fun _ h0_ => List.mem_cons_of_mem _ (List.mem_append_right _ (List.mem_append_left _ h0_))) hown hK hP 0 rfl rfl 0 (by decide) (hts (.fieldLink RX11 12 "DeadlineShare" "terms" "LDeadlineShare$Terms;") (List.mem_cons_of_mem _ (List.mem_append_left _ (List.mem_of_getElem? (i := 0) rfl)))) (fun _ h9 => h9) rfl dX11_terms_31 ?_
    refine lv_iload_n hx hb dX11_terms_34 rfl (lv_at hl 2 rfl) ?_
    refine lv_iload_n hx hb dX11_terms_35 rfl (lv_at hl 3 rfl) ?_
    have hPc := hP.sub (ws' := [(te, .inr (9, [.int 0, .int 1, .int 1]))]) [3] rfl
    have hDc := hD.sub (ws' := [(te, .inr (9, [.int 0, .int 1, .int 1]))]) [3] (by decide) rfl
    have hKc := hK.sub (tys' := []) [] rfl
    have hFc := va_free (wc := [(te, .inr (9, [.int 0, .int 1, .int 1]))]) hD hS hA [3] rfl
    refine va_callv (va_runV (As := [.int wa, .int va]) (rest := []) ⟨hx, hb, hml, hown, hts⟩ (c_X9_set l dC dI te wa va H.size) (cwV 2 hts (gi_V (fun w_ h0_ => ⟨List.mem_cons_of_mem _ (List.mem_append_right _ (List.mem_append_right _ (List.mem_append_right _ (List.mem_append_right _ (List.mem_append_left _ h0_))))), (tb_c_X9_set w_ h0_).2⟩) (List.mem_cons_of_mem _ (List.mem_append_left _ (List.mem_of_getElem? (i := 8) rfl))) (List.mem_cons_of_mem _ (List.mem_append_left _ (List.mem_of_getElem? (i := 9) rfl))) (List.mem_cons_of_mem _ (List.mem_append_left _ (List.mem_of_getElem? (i := 10) rfl))) (List.mem_cons_of_mem _ (List.mem_append_left _ (List.mem_of_getElem? (i := 4) rfl)))) rfl rfl rfl (by decide +kernel) ⟨Nat.le_of_ble_eq_true rfl, Nat.le_of_ble_eq_true rfl⟩) ⟨fun a U g mk q => by obtain ⟨q0, q1, qP, qK, qD⟩ := q; exact ⟨q0, q1, qP, va_K.moved (u := U) (U := U.calling g mk a) (Vm.Alike.refl U.vm) qK, qD⟩, va_recv hKc hPc (ci := 9) (q0 := 0) rfl rfl, fun U hU hW => ⟨rfl, by rw [hU], by rw [hU]; exact hPc, va_K.moved hW.alike hKc, hDc.weaken (fun _ _ _ _ => trivial)⟩⟩ rfl rfl hl.1 rfl (lv_room (Nat.le_of_ble_eq_true rfl)) dX11_terms_36 ⟨Nat.le_of_ble_eq_true rfl, Nat.le_of_ble_eq_true rfl⟩) hS (fun q _ h => hFc q h) hFc (fun u t H1 locs ht hvm hw hB hz1 hk1 hS => ?_)
    obtain ⟨hP1, hK1, hD1⟩ := hB
    rw [ht] at hP1
    have hK1 := va_K.moved hvm.symm hK1
    obtain ⟨hP, hD⟩ := va_join (wr := [(h0, .inr (11, [.ref te, .ref ta, .ref re, .ref no, .ref pa, .ref ac, .ref op, .ref im, .ref ik, .ref hi, .ref rf, .int (-1)])), (rf, .inr (4, [.ref rc, .int 0])), (rc, .inl (ci2, 5, .inl (fun _ => 0)))]) (w1 := []) hP hD [3] [0, 1, 2] rfl rfl (by decide) (by decide) hk1 hFc hP1 hD1
    generalize H1 = H at hP hS ⊢
    have hP : va_P (dC, dI) vwCl [(h0, .inr (11, [.ref te, .ref ta, .ref re, .ref no, .ref pa, .ref ac, .ref op, .ref im, .ref ik, .ref hi, .ref rf, .int (-1)])), (rf, .inr (4, [.ref rc, .int 0])), (rc, .inl (ci2, 5, .inl (fun _ => 0)))] H := hP
    have hD : va_D A [(h0, .inr (11, [.ref te, .ref ta, .ref re, .ref no, .ref pa, .ref ac, .ref op, .ref im, .ref ik, .ref hi, .ref rf, .int (-1)])), (rf, .inr (4, [.ref rc, .int 0])), (rc, .inl (ci2, 5, .inl (fun _ => 0)))] := hD
    refine W.widen (k := 0) (n := 0) (Nat.le_of_ble_eq_true rfl) (Nat.le_of_ble_eq_true rfl) ?_
    refine lv_aload_n hx hb dX11_terms_39 rfl (lv_at hl 1 rfl) ?_
    refine va_get (D := (dC, dI)) (ci := 11) (v := .ref rf) (C := RX11) (T := TX11) (N := 12) hx hb hts (fun _ h0_ => List.mem_cons_of_mem _ (List.mem_append_right _ (List.mem_append_left _ h0_))) hown hK hP 0 rfl rfl 10 (by decide) (hts (.fieldLink RX11 72 "DeadlineShare" "refusals" "LDeadlineShare$Refusals;") (List.mem_cons_of_mem _ (List.mem_append_left _ (List.mem_of_getElem? (i := 11) rfl)))) (fun _ h9 => h9) rfl dX11_terms_40 ?_
    refine lv_iload_n hx hb dX11_terms_43 rfl (lv_at hl 0 rfl) ?_
    have hPc := hP.sub (ws' := [(rf, .inr (4, [.ref rc, .int 0]))]) [1] rfl
    have hDc := hD.sub (ws' := [(rf, .inr (4, [.ref rc, .int 0]))]) [1] (by decide) rfl
    have hKc := hK.sub (tys' := []) [] rfl
    have hFc := va_free (wc := [(rf, .inr (4, [.ref rc, .int 0]))]) hD hS hA [1] rfl
    refine va_calli (va_runV (As := [.int (sp_get wa)]) (rest := []) ⟨hx, hb, hml, hown, hts⟩ (c_X4_none l dC dI rf rc 0 (sp_get wa) H.size) (cwV 1 hts (gi_V (fun w_ h0_ => ⟨List.mem_cons_of_mem _ (List.mem_append_right _ (List.mem_append_right _ (List.mem_append_right _ (List.mem_append_right _ (List.mem_append_right _ (List.mem_append_left _ h0_)))))), (tb_c_X4_none w_ h0_).2⟩) (List.mem_cons_of_mem _ (List.mem_append_left _ (List.mem_of_getElem? (i := 12) rfl))) (List.mem_cons_of_mem _ (List.mem_append_left _ (List.mem_of_getElem? (i := 13) rfl))) (List.mem_cons_of_mem _ (List.mem_append_left _ (List.mem_of_getElem? (i := 14) rfl))) (List.mem_cons_of_mem _ (List.mem_append_left _ (List.mem_of_getElem? (i := 15) rfl)))) rfl rfl rfl (by decide +kernel) ⟨Nat.le_of_ble_eq_true rfl, Nat.le_of_ble_eq_true rfl⟩) ⟨fun a U g mk q => by obtain ⟨q0, q1, qP, qK, qD⟩ := q; exact ⟨q0, q1, qP, va_K.moved (u := U) (U := U.calling g mk a) (Vm.Alike.refl U.vm) qK, qD⟩, va_recv hKc hPc (ci := 4) (q0 := 0) rfl rfl, fun U hU hW => ⟨rfl, by rw [hU], by rw [hU]; exact hPc, va_K.moved hW.alike hKc, hDc.weaken (fun _ _ _ _ => trivial)⟩⟩ rfl rfl hl.1 rfl (lv_room (Nat.le_of_ble_eq_true rfl)) dX11_terms_44 ⟨Nat.le_of_ble_eq_true rfl, Nat.le_of_ble_eq_true rfl⟩) hS (fun q _ h => hFc q h) hFc (fun r_4 u t H1 locs ht hvm hw hB hz1 hk1 hS => ?_)
    obtain ⟨hP1, hK1, hD1⟩ := hB
    rw [ht] at hP1
    have hK1 := va_K.moved hvm.symm hK1
    obtain ⟨hP, hD⟩ := va_join (wr := [(h0, .inr (11, [.ref te, .ref ta, .ref re, .ref no, .ref pa, .ref ac, .ref op, .ref im, .ref ik, .ref hi, .ref rf, .int (-1)])), (rc, .inl (ci2, 5, .inl (fun _ => 0)))]) (w1 := []) hP hD [1] [0, 2] rfl rfl (by decide) (by decide) hk1 hFc hP1 hD1
    generalize H1 = H at hP hS ⊢
    have hP : va_P (dC, dI) vwCl [(h0, .inr (11, [.ref te, .ref ta, .ref re, .ref no, .ref pa, .ref ac, .ref op, .ref im, .ref ik, .ref hi, .ref rf, .int (-1)])), (rc, .inl (ci2, 5, .inl (fun _ => 0)))] H := hP
    have hD : va_D A [(h0, .inr (11, [.ref te, .ref ta, .ref re, .ref no, .ref pa, .ref ac, .ref op, .ref im, .ref ik, .ref hi, .ref rf, .int (-1)])), (rc, .inl (ci2, 5, .inl (fun _ => 0)))] := hD
    refine W.widen (k := 0) (n := 0) (Nat.le_of_ble_eq_true rfl) (Nat.le_of_ble_eq_true rfl) ?_
    have hw : r_4 = (sp_get wa) := hw
    subst hw
    have hP9 := hP.sub (ws' := []) [] rfl
    have hD9 := hD.sub (ws' := []) [] (by decide) rfl
    have hK9 := hK.sub (tys' := []) [] rfl
    refine W.widen (k := 0) (n := 0) (Nat.le_of_ble_eq_true rfl) (Nat.le_of_ble_eq_true rfl) ?_
    exact W.iret (v := (sp_get wa)) hx hb hr (fun t ht hW => ⟨⟨(sp_get wa), (), rfl, (by unfold sp_terms; exact (if_pos ((sp_allow1 _ _).mp c_2)).symm), by rw [ht]; exact hP9, va_K.moved hW.alike hK9, hD9⟩, hS.F ht⟩) hS.2.2 dX11_terms_47
  · have c_2 := not_not_intro c_2
    refine lv_aload_n hx hb dX11_terms_12 rfl (lv_at hl 0 rfl) ?_
    refine va_get (D := (dC, dI)) (ci := 11) (v := .ref rf) (C := RX11) (T := TX11) (N := 12) hx hb hts (fun _ h0_ => List.mem_cons_of_mem _ (List.mem_append_right _ (List.mem_append_left _ h0_))) hown hK hP 0 rfl rfl 10 (by decide) (hts (.fieldLink RX11 72 "DeadlineShare" "refusals" "LDeadlineShare$Refusals;") (List.mem_cons_of_mem _ (List.mem_append_left _ (List.mem_of_getElem? (i := 11) rfl)))) (fun _ h9 => h9) rfl dX11_terms_13 ?_
    refine lv_iconst (v := (-1)) hx hb dX11_terms_16 (by decide) ?_
    have hPc := hP.sub (ws' := [(rf, .inr (4, [.ref rc, .int 0])), (rc, .inl (ci2, 5, .inl (fun _ => 0)))]) [1, 2] rfl
    have hDc := hD.sub (ws' := [(rf, .inr (4, [.ref rc, .int 0])), (rc, .inl (ci2, 5, .inl (fun _ => 0)))]) [1, 2] (by decide) rfl
    have hKc := hK.sub (tys' := [(ci2, .int)]) [0] rfl
    have hFc := va_free (wc := [(rf, .inr (4, [.ref rc, .int 0])), (rc, .inl (ci2, 5, .inl (fun _ => 0)))]) hD hS hA [1, 2] rfl
    refine va_calli (va_runV (As := [.int (-1)]) (rest := []) ⟨hx, hb, hml, hown, hts⟩ (c_X4_add_1 l dC dI rf rc ci2 H.size) (cwV 1 hts (gi_V (fun w_ h0_ => ⟨List.mem_cons_of_mem _ (List.mem_append_right _ (List.mem_append_right _ (List.mem_append_right _ (List.mem_append_right _ (List.mem_append_right _ (List.mem_append_right _ (List.mem_append_left _ h0_))))))), (tb_c_X4_add_1 w_ h0_).2⟩) (List.mem_cons_of_mem _ (List.mem_append_left _ (List.mem_of_getElem? (i := 16) rfl))) (List.mem_cons_of_mem _ (List.mem_append_left _ (List.mem_of_getElem? (i := 17) rfl))) (List.mem_cons_of_mem _ (List.mem_append_left _ (List.mem_of_getElem? (i := 18) rfl))) (List.mem_cons_of_mem _ (List.mem_append_left _ (List.mem_of_getElem? (i := 15) rfl)))) rfl rfl rfl (by decide +kernel) ⟨Nat.le_of_ble_eq_true rfl, Nat.le_of_ble_eq_true rfl⟩) ⟨fun a U g mk q => by obtain ⟨q0, q1, qP, qK, qD⟩ := q; exact ⟨q0, q1, qP, va_K.moved (u := U) (U := U.calling g mk a) (Vm.Alike.refl U.vm) qK, qD⟩, va_recv hKc hPc (ci := 4) (q0 := 0) rfl rfl, fun U hU hW => ⟨rfl, by rw [hU], by rw [hU]; exact hPc, va_K.moved hW.alike hKc, hDc.weaken (fun _ _ _ _ => trivial)⟩⟩ rfl rfl hl.1 rfl (lv_room (Nat.le_of_ble_eq_true rfl)) dX11_terms_17 ⟨Nat.le_of_ble_eq_true rfl, Nat.le_of_ble_eq_true rfl⟩) hS (fun q _ h => hFc q h) hFc (fun r_5 u t H1 locs ht hvm hw hB hz1 hk1 hS => ?_)
    obtain ⟨hP1, hK1, hD1⟩ := hB
    rw [ht] at hP1
    have hK1 := va_K.moved hvm.symm hK1
    obtain ⟨hP, hD⟩ := va_join (wr := [(h0, .inr (11, [.ref te, .ref ta, .ref re, .ref no, .ref pa, .ref ac, .ref op, .ref im, .ref ik, .ref hi, .ref rf, .int (-1)])), (te, .inr (9, [.int 0, .int 1, .int 1]))]) (w1 := []) hP hD [1, 2] [0, 3] rfl rfl (by decide) (by decide) hk1 hFc hP1 hD1
    generalize H1 = H at hP hS ⊢
    have hP : va_P (dC, dI) vwCl [(h0, .inr (11, [.ref te, .ref ta, .ref re, .ref no, .ref pa, .ref ac, .ref op, .ref im, .ref ik, .ref hi, .ref rf, .int (-1)])), (te, .inr (9, [.int 0, .int 1, .int 1]))] H := hP
    have hD : va_D A [(h0, .inr (11, [.ref te, .ref ta, .ref re, .ref no, .ref pa, .ref ac, .ref op, .ref im, .ref ik, .ref hi, .ref rf, .int (-1)])), (te, .inr (9, [.int 0, .int 1, .int 1]))] := hD
    refine W.widen (k := 0) (n := 0) (Nat.le_of_ble_eq_true rfl) (Nat.le_of_ble_eq_true rfl) ?_
    have hw : r_5 = (-1) := hw
    subst hw
    have hP9 := hP.sub (ws' := []) [] rfl
    have hD9 := hD.sub (ws' := []) [] (by decide) rfl
    have hK9 := hK.sub (tys' := []) [] rfl
    refine W.widen (k := 0) (n := 0) (Nat.le_of_ble_eq_true rfl) (Nat.le_of_ble_eq_true rfl) ?_
    exact W.iret (v := (-1)) hx hb hr (fun t ht hW => ⟨⟨(-1), (), rfl, (by unfold sp_terms; exact (if_neg ((sp_allow0 _ _).mp (Classical.not_not.mp c_2))).symm), by rw [ht]; exact hP9, va_K.moved hW.alike hK9, hD9⟩, hS.F ht⟩) hS.2.2 dX11_terms_20
def ow_c_X7_hasRoomForFive : List Cond := [.fieldLink RX7 15 "DeadlineShare$Tape" "length" "I"]
def wq_c_X7_hasRoomForFive : List Cond := .code yX7_hasRoomForFive cX7_hasRoomForFive 1 (some .boolean) :: (ow_c_X7_hasRoomForFive ++ (u_ws RX7 TX7 2 ++ ([] : List Cond)))
theorem tb_c_X7_hasRoomForFive : ∀ w ∈ wq_c_X7_hasRoomForFive, q_g w := by
  unfold wq_c_X7_hasRoomForFive ow_c_X7_hasRoomForFive
  exact q_cons tw_295 (q_app (q_cons tw_294 q_nil) (q_app tu_X7 q_nil))
set_option maxHeartbeats 4000000 in
set_option maxRecDepth 100000 in
theorem c_X7_hasRoomForFive (l : Launch) (dC : Nat → ClassId) (dI : Nat → Nat → Nat) (h0 : Nat) (tb : Nat) (sz : Nat) : Met l yX7_hasRoomForFive wq_c_X7_hasRoomForFive ({ frames := 0, cells := 0, slots := 0, locals := 0 } : Room) (va_Pc [.ref h0] (fun U => U.heap.size = sz ∧ va_P (dC, dI) vwCl [(h0, .inr (7, [.ref tb, .int 0]))] U.heap ∧ va_K (dC, dI) vwCl [] U ∧ va_D (fun _ => True) [(h0, .inr (7, [.ref tb, .int 0]))])) (va_Qi (fun (r : Int32) (_ : Unit) => r = 1) (fun (_ : Unit) t => va_P (dC, dI) vwCl [(h0, .inr (7, [.ref tb, .int 0]))] t.heap ∧ va_K (dC, dI) vwCl [] t ∧ va_D (va_A [(h0, .inr (7, [.ref tb, .int 0]))] sz) [(h0, .inr (7, [.ref tb, .int 0]))]) (va_A [(h0, .inr (7, [.ref tb, .int 0]))] sz)) 0 0 (va_A [(h0, .inr (7, [.ref tb, .int 0]))] sz) := by
  refine Met.ofW (cc := cX7_hasRoomForFive) (maxL := 1) (ret := (some .boolean)) (by decide) rfl ?_
  intro p e s m args below meth c s₁ B hml hv
  obtain ⟨rfl, hsz, hP, hK, hD0⟩ := hv
  have hx := B.exec
  have hb := B.bytes
  have hr := B.returns
  have hts := atoms_spec (ws := wq_c_X7_hasRoomForFive) B.pre
  have hown : s.vm.findClass RX7 = some m.cls := findClass_of_methodNamed B.named
  have hlocks := B.notSynchronized
  subst hsz
  have hD := hD0.self (sz := s.heap.size)
  obtain ⟨A, hAe⟩ : ∃ A, A = va_A [(h0, .inr (7, [.ref tb, .int 0]))] s.heap.size := ⟨_, rfl⟩
  rw [← hAe] at hD ⊢
  have hA : ∀ q : Nat, s.heap.size ≤ q → A q := fun q h => by rw [hAe]; exact Or.inr h
  have hS : va_S A s.heap s.heap [] := va_S.rf
  have hP : va_P (dC, dI) vwCl [(h0, .inr (7, [.ref tb, .int 0]))] s.heap := hP
  have hl := lv_entry ([.ref h0]) (n := 1) (Nat.le_of_ble_eq_true rfl)
  rw [lg_entry_eq]
  generalize (lg_sl ([.ref h0]) ++ List.replicate (1 - (lg_sl ([.ref h0])).length) Slot.unset).toArray = ls at hl ⊢
  have hl : lv_has ls 1 [(0, .ref h0)] := hl
  refine lv_aload_n hx hb dX7_hasRoomForFive_0 rfl (lv_at hl 0 rfl) ?_
  refine va_get (D := (dC, dI)) (ci := 7) (v := .int 0) (C := RX7) (T := TX7) (N := 2) hx hb hts (fun _ h0_ => List.mem_cons_of_mem _ (List.mem_append_right _ (List.mem_append_left _ h0_))) hown hK hP 0 rfl rfl 1 (by decide) (hts (.fieldLink RX7 15 "DeadlineShare$Tape" "length" "I") (List.mem_cons_of_mem _ (List.mem_append_left _ (List.mem_of_getElem? (i := 0) rfl)))) (fun _ h9 => h9) rfl dX7_hasRoomForFive_1 ?_
  refine lv_bipush (v := 20) hx hb dX7_hasRoomForFive_4 (by decide) ?_
  refine lv_iadd hx hb dX7_hasRoomForFive_6 ?_
  refine k_topi (y := 20) (by decide) ?_
  refine lv_sipush (v := 200) hx hb dX7_hasRoomForFive_7 (by decide) ?_
  refine lv_icmp_gt (tgt := 17) hx hb dX7_hasRoomForFive_10 (by decide) (fun c => absurd c (by decide)) (fun _ => ?_)
  refine lv_iconst (v := 1) hx hb dX7_hasRoomForFive_13 (by decide) ?_
  refine lv_goto (tgt := 18) hx hb dX7_hasRoomForFive_14 (by decide) ?_
  have hP9 := hP.sub (ws' := [(h0, .inr (7, [.ref tb, .int 0]))]) [0] rfl
  have hD9 := hD.sub (ws' := [(h0, .inr (7, [.ref tb, .int 0]))]) [0] (by decide) rfl
  have hK9 := hK.sub (tys' := []) [] rfl
  refine W.widen (k := 0) (n := 0) (Nat.le_of_ble_eq_true rfl) (Nat.le_of_ble_eq_true rfl) ?_
  exact W.zret (v := 1) hx hb hr rfl (fun t ht hW => ⟨⟨1, (), rfl, rfl, by rw [ht]; exact hP9, va_K.moved hW.alike hK9, hD9⟩, hS.F ht⟩) hS.2.2 dX7_hasRoomForFive_18
def ow_c_X7_add_0 : List Cond := [.fieldLink RX7 15 "DeadlineShare$Tape" "length" "I", .fieldLink RX7 11 "DeadlineShare$Tape" "bytes" "[B"]
def wq_c_X7_add_0 : List Cond := .code yX7_add cX7_add 2 none :: (ow_c_X7_add_0 ++ (u_ws RX7 TX7 2 ++ ([] : List Cond)))
theorem tb_c_X7_add_0 : ∀ w ∈ wq_c_X7_add_0, q_g w := by
  unfold wq_c_X7_add_0 ow_c_X7_add_0
  exact q_cons tw_296 (q_app (q_cons tw_294 (q_cons tw_20 q_nil)) (q_app tu_X7 q_nil))
set_option maxHeartbeats 4000000 in
set_option maxRecDepth 100000 in
theorem c_X7_add_0 (l : Launch) (dC : Nat → ClassId) (dI : Nat → Nat → Nat) (h0 : Nat) (on : Int32) (tb : Nat) (cb : ClassId) (fz : Nat → Int32) (sz : Nat) : Met l yX7_add wq_c_X7_add_0 ({ frames := 0, cells := 0, slots := 0, locals := 0 } : Room) (va_Pc [.ref h0, .int on] (fun U => U.heap.size = sz ∧ va_P (dC, dI) vwCl [(h0, .inr (7, [.ref tb, .int 0])), (tb, .inl (cb, 200, .inl fz))] U.heap ∧ va_K (dC, dI) vwCl [(cb, .byte)] U ∧ va_D (fun _ => True) [(h0, .inr (7, [.ref tb, .int 0])), (tb, .inl (cb, 200, .inl fz))])) (va_Qv (fun (_ : Unit) => True) (fun (_ : Unit) t => ∃ (f2 : Nat → Int32), va_P (dC, dI) vwCl [(h0, .inr (7, [.ref tb, .int 1])), (tb, .inl (cb, 200, .inl f2))] t.heap ∧ va_K (dC, dI) vwCl [(cb, .byte)] t ∧ va_D (va_A [(h0, .inr (7, [.ref tb, .int 0])), (tb, .inl (cb, 200, .inl fz))] sz) [(h0, .inr (7, [.ref tb, .int 1])), (tb, .inl (cb, 200, .inl f2))]) (va_A [(h0, .inr (7, [.ref tb, .int 0])), (tb, .inl (cb, 200, .inl fz))] sz)) 0 0 (va_A [(h0, .inr (7, [.ref tb, .int 0])), (tb, .inl (cb, 200, .inl fz))] sz) := by
  refine Met.ofW (cc := cX7_add) (maxL := 2) (ret := none) (by decide) rfl ?_
  intro p e s m args below meth c s₁ B hml hv
  obtain ⟨rfl, hsz, hP, hK, hD0⟩ := hv
  have hx := B.exec
  have hb := B.bytes
  have hr := B.returns
  have hts := atoms_spec (ws := wq_c_X7_add_0) B.pre
  have hown : s.vm.findClass RX7 = some m.cls := findClass_of_methodNamed B.named
  have hlocks := B.notSynchronized
  subst hsz
  have hD := hD0.self (sz := s.heap.size)
  obtain ⟨A, hAe⟩ : ∃ A, A = va_A [(h0, .inr (7, [.ref tb, .int 0])), (tb, .inl (cb, 200, .inl fz))] s.heap.size := ⟨_, rfl⟩
  rw [← hAe] at hD ⊢
  have hA : ∀ q : Nat, s.heap.size ≤ q → A q := fun q h => by rw [hAe]; exact Or.inr h
  have hS : va_S A s.heap s.heap [] := va_S.rf
  have hP : va_P (dC, dI) vwCl [(h0, .inr (7, [.ref tb, .int 0])), (tb, .inl (cb, 200, .inl fz))] s.heap := hP
  have hl := lv_entry ([.ref h0, .int on]) (n := 2) (Nat.le_of_ble_eq_true rfl)
  rw [lg_entry_eq]
  generalize (lg_sl ([.ref h0, .int on]) ++ List.replicate (2 - (lg_sl ([.ref h0, .int on])).length) Slot.unset).toArray = ls at hl ⊢
  have hl : lv_has ls 2 [(0, .ref h0), (1, .int on)] := hl
  refine lv_aload_n hx hb dX7_add_0 rfl (lv_at hl 0 rfl) ?_
  refine va_get (D := (dC, dI)) (ci := 7) (v := .int 0) (C := RX7) (T := TX7) (N := 2) hx hb hts (fun _ h0_ => List.mem_cons_of_mem _ (List.mem_append_right _ (List.mem_append_left _ h0_))) hown hK hP 0 rfl rfl 1 (by decide) (hts (.fieldLink RX7 15 "DeadlineShare$Tape" "length" "I") (List.mem_cons_of_mem _ (List.mem_append_left _ (List.mem_of_getElem? (i := 0) rfl)))) (fun _ h9 => h9) rfl dX7_add_1 ?_
  refine lv_if_lt (tgt := 38) hx hb dX7_add_4 (by decide) (fun c => absurd c (by decide)) (fun _ => ?_)
  refine lv_aload_n hx hb dX7_add_7 rfl (lv_at hl 0 rfl) ?_
  refine va_get (D := (dC, dI)) (ci := 7) (v := .int 0) (C := RX7) (T := TX7) (N := 2) hx hb hts (fun _ h0_ => List.mem_cons_of_mem _ (List.mem_append_right _ (List.mem_append_left _ h0_))) hown hK hP 0 rfl rfl 1 (by decide) (hts (.fieldLink RX7 15 "DeadlineShare$Tape" "length" "I") (List.mem_cons_of_mem _ (List.mem_append_left _ (List.mem_of_getElem? (i := 0) rfl)))) (fun _ h9 => h9) rfl dX7_add_8 ?_
  refine lv_sipush (v := 200) hx hb dX7_add_11 (by decide) ?_
  refine lv_icmp_ge (tgt := 38) hx hb dX7_add_14 (by decide) (fun c => absurd c (by decide)) (fun _ => ?_)
  refine lv_aload_n hx hb dX7_add_17 rfl (lv_at hl 0 rfl) ?_
  refine va_get (D := (dC, dI)) (ci := 7) (v := .ref tb) (C := RX7) (T := TX7) (N := 2) hx hb hts (fun _ h0_ => List.mem_cons_of_mem _ (List.mem_append_right _ (List.mem_append_left _ h0_))) hown hK hP 0 rfl rfl 0 (by decide) (hts (.fieldLink RX7 11 "DeadlineShare$Tape" "bytes" "[B") (List.mem_cons_of_mem _ (List.mem_append_left _ (List.mem_of_getElem? (i := 1) rfl)))) (fun _ h9 => h9) rfl dX7_add_18 ?_
  refine lv_aload_n hx hb dX7_add_21 rfl (lv_at hl 0 rfl) ?_
  refine va_get (D := (dC, dI)) (ci := 7) (v := .int 0) (C := RX7) (T := TX7) (N := 2) hx hb hts (fun _ h0_ => List.mem_cons_of_mem _ (List.mem_append_right _ (List.mem_append_left _ h0_))) hown hK hP 0 rfl rfl 1 (by decide) (hts (.fieldLink RX7 15 "DeadlineShare$Tape" "length" "I") (List.mem_cons_of_mem _ (List.mem_append_left _ (List.mem_of_getElem? (i := 0) rfl)))) (fun _ h9 => h9) rfl dX7_add_22 ?_
  refine lv_iload_n hx hb dX7_add_25 rfl (lv_at hl 1 rfl) ?_
  refine lv_i2b (v := on.toInt8.toInt32) hx hb dX7_add_26 rfl ?_
  refine va_bast hx hb hK hP hD hS 1 0 rfl rfl (by unfold vp_in; decide) dX7_add_27 (fun H locs hP hD hS => ?_)
  have hP : va_P (dC, dI) vwCl [(h0, .inr (7, [.ref tb, .int 0])), (tb, .inl (cb, 200, .inl (upd fz (Int32.toNatClampNeg 0) (vp_nar .byte on.toInt8.toInt32))))] H := hP
  have hD : va_D A [(h0, .inr (7, [.ref tb, .int 0])), (tb, .inl (cb, 200, .inl (upd fz (Int32.toNatClampNeg 0) (vp_nar .byte on.toInt8.toInt32))))] := hD
  generalize ef_1 : upd fz (Int32.toNatClampNeg 0) (vp_nar .byte on.toInt8.toInt32) = f_1 at hP hD
  refine lv_aload_n hx hb dX7_add_28 rfl (lv_at hl 0 rfl) ?_
  refine lv_dup hx hb dX7_add_29 rfl ?_
  refine va_get (D := (dC, dI)) (ci := 7) (v := .int 0) (C := RX7) (T := TX7) (N := 2) hx hb hts (fun _ h0_ => List.mem_cons_of_mem _ (List.mem_append_right _ (List.mem_append_left _ h0_))) hown hK hP 0 rfl rfl 1 (by decide) (hts (.fieldLink RX7 15 "DeadlineShare$Tape" "length" "I") (List.mem_cons_of_mem _ (List.mem_append_left _ (List.mem_of_getElem? (i := 0) rfl)))) (fun _ h9 => h9) rfl dX7_add_30 ?_
  refine lv_iconst (v := 1) hx hb dX7_add_33 (by decide) ?_
  refine lv_iadd hx hb dX7_add_34 ?_
  refine k_topi (y := 1) (by decide) ?_
  refine va_put (D := (dC, dI)) (ci := 7) (v := .int 1) (ty := .int) (C := RX7) (T := TX7) (N := 2) hx hb hts (fun _ h0_ => List.mem_cons_of_mem _ (List.mem_append_right _ (List.mem_append_left _ h0_))) tyX7 tyX7_ok nmX7 hown hK hP hD hS 0 rfl rfl 1 (by decide) (hts (.fieldLink RX7 15 "DeadlineShare$Tape" "length" "I") (List.mem_cons_of_mem _ (List.mem_append_left _ (List.mem_of_getElem? (i := 0) rfl)))) (fun _ h9 => h9) rfl (by decide +kernel) rfl rfl (Nat.le_of_ble_eq_true rfl) dX7_add_35 (fun H locs hP hD hS => ?_)
  have hP : va_P (dC, dI) vwCl [(h0, .inr (7, [.ref tb, .int 1])), (tb, .inl (cb, 200, .inl f_1))] H := hP
  have hD : va_D A [(h0, .inr (7, [.ref tb, .int 1])), (tb, .inl (cb, 200, .inl f_1))] := hD
  have hP9 := hP.sub (ws' := [(h0, .inr (7, [.ref tb, .int 1])), (tb, .inl (cb, 200, .inl f_1))]) [0, 1] rfl
  have hD9 := hD.sub (ws' := [(h0, .inr (7, [.ref tb, .int 1])), (tb, .inl (cb, 200, .inl f_1))]) [0, 1] (by decide) rfl
  have hK9 := hK.sub (tys' := [(cb, .byte)]) [0] rfl
  refine W.widen (k := 0) (n := 0) (Nat.le_of_ble_eq_true rfl) (Nat.le_of_ble_eq_true rfl) ?_
  exact W.vret hx hb hr (fun t ht hW => ⟨⟨(), rfl, trivial, f_1, by rw [ht]; exact hP9, va_K.moved hW.alike hK9, hD9⟩, hS.F ht⟩) hS.2.2 dX7_add_38
def ow_c_X7_add_1 : List Cond := [.fieldLink RX7 15 "DeadlineShare$Tape" "length" "I", .fieldLink RX7 11 "DeadlineShare$Tape" "bytes" "[B"]
def wq_c_X7_add_1 : List Cond := .code yX7_add cX7_add 2 none :: (ow_c_X7_add_1 ++ (u_ws RX7 TX7 2 ++ ([] : List Cond)))
theorem tb_c_X7_add_1 : ∀ w ∈ wq_c_X7_add_1, q_g w := by
  unfold wq_c_X7_add_1 ow_c_X7_add_1
  exact q_cons tw_296 (q_app (q_cons tw_294 (q_cons tw_20 q_nil)) (q_app tu_X7 q_nil))
set_option maxHeartbeats 4000000 in
set_option maxRecDepth 100000 in
theorem c_X7_add_1 (l : Launch) (dC : Nat → ClassId) (dI : Nat → Nat → Nat) (h0 : Nat) (on : Int32) (tb : Nat) (cb : ClassId) (fz : Nat → Int32) (sz : Nat) : Met l yX7_add wq_c_X7_add_1 ({ frames := 0, cells := 0, slots := 0, locals := 0 } : Room) (va_Pc [.ref h0, .int on] (fun U => U.heap.size = sz ∧ va_P (dC, dI) vwCl [(h0, .inr (7, [.ref tb, .int 1])), (tb, .inl (cb, 200, .inl fz))] U.heap ∧ va_K (dC, dI) vwCl [(cb, .byte)] U ∧ va_D (fun _ => True) [(h0, .inr (7, [.ref tb, .int 1])), (tb, .inl (cb, 200, .inl fz))])) (va_Qv (fun (_ : Unit) => True) (fun (_ : Unit) t => ∃ (f2 : Nat → Int32), va_P (dC, dI) vwCl [(h0, .inr (7, [.ref tb, .int 2])), (tb, .inl (cb, 200, .inl f2))] t.heap ∧ va_K (dC, dI) vwCl [(cb, .byte)] t ∧ va_D (va_A [(h0, .inr (7, [.ref tb, .int 1])), (tb, .inl (cb, 200, .inl fz))] sz) [(h0, .inr (7, [.ref tb, .int 2])), (tb, .inl (cb, 200, .inl f2))]) (va_A [(h0, .inr (7, [.ref tb, .int 1])), (tb, .inl (cb, 200, .inl fz))] sz)) 0 0 (va_A [(h0, .inr (7, [.ref tb, .int 1])), (tb, .inl (cb, 200, .inl fz))] sz) := by
  refine Met.ofW (cc := cX7_add) (maxL := 2) (ret := none) (by decide) rfl ?_
  intro p e s m args below meth c s₁ B hml hv
  obtain ⟨rfl, hsz, hP, hK, hD0⟩ := hv
  have hx := B.exec
  have hb := B.bytes
  have hr := B.returns
  have hts := atoms_spec (ws := wq_c_X7_add_1) B.pre
  have hown : s.vm.findClass RX7 = some m.cls := findClass_of_methodNamed B.named
  have hlocks := B.notSynchronized
  subst hsz
  have hD := hD0.self (sz := s.heap.size)
  obtain ⟨A, hAe⟩ : ∃ A, A = va_A [(h0, .inr (7, [.ref tb, .int 1])), (tb, .inl (cb, 200, .inl fz))] s.heap.size := ⟨_, rfl⟩
  rw [← hAe] at hD ⊢
  have hA : ∀ q : Nat, s.heap.size ≤ q → A q := fun q h => by rw [hAe]; exact Or.inr h
  have hS : va_S A s.heap s.heap [] := va_S.rf
  have hP : va_P (dC, dI) vwCl [(h0, .inr (7, [.ref tb, .int 1])), (tb, .inl (cb, 200, .inl fz))] s.heap := hP
  have hl := lv_entry ([.ref h0, .int on]) (n := 2) (Nat.le_of_ble_eq_true rfl)
  rw [lg_entry_eq]
  generalize (lg_sl ([.ref h0, .int on]) ++ List.replicate (2 - (lg_sl ([.ref h0, .int on])).length) Slot.unset).toArray = ls at hl ⊢
  have hl : lv_has ls 2 [(0, .ref h0), (1, .int on)] := hl
  refine lv_aload_n hx hb dX7_add_0 rfl (lv_at hl 0 rfl) ?_
  refine va_get (D := (dC, dI)) (ci := 7) (v := .int 1) (C := RX7) (T := TX7) (N := 2) hx hb hts (fun _ h0_ => List.mem_cons_of_mem _ (List.mem_append_right _ (List.mem_append_left _ h0_))) hown hK hP 0 rfl rfl 1 (by decide) (hts (.fieldLink RX7 15 "DeadlineShare$Tape" "length" "I") (List.mem_cons_of_mem _ (List.mem_append_left _ (List.mem_of_getElem? (i := 0) rfl)))) (fun _ h9 => h9) rfl dX7_add_1 ?_
  refine lv_if_lt (tgt := 38) hx hb dX7_add_4 (by decide) (fun c => absurd c (by decide)) (fun _ => ?_)
  refine lv_aload_n hx hb dX7_add_7 rfl (lv_at hl 0 rfl) ?_
  refine va_get (D := (dC, dI)) (ci := 7) (v := .int 1) (C := RX7) (T := TX7) (N := 2) hx hb hts (fun _ h0_ => List.mem_cons_of_mem _ (List.mem_append_right _ (List.mem_append_left _ h0_))) hown hK hP 0 rfl rfl 1 (by decide) (hts (.fieldLink RX7 15 "DeadlineShare$Tape" "length" "I") (List.mem_cons_of_mem _ (List.mem_append_left _ (List.mem_of_getElem? (i := 0) rfl)))) (fun _ h9 => h9) rfl dX7_add_8 ?_
  refine lv_sipush (v := 200) hx hb dX7_add_11 (by decide) ?_
  refine lv_icmp_ge (tgt := 38) hx hb dX7_add_14 (by decide) (fun c => absurd c (by decide)) (fun _ => ?_)
  refine lv_aload_n hx hb dX7_add_17 rfl (lv_at hl 0 rfl) ?_
  refine va_get (D := (dC, dI)) (ci := 7) (v := .ref tb) (C := RX7) (T := TX7) (N := 2) hx hb hts (fun _ h0_ => List.mem_cons_of_mem _ (List.mem_append_right _ (List.mem_append_left _ h0_))) hown hK hP 0 rfl rfl 0 (by decide) (hts (.fieldLink RX7 11 "DeadlineShare$Tape" "bytes" "[B") (List.mem_cons_of_mem _ (List.mem_append_left _ (List.mem_of_getElem? (i := 1) rfl)))) (fun _ h9 => h9) rfl dX7_add_18 ?_
  refine lv_aload_n hx hb dX7_add_21 rfl (lv_at hl 0 rfl) ?_
  refine va_get (D := (dC, dI)) (ci := 7) (v := .int 1) (C := RX7) (T := TX7) (N := 2) hx hb hts (fun _ h0_ => List.mem_cons_of_mem _ (List.mem_append_right _ (List.mem_append_left _ h0_))) hown hK hP 0 rfl rfl 1 (by decide) (hts (.fieldLink RX7 15 "DeadlineShare$Tape" "length" "I") (List.mem_cons_of_mem _ (List.mem_append_left _ (List.mem_of_getElem? (i := 0) rfl)))) (fun _ h9 => h9) rfl dX7_add_22 ?_
  refine lv_iload_n hx hb dX7_add_25 rfl (lv_at hl 1 rfl) ?_
  refine lv_i2b (v := on.toInt8.toInt32) hx hb dX7_add_26 rfl ?_
  refine va_bast hx hb hK hP hD hS 1 0 rfl rfl (by unfold vp_in; decide) dX7_add_27 (fun H locs hP hD hS => ?_)
  have hP : va_P (dC, dI) vwCl [(h0, .inr (7, [.ref tb, .int 1])), (tb, .inl (cb, 200, .inl (upd fz (Int32.toNatClampNeg 1) (vp_nar .byte on.toInt8.toInt32))))] H := hP
  have hD : va_D A [(h0, .inr (7, [.ref tb, .int 1])), (tb, .inl (cb, 200, .inl (upd fz (Int32.toNatClampNeg 1) (vp_nar .byte on.toInt8.toInt32))))] := hD
  generalize ef_1 : upd fz (Int32.toNatClampNeg 1) (vp_nar .byte on.toInt8.toInt32) = f_1 at hP hD
  refine lv_aload_n hx hb dX7_add_28 rfl (lv_at hl 0 rfl) ?_
  refine lv_dup hx hb dX7_add_29 rfl ?_
  refine va_get (D := (dC, dI)) (ci := 7) (v := .int 1) (C := RX7) (T := TX7) (N := 2) hx hb hts (fun _ h0_ => List.mem_cons_of_mem _ (List.mem_append_right _ (List.mem_append_left _ h0_))) hown hK hP 0 rfl rfl 1 (by decide) (hts (.fieldLink RX7 15 "DeadlineShare$Tape" "length" "I") (List.mem_cons_of_mem _ (List.mem_append_left _ (List.mem_of_getElem? (i := 0) rfl)))) (fun _ h9 => h9) rfl dX7_add_30 ?_
  refine lv_iconst (v := 1) hx hb dX7_add_33 (by decide) ?_
  refine lv_iadd hx hb dX7_add_34 ?_
  refine k_topi (y := 2) (by decide) ?_
  refine va_put (D := (dC, dI)) (ci := 7) (v := .int 2) (ty := .int) (C := RX7) (T := TX7) (N := 2) hx hb hts (fun _ h0_ => List.mem_cons_of_mem _ (List.mem_append_right _ (List.mem_append_left _ h0_))) tyX7 tyX7_ok nmX7 hown hK hP hD hS 0 rfl rfl 1 (by decide) (hts (.fieldLink RX7 15 "DeadlineShare$Tape" "length" "I") (List.mem_cons_of_mem _ (List.mem_append_left _ (List.mem_of_getElem? (i := 0) rfl)))) (fun _ h9 => h9) rfl (by decide +kernel) rfl rfl (Nat.le_of_ble_eq_true rfl) dX7_add_35 (fun H locs hP hD hS => ?_)
  have hP : va_P (dC, dI) vwCl [(h0, .inr (7, [.ref tb, .int 2])), (tb, .inl (cb, 200, .inl f_1))] H := hP
  have hD : va_D A [(h0, .inr (7, [.ref tb, .int 2])), (tb, .inl (cb, 200, .inl f_1))] := hD
  have hP9 := hP.sub (ws' := [(h0, .inr (7, [.ref tb, .int 2])), (tb, .inl (cb, 200, .inl f_1))]) [0, 1] rfl
  have hD9 := hD.sub (ws' := [(h0, .inr (7, [.ref tb, .int 2])), (tb, .inl (cb, 200, .inl f_1))]) [0, 1] (by decide) rfl
  have hK9 := hK.sub (tys' := [(cb, .byte)]) [0] rfl
  refine W.widen (k := 0) (n := 0) (Nat.le_of_ble_eq_true rfl) (Nat.le_of_ble_eq_true rfl) ?_
  exact W.vret hx hb hr (fun t ht hW => ⟨⟨(), rfl, trivial, f_1, by rw [ht]; exact hP9, va_K.moved hW.alike hK9, hD9⟩, hS.F ht⟩) hS.2.2 dX7_add_38
def ow_c_X7_add_2 : List Cond := [.fieldLink RX7 15 "DeadlineShare$Tape" "length" "I", .fieldLink RX7 11 "DeadlineShare$Tape" "bytes" "[B"]
def wq_c_X7_add_2 : List Cond := .code yX7_add cX7_add 2 none :: (ow_c_X7_add_2 ++ (u_ws RX7 TX7 2 ++ ([] : List Cond)))
theorem tb_c_X7_add_2 : ∀ w ∈ wq_c_X7_add_2, q_g w := by
  unfold wq_c_X7_add_2 ow_c_X7_add_2
  exact q_cons tw_296 (q_app (q_cons tw_294 (q_cons tw_20 q_nil)) (q_app tu_X7 q_nil))
set_option maxHeartbeats 4000000 in
set_option maxRecDepth 100000 in
theorem c_X7_add_2 (l : Launch) (dC : Nat → ClassId) (dI : Nat → Nat → Nat) (h0 : Nat) (on : Int32) (tb : Nat) (cb : ClassId) (fz : Nat → Int32) (sz : Nat) : Met l yX7_add wq_c_X7_add_2 ({ frames := 0, cells := 0, slots := 0, locals := 0 } : Room) (va_Pc [.ref h0, .int on] (fun U => U.heap.size = sz ∧ va_P (dC, dI) vwCl [(h0, .inr (7, [.ref tb, .int 2])), (tb, .inl (cb, 200, .inl fz))] U.heap ∧ va_K (dC, dI) vwCl [(cb, .byte)] U ∧ va_D (fun _ => True) [(h0, .inr (7, [.ref tb, .int 2])), (tb, .inl (cb, 200, .inl fz))])) (va_Qv (fun (_ : Unit) => True) (fun (_ : Unit) t => ∃ (f2 : Nat → Int32), va_P (dC, dI) vwCl [(h0, .inr (7, [.ref tb, .int 3])), (tb, .inl (cb, 200, .inl f2))] t.heap ∧ va_K (dC, dI) vwCl [(cb, .byte)] t ∧ va_D (va_A [(h0, .inr (7, [.ref tb, .int 2])), (tb, .inl (cb, 200, .inl fz))] sz) [(h0, .inr (7, [.ref tb, .int 3])), (tb, .inl (cb, 200, .inl f2))]) (va_A [(h0, .inr (7, [.ref tb, .int 2])), (tb, .inl (cb, 200, .inl fz))] sz)) 0 0 (va_A [(h0, .inr (7, [.ref tb, .int 2])), (tb, .inl (cb, 200, .inl fz))] sz) := by
  refine Met.ofW (cc := cX7_add) (maxL := 2) (ret := none) (by decide) rfl ?_
  intro p e s m args below meth c s₁ B hml hv
  obtain ⟨rfl, hsz, hP, hK, hD0⟩ := hv
  have hx := B.exec
  have hb := B.bytes
  have hr := B.returns
  have hts := atoms_spec (ws := wq_c_X7_add_2) B.pre
  have hown : s.vm.findClass RX7 = some m.cls := findClass_of_methodNamed B.named
  have hlocks := B.notSynchronized
  subst hsz
  have hD := hD0.self (sz := s.heap.size)
  obtain ⟨A, hAe⟩ : ∃ A, A = va_A [(h0, .inr (7, [.ref tb, .int 2])), (tb, .inl (cb, 200, .inl fz))] s.heap.size := ⟨_, rfl⟩
  rw [← hAe] at hD ⊢
  have hA : ∀ q : Nat, s.heap.size ≤ q → A q := fun q h => by rw [hAe]; exact Or.inr h
  have hS : va_S A s.heap s.heap [] := va_S.rf
  have hP : va_P (dC, dI) vwCl [(h0, .inr (7, [.ref tb, .int 2])), (tb, .inl (cb, 200, .inl fz))] s.heap := hP
  have hl := lv_entry ([.ref h0, .int on]) (n := 2) (Nat.le_of_ble_eq_true rfl)
  rw [lg_entry_eq]
  generalize (lg_sl ([.ref h0, .int on]) ++ List.replicate (2 - (lg_sl ([.ref h0, .int on])).length) Slot.unset).toArray = ls at hl ⊢
  have hl : lv_has ls 2 [(0, .ref h0), (1, .int on)] := hl
  refine lv_aload_n hx hb dX7_add_0 rfl (lv_at hl 0 rfl) ?_
  refine va_get (D := (dC, dI)) (ci := 7) (v := .int 2) (C := RX7) (T := TX7) (N := 2) hx hb hts (fun _ h0_ => List.mem_cons_of_mem _ (List.mem_append_right _ (List.mem_append_left _ h0_))) hown hK hP 0 rfl rfl 1 (by decide) (hts (.fieldLink RX7 15 "DeadlineShare$Tape" "length" "I") (List.mem_cons_of_mem _ (List.mem_append_left _ (List.mem_of_getElem? (i := 0) rfl)))) (fun _ h9 => h9) rfl dX7_add_1 ?_
  refine lv_if_lt (tgt := 38) hx hb dX7_add_4 (by decide) (fun c => absurd c (by decide)) (fun _ => ?_)
  refine lv_aload_n hx hb dX7_add_7 rfl (lv_at hl 0 rfl) ?_
  refine va_get (D := (dC, dI)) (ci := 7) (v := .int 2) (C := RX7) (T := TX7) (N := 2) hx hb hts (fun _ h0_ => List.mem_cons_of_mem _ (List.mem_append_right _ (List.mem_append_left _ h0_))) hown hK hP 0 rfl rfl 1 (by decide) (hts (.fieldLink RX7 15 "DeadlineShare$Tape" "length" "I") (List.mem_cons_of_mem _ (List.mem_append_left _ (List.mem_of_getElem? (i := 0) rfl)))) (fun _ h9 => h9) rfl dX7_add_8 ?_
  refine lv_sipush (v := 200) hx hb dX7_add_11 (by decide) ?_
  refine lv_icmp_ge (tgt := 38) hx hb dX7_add_14 (by decide) (fun c => absurd c (by decide)) (fun _ => ?_)
  refine lv_aload_n hx hb dX7_add_17 rfl (lv_at hl 0 rfl) ?_
  refine va_get (D := (dC, dI)) (ci := 7) (v := .ref tb) (C := RX7) (T := TX7) (N := 2) hx hb hts (fun _ h0_ => List.mem_cons_of_mem _ (List.mem_append_right _ (List.mem_append_left _ h0_))) hown hK hP 0 rfl rfl 0 (by decide) (hts (.fieldLink RX7 11 "DeadlineShare$Tape" "bytes" "[B") (List.mem_cons_of_mem _ (List.mem_append_left _ (List.mem_of_getElem? (i := 1) rfl)))) (fun _ h9 => h9) rfl dX7_add_18 ?_
  refine lv_aload_n hx hb dX7_add_21 rfl (lv_at hl 0 rfl) ?_
  refine va_get (D := (dC, dI)) (ci := 7) (v := .int 2) (C := RX7) (T := TX7) (N := 2) hx hb hts (fun _ h0_ => List.mem_cons_of_mem _ (List.mem_append_right _ (List.mem_append_left _ h0_))) hown hK hP 0 rfl rfl 1 (by decide) (hts (.fieldLink RX7 15 "DeadlineShare$Tape" "length" "I") (List.mem_cons_of_mem _ (List.mem_append_left _ (List.mem_of_getElem? (i := 0) rfl)))) (fun _ h9 => h9) rfl dX7_add_22 ?_
  refine lv_iload_n hx hb dX7_add_25 rfl (lv_at hl 1 rfl) ?_
  refine lv_i2b (v := on.toInt8.toInt32) hx hb dX7_add_26 rfl ?_
  refine va_bast hx hb hK hP hD hS 1 0 rfl rfl (by unfold vp_in; decide) dX7_add_27 (fun H locs hP hD hS => ?_)
  have hP : va_P (dC, dI) vwCl [(h0, .inr (7, [.ref tb, .int 2])), (tb, .inl (cb, 200, .inl (upd fz (Int32.toNatClampNeg 2) (vp_nar .byte on.toInt8.toInt32))))] H := hP
  have hD : va_D A [(h0, .inr (7, [.ref tb, .int 2])), (tb, .inl (cb, 200, .inl (upd fz (Int32.toNatClampNeg 2) (vp_nar .byte on.toInt8.toInt32))))] := hD
  generalize ef_1 : upd fz (Int32.toNatClampNeg 2) (vp_nar .byte on.toInt8.toInt32) = f_1 at hP hD
  refine lv_aload_n hx hb dX7_add_28 rfl (lv_at hl 0 rfl) ?_
  refine lv_dup hx hb dX7_add_29 rfl ?_
  refine va_get (D := (dC, dI)) (ci := 7) (v := .int 2) (C := RX7) (T := TX7) (N := 2) hx hb hts (fun _ h0_ => List.mem_cons_of_mem _ (List.mem_append_right _ (List.mem_append_left _ h0_))) hown hK hP 0 rfl rfl 1 (by decide) (hts (.fieldLink RX7 15 "DeadlineShare$Tape" "length" "I") (List.mem_cons_of_mem _ (List.mem_append_left _ (List.mem_of_getElem? (i := 0) rfl)))) (fun _ h9 => h9) rfl dX7_add_30 ?_
  refine lv_iconst (v := 1) hx hb dX7_add_33 (by decide) ?_
  refine lv_iadd hx hb dX7_add_34 ?_
  refine k_topi (y := 3) (by decide) ?_
  refine va_put (D := (dC, dI)) (ci := 7) (v := .int 3) (ty := .int) (C := RX7) (T := TX7) (N := 2) hx hb hts (fun _ h0_ => List.mem_cons_of_mem _ (List.mem_append_right _ (List.mem_append_left _ h0_))) tyX7 tyX7_ok nmX7 hown hK hP hD hS 0 rfl rfl 1 (by decide) (hts (.fieldLink RX7 15 "DeadlineShare$Tape" "length" "I") (List.mem_cons_of_mem _ (List.mem_append_left _ (List.mem_of_getElem? (i := 0) rfl)))) (fun _ h9 => h9) rfl (by decide +kernel) rfl rfl (Nat.le_of_ble_eq_true rfl) dX7_add_35 (fun H locs hP hD hS => ?_)
  have hP : va_P (dC, dI) vwCl [(h0, .inr (7, [.ref tb, .int 3])), (tb, .inl (cb, 200, .inl f_1))] H := hP
  have hD : va_D A [(h0, .inr (7, [.ref tb, .int 3])), (tb, .inl (cb, 200, .inl f_1))] := hD
  have hP9 := hP.sub (ws' := [(h0, .inr (7, [.ref tb, .int 3])), (tb, .inl (cb, 200, .inl f_1))]) [0, 1] rfl
  have hD9 := hD.sub (ws' := [(h0, .inr (7, [.ref tb, .int 3])), (tb, .inl (cb, 200, .inl f_1))]) [0, 1] (by decide) rfl
  have hK9 := hK.sub (tys' := [(cb, .byte)]) [0] rfl
  refine W.widen (k := 0) (n := 0) (Nat.le_of_ble_eq_true rfl) (Nat.le_of_ble_eq_true rfl) ?_
  exact W.vret hx hb hr (fun t ht hW => ⟨⟨(), rfl, trivial, f_1, by rw [ht]; exact hP9, va_K.moved hW.alike hK9, hD9⟩, hS.F ht⟩) hS.2.2 dX7_add_38
def ow_c_X7_add_3 : List Cond := [.fieldLink RX7 15 "DeadlineShare$Tape" "length" "I", .fieldLink RX7 11 "DeadlineShare$Tape" "bytes" "[B"]
def wq_c_X7_add_3 : List Cond := .code yX7_add cX7_add 2 none :: (ow_c_X7_add_3 ++ (u_ws RX7 TX7 2 ++ ([] : List Cond)))
theorem tb_c_X7_add_3 : ∀ w ∈ wq_c_X7_add_3, q_g w := by
  unfold wq_c_X7_add_3 ow_c_X7_add_3
  exact q_cons tw_296 (q_app (q_cons tw_294 (q_cons tw_20 q_nil)) (q_app tu_X7 q_nil))
set_option maxHeartbeats 4000000 in
set_option maxRecDepth 100000 in
theorem c_X7_add_3 (l : Launch) (dC : Nat → ClassId) (dI : Nat → Nat → Nat) (h0 : Nat) (on : Int32) (tb : Nat) (cb : ClassId) (fz : Nat → Int32) (sz : Nat) : Met l yX7_add wq_c_X7_add_3 ({ frames := 0, cells := 0, slots := 0, locals := 0 } : Room) (va_Pc [.ref h0, .int on] (fun U => U.heap.size = sz ∧ va_P (dC, dI) vwCl [(h0, .inr (7, [.ref tb, .int 3])), (tb, .inl (cb, 200, .inl fz))] U.heap ∧ va_K (dC, dI) vwCl [(cb, .byte)] U ∧ va_D (fun _ => True) [(h0, .inr (7, [.ref tb, .int 3])), (tb, .inl (cb, 200, .inl fz))])) (va_Qv (fun (_ : Unit) => True) (fun (_ : Unit) t => ∃ (f2 : Nat → Int32), va_P (dC, dI) vwCl [(h0, .inr (7, [.ref tb, .int 4])), (tb, .inl (cb, 200, .inl f2))] t.heap ∧ va_K (dC, dI) vwCl [(cb, .byte)] t ∧ va_D (va_A [(h0, .inr (7, [.ref tb, .int 3])), (tb, .inl (cb, 200, .inl fz))] sz) [(h0, .inr (7, [.ref tb, .int 4])), (tb, .inl (cb, 200, .inl f2))]) (va_A [(h0, .inr (7, [.ref tb, .int 3])), (tb, .inl (cb, 200, .inl fz))] sz)) 0 0 (va_A [(h0, .inr (7, [.ref tb, .int 3])), (tb, .inl (cb, 200, .inl fz))] sz) := by
  refine Met.ofW (cc := cX7_add) (maxL := 2) (ret := none) (by decide) rfl ?_
  intro p e s m args below meth c s₁ B hml hv
  obtain ⟨rfl, hsz, hP, hK, hD0⟩ := hv
  have hx := B.exec
  have hb := B.bytes
  have hr := B.returns
  have hts := atoms_spec (ws := wq_c_X7_add_3) B.pre
  have hown : s.vm.findClass RX7 = some m.cls := findClass_of_methodNamed B.named
  have hlocks := B.notSynchronized
  subst hsz
  have hD := hD0.self (sz := s.heap.size)
  obtain ⟨A, hAe⟩ : ∃ A, A = va_A [(h0, .inr (7, [.ref tb, .int 3])), (tb, .inl (cb, 200, .inl fz))] s.heap.size := ⟨_, rfl⟩
  rw [← hAe] at hD ⊢
  have hA : ∀ q : Nat, s.heap.size ≤ q → A q := fun q h => by rw [hAe]; exact Or.inr h
  have hS : va_S A s.heap s.heap [] := va_S.rf
  have hP : va_P (dC, dI) vwCl [(h0, .inr (7, [.ref tb, .int 3])), (tb, .inl (cb, 200, .inl fz))] s.heap := hP
  have hl := lv_entry ([.ref h0, .int on]) (n := 2) (Nat.le_of_ble_eq_true rfl)
  rw [lg_entry_eq]
  generalize (lg_sl ([.ref h0, .int on]) ++ List.replicate (2 - (lg_sl ([.ref h0, .int on])).length) Slot.unset).toArray = ls at hl ⊢
  have hl : lv_has ls 2 [(0, .ref h0), (1, .int on)] := hl
  refine lv_aload_n hx hb dX7_add_0 rfl (lv_at hl 0 rfl) ?_
  refine va_get (D := (dC, dI)) (ci := 7) (v := .int 3) (C := RX7) (T := TX7) (N := 2) hx hb hts (fun _ h0_ => List.mem_cons_of_mem _ (List.mem_append_right _ (List.mem_append_left _ h0_))) hown hK hP 0 rfl rfl 1 (by decide) (hts (.fieldLink RX7 15 "DeadlineShare$Tape" "length" "I") (List.mem_cons_of_mem _ (List.mem_append_left _ (List.mem_of_getElem? (i := 0) rfl)))) (fun _ h9 => h9) rfl dX7_add_1 ?_
  refine lv_if_lt (tgt := 38) hx hb dX7_add_4 (by decide) (fun c => absurd c (by decide)) (fun _ => ?_)
  refine lv_aload_n hx hb dX7_add_7 rfl (lv_at hl 0 rfl) ?_
  refine va_get (D := (dC, dI)) (ci := 7) (v := .int 3) (C := RX7) (T := TX7) (N := 2) hx hb hts (fun _ h0_ => List.mem_cons_of_mem _ (List.mem_append_right _ (List.mem_append_left _ h0_))) hown hK hP 0 rfl rfl 1 (by decide) (hts (.fieldLink RX7 15 "DeadlineShare$Tape" "length" "I") (List.mem_cons_of_mem _ (List.mem_append_left _ (List.mem_of_getElem? (i := 0) rfl)))) (fun _ h9 => h9) rfl dX7_add_8 ?_
  refine lv_sipush (v := 200) hx hb dX7_add_11 (by decide) ?_
  refine lv_icmp_ge (tgt := 38) hx hb dX7_add_14 (by decide) (fun c => absurd c (by decide)) (fun _ => ?_)
  refine lv_aload_n hx hb dX7_add_17 rfl (lv_at hl 0 rfl) ?_
  refine va_get (D := (dC, dI)) (ci := 7) (v := .ref tb) (C := RX7) (T := TX7) (N := 2) hx hb hts (fun _ h0_ => List.mem_cons_of_mem _ (List.mem_append_right _ (List.mem_append_left _ h0_))) hown hK hP 0 rfl rfl 0 (by decide) (hts (.fieldLink RX7 11 "DeadlineShare$Tape" "bytes" "[B") (List.mem_cons_of_mem _ (List.mem_append_left _ (List.mem_of_getElem? (i := 1) rfl)))) (fun _ h9 => h9) rfl dX7_add_18 ?_
  refine lv_aload_n hx hb dX7_add_21 rfl (lv_at hl 0 rfl) ?_
  refine va_get (D := (dC, dI)) (ci := 7) (v := .int 3) (C := RX7) (T := TX7) (N := 2) hx hb hts (fun _ h0_ => List.mem_cons_of_mem _ (List.mem_append_right _ (List.mem_append_left _ h0_))) hown hK hP 0 rfl rfl 1 (by decide) (hts (.fieldLink RX7 15 "DeadlineShare$Tape" "length" "I") (List.mem_cons_of_mem _ (List.mem_append_left _ (List.mem_of_getElem? (i := 0) rfl)))) (fun _ h9 => h9) rfl dX7_add_22 ?_
  refine lv_iload_n hx hb dX7_add_25 rfl (lv_at hl 1 rfl) ?_
  refine lv_i2b (v := on.toInt8.toInt32) hx hb dX7_add_26 rfl ?_
  refine va_bast hx hb hK hP hD hS 1 0 rfl rfl (by unfold vp_in; decide) dX7_add_27 (fun H locs hP hD hS => ?_)
  have hP : va_P (dC, dI) vwCl [(h0, .inr (7, [.ref tb, .int 3])), (tb, .inl (cb, 200, .inl (upd fz (Int32.toNatClampNeg 3) (vp_nar .byte on.toInt8.toInt32))))] H := hP
  have hD : va_D A [(h0, .inr (7, [.ref tb, .int 3])), (tb, .inl (cb, 200, .inl (upd fz (Int32.toNatClampNeg 3) (vp_nar .byte on.toInt8.toInt32))))] := hD
  generalize ef_1 : upd fz (Int32.toNatClampNeg 3) (vp_nar .byte on.toInt8.toInt32) = f_1 at hP hD
  refine lv_aload_n hx hb dX7_add_28 rfl (lv_at hl 0 rfl) ?_
  refine lv_dup hx hb dX7_add_29 rfl ?_
  refine va_get (D := (dC, dI)) (ci := 7) (v := .int 3) (C := RX7) (T := TX7) (N := 2) hx hb hts (fun _ h0_ => List.mem_cons_of_mem _ (List.mem_append_right _ (List.mem_append_left _ h0_))) hown hK hP 0 rfl rfl 1 (by decide) (hts (.fieldLink RX7 15 "DeadlineShare$Tape" "length" "I") (List.mem_cons_of_mem _ (List.mem_append_left _ (List.mem_of_getElem? (i := 0) rfl)))) (fun _ h9 => h9) rfl dX7_add_30 ?_
  refine lv_iconst (v := 1) hx hb dX7_add_33 (by decide) ?_
  refine lv_iadd hx hb dX7_add_34 ?_
  refine k_topi (y := 4) (by decide) ?_
  refine va_put (D := (dC, dI)) (ci := 7) (v := .int 4) (ty := .int) (C := RX7) (T := TX7) (N := 2) hx hb hts (fun _ h0_ => List.mem_cons_of_mem _ (List.mem_append_right _ (List.mem_append_left _ h0_))) tyX7 tyX7_ok nmX7 hown hK hP hD hS 0 rfl rfl 1 (by decide) (hts (.fieldLink RX7 15 "DeadlineShare$Tape" "length" "I") (List.mem_cons_of_mem _ (List.mem_append_left _ (List.mem_of_getElem? (i := 0) rfl)))) (fun _ h9 => h9) rfl (by decide +kernel) rfl rfl (Nat.le_of_ble_eq_true rfl) dX7_add_35 (fun H locs hP hD hS => ?_)
  have hP : va_P (dC, dI) vwCl [(h0, .inr (7, [.ref tb, .int 4])), (tb, .inl (cb, 200, .inl f_1))] H := hP
  have hD : va_D A [(h0, .inr (7, [.ref tb, .int 4])), (tb, .inl (cb, 200, .inl f_1))] := hD
  have hP9 := hP.sub (ws' := [(h0, .inr (7, [.ref tb, .int 4])), (tb, .inl (cb, 200, .inl f_1))]) [0, 1] rfl
  have hD9 := hD.sub (ws' := [(h0, .inr (7, [.ref tb, .int 4])), (tb, .inl (cb, 200, .inl f_1))]) [0, 1] (by decide) rfl
  have hK9 := hK.sub (tys' := [(cb, .byte)]) [0] rfl
  refine W.widen (k := 0) (n := 0) (Nat.le_of_ble_eq_true rfl) (Nat.le_of_ble_eq_true rfl) ?_
  exact W.vret hx hb hr (fun t ht hW => ⟨⟨(), rfl, trivial, f_1, by rw [ht]; exact hP9, va_K.moved hW.alike hK9, hD9⟩, hS.F ht⟩) hS.2.2 dX7_add_38
def ow_c_X7_add_4 : List Cond := [.fieldLink RX7 15 "DeadlineShare$Tape" "length" "I", .fieldLink RX7 11 "DeadlineShare$Tape" "bytes" "[B"]
def wq_c_X7_add_4 : List Cond := .code yX7_add cX7_add 2 none :: (ow_c_X7_add_4 ++ (u_ws RX7 TX7 2 ++ ([] : List Cond)))
theorem tb_c_X7_add_4 : ∀ w ∈ wq_c_X7_add_4, q_g w := by
  unfold wq_c_X7_add_4 ow_c_X7_add_4
  exact q_cons tw_296 (q_app (q_cons tw_294 (q_cons tw_20 q_nil)) (q_app tu_X7 q_nil))
set_option maxHeartbeats 4000000 in
set_option maxRecDepth 100000 in
theorem c_X7_add_4 (l : Launch) (dC : Nat → ClassId) (dI : Nat → Nat → Nat) (h0 : Nat) (on : Int32) (tb : Nat) (cb : ClassId) (fz : Nat → Int32) (sz : Nat) : Met l yX7_add wq_c_X7_add_4 ({ frames := 0, cells := 0, slots := 0, locals := 0 } : Room) (va_Pc [.ref h0, .int on] (fun U => U.heap.size = sz ∧ va_P (dC, dI) vwCl [(h0, .inr (7, [.ref tb, .int 4])), (tb, .inl (cb, 200, .inl fz))] U.heap ∧ va_K (dC, dI) vwCl [(cb, .byte)] U ∧ va_D (fun _ => True) [(h0, .inr (7, [.ref tb, .int 4])), (tb, .inl (cb, 200, .inl fz))])) (va_Qv (fun (_ : Unit) => True) (fun (_ : Unit) t => ∃ (f2 : Nat → Int32), va_P (dC, dI) vwCl [(h0, .inr (7, [.ref tb, .int 5])), (tb, .inl (cb, 200, .inl f2))] t.heap ∧ va_K (dC, dI) vwCl [(cb, .byte)] t ∧ va_D (va_A [(h0, .inr (7, [.ref tb, .int 4])), (tb, .inl (cb, 200, .inl fz))] sz) [(h0, .inr (7, [.ref tb, .int 5])), (tb, .inl (cb, 200, .inl f2))]) (va_A [(h0, .inr (7, [.ref tb, .int 4])), (tb, .inl (cb, 200, .inl fz))] sz)) 0 0 (va_A [(h0, .inr (7, [.ref tb, .int 4])), (tb, .inl (cb, 200, .inl fz))] sz) := by
  refine Met.ofW (cc := cX7_add) (maxL := 2) (ret := none) (by decide) rfl ?_
  intro p e s m args below meth c s₁ B hml hv
  obtain ⟨rfl, hsz, hP, hK, hD0⟩ := hv
  have hx := B.exec
  have hb := B.bytes
  have hr := B.returns
  have hts := atoms_spec (ws := wq_c_X7_add_4) B.pre
  have hown : s.vm.findClass RX7 = some m.cls := findClass_of_methodNamed B.named
  have hlocks := B.notSynchronized
  subst hsz
  have hD := hD0.self (sz := s.heap.size)
  obtain ⟨A, hAe⟩ : ∃ A, A = va_A [(h0, .inr (7, [.ref tb, .int 4])), (tb, .inl (cb, 200, .inl fz))] s.heap.size := ⟨_, rfl⟩
  rw [← hAe] at hD ⊢
  have hA : ∀ q : Nat, s.heap.size ≤ q → A q := fun q h => by rw [hAe]; exact Or.inr h
  have hS : va_S A s.heap s.heap [] := va_S.rf
  have hP : va_P (dC, dI) vwCl [(h0, .inr (7, [.ref tb, .int 4])), (tb, .inl (cb, 200, .inl fz))] s.heap := hP
  have hl := lv_entry ([.ref h0, .int on]) (n := 2) (Nat.le_of_ble_eq_true rfl)
  rw [lg_entry_eq]
  generalize (lg_sl ([.ref h0, .int on]) ++ List.replicate (2 - (lg_sl ([.ref h0, .int on])).length) Slot.unset).toArray = ls at hl ⊢
  have hl : lv_has ls 2 [(0, .ref h0), (1, .int on)] := hl
  refine lv_aload_n hx hb dX7_add_0 rfl (lv_at hl 0 rfl) ?_
  refine va_get (D := (dC, dI)) (ci := 7) (v := .int 4) (C := RX7) (T := TX7) (N := 2) hx hb hts (fun _ h0_ => List.mem_cons_of_mem _ (List.mem_append_right _ (List.mem_append_left _ h0_))) hown hK hP 0 rfl rfl 1 (by decide) (hts (.fieldLink RX7 15 "DeadlineShare$Tape" "length" "I") (List.mem_cons_of_mem _ (List.mem_append_left _ (List.mem_of_getElem? (i := 0) rfl)))) (fun _ h9 => h9) rfl dX7_add_1 ?_
  refine lv_if_lt (tgt := 38) hx hb dX7_add_4 (by decide) (fun c => absurd c (by decide)) (fun _ => ?_)
  refine lv_aload_n hx hb dX7_add_7 rfl (lv_at hl 0 rfl) ?_
  refine va_get (D := (dC, dI)) (ci := 7) (v := .int 4) (C := RX7) (T := TX7) (N := 2) hx hb hts (fun _ h0_ => List.mem_cons_of_mem _ (List.mem_append_right _ (List.mem_append_left _ h0_))) hown hK hP 0 rfl rfl 1 (by decide) (hts (.fieldLink RX7 15 "DeadlineShare$Tape" "length" "I") (List.mem_cons_of_mem _ (List.mem_append_left _ (List.mem_of_getElem? (i := 0) rfl)))) (fun _ h9 => h9) rfl dX7_add_8 ?_
  refine lv_sipush (v := 200) hx hb dX7_add_11 (by decide) ?_
  refine lv_icmp_ge (tgt := 38) hx hb dX7_add_14 (by decide) (fun c => absurd c (by decide)) (fun _ => ?_)
  refine lv_aload_n hx hb dX7_add_17 rfl (lv_at hl 0 rfl) ?_
  refine va_get (D := (dC, dI)) (ci := 7) (v := .ref tb) (C := RX7) (T := TX7) (N := 2) hx hb hts (fun _ h0_ => List.mem_cons_of_mem _ (List.mem_append_right _ (List.mem_append_left _ h0_))) hown hK hP 0 rfl rfl 0 (by decide) (hts (.fieldLink RX7 11 "DeadlineShare$Tape" "bytes" "[B") (List.mem_cons_of_mem _ (List.mem_append_left _ (List.mem_of_getElem? (i := 1) rfl)))) (fun _ h9 => h9) rfl dX7_add_18 ?_
  refine lv_aload_n hx hb dX7_add_21 rfl (lv_at hl 0 rfl) ?_
  refine va_get (D := (dC, dI)) (ci := 7) (v := .int 4) (C := RX7) (T := TX7) (N := 2) hx hb hts (fun _ h0_ => List.mem_cons_of_mem _ (List.mem_append_right _ (List.mem_append_left _ h0_))) hown hK hP 0 rfl rfl 1 (by decide) (hts (.fieldLink RX7 15 "DeadlineShare$Tape" "length" "I") (List.mem_cons_of_mem _ (List.mem_append_left _ (List.mem_of_getElem? (i := 0) rfl)))) (fun _ h9 => h9) rfl dX7_add_22 ?_
  refine lv_iload_n hx hb dX7_add_25 rfl (lv_at hl 1 rfl) ?_
  refine lv_i2b (v := on.toInt8.toInt32) hx hb dX7_add_26 rfl ?_
  refine va_bast hx hb hK hP hD hS 1 0 rfl rfl (by unfold vp_in; decide) dX7_add_27 (fun H locs hP hD hS => ?_)
  have hP : va_P (dC, dI) vwCl [(h0, .inr (7, [.ref tb, .int 4])), (tb, .inl (cb, 200, .inl (upd fz (Int32.toNatClampNeg 4) (vp_nar .byte on.toInt8.toInt32))))] H := hP
  have hD : va_D A [(h0, .inr (7, [.ref tb, .int 4])), (tb, .inl (cb, 200, .inl (upd fz (Int32.toNatClampNeg 4) (vp_nar .byte on.toInt8.toInt32))))] := hD
  generalize ef_1 : upd fz (Int32.toNatClampNeg 4) (vp_nar .byte on.toInt8.toInt32) = f_1 at hP hD
  refine lv_aload_n hx hb dX7_add_28 rfl (lv_at hl 0 rfl) ?_
  refine lv_dup hx hb dX7_add_29 rfl ?_
  refine va_get (D := (dC, dI)) (ci := 7) (v := .int 4) (C := RX7) (T := TX7) (N := 2) hx hb hts (fun _ h0_ => List.mem_cons_of_mem _ (List.mem_append_right _ (List.mem_append_left _ h0_))) hown hK hP 0 rfl rfl 1 (by decide) (hts (.fieldLink RX7 15 "DeadlineShare$Tape" "length" "I") (List.mem_cons_of_mem _ (List.mem_append_left _ (List.mem_of_getElem? (i := 0) rfl)))) (fun _ h9 => h9) rfl dX7_add_30 ?_
  refine lv_iconst (v := 1) hx hb dX7_add_33 (by decide) ?_
  refine lv_iadd hx hb dX7_add_34 ?_
  refine k_topi (y := 5) (by decide) ?_
  refine va_put (D := (dC, dI)) (ci := 7) (v := .int 5) (ty := .int) (C := RX7) (T := TX7) (N := 2) hx hb hts (fun _ h0_ => List.mem_cons_of_mem _ (List.mem_append_right _ (List.mem_append_left _ h0_))) tyX7 tyX7_ok nmX7 hown hK hP hD hS 0 rfl rfl 1 (by decide) (hts (.fieldLink RX7 15 "DeadlineShare$Tape" "length" "I") (List.mem_cons_of_mem _ (List.mem_append_left _ (List.mem_of_getElem? (i := 0) rfl)))) (fun _ h9 => h9) rfl (by decide +kernel) rfl rfl (Nat.le_of_ble_eq_true rfl) dX7_add_35 (fun H locs hP hD hS => ?_)
  have hP : va_P (dC, dI) vwCl [(h0, .inr (7, [.ref tb, .int 5])), (tb, .inl (cb, 200, .inl f_1))] H := hP
  have hD : va_D A [(h0, .inr (7, [.ref tb, .int 5])), (tb, .inl (cb, 200, .inl f_1))] := hD
  have hP9 := hP.sub (ws' := [(h0, .inr (7, [.ref tb, .int 5])), (tb, .inl (cb, 200, .inl f_1))]) [0, 1] rfl
  have hD9 := hD.sub (ws' := [(h0, .inr (7, [.ref tb, .int 5])), (tb, .inl (cb, 200, .inl f_1))]) [0, 1] (by decide) rfl
  have hK9 := hK.sub (tys' := [(cb, .byte)]) [0] rfl
  refine W.widen (k := 0) (n := 0) (Nat.le_of_ble_eq_true rfl) (Nat.le_of_ble_eq_true rfl) ?_
  exact W.vret hx hb hr (fun t ht hW => ⟨⟨(), rfl, trivial, f_1, by rw [ht]; exact hP9, va_K.moved hW.alike hK9, hD9⟩, hS.F ht⟩) hS.2.2 dX7_add_38
def ow_c_X7_add_5 : List Cond := [.fieldLink RX7 15 "DeadlineShare$Tape" "length" "I", .fieldLink RX7 11 "DeadlineShare$Tape" "bytes" "[B"]
def wq_c_X7_add_5 : List Cond := .code yX7_add cX7_add 2 none :: (ow_c_X7_add_5 ++ (u_ws RX7 TX7 2 ++ ([] : List Cond)))
theorem tb_c_X7_add_5 : ∀ w ∈ wq_c_X7_add_5, q_g w := by
  unfold wq_c_X7_add_5 ow_c_X7_add_5
  exact q_cons tw_296 (q_app (q_cons tw_294 (q_cons tw_20 q_nil)) (q_app tu_X7 q_nil))
set_option maxHeartbeats 4000000 in
set_option maxRecDepth 100000 in
theorem c_X7_add_5 (l : Launch) (dC : Nat → ClassId) (dI : Nat → Nat → Nat) (h0 : Nat) (on : Int32) (tb : Nat) (cb : ClassId) (fz : Nat → Int32) (sz : Nat) : Met l yX7_add wq_c_X7_add_5 ({ frames := 0, cells := 0, slots := 0, locals := 0 } : Room) (va_Pc [.ref h0, .int on] (fun U => U.heap.size = sz ∧ va_P (dC, dI) vwCl [(h0, .inr (7, [.ref tb, .int 5])), (tb, .inl (cb, 200, .inl fz))] U.heap ∧ va_K (dC, dI) vwCl [(cb, .byte)] U ∧ va_D (fun _ => True) [(h0, .inr (7, [.ref tb, .int 5])), (tb, .inl (cb, 200, .inl fz))])) (va_Qv (fun (_ : Unit) => True) (fun (_ : Unit) t => ∃ (f2 : Nat → Int32), va_P (dC, dI) vwCl [(h0, .inr (7, [.ref tb, .int 6])), (tb, .inl (cb, 200, .inl f2))] t.heap ∧ va_K (dC, dI) vwCl [(cb, .byte)] t ∧ va_D (va_A [(h0, .inr (7, [.ref tb, .int 5])), (tb, .inl (cb, 200, .inl fz))] sz) [(h0, .inr (7, [.ref tb, .int 6])), (tb, .inl (cb, 200, .inl f2))]) (va_A [(h0, .inr (7, [.ref tb, .int 5])), (tb, .inl (cb, 200, .inl fz))] sz)) 0 0 (va_A [(h0, .inr (7, [.ref tb, .int 5])), (tb, .inl (cb, 200, .inl fz))] sz) := by
  refine Met.ofW (cc := cX7_add) (maxL := 2) (ret := none) (by decide) rfl ?_
  intro p e s m args below meth c s₁ B hml hv
  obtain ⟨rfl, hsz, hP, hK, hD0⟩ := hv
  have hx := B.exec
  have hb := B.bytes
  have hr := B.returns
  have hts := atoms_spec (ws := wq_c_X7_add_5) B.pre
  have hown : s.vm.findClass RX7 = some m.cls := findClass_of_methodNamed B.named
  have hlocks := B.notSynchronized
  subst hsz
  have hD := hD0.self (sz := s.heap.size)
  obtain ⟨A, hAe⟩ : ∃ A, A = va_A [(h0, .inr (7, [.ref tb, .int 5])), (tb, .inl (cb, 200, .inl fz))] s.heap.size := ⟨_, rfl⟩
  rw [← hAe] at hD ⊢
  have hA : ∀ q : Nat, s.heap.size ≤ q → A q := fun q h => by rw [hAe]; exact Or.inr h
  have hS : va_S A s.heap s.heap [] := va_S.rf
  have hP : va_P (dC, dI) vwCl [(h0, .inr (7, [.ref tb, .int 5])), (tb, .inl (cb, 200, .inl fz))] s.heap := hP
  have hl := lv_entry ([.ref h0, .int on]) (n := 2) (Nat.le_of_ble_eq_true rfl)
  rw [lg_entry_eq]
  generalize (lg_sl ([.ref h0, .int on]) ++ List.replicate (2 - (lg_sl ([.ref h0, .int on])).length) Slot.unset).toArray = ls at hl ⊢
  have hl : lv_has ls 2 [(0, .ref h0), (1, .int on)] := hl
  refine lv_aload_n hx hb dX7_add_0 rfl (lv_at hl 0 rfl) ?_
  refine va_get (D := (dC, dI)) (ci := 7) (v := .int 5) (C := RX7) (T := TX7) (N := 2) hx hb hts (fun _ h0_ => List.mem_cons_of_mem _ (List.mem_append_right _ (List.mem_append_left _ h0_))) hown hK hP 0 rfl rfl 1 (by decide) (hts (.fieldLink RX7 15 "DeadlineShare$Tape" "length" "I") (List.mem_cons_of_mem _ (List.mem_append_left _ (List.mem_of_getElem? (i := 0) rfl)))) (fun _ h9 => h9) rfl dX7_add_1 ?_
  refine lv_if_lt (tgt := 38) hx hb dX7_add_4 (by decide) (fun c => absurd c (by decide)) (fun _ => ?_)
  refine lv_aload_n hx hb dX7_add_7 rfl (lv_at hl 0 rfl) ?_
  refine va_get (D := (dC, dI)) (ci := 7) (v := .int 5) (C := RX7) (T := TX7) (N := 2) hx hb hts (fun _ h0_ => List.mem_cons_of_mem _ (List.mem_append_right _ (List.mem_append_left _ h0_))) hown hK hP 0 rfl rfl 1 (by decide) (hts (.fieldLink RX7 15 "DeadlineShare$Tape" "length" "I") (List.mem_cons_of_mem _ (List.mem_append_left _ (List.mem_of_getElem? (i := 0) rfl)))) (fun _ h9 => h9) rfl dX7_add_8 ?_
  refine lv_sipush (v := 200) hx hb dX7_add_11 (by decide) ?_
  refine lv_icmp_ge (tgt := 38) hx hb dX7_add_14 (by decide) (fun c => absurd c (by decide)) (fun _ => ?_)
  refine lv_aload_n hx hb dX7_add_17 rfl (lv_at hl 0 rfl) ?_
  refine va_get (D := (dC, dI)) (ci := 7) (v := .ref tb) (C := RX7) (T := TX7) (N := 2) hx hb hts (fun _ h0_ => List.mem_cons_of_mem _ (List.mem_append_right _ (List.mem_append_left _ h0_))) hown hK hP 0 rfl rfl 0 (by decide) (hts (.fieldLink RX7 11 "DeadlineShare$Tape" "bytes" "[B") (List.mem_cons_of_mem _ (List.mem_append_left _ (List.mem_of_getElem? (i := 1) rfl)))) (fun _ h9 => h9) rfl dX7_add_18 ?_
  refine lv_aload_n hx hb dX7_add_21 rfl (lv_at hl 0 rfl) ?_
  refine va_get (D := (dC, dI)) (ci := 7) (v := .int 5) (C := RX7) (T := TX7) (N := 2) hx hb hts (fun _ h0_ => List.mem_cons_of_mem _ (List.mem_append_right _ (List.mem_append_left _ h0_))) hown hK hP 0 rfl rfl 1 (by decide) (hts (.fieldLink RX7 15 "DeadlineShare$Tape" "length" "I") (List.mem_cons_of_mem _ (List.mem_append_left _ (List.mem_of_getElem? (i := 0) rfl)))) (fun _ h9 => h9) rfl dX7_add_22 ?_
  refine lv_iload_n hx hb dX7_add_25 rfl (lv_at hl 1 rfl) ?_
  refine lv_i2b (v := on.toInt8.toInt32) hx hb dX7_add_26 rfl ?_
  refine va_bast hx hb hK hP hD hS 1 0 rfl rfl (by unfold vp_in; decide) dX7_add_27 (fun H locs hP hD hS => ?_)
  have hP : va_P (dC, dI) vwCl [(h0, .inr (7, [.ref tb, .int 5])), (tb, .inl (cb, 200, .inl (upd fz (Int32.toNatClampNeg 5) (vp_nar .byte on.toInt8.toInt32))))] H := hP
  have hD : va_D A [(h0, .inr (7, [.ref tb, .int 5])), (tb, .inl (cb, 200, .inl (upd fz (Int32.toNatClampNeg 5) (vp_nar .byte on.toInt8.toInt32))))] := hD
  generalize ef_1 : upd fz (Int32.toNatClampNeg 5) (vp_nar .byte on.toInt8.toInt32) = f_1 at hP hD
  refine lv_aload_n hx hb dX7_add_28 rfl (lv_at hl 0 rfl) ?_
  refine lv_dup hx hb dX7_add_29 rfl ?_
  refine va_get (D := (dC, dI)) (ci := 7) (v := .int 5) (C := RX7) (T := TX7) (N := 2) hx hb hts (fun _ h0_ => List.mem_cons_of_mem _ (List.mem_append_right _ (List.mem_append_left _ h0_))) hown hK hP 0 rfl rfl 1 (by decide) (hts (.fieldLink RX7 15 "DeadlineShare$Tape" "length" "I") (List.mem_cons_of_mem _ (List.mem_append_left _ (List.mem_of_getElem? (i := 0) rfl)))) (fun _ h9 => h9) rfl dX7_add_30 ?_
  refine lv_iconst (v := 1) hx hb dX7_add_33 (by decide) ?_
  refine lv_iadd hx hb dX7_add_34 ?_
  refine k_topi (y := 6) (by decide) ?_
  refine va_put (D := (dC, dI)) (ci := 7) (v := .int 6) (ty := .int) (C := RX7) (T := TX7) (N := 2) hx hb hts (fun _ h0_ => List.mem_cons_of_mem _ (List.mem_append_right _ (List.mem_append_left _ h0_))) tyX7 tyX7_ok nmX7 hown hK hP hD hS 0 rfl rfl 1 (by decide) (hts (.fieldLink RX7 15 "DeadlineShare$Tape" "length" "I") (List.mem_cons_of_mem _ (List.mem_append_left _ (List.mem_of_getElem? (i := 0) rfl)))) (fun _ h9 => h9) rfl (by decide +kernel) rfl rfl (Nat.le_of_ble_eq_true rfl) dX7_add_35 (fun H locs hP hD hS => ?_)
  have hP : va_P (dC, dI) vwCl [(h0, .inr (7, [.ref tb, .int 6])), (tb, .inl (cb, 200, .inl f_1))] H := hP
  have hD : va_D A [(h0, .inr (7, [.ref tb, .int 6])), (tb, .inl (cb, 200, .inl f_1))] := hD
  have hP9 := hP.sub (ws' := [(h0, .inr (7, [.ref tb, .int 6])), (tb, .inl (cb, 200, .inl f_1))]) [0, 1] rfl
  have hD9 := hD.sub (ws' := [(h0, .inr (7, [.ref tb, .int 6])), (tb, .inl (cb, 200, .inl f_1))]) [0, 1] (by decide) rfl
  have hK9 := hK.sub (tys' := [(cb, .byte)]) [0] rfl
  refine W.widen (k := 0) (n := 0) (Nat.le_of_ble_eq_true rfl) (Nat.le_of_ble_eq_true rfl) ?_
  exact W.vret hx hb hr (fun t ht hW => ⟨⟨(), rfl, trivial, f_1, by rw [ht]; exact hP9, va_K.moved hW.alike hK9, hD9⟩, hS.F ht⟩) hS.2.2 dX7_add_38
def ow_c_X7_add_6 : List Cond := [.fieldLink RX7 15 "DeadlineShare$Tape" "length" "I", .fieldLink RX7 11 "DeadlineShare$Tape" "bytes" "[B"]
def wq_c_X7_add_6 : List Cond := .code yX7_add cX7_add 2 none :: (ow_c_X7_add_6 ++ (u_ws RX7 TX7 2 ++ ([] : List Cond)))
theorem tb_c_X7_add_6 : ∀ w ∈ wq_c_X7_add_6, q_g w := by
  unfold wq_c_X7_add_6 ow_c_X7_add_6
  exact q_cons tw_296 (q_app (q_cons tw_294 (q_cons tw_20 q_nil)) (q_app tu_X7 q_nil))
set_option maxHeartbeats 4000000 in
set_option maxRecDepth 100000 in
theorem c_X7_add_6 (l : Launch) (dC : Nat → ClassId) (dI : Nat → Nat → Nat) (h0 : Nat) (on : Int32) (tb : Nat) (cb : ClassId) (fz : Nat → Int32) (sz : Nat) : Met l yX7_add wq_c_X7_add_6 ({ frames := 0, cells := 0, slots := 0, locals := 0 } : Room) (va_Pc [.ref h0, .int on] (fun U => U.heap.size = sz ∧ va_P (dC, dI) vwCl [(h0, .inr (7, [.ref tb, .int 6])), (tb, .inl (cb, 200, .inl fz))] U.heap ∧ va_K (dC, dI) vwCl [(cb, .byte)] U ∧ va_D (fun _ => True) [(h0, .inr (7, [.ref tb, .int 6])), (tb, .inl (cb, 200, .inl fz))])) (va_Qv (fun (_ : Unit) => True) (fun (_ : Unit) t => ∃ (f2 : Nat → Int32), va_P (dC, dI) vwCl [(h0, .inr (7, [.ref tb, .int 7])), (tb, .inl (cb, 200, .inl f2))] t.heap ∧ va_K (dC, dI) vwCl [(cb, .byte)] t ∧ va_D (va_A [(h0, .inr (7, [.ref tb, .int 6])), (tb, .inl (cb, 200, .inl fz))] sz) [(h0, .inr (7, [.ref tb, .int 7])), (tb, .inl (cb, 200, .inl f2))]) (va_A [(h0, .inr (7, [.ref tb, .int 6])), (tb, .inl (cb, 200, .inl fz))] sz)) 0 0 (va_A [(h0, .inr (7, [.ref tb, .int 6])), (tb, .inl (cb, 200, .inl fz))] sz) := by
  refine Met.ofW (cc := cX7_add) (maxL := 2) (ret := none) (by decide) rfl ?_
  intro p e s m args below meth c s₁ B hml hv
  obtain ⟨rfl, hsz, hP, hK, hD0⟩ := hv
  have hx := B.exec
  have hb := B.bytes
  have hr := B.returns
  have hts := atoms_spec (ws := wq_c_X7_add_6) B.pre
  have hown : s.vm.findClass RX7 = some m.cls := findClass_of_methodNamed B.named
  have hlocks := B.notSynchronized
  subst hsz
  have hD := hD0.self (sz := s.heap.size)
  obtain ⟨A, hAe⟩ : ∃ A, A = va_A [(h0, .inr (7, [.ref tb, .int 6])), (tb, .inl (cb, 200, .inl fz))] s.heap.size := ⟨_, rfl⟩
  rw [← hAe] at hD ⊢
  have hA : ∀ q : Nat, s.heap.size ≤ q → A q := fun q h => by rw [hAe]; exact Or.inr h
  have hS : va_S A s.heap s.heap [] := va_S.rf
  have hP : va_P (dC, dI) vwCl [(h0, .inr (7, [.ref tb, .int 6])), (tb, .inl (cb, 200, .inl fz))] s.heap := hP
  have hl := lv_entry ([.ref h0, .int on]) (n := 2) (Nat.le_of_ble_eq_true rfl)
  rw [lg_entry_eq]
  generalize (lg_sl ([.ref h0, .int on]) ++ List.replicate (2 - (lg_sl ([.ref h0, .int on])).length) Slot.unset).toArray = ls at hl ⊢
  have hl : lv_has ls 2 [(0, .ref h0), (1, .int on)] := hl
  refine lv_aload_n hx hb dX7_add_0 rfl (lv_at hl 0 rfl) ?_
  refine va_get (D := (dC, dI)) (ci := 7) (v := .int 6) (C := RX7) (T := TX7) (N := 2) hx hb hts (fun _ h0_ => List.mem_cons_of_mem _ (List.mem_append_right _ (List.mem_append_left _ h0_))) hown hK hP 0 rfl rfl 1 (by decide) (hts (.fieldLink RX7 15 "DeadlineShare$Tape" "length" "I") (List.mem_cons_of_mem _ (List.mem_append_left _ (List.mem_of_getElem? (i := 0) rfl)))) (fun _ h9 => h9) rfl dX7_add_1 ?_
  refine lv_if_lt (tgt := 38) hx hb dX7_add_4 (by decide) (fun c => absurd c (by decide)) (fun _ => ?_)
  refine lv_aload_n hx hb dX7_add_7 rfl (lv_at hl 0 rfl) ?_
  refine va_get (D := (dC, dI)) (ci := 7) (v := .int 6) (C := RX7) (T := TX7) (N := 2) hx hb hts (fun _ h0_ => List.mem_cons_of_mem _ (List.mem_append_right _ (List.mem_append_left _ h0_))) hown hK hP 0 rfl rfl 1 (by decide) (hts (.fieldLink RX7 15 "DeadlineShare$Tape" "length" "I") (List.mem_cons_of_mem _ (List.mem_append_left _ (List.mem_of_getElem? (i := 0) rfl)))) (fun _ h9 => h9) rfl dX7_add_8 ?_
  refine lv_sipush (v := 200) hx hb dX7_add_11 (by decide) ?_
  refine lv_icmp_ge (tgt := 38) hx hb dX7_add_14 (by decide) (fun c => absurd c (by decide)) (fun _ => ?_)
  refine lv_aload_n hx hb dX7_add_17 rfl (lv_at hl 0 rfl) ?_
  refine va_get (D := (dC, dI)) (ci := 7) (v := .ref tb) (C := RX7) (T := TX7) (N := 2) hx hb hts (fun _ h0_ => List.mem_cons_of_mem _ (List.mem_append_right _ (List.mem_append_left _ h0_))) hown hK hP 0 rfl rfl 0 (by decide) (hts (.fieldLink RX7 11 "DeadlineShare$Tape" "bytes" "[B") (List.mem_cons_of_mem _ (List.mem_append_left _ (List.mem_of_getElem? (i := 1) rfl)))) (fun _ h9 => h9) rfl dX7_add_18 ?_
  refine lv_aload_n hx hb dX7_add_21 rfl (lv_at hl 0 rfl) ?_
  refine va_get (D := (dC, dI)) (ci := 7) (v := .int 6) (C := RX7) (T := TX7) (N := 2) hx hb hts (fun _ h0_ => List.mem_cons_of_mem _ (List.mem_append_right _ (List.mem_append_left _ h0_))) hown hK hP 0 rfl rfl 1 (by decide) (hts (.fieldLink RX7 15 "DeadlineShare$Tape" "length" "I") (List.mem_cons_of_mem _ (List.mem_append_left _ (List.mem_of_getElem? (i := 0) rfl)))) (fun _ h9 => h9) rfl dX7_add_22 ?_
  refine lv_iload_n hx hb dX7_add_25 rfl (lv_at hl 1 rfl) ?_
  refine lv_i2b (v := on.toInt8.toInt32) hx hb dX7_add_26 rfl ?_
  refine va_bast hx hb hK hP hD hS 1 0 rfl rfl (by unfold vp_in; decide) dX7_add_27 (fun H locs hP hD hS => ?_)
  have hP : va_P (dC, dI) vwCl [(h0, .inr (7, [.ref tb, .int 6])), (tb, .inl (cb, 200, .inl (upd fz (Int32.toNatClampNeg 6) (vp_nar .byte on.toInt8.toInt32))))] H := hP
  have hD : va_D A [(h0, .inr (7, [.ref tb, .int 6])), (tb, .inl (cb, 200, .inl (upd fz (Int32.toNatClampNeg 6) (vp_nar .byte on.toInt8.toInt32))))] := hD
  generalize ef_1 : upd fz (Int32.toNatClampNeg 6) (vp_nar .byte on.toInt8.toInt32) = f_1 at hP hD
  refine lv_aload_n hx hb dX7_add_28 rfl (lv_at hl 0 rfl) ?_
  refine lv_dup hx hb dX7_add_29 rfl ?_
  refine va_get (D := (dC, dI)) (ci := 7) (v := .int 6) (C := RX7) (T := TX7) (N := 2) hx hb hts (fun _ h0_ => List.mem_cons_of_mem _ (List.mem_append_right _ (List.mem_append_left _ h0_))) hown hK hP 0 rfl rfl 1 (by decide) (hts (.fieldLink RX7 15 "DeadlineShare$Tape" "length" "I") (List.mem_cons_of_mem _ (List.mem_append_left _ (List.mem_of_getElem? (i := 0) rfl)))) (fun _ h9 => h9) rfl dX7_add_30 ?_
  refine lv_iconst (v := 1) hx hb dX7_add_33 (by decide) ?_
  refine lv_iadd hx hb dX7_add_34 ?_
  refine k_topi (y := 7) (by decide) ?_
  refine va_put (D := (dC, dI)) (ci := 7) (v := .int 7) (ty := .int) (C := RX7) (T := TX7) (N := 2) hx hb hts (fun _ h0_ => List.mem_cons_of_mem _ (List.mem_append_right _ (List.mem_append_left _ h0_))) tyX7 tyX7_ok nmX7 hown hK hP hD hS 0 rfl rfl 1 (by decide) (hts (.fieldLink RX7 15 "DeadlineShare$Tape" "length" "I") (List.mem_cons_of_mem _ (List.mem_append_left _ (List.mem_of_getElem? (i := 0) rfl)))) (fun _ h9 => h9) rfl (by decide +kernel) rfl rfl (Nat.le_of_ble_eq_true rfl) dX7_add_35 (fun H locs hP hD hS => ?_)
  have hP : va_P (dC, dI) vwCl [(h0, .inr (7, [.ref tb, .int 7])), (tb, .inl (cb, 200, .inl f_1))] H := hP
  have hD : va_D A [(h0, .inr (7, [.ref tb, .int 7])), (tb, .inl (cb, 200, .inl f_1))] := hD
  have hP9 := hP.sub (ws' := [(h0, .inr (7, [.ref tb, .int 7])), (tb, .inl (cb, 200, .inl f_1))]) [0, 1] rfl
  have hD9 := hD.sub (ws' := [(h0, .inr (7, [.ref tb, .int 7])), (tb, .inl (cb, 200, .inl f_1))]) [0, 1] (by decide) rfl
  have hK9 := hK.sub (tys' := [(cb, .byte)]) [0] rfl
  refine W.widen (k := 0) (n := 0) (Nat.le_of_ble_eq_true rfl) (Nat.le_of_ble_eq_true rfl) ?_
  exact W.vret hx hb hr (fun t ht hW => ⟨⟨(), rfl, trivial, f_1, by rw [ht]; exact hP9, va_K.moved hW.alike hK9, hD9⟩, hS.F ht⟩) hS.2.2 dX7_add_38
def ow_c_X7_add_7 : List Cond := [.fieldLink RX7 15 "DeadlineShare$Tape" "length" "I", .fieldLink RX7 11 "DeadlineShare$Tape" "bytes" "[B"]
def wq_c_X7_add_7 : List Cond := .code yX7_add cX7_add 2 none :: (ow_c_X7_add_7 ++ (u_ws RX7 TX7 2 ++ ([] : List Cond)))
theorem tb_c_X7_add_7 : ∀ w ∈ wq_c_X7_add_7, q_g w := by
  unfold wq_c_X7_add_7 ow_c_X7_add_7
  exact q_cons tw_296 (q_app (q_cons tw_294 (q_cons tw_20 q_nil)) (q_app tu_X7 q_nil))
set_option maxHeartbeats 4000000 in
set_option maxRecDepth 100000 in
theorem c_X7_add_7 (l : Launch) (dC : Nat → ClassId) (dI : Nat → Nat → Nat) (h0 : Nat) (on : Int32) (tb : Nat) (cb : ClassId) (fz : Nat → Int32) (sz : Nat) : Met l yX7_add wq_c_X7_add_7 ({ frames := 0, cells := 0, slots := 0, locals := 0 } : Room) (va_Pc [.ref h0, .int on] (fun U => U.heap.size = sz ∧ va_P (dC, dI) vwCl [(h0, .inr (7, [.ref tb, .int 7])), (tb, .inl (cb, 200, .inl fz))] U.heap ∧ va_K (dC, dI) vwCl [(cb, .byte)] U ∧ va_D (fun _ => True) [(h0, .inr (7, [.ref tb, .int 7])), (tb, .inl (cb, 200, .inl fz))])) (va_Qv (fun (_ : Unit) => True) (fun (_ : Unit) t => ∃ (f2 : Nat → Int32), va_P (dC, dI) vwCl [(h0, .inr (7, [.ref tb, .int 8])), (tb, .inl (cb, 200, .inl f2))] t.heap ∧ va_K (dC, dI) vwCl [(cb, .byte)] t ∧ va_D (va_A [(h0, .inr (7, [.ref tb, .int 7])), (tb, .inl (cb, 200, .inl fz))] sz) [(h0, .inr (7, [.ref tb, .int 8])), (tb, .inl (cb, 200, .inl f2))]) (va_A [(h0, .inr (7, [.ref tb, .int 7])), (tb, .inl (cb, 200, .inl fz))] sz)) 0 0 (va_A [(h0, .inr (7, [.ref tb, .int 7])), (tb, .inl (cb, 200, .inl fz))] sz) := by
  refine Met.ofW (cc := cX7_add) (maxL := 2) (ret := none) (by decide) rfl ?_
  intro p e s m args below meth c s₁ B hml hv
  obtain ⟨rfl, hsz, hP, hK, hD0⟩ := hv
  have hx := B.exec
  have hb := B.bytes
  have hr := B.returns
  have hts := atoms_spec (ws := wq_c_X7_add_7) B.pre
  have hown : s.vm.findClass RX7 = some m.cls := findClass_of_methodNamed B.named
  have hlocks := B.notSynchronized
  subst hsz
  have hD := hD0.self (sz := s.heap.size)
  obtain ⟨A, hAe⟩ : ∃ A, A = va_A [(h0, .inr (7, [.ref tb, .int 7])), (tb, .inl (cb, 200, .inl fz))] s.heap.size := ⟨_, rfl⟩
  rw [← hAe] at hD ⊢
  have hA : ∀ q : Nat, s.heap.size ≤ q → A q := fun q h => by rw [hAe]; exact Or.inr h
  have hS : va_S A s.heap s.heap [] := va_S.rf
  have hP : va_P (dC, dI) vwCl [(h0, .inr (7, [.ref tb, .int 7])), (tb, .inl (cb, 200, .inl fz))] s.heap := hP
  have hl := lv_entry ([.ref h0, .int on]) (n := 2) (Nat.le_of_ble_eq_true rfl)
  rw [lg_entry_eq]
  generalize (lg_sl ([.ref h0, .int on]) ++ List.replicate (2 - (lg_sl ([.ref h0, .int on])).length) Slot.unset).toArray = ls at hl ⊢
  have hl : lv_has ls 2 [(0, .ref h0), (1, .int on)] := hl
  refine lv_aload_n hx hb dX7_add_0 rfl (lv_at hl 0 rfl) ?_
  refine va_get (D := (dC, dI)) (ci := 7) (v := .int 7) (C := RX7) (T := TX7) (N := 2) hx hb hts (fun _ h0_ => List.mem_cons_of_mem _ (List.mem_append_right _ (List.mem_append_left _ h0_))) hown hK hP 0 rfl rfl 1 (by decide) (hts (.fieldLink RX7 15 "DeadlineShare$Tape" "length" "I") (List.mem_cons_of_mem _ (List.mem_append_left _ (List.mem_of_getElem? (i := 0) rfl)))) (fun _ h9 => h9) rfl dX7_add_1 ?_
  refine lv_if_lt (tgt := 38) hx hb dX7_add_4 (by decide) (fun c => absurd c (by decide)) (fun _ => ?_)
  refine lv_aload_n hx hb dX7_add_7 rfl (lv_at hl 0 rfl) ?_
  refine va_get (D := (dC, dI)) (ci := 7) (v := .int 7) (C := RX7) (T := TX7) (N := 2) hx hb hts (fun _ h0_ => List.mem_cons_of_mem _ (List.mem_append_right _ (List.mem_append_left _ h0_))) hown hK hP 0 rfl rfl 1 (by decide) (hts (.fieldLink RX7 15 "DeadlineShare$Tape" "length" "I") (List.mem_cons_of_mem _ (List.mem_append_left _ (List.mem_of_getElem? (i := 0) rfl)))) (fun _ h9 => h9) rfl dX7_add_8 ?_
  refine lv_sipush (v := 200) hx hb dX7_add_11 (by decide) ?_
  refine lv_icmp_ge (tgt := 38) hx hb dX7_add_14 (by decide) (fun c => absurd c (by decide)) (fun _ => ?_)
  refine lv_aload_n hx hb dX7_add_17 rfl (lv_at hl 0 rfl) ?_
  refine va_get (D := (dC, dI)) (ci := 7) (v := .ref tb) (C := RX7) (T := TX7) (N := 2) hx hb hts (fun _ h0_ => List.mem_cons_of_mem _ (List.mem_append_right _ (List.mem_append_left _ h0_))) hown hK hP 0 rfl rfl 0 (by decide) (hts (.fieldLink RX7 11 "DeadlineShare$Tape" "bytes" "[B") (List.mem_cons_of_mem _ (List.mem_append_left _ (List.mem_of_getElem? (i := 1) rfl)))) (fun _ h9 => h9) rfl dX7_add_18 ?_
  refine lv_aload_n hx hb dX7_add_21 rfl (lv_at hl 0 rfl) ?_
  refine va_get (D := (dC, dI)) (ci := 7) (v := .int 7) (C := RX7) (T := TX7) (N := 2) hx hb hts (fun _ h0_ => List.mem_cons_of_mem _ (List.mem_append_right _ (List.mem_append_left _ h0_))) hown hK hP 0 rfl rfl 1 (by decide) (hts (.fieldLink RX7 15 "DeadlineShare$Tape" "length" "I") (List.mem_cons_of_mem _ (List.mem_append_left _ (List.mem_of_getElem? (i := 0) rfl)))) (fun _ h9 => h9) rfl dX7_add_22 ?_
  refine lv_iload_n hx hb dX7_add_25 rfl (lv_at hl 1 rfl) ?_
  refine lv_i2b (v := on.toInt8.toInt32) hx hb dX7_add_26 rfl ?_
  refine va_bast hx hb hK hP hD hS 1 0 rfl rfl (by unfold vp_in; decide) dX7_add_27 (fun H locs hP hD hS => ?_)
  have hP : va_P (dC, dI) vwCl [(h0, .inr (7, [.ref tb, .int 7])), (tb, .inl (cb, 200, .inl (upd fz (Int32.toNatClampNeg 7) (vp_nar .byte on.toInt8.toInt32))))] H := hP
  have hD : va_D A [(h0, .inr (7, [.ref tb, .int 7])), (tb, .inl (cb, 200, .inl (upd fz (Int32.toNatClampNeg 7) (vp_nar .byte on.toInt8.toInt32))))] := hD
  generalize ef_1 : upd fz (Int32.toNatClampNeg 7) (vp_nar .byte on.toInt8.toInt32) = f_1 at hP hD
  refine lv_aload_n hx hb dX7_add_28 rfl (lv_at hl 0 rfl) ?_
  refine lv_dup hx hb dX7_add_29 rfl ?_
  refine va_get (D := (dC, dI)) (ci := 7) (v := .int 7) (C := RX7) (T := TX7) (N := 2) hx hb hts (fun _ h0_ => List.mem_cons_of_mem _ (List.mem_append_right _ (List.mem_append_left _ h0_))) hown hK hP 0 rfl rfl 1 (by decide) (hts (.fieldLink RX7 15 "DeadlineShare$Tape" "length" "I") (List.mem_cons_of_mem _ (List.mem_append_left _ (List.mem_of_getElem? (i := 0) rfl)))) (fun _ h9 => h9) rfl dX7_add_30 ?_
  refine lv_iconst (v := 1) hx hb dX7_add_33 (by decide) ?_
  refine lv_iadd hx hb dX7_add_34 ?_
  refine k_topi (y := 8) (by decide) ?_
  refine va_put (D := (dC, dI)) (ci := 7) (v := .int 8) (ty := .int) (C := RX7) (T := TX7) (N := 2) hx hb hts (fun _ h0_ => List.mem_cons_of_mem _ (List.mem_append_right _ (List.mem_append_left _ h0_))) tyX7 tyX7_ok nmX7 hown hK hP hD hS 0 rfl rfl 1 (by decide) (hts (.fieldLink RX7 15 "DeadlineShare$Tape" "length" "I") (List.mem_cons_of_mem _ (List.mem_append_left _ (List.mem_of_getElem? (i := 0) rfl)))) (fun _ h9 => h9) rfl (by decide +kernel) rfl rfl (Nat.le_of_ble_eq_true rfl) dX7_add_35 (fun H locs hP hD hS => ?_)
  have hP : va_P (dC, dI) vwCl [(h0, .inr (7, [.ref tb, .int 8])), (tb, .inl (cb, 200, .inl f_1))] H := hP
  have hD : va_D A [(h0, .inr (7, [.ref tb, .int 8])), (tb, .inl (cb, 200, .inl f_1))] := hD
  have hP9 := hP.sub (ws' := [(h0, .inr (7, [.ref tb, .int 8])), (tb, .inl (cb, 200, .inl f_1))]) [0, 1] rfl
  have hD9 := hD.sub (ws' := [(h0, .inr (7, [.ref tb, .int 8])), (tb, .inl (cb, 200, .inl f_1))]) [0, 1] (by decide) rfl
  have hK9 := hK.sub (tys' := [(cb, .byte)]) [0] rfl
  refine W.widen (k := 0) (n := 0) (Nat.le_of_ble_eq_true rfl) (Nat.le_of_ble_eq_true rfl) ?_
  exact W.vret hx hb hr (fun t ht hW => ⟨⟨(), rfl, trivial, f_1, by rw [ht]; exact hP9, va_K.moved hW.alike hK9, hD9⟩, hS.F ht⟩) hS.2.2 dX7_add_38
def ow_c_X7_add_8 : List Cond := [.fieldLink RX7 15 "DeadlineShare$Tape" "length" "I", .fieldLink RX7 11 "DeadlineShare$Tape" "bytes" "[B"]
def wq_c_X7_add_8 : List Cond := .code yX7_add cX7_add 2 none :: (ow_c_X7_add_8 ++ (u_ws RX7 TX7 2 ++ ([] : List Cond)))
theorem tb_c_X7_add_8 : ∀ w ∈ wq_c_X7_add_8, q_g w := by
  unfold wq_c_X7_add_8 ow_c_X7_add_8
  exact q_cons tw_296 (q_app (q_cons tw_294 (q_cons tw_20 q_nil)) (q_app tu_X7 q_nil))
set_option maxHeartbeats 4000000 in
set_option maxRecDepth 100000 in
theorem c_X7_add_8 (l : Launch) (dC : Nat → ClassId) (dI : Nat → Nat → Nat) (h0 : Nat) (on : Int32) (tb : Nat) (cb : ClassId) (fz : Nat → Int32) (sz : Nat) : Met l yX7_add wq_c_X7_add_8 ({ frames := 0, cells := 0, slots := 0, locals := 0 } : Room) (va_Pc [.ref h0, .int on] (fun U => U.heap.size = sz ∧ va_P (dC, dI) vwCl [(h0, .inr (7, [.ref tb, .int 8])), (tb, .inl (cb, 200, .inl fz))] U.heap ∧ va_K (dC, dI) vwCl [(cb, .byte)] U ∧ va_D (fun _ => True) [(h0, .inr (7, [.ref tb, .int 8])), (tb, .inl (cb, 200, .inl fz))])) (va_Qv (fun (_ : Unit) => True) (fun (_ : Unit) t => ∃ (f2 : Nat → Int32), va_P (dC, dI) vwCl [(h0, .inr (7, [.ref tb, .int 9])), (tb, .inl (cb, 200, .inl f2))] t.heap ∧ va_K (dC, dI) vwCl [(cb, .byte)] t ∧ va_D (va_A [(h0, .inr (7, [.ref tb, .int 8])), (tb, .inl (cb, 200, .inl fz))] sz) [(h0, .inr (7, [.ref tb, .int 9])), (tb, .inl (cb, 200, .inl f2))]) (va_A [(h0, .inr (7, [.ref tb, .int 8])), (tb, .inl (cb, 200, .inl fz))] sz)) 0 0 (va_A [(h0, .inr (7, [.ref tb, .int 8])), (tb, .inl (cb, 200, .inl fz))] sz) := by
  refine Met.ofW (cc := cX7_add) (maxL := 2) (ret := none) (by decide) rfl ?_
  intro p e s m args below meth c s₁ B hml hv
  obtain ⟨rfl, hsz, hP, hK, hD0⟩ := hv
  have hx := B.exec
  have hb := B.bytes
  have hr := B.returns
  have hts := atoms_spec (ws := wq_c_X7_add_8) B.pre
  have hown : s.vm.findClass RX7 = some m.cls := findClass_of_methodNamed B.named
  have hlocks := B.notSynchronized
  subst hsz
  have hD := hD0.self (sz := s.heap.size)
  obtain ⟨A, hAe⟩ : ∃ A, A = va_A [(h0, .inr (7, [.ref tb, .int 8])), (tb, .inl (cb, 200, .inl fz))] s.heap.size := ⟨_, rfl⟩
  rw [← hAe] at hD ⊢
  have hA : ∀ q : Nat, s.heap.size ≤ q → A q := fun q h => by rw [hAe]; exact Or.inr h
  have hS : va_S A s.heap s.heap [] := va_S.rf
  have hP : va_P (dC, dI) vwCl [(h0, .inr (7, [.ref tb, .int 8])), (tb, .inl (cb, 200, .inl fz))] s.heap := hP
  have hl := lv_entry ([.ref h0, .int on]) (n := 2) (Nat.le_of_ble_eq_true rfl)
  rw [lg_entry_eq]
  generalize (lg_sl ([.ref h0, .int on]) ++ List.replicate (2 - (lg_sl ([.ref h0, .int on])).length) Slot.unset).toArray = ls at hl ⊢
  have hl : lv_has ls 2 [(0, .ref h0), (1, .int on)] := hl
  refine lv_aload_n hx hb dX7_add_0 rfl (lv_at hl 0 rfl) ?_
  refine va_get (D := (dC, dI)) (ci := 7) (v := .int 8) (C := RX7) (T := TX7) (N := 2) hx hb hts (fun _ h0_ => List.mem_cons_of_mem _ (List.mem_append_right _ (List.mem_append_left _ h0_))) hown hK hP 0 rfl rfl 1 (by decide) (hts (.fieldLink RX7 15 "DeadlineShare$Tape" "length" "I") (List.mem_cons_of_mem _ (List.mem_append_left _ (List.mem_of_getElem? (i := 0) rfl)))) (fun _ h9 => h9) rfl dX7_add_1 ?_
  refine lv_if_lt (tgt := 38) hx hb dX7_add_4 (by decide) (fun c => absurd c (by decide)) (fun _ => ?_)
  refine lv_aload_n hx hb dX7_add_7 rfl (lv_at hl 0 rfl) ?_
  refine va_get (D := (dC, dI)) (ci := 7) (v := .int 8) (C := RX7) (T := TX7) (N := 2) hx hb hts (fun _ h0_ => List.mem_cons_of_mem _ (List.mem_append_right _ (List.mem_append_left _ h0_))) hown hK hP 0 rfl rfl 1 (by decide) (hts (.fieldLink RX7 15 "DeadlineShare$Tape" "length" "I") (List.mem_cons_of_mem _ (List.mem_append_left _ (List.mem_of_getElem? (i := 0) rfl)))) (fun _ h9 => h9) rfl dX7_add_8 ?_
  refine lv_sipush (v := 200) hx hb dX7_add_11 (by decide) ?_
  refine lv_icmp_ge (tgt := 38) hx hb dX7_add_14 (by decide) (fun c => absurd c (by decide)) (fun _ => ?_)
  refine lv_aload_n hx hb dX7_add_17 rfl (lv_at hl 0 rfl) ?_
  refine va_get (D := (dC, dI)) (ci := 7) (v := .ref tb) (C := RX7) (T := TX7) (N := 2) hx hb hts (fun _ h0_ => List.mem_cons_of_mem _ (List.mem_append_right _ (List.mem_append_left _ h0_))) hown hK hP 0 rfl rfl 0 (by decide) (hts (.fieldLink RX7 11 "DeadlineShare$Tape" "bytes" "[B") (List.mem_cons_of_mem _ (List.mem_append_left _ (List.mem_of_getElem? (i := 1) rfl)))) (fun _ h9 => h9) rfl dX7_add_18 ?_
  refine lv_aload_n hx hb dX7_add_21 rfl (lv_at hl 0 rfl) ?_
  refine va_get (D := (dC, dI)) (ci := 7) (v := .int 8) (C := RX7) (T := TX7) (N := 2) hx hb hts (fun _ h0_ => List.mem_cons_of_mem _ (List.mem_append_right _ (List.mem_append_left _ h0_))) hown hK hP 0 rfl rfl 1 (by decide) (hts (.fieldLink RX7 15 "DeadlineShare$Tape" "length" "I") (List.mem_cons_of_mem _ (List.mem_append_left _ (List.mem_of_getElem? (i := 0) rfl)))) (fun _ h9 => h9) rfl dX7_add_22 ?_
  refine lv_iload_n hx hb dX7_add_25 rfl (lv_at hl 1 rfl) ?_
  refine lv_i2b (v := on.toInt8.toInt32) hx hb dX7_add_26 rfl ?_
  refine va_bast hx hb hK hP hD hS 1 0 rfl rfl (by unfold vp_in; decide) dX7_add_27 (fun H locs hP hD hS => ?_)
  have hP : va_P (dC, dI) vwCl [(h0, .inr (7, [.ref tb, .int 8])), (tb, .inl (cb, 200, .inl (upd fz (Int32.toNatClampNeg 8) (vp_nar .byte on.toInt8.toInt32))))] H := hP
  have hD : va_D A [(h0, .inr (7, [.ref tb, .int 8])), (tb, .inl (cb, 200, .inl (upd fz (Int32.toNatClampNeg 8) (vp_nar .byte on.toInt8.toInt32))))] := hD
  generalize ef_1 : upd fz (Int32.toNatClampNeg 8) (vp_nar .byte on.toInt8.toInt32) = f_1 at hP hD
  refine lv_aload_n hx hb dX7_add_28 rfl (lv_at hl 0 rfl) ?_
  refine lv_dup hx hb dX7_add_29 rfl ?_
  refine va_get (D := (dC, dI)) (ci := 7) (v := .int 8) (C := RX7) (T := TX7) (N := 2) hx hb hts (fun _ h0_ => List.mem_cons_of_mem _ (List.mem_append_right _ (List.mem_append_left _ h0_))) hown hK hP 0 rfl rfl 1 (by decide) (hts (.fieldLink RX7 15 "DeadlineShare$Tape" "length" "I") (List.mem_cons_of_mem _ (List.mem_append_left _ (List.mem_of_getElem? (i := 0) rfl)))) (fun _ h9 => h9) rfl dX7_add_30 ?_
  refine lv_iconst (v := 1) hx hb dX7_add_33 (by decide) ?_
  refine lv_iadd hx hb dX7_add_34 ?_
  refine k_topi (y := 9) (by decide) ?_
  refine va_put (D := (dC, dI)) (ci := 7) (v := .int 9) (ty := .int) (C := RX7) (T := TX7) (N := 2) hx hb hts (fun _ h0_ => List.mem_cons_of_mem _ (List.mem_append_right _ (List.mem_append_left _ h0_))) tyX7 tyX7_ok nmX7 hown hK hP hD hS 0 rfl rfl 1 (by decide) (hts (.fieldLink RX7 15 "DeadlineShare$Tape" "length" "I") (List.mem_cons_of_mem _ (List.mem_append_left _ (List.mem_of_getElem? (i := 0) rfl)))) (fun _ h9 => h9) rfl (by decide +kernel) rfl rfl (Nat.le_of_ble_eq_true rfl) dX7_add_35 (fun H locs hP hD hS => ?_)
  have hP : va_P (dC, dI) vwCl [(h0, .inr (7, [.ref tb, .int 9])), (tb, .inl (cb, 200, .inl f_1))] H := hP
  have hD : va_D A [(h0, .inr (7, [.ref tb, .int 9])), (tb, .inl (cb, 200, .inl f_1))] := hD
  have hP9 := hP.sub (ws' := [(h0, .inr (7, [.ref tb, .int 9])), (tb, .inl (cb, 200, .inl f_1))]) [0, 1] rfl
  have hD9 := hD.sub (ws' := [(h0, .inr (7, [.ref tb, .int 9])), (tb, .inl (cb, 200, .inl f_1))]) [0, 1] (by decide) rfl
  have hK9 := hK.sub (tys' := [(cb, .byte)]) [0] rfl
  refine W.widen (k := 0) (n := 0) (Nat.le_of_ble_eq_true rfl) (Nat.le_of_ble_eq_true rfl) ?_
  exact W.vret hx hb hr (fun t ht hW => ⟨⟨(), rfl, trivial, f_1, by rw [ht]; exact hP9, va_K.moved hW.alike hK9, hD9⟩, hS.F ht⟩) hS.2.2 dX7_add_38
def ow_c_X7_add_9 : List Cond := [.fieldLink RX7 15 "DeadlineShare$Tape" "length" "I", .fieldLink RX7 11 "DeadlineShare$Tape" "bytes" "[B"]
def wq_c_X7_add_9 : List Cond := .code yX7_add cX7_add 2 none :: (ow_c_X7_add_9 ++ (u_ws RX7 TX7 2 ++ ([] : List Cond)))
theorem tb_c_X7_add_9 : ∀ w ∈ wq_c_X7_add_9, q_g w := by
  unfold wq_c_X7_add_9 ow_c_X7_add_9
  exact q_cons tw_296 (q_app (q_cons tw_294 (q_cons tw_20 q_nil)) (q_app tu_X7 q_nil))
set_option maxHeartbeats 4000000 in
set_option maxRecDepth 100000 in
theorem c_X7_add_9 (l : Launch) (dC : Nat → ClassId) (dI : Nat → Nat → Nat) (h0 : Nat) (on : Int32) (tb : Nat) (cb : ClassId) (fz : Nat → Int32) (sz : Nat) : Met l yX7_add wq_c_X7_add_9 ({ frames := 0, cells := 0, slots := 0, locals := 0 } : Room) (va_Pc [.ref h0, .int on] (fun U => U.heap.size = sz ∧ va_P (dC, dI) vwCl [(h0, .inr (7, [.ref tb, .int 9])), (tb, .inl (cb, 200, .inl fz))] U.heap ∧ va_K (dC, dI) vwCl [(cb, .byte)] U ∧ va_D (fun _ => True) [(h0, .inr (7, [.ref tb, .int 9])), (tb, .inl (cb, 200, .inl fz))])) (va_Qv (fun (_ : Unit) => True) (fun (_ : Unit) t => ∃ (f2 : Nat → Int32), va_P (dC, dI) vwCl [(h0, .inr (7, [.ref tb, .int 10])), (tb, .inl (cb, 200, .inl f2))] t.heap ∧ va_K (dC, dI) vwCl [(cb, .byte)] t ∧ va_D (va_A [(h0, .inr (7, [.ref tb, .int 9])), (tb, .inl (cb, 200, .inl fz))] sz) [(h0, .inr (7, [.ref tb, .int 10])), (tb, .inl (cb, 200, .inl f2))]) (va_A [(h0, .inr (7, [.ref tb, .int 9])), (tb, .inl (cb, 200, .inl fz))] sz)) 0 0 (va_A [(h0, .inr (7, [.ref tb, .int 9])), (tb, .inl (cb, 200, .inl fz))] sz) := by
  refine Met.ofW (cc := cX7_add) (maxL := 2) (ret := none) (by decide) rfl ?_
  intro p e s m args below meth c s₁ B hml hv
  obtain ⟨rfl, hsz, hP, hK, hD0⟩ := hv
  have hx := B.exec
  have hb := B.bytes
  have hr := B.returns
  have hts := atoms_spec (ws := wq_c_X7_add_9) B.pre
  have hown : s.vm.findClass RX7 = some m.cls := findClass_of_methodNamed B.named
  have hlocks := B.notSynchronized
  subst hsz
  have hD := hD0.self (sz := s.heap.size)
  obtain ⟨A, hAe⟩ : ∃ A, A = va_A [(h0, .inr (7, [.ref tb, .int 9])), (tb, .inl (cb, 200, .inl fz))] s.heap.size := ⟨_, rfl⟩
  rw [← hAe] at hD ⊢
  have hA : ∀ q : Nat, s.heap.size ≤ q → A q := fun q h => by rw [hAe]; exact Or.inr h
  have hS : va_S A s.heap s.heap [] := va_S.rf
  have hP : va_P (dC, dI) vwCl [(h0, .inr (7, [.ref tb, .int 9])), (tb, .inl (cb, 200, .inl fz))] s.heap := hP
  have hl := lv_entry ([.ref h0, .int on]) (n := 2) (Nat.le_of_ble_eq_true rfl)
  rw [lg_entry_eq]
  generalize (lg_sl ([.ref h0, .int on]) ++ List.replicate (2 - (lg_sl ([.ref h0, .int on])).length) Slot.unset).toArray = ls at hl ⊢
  have hl : lv_has ls 2 [(0, .ref h0), (1, .int on)] := hl
  refine lv_aload_n hx hb dX7_add_0 rfl (lv_at hl 0 rfl) ?_
  refine va_get (D := (dC, dI)) (ci := 7) (v := .int 9) (C := RX7) (T := TX7) (N := 2) hx hb hts (fun _ h0_ => List.mem_cons_of_mem _ (List.mem_append_right _ (List.mem_append_left _ h0_))) hown hK hP 0 rfl rfl 1 (by decide) (hts (.fieldLink RX7 15 "DeadlineShare$Tape" "length" "I") (List.mem_cons_of_mem _ (List.mem_append_left _ (List.mem_of_getElem? (i := 0) rfl)))) (fun _ h9 => h9) rfl dX7_add_1 ?_
  refine lv_if_lt (tgt := 38) hx hb dX7_add_4 (by decide) (fun c => absurd c (by decide)) (fun _ => ?_)
  refine lv_aload_n hx hb dX7_add_7 rfl (lv_at hl 0 rfl) ?_
  refine va_get (D := (dC, dI)) (ci := 7) (v := .int 9) (C := RX7) (T := TX7) (N := 2) hx hb hts (fun _ h0_ => List.mem_cons_of_mem _ (List.mem_append_right _ (List.mem_append_left _ h0_))) hown hK hP 0 rfl rfl 1 (by decide) (hts (.fieldLink RX7 15 "DeadlineShare$Tape" "length" "I") (List.mem_cons_of_mem _ (List.mem_append_left _ (List.mem_of_getElem? (i := 0) rfl)))) (fun _ h9 => h9) rfl dX7_add_8 ?_
  refine lv_sipush (v := 200) hx hb dX7_add_11 (by decide) ?_
  refine lv_icmp_ge (tgt := 38) hx hb dX7_add_14 (by decide) (fun c => absurd c (by decide)) (fun _ => ?_)
  refine lv_aload_n hx hb dX7_add_17 rfl (lv_at hl 0 rfl) ?_
  refine va_get (D := (dC, dI)) (ci := 7) (v := .ref tb) (C := RX7) (T := TX7) (N := 2) hx hb hts (fun _ h0_ => List.mem_cons_of_mem _ (List.mem_append_right _ (List.mem_append_left _ h0_))) hown hK hP 0 rfl rfl 0 (by decide) (hts (.fieldLink RX7 11 "DeadlineShare$Tape" "bytes" "[B") (List.mem_cons_of_mem _ (List.mem_append_left _ (List.mem_of_getElem? (i := 1) rfl)))) (fun _ h9 => h9) rfl dX7_add_18 ?_
  refine lv_aload_n hx hb dX7_add_21 rfl (lv_at hl 0 rfl) ?_
  refine va_get (D := (dC, dI)) (ci := 7) (v := .int 9) (C := RX7) (T := TX7) (N := 2) hx hb hts (fun _ h0_ => List.mem_cons_of_mem _ (List.mem_append_right _ (List.mem_append_left _ h0_))) hown hK hP 0 rfl rfl 1 (by decide) (hts (.fieldLink RX7 15 "DeadlineShare$Tape" "length" "I") (List.mem_cons_of_mem _ (List.mem_append_left _ (List.mem_of_getElem? (i := 0) rfl)))) (fun _ h9 => h9) rfl dX7_add_22 ?_
  refine lv_iload_n hx hb dX7_add_25 rfl (lv_at hl 1 rfl) ?_
  refine lv_i2b (v := on.toInt8.toInt32) hx hb dX7_add_26 rfl ?_
  refine va_bast hx hb hK hP hD hS 1 0 rfl rfl (by unfold vp_in; decide) dX7_add_27 (fun H locs hP hD hS => ?_)
  have hP : va_P (dC, dI) vwCl [(h0, .inr (7, [.ref tb, .int 9])), (tb, .inl (cb, 200, .inl (upd fz (Int32.toNatClampNeg 9) (vp_nar .byte on.toInt8.toInt32))))] H := hP
  have hD : va_D A [(h0, .inr (7, [.ref tb, .int 9])), (tb, .inl (cb, 200, .inl (upd fz (Int32.toNatClampNeg 9) (vp_nar .byte on.toInt8.toInt32))))] := hD
  generalize ef_1 : upd fz (Int32.toNatClampNeg 9) (vp_nar .byte on.toInt8.toInt32) = f_1 at hP hD
  refine lv_aload_n hx hb dX7_add_28 rfl (lv_at hl 0 rfl) ?_
  refine lv_dup hx hb dX7_add_29 rfl ?_
  refine va_get (D := (dC, dI)) (ci := 7) (v := .int 9) (C := RX7) (T := TX7) (N := 2) hx hb hts (fun _ h0_ => List.mem_cons_of_mem _ (List.mem_append_right _ (List.mem_append_left _ h0_))) hown hK hP 0 rfl rfl 1 (by decide) (hts (.fieldLink RX7 15 "DeadlineShare$Tape" "length" "I") (List.mem_cons_of_mem _ (List.mem_append_left _ (List.mem_of_getElem? (i := 0) rfl)))) (fun _ h9 => h9) rfl dX7_add_30 ?_
  refine lv_iconst (v := 1) hx hb dX7_add_33 (by decide) ?_
  refine lv_iadd hx hb dX7_add_34 ?_
  refine k_topi (y := 10) (by decide) ?_
  refine va_put (D := (dC, dI)) (ci := 7) (v := .int 10) (ty := .int) (C := RX7) (T := TX7) (N := 2) hx hb hts (fun _ h0_ => List.mem_cons_of_mem _ (List.mem_append_right _ (List.mem_append_left _ h0_))) tyX7 tyX7_ok nmX7 hown hK hP hD hS 0 rfl rfl 1 (by decide) (hts (.fieldLink RX7 15 "DeadlineShare$Tape" "length" "I") (List.mem_cons_of_mem _ (List.mem_append_left _ (List.mem_of_getElem? (i := 0) rfl)))) (fun _ h9 => h9) rfl (by decide +kernel) rfl rfl (Nat.le_of_ble_eq_true rfl) dX7_add_35 (fun H locs hP hD hS => ?_)
  have hP : va_P (dC, dI) vwCl [(h0, .inr (7, [.ref tb, .int 10])), (tb, .inl (cb, 200, .inl f_1))] H := hP
  have hD : va_D A [(h0, .inr (7, [.ref tb, .int 10])), (tb, .inl (cb, 200, .inl f_1))] := hD
  have hP9 := hP.sub (ws' := [(h0, .inr (7, [.ref tb, .int 10])), (tb, .inl (cb, 200, .inl f_1))]) [0, 1] rfl
  have hD9 := hD.sub (ws' := [(h0, .inr (7, [.ref tb, .int 10])), (tb, .inl (cb, 200, .inl f_1))]) [0, 1] (by decide) rfl
  have hK9 := hK.sub (tys' := [(cb, .byte)]) [0] rfl
  refine W.widen (k := 0) (n := 0) (Nat.le_of_ble_eq_true rfl) (Nat.le_of_ble_eq_true rfl) ?_
  exact W.vret hx hb hr (fun t ht hW => ⟨⟨(), rfl, trivial, f_1, by rw [ht]; exact hP9, va_K.moved hW.alike hK9, hD9⟩, hS.F ht⟩) hS.2.2 dX7_add_38
def ow_c_X7_add_10 : List Cond := [.fieldLink RX7 15 "DeadlineShare$Tape" "length" "I", .fieldLink RX7 11 "DeadlineShare$Tape" "bytes" "[B"]
def wq_c_X7_add_10 : List Cond := .code yX7_add cX7_add 2 none :: (ow_c_X7_add_10 ++ (u_ws RX7 TX7 2 ++ ([] : List Cond)))
theorem tb_c_X7_add_10 : ∀ w ∈ wq_c_X7_add_10, q_g w := by
  unfold wq_c_X7_add_10 ow_c_X7_add_10
  exact q_cons tw_296 (q_app (q_cons tw_294 (q_cons tw_20 q_nil)) (q_app tu_X7 q_nil))
set_option maxHeartbeats 4000000 in
set_option maxRecDepth 100000 in
theorem c_X7_add_10 (l : Launch) (dC : Nat → ClassId) (dI : Nat → Nat → Nat) (h0 : Nat) (on : Int32) (tb : Nat) (cb : ClassId) (fz : Nat → Int32) (sz : Nat) : Met l yX7_add wq_c_X7_add_10 ({ frames := 0, cells := 0, slots := 0, locals := 0 } : Room) (va_Pc [.ref h0, .int on] (fun U => U.heap.size = sz ∧ va_P (dC, dI) vwCl [(h0, .inr (7, [.ref tb, .int 10])), (tb, .inl (cb, 200, .inl fz))] U.heap ∧ va_K (dC, dI) vwCl [(cb, .byte)] U ∧ va_D (fun _ => True) [(h0, .inr (7, [.ref tb, .int 10])), (tb, .inl (cb, 200, .inl fz))])) (va_Qv (fun (_ : Unit) => True) (fun (_ : Unit) t => ∃ (f2 : Nat → Int32), va_P (dC, dI) vwCl [(h0, .inr (7, [.ref tb, .int 11])), (tb, .inl (cb, 200, .inl f2))] t.heap ∧ va_K (dC, dI) vwCl [(cb, .byte)] t ∧ va_D (va_A [(h0, .inr (7, [.ref tb, .int 10])), (tb, .inl (cb, 200, .inl fz))] sz) [(h0, .inr (7, [.ref tb, .int 11])), (tb, .inl (cb, 200, .inl f2))]) (va_A [(h0, .inr (7, [.ref tb, .int 10])), (tb, .inl (cb, 200, .inl fz))] sz)) 0 0 (va_A [(h0, .inr (7, [.ref tb, .int 10])), (tb, .inl (cb, 200, .inl fz))] sz) := by
  refine Met.ofW (cc := cX7_add) (maxL := 2) (ret := none) (by decide) rfl ?_
  intro p e s m args below meth c s₁ B hml hv
  obtain ⟨rfl, hsz, hP, hK, hD0⟩ := hv
  have hx := B.exec
  have hb := B.bytes
  have hr := B.returns
  have hts := atoms_spec (ws := wq_c_X7_add_10) B.pre
  have hown : s.vm.findClass RX7 = some m.cls := findClass_of_methodNamed B.named
  have hlocks := B.notSynchronized
  subst hsz
  have hD := hD0.self (sz := s.heap.size)
  obtain ⟨A, hAe⟩ : ∃ A, A = va_A [(h0, .inr (7, [.ref tb, .int 10])), (tb, .inl (cb, 200, .inl fz))] s.heap.size := ⟨_, rfl⟩
  rw [← hAe] at hD ⊢
  have hA : ∀ q : Nat, s.heap.size ≤ q → A q := fun q h => by rw [hAe]; exact Or.inr h
  have hS : va_S A s.heap s.heap [] := va_S.rf
  have hP : va_P (dC, dI) vwCl [(h0, .inr (7, [.ref tb, .int 10])), (tb, .inl (cb, 200, .inl fz))] s.heap := hP
  have hl := lv_entry ([.ref h0, .int on]) (n := 2) (Nat.le_of_ble_eq_true rfl)
  rw [lg_entry_eq]
  generalize (lg_sl ([.ref h0, .int on]) ++ List.replicate (2 - (lg_sl ([.ref h0, .int on])).length) Slot.unset).toArray = ls at hl ⊢
  have hl : lv_has ls 2 [(0, .ref h0), (1, .int on)] := hl
  refine lv_aload_n hx hb dX7_add_0 rfl (lv_at hl 0 rfl) ?_
  refine va_get (D := (dC, dI)) (ci := 7) (v := .int 10) (C := RX7) (T := TX7) (N := 2) hx hb hts (fun _ h0_ => List.mem_cons_of_mem _ (List.mem_append_right _ (List.mem_append_left _ h0_))) hown hK hP 0 rfl rfl 1 (by decide) (hts (.fieldLink RX7 15 "DeadlineShare$Tape" "length" "I") (List.mem_cons_of_mem _ (List.mem_append_left _ (List.mem_of_getElem? (i := 0) rfl)))) (fun _ h9 => h9) rfl dX7_add_1 ?_
  refine lv_if_lt (tgt := 38) hx hb dX7_add_4 (by decide) (fun c => absurd c (by decide)) (fun _ => ?_)
  refine lv_aload_n hx hb dX7_add_7 rfl (lv_at hl 0 rfl) ?_
  refine va_get (D := (dC, dI)) (ci := 7) (v := .int 10) (C := RX7) (T := TX7) (N := 2) hx hb hts (fun _ h0_ => List.mem_cons_of_mem _ (List.mem_append_right _ (List.mem_append_left _ h0_))) hown hK hP 0 rfl rfl 1 (by decide) (hts (.fieldLink RX7 15 "DeadlineShare$Tape" "length" "I") (List.mem_cons_of_mem _ (List.mem_append_left _ (List.mem_of_getElem? (i := 0) rfl)))) (fun _ h9 => h9) rfl dX7_add_8 ?_
  refine lv_sipush (v := 200) hx hb dX7_add_11 (by decide) ?_
  refine lv_icmp_ge (tgt := 38) hx hb dX7_add_14 (by decide) (fun c => absurd c (by decide)) (fun _ => ?_)
  refine lv_aload_n hx hb dX7_add_17 rfl (lv_at hl 0 rfl) ?_
  refine va_get (D := (dC, dI)) (ci := 7) (v := .ref tb) (C := RX7) (T := TX7) (N := 2) hx hb hts (fun _ h0_ => List.mem_cons_of_mem _ (List.mem_append_right _ (List.mem_append_left _ h0_))) hown hK hP 0 rfl rfl 0 (by decide) (hts (.fieldLink RX7 11 "DeadlineShare$Tape" "bytes" "[B") (List.mem_cons_of_mem _ (List.mem_append_left _ (List.mem_of_getElem? (i := 1) rfl)))) (fun _ h9 => h9) rfl dX7_add_18 ?_
  refine lv_aload_n hx hb dX7_add_21 rfl (lv_at hl 0 rfl) ?_
  refine va_get (D := (dC, dI)) (ci := 7) (v := .int 10) (C := RX7) (T := TX7) (N := 2) hx hb hts (fun _ h0_ => List.mem_cons_of_mem _ (List.mem_append_right _ (List.mem_append_left _ h0_))) hown hK hP 0 rfl rfl 1 (by decide) (hts (.fieldLink RX7 15 "DeadlineShare$Tape" "length" "I") (List.mem_cons_of_mem _ (List.mem_append_left _ (List.mem_of_getElem? (i := 0) rfl)))) (fun _ h9 => h9) rfl dX7_add_22 ?_
  refine lv_iload_n hx hb dX7_add_25 rfl (lv_at hl 1 rfl) ?_
  refine lv_i2b (v := on.toInt8.toInt32) hx hb dX7_add_26 rfl ?_
  refine va_bast hx hb hK hP hD hS 1 0 rfl rfl (by unfold vp_in; decide) dX7_add_27 (fun H locs hP hD hS => ?_)
  have hP : va_P (dC, dI) vwCl [(h0, .inr (7, [.ref tb, .int 10])), (tb, .inl (cb, 200, .inl (upd fz (Int32.toNatClampNeg 10) (vp_nar .byte on.toInt8.toInt32))))] H := hP
  have hD : va_D A [(h0, .inr (7, [.ref tb, .int 10])), (tb, .inl (cb, 200, .inl (upd fz (Int32.toNatClampNeg 10) (vp_nar .byte on.toInt8.toInt32))))] := hD
  generalize ef_1 : upd fz (Int32.toNatClampNeg 10) (vp_nar .byte on.toInt8.toInt32) = f_1 at hP hD
  refine lv_aload_n hx hb dX7_add_28 rfl (lv_at hl 0 rfl) ?_
  refine lv_dup hx hb dX7_add_29 rfl ?_
  refine va_get (D := (dC, dI)) (ci := 7) (v := .int 10) (C := RX7) (T := TX7) (N := 2) hx hb hts (fun _ h0_ => List.mem_cons_of_mem _ (List.mem_append_right _ (List.mem_append_left _ h0_))) hown hK hP 0 rfl rfl 1 (by decide) (hts (.fieldLink RX7 15 "DeadlineShare$Tape" "length" "I") (List.mem_cons_of_mem _ (List.mem_append_left _ (List.mem_of_getElem? (i := 0) rfl)))) (fun _ h9 => h9) rfl dX7_add_30 ?_
  refine lv_iconst (v := 1) hx hb dX7_add_33 (by decide) ?_
  refine lv_iadd hx hb dX7_add_34 ?_
  refine k_topi (y := 11) (by decide) ?_
  refine va_put (D := (dC, dI)) (ci := 7) (v := .int 11) (ty := .int) (C := RX7) (T := TX7) (N := 2) hx hb hts (fun _ h0_ => List.mem_cons_of_mem _ (List.mem_append_right _ (List.mem_append_left _ h0_))) tyX7 tyX7_ok nmX7 hown hK hP hD hS 0 rfl rfl 1 (by decide) (hts (.fieldLink RX7 15 "DeadlineShare$Tape" "length" "I") (List.mem_cons_of_mem _ (List.mem_append_left _ (List.mem_of_getElem? (i := 0) rfl)))) (fun _ h9 => h9) rfl (by decide +kernel) rfl rfl (Nat.le_of_ble_eq_true rfl) dX7_add_35 (fun H locs hP hD hS => ?_)
  have hP : va_P (dC, dI) vwCl [(h0, .inr (7, [.ref tb, .int 11])), (tb, .inl (cb, 200, .inl f_1))] H := hP
  have hD : va_D A [(h0, .inr (7, [.ref tb, .int 11])), (tb, .inl (cb, 200, .inl f_1))] := hD
  have hP9 := hP.sub (ws' := [(h0, .inr (7, [.ref tb, .int 11])), (tb, .inl (cb, 200, .inl f_1))]) [0, 1] rfl
  have hD9 := hD.sub (ws' := [(h0, .inr (7, [.ref tb, .int 11])), (tb, .inl (cb, 200, .inl f_1))]) [0, 1] (by decide) rfl
  have hK9 := hK.sub (tys' := [(cb, .byte)]) [0] rfl
  refine W.widen (k := 0) (n := 0) (Nat.le_of_ble_eq_true rfl) (Nat.le_of_ble_eq_true rfl) ?_
  exact W.vret hx hb hr (fun t ht hW => ⟨⟨(), rfl, trivial, f_1, by rw [ht]; exact hP9, va_K.moved hW.alike hK9, hD9⟩, hS.F ht⟩) hS.2.2 dX7_add_38
def ow_c_X7_add_11 : List Cond := [.fieldLink RX7 15 "DeadlineShare$Tape" "length" "I", .fieldLink RX7 11 "DeadlineShare$Tape" "bytes" "[B"]
def wq_c_X7_add_11 : List Cond := .code yX7_add cX7_add 2 none :: (ow_c_X7_add_11 ++ (u_ws RX7 TX7 2 ++ ([] : List Cond)))
theorem tb_c_X7_add_11 : ∀ w ∈ wq_c_X7_add_11, q_g w := by
  unfold wq_c_X7_add_11 ow_c_X7_add_11
  exact q_cons tw_296 (q_app (q_cons tw_294 (q_cons tw_20 q_nil)) (q_app tu_X7 q_nil))
set_option maxHeartbeats 4000000 in
set_option maxRecDepth 100000 in
theorem c_X7_add_11 (l : Launch) (dC : Nat → ClassId) (dI : Nat → Nat → Nat) (h0 : Nat) (on : Int32) (tb : Nat) (cb : ClassId) (fz : Nat → Int32) (sz : Nat) : Met l yX7_add wq_c_X7_add_11 ({ frames := 0, cells := 0, slots := 0, locals := 0 } : Room) (va_Pc [.ref h0, .int on] (fun U => U.heap.size = sz ∧ va_P (dC, dI) vwCl [(h0, .inr (7, [.ref tb, .int 11])), (tb, .inl (cb, 200, .inl fz))] U.heap ∧ va_K (dC, dI) vwCl [(cb, .byte)] U ∧ va_D (fun _ => True) [(h0, .inr (7, [.ref tb, .int 11])), (tb, .inl (cb, 200, .inl fz))])) (va_Qv (fun (_ : Unit) => True) (fun (_ : Unit) t => ∃ (f2 : Nat → Int32), va_P (dC, dI) vwCl [(h0, .inr (7, [.ref tb, .int 12])), (tb, .inl (cb, 200, .inl f2))] t.heap ∧ va_K (dC, dI) vwCl [(cb, .byte)] t ∧ va_D (va_A [(h0, .inr (7, [.ref tb, .int 11])), (tb, .inl (cb, 200, .inl fz))] sz) [(h0, .inr (7, [.ref tb, .int 12])), (tb, .inl (cb, 200, .inl f2))]) (va_A [(h0, .inr (7, [.ref tb, .int 11])), (tb, .inl (cb, 200, .inl fz))] sz)) 0 0 (va_A [(h0, .inr (7, [.ref tb, .int 11])), (tb, .inl (cb, 200, .inl fz))] sz) := by
  refine Met.ofW (cc := cX7_add) (maxL := 2) (ret := none) (by decide) rfl ?_
  intro p e s m args below meth c s₁ B hml hv
  obtain ⟨rfl, hsz, hP, hK, hD0⟩ := hv
  have hx := B.exec
  have hb := B.bytes
  have hr := B.returns
  have hts := atoms_spec (ws := wq_c_X7_add_11) B.pre
  have hown : s.vm.findClass RX7 = some m.cls := findClass_of_methodNamed B.named
  have hlocks := B.notSynchronized
  subst hsz
  have hD := hD0.self (sz := s.heap.size)
  obtain ⟨A, hAe⟩ : ∃ A, A = va_A [(h0, .inr (7, [.ref tb, .int 11])), (tb, .inl (cb, 200, .inl fz))] s.heap.size := ⟨_, rfl⟩
  rw [← hAe] at hD ⊢
  have hA : ∀ q : Nat, s.heap.size ≤ q → A q := fun q h => by rw [hAe]; exact Or.inr h
  have hS : va_S A s.heap s.heap [] := va_S.rf
  have hP : va_P (dC, dI) vwCl [(h0, .inr (7, [.ref tb, .int 11])), (tb, .inl (cb, 200, .inl fz))] s.heap := hP
  have hl := lv_entry ([.ref h0, .int on]) (n := 2) (Nat.le_of_ble_eq_true rfl)
  rw [lg_entry_eq]
  generalize (lg_sl ([.ref h0, .int on]) ++ List.replicate (2 - (lg_sl ([.ref h0, .int on])).length) Slot.unset).toArray = ls at hl ⊢
  have hl : lv_has ls 2 [(0, .ref h0), (1, .int on)] := hl
  refine lv_aload_n hx hb dX7_add_0 rfl (lv_at hl 0 rfl) ?_
  refine va_get (D := (dC, dI)) (ci := 7) (v := .int 11) (C := RX7) (T := TX7) (N := 2) hx hb hts (fun _ h0_ => List.mem_cons_of_mem _ (List.mem_append_right _ (List.mem_append_left _ h0_))) hown hK hP 0 rfl rfl 1 (by decide) (hts (.fieldLink RX7 15 "DeadlineShare$Tape" "length" "I") (List.mem_cons_of_mem _ (List.mem_append_left _ (List.mem_of_getElem? (i := 0) rfl)))) (fun _ h9 => h9) rfl dX7_add_1 ?_
  refine lv_if_lt (tgt := 38) hx hb dX7_add_4 (by decide) (fun c => absurd c (by decide)) (fun _ => ?_)
  refine lv_aload_n hx hb dX7_add_7 rfl (lv_at hl 0 rfl) ?_
  refine va_get (D := (dC, dI)) (ci := 7) (v := .int 11) (C := RX7) (T := TX7) (N := 2) hx hb hts (fun _ h0_ => List.mem_cons_of_mem _ (List.mem_append_right _ (List.mem_append_left _ h0_))) hown hK hP 0 rfl rfl 1 (by decide) (hts (.fieldLink RX7 15 "DeadlineShare$Tape" "length" "I") (List.mem_cons_of_mem _ (List.mem_append_left _ (List.mem_of_getElem? (i := 0) rfl)))) (fun _ h9 => h9) rfl dX7_add_8 ?_
  refine lv_sipush (v := 200) hx hb dX7_add_11 (by decide) ?_
  refine lv_icmp_ge (tgt := 38) hx hb dX7_add_14 (by decide) (fun c => absurd c (by decide)) (fun _ => ?_)
  refine lv_aload_n hx hb dX7_add_17 rfl (lv_at hl 0 rfl) ?_
  refine va_get (D := (dC, dI)) (ci := 7) (v := .ref tb) (C := RX7) (T := TX7) (N := 2) hx hb hts (fun _ h0_ => List.mem_cons_of_mem _ (List.mem_append_right _ (List.mem_append_left _ h0_))) hown hK hP 0 rfl rfl 0 (by decide) (hts (.fieldLink RX7 11 "DeadlineShare$Tape" "bytes" "[B") (List.mem_cons_of_mem _ (List.mem_append_left _ (List.mem_of_getElem? (i := 1) rfl)))) (fun _ h9 => h9) rfl dX7_add_18 ?_
  refine lv_aload_n hx hb dX7_add_21 rfl (lv_at hl 0 rfl) ?_
  refine va_get (D := (dC, dI)) (ci := 7) (v := .int 11) (C := RX7) (T := TX7) (N := 2) hx hb hts (fun _ h0_ => List.mem_cons_of_mem _ (List.mem_append_right _ (List.mem_append_left _ h0_))) hown hK hP 0 rfl rfl 1 (by decide) (hts (.fieldLink RX7 15 "DeadlineShare$Tape" "length" "I") (List.mem_cons_of_mem _ (List.mem_append_left _ (List.mem_of_getElem? (i := 0) rfl)))) (fun _ h9 => h9) rfl dX7_add_22 ?_
  refine lv_iload_n hx hb dX7_add_25 rfl (lv_at hl 1 rfl) ?_
  refine lv_i2b (v := on.toInt8.toInt32) hx hb dX7_add_26 rfl ?_
  refine va_bast hx hb hK hP hD hS 1 0 rfl rfl (by unfold vp_in; decide) dX7_add_27 (fun H locs hP hD hS => ?_)
  have hP : va_P (dC, dI) vwCl [(h0, .inr (7, [.ref tb, .int 11])), (tb, .inl (cb, 200, .inl (upd fz (Int32.toNatClampNeg 11) (vp_nar .byte on.toInt8.toInt32))))] H := hP
  have hD : va_D A [(h0, .inr (7, [.ref tb, .int 11])), (tb, .inl (cb, 200, .inl (upd fz (Int32.toNatClampNeg 11) (vp_nar .byte on.toInt8.toInt32))))] := hD
  generalize ef_1 : upd fz (Int32.toNatClampNeg 11) (vp_nar .byte on.toInt8.toInt32) = f_1 at hP hD
  refine lv_aload_n hx hb dX7_add_28 rfl (lv_at hl 0 rfl) ?_
  refine lv_dup hx hb dX7_add_29 rfl ?_
  refine va_get (D := (dC, dI)) (ci := 7) (v := .int 11) (C := RX7) (T := TX7) (N := 2) hx hb hts (fun _ h0_ => List.mem_cons_of_mem _ (List.mem_append_right _ (List.mem_append_left _ h0_))) hown hK hP 0 rfl rfl 1 (by decide) (hts (.fieldLink RX7 15 "DeadlineShare$Tape" "length" "I") (List.mem_cons_of_mem _ (List.mem_append_left _ (List.mem_of_getElem? (i := 0) rfl)))) (fun _ h9 => h9) rfl dX7_add_30 ?_
  refine lv_iconst (v := 1) hx hb dX7_add_33 (by decide) ?_
  refine lv_iadd hx hb dX7_add_34 ?_
  refine k_topi (y := 12) (by decide) ?_
  refine va_put (D := (dC, dI)) (ci := 7) (v := .int 12) (ty := .int) (C := RX7) (T := TX7) (N := 2) hx hb hts (fun _ h0_ => List.mem_cons_of_mem _ (List.mem_append_right _ (List.mem_append_left _ h0_))) tyX7 tyX7_ok nmX7 hown hK hP hD hS 0 rfl rfl 1 (by decide) (hts (.fieldLink RX7 15 "DeadlineShare$Tape" "length" "I") (List.mem_cons_of_mem _ (List.mem_append_left _ (List.mem_of_getElem? (i := 0) rfl)))) (fun _ h9 => h9) rfl (by decide +kernel) rfl rfl (Nat.le_of_ble_eq_true rfl) dX7_add_35 (fun H locs hP hD hS => ?_)
  have hP : va_P (dC, dI) vwCl [(h0, .inr (7, [.ref tb, .int 12])), (tb, .inl (cb, 200, .inl f_1))] H := hP
  have hD : va_D A [(h0, .inr (7, [.ref tb, .int 12])), (tb, .inl (cb, 200, .inl f_1))] := hD
  have hP9 := hP.sub (ws' := [(h0, .inr (7, [.ref tb, .int 12])), (tb, .inl (cb, 200, .inl f_1))]) [0, 1] rfl
  have hD9 := hD.sub (ws' := [(h0, .inr (7, [.ref tb, .int 12])), (tb, .inl (cb, 200, .inl f_1))]) [0, 1] (by decide) rfl
  have hK9 := hK.sub (tys' := [(cb, .byte)]) [0] rfl
  refine W.widen (k := 0) (n := 0) (Nat.le_of_ble_eq_true rfl) (Nat.le_of_ble_eq_true rfl) ?_
  exact W.vret hx hb hr (fun t ht hW => ⟨⟨(), rfl, trivial, f_1, by rw [ht]; exact hP9, va_K.moved hW.alike hK9, hD9⟩, hS.F ht⟩) hS.2.2 dX7_add_38
def ow_c_X7_add_12 : List Cond := [.fieldLink RX7 15 "DeadlineShare$Tape" "length" "I", .fieldLink RX7 11 "DeadlineShare$Tape" "bytes" "[B"]
def wq_c_X7_add_12 : List Cond := .code yX7_add cX7_add 2 none :: (ow_c_X7_add_12 ++ (u_ws RX7 TX7 2 ++ ([] : List Cond)))
theorem tb_c_X7_add_12 : ∀ w ∈ wq_c_X7_add_12, q_g w := by
  unfold wq_c_X7_add_12 ow_c_X7_add_12
  exact q_cons tw_296 (q_app (q_cons tw_294 (q_cons tw_20 q_nil)) (q_app tu_X7 q_nil))
set_option maxHeartbeats 4000000 in
set_option maxRecDepth 100000 in
theorem c_X7_add_12 (l : Launch) (dC : Nat → ClassId) (dI : Nat → Nat → Nat) (h0 : Nat) (on : Int32) (tb : Nat) (cb : ClassId) (fz : Nat → Int32) (sz : Nat) : Met l yX7_add wq_c_X7_add_12 ({ frames := 0, cells := 0, slots := 0, locals := 0 } : Room) (va_Pc [.ref h0, .int on] (fun U => U.heap.size = sz ∧ va_P (dC, dI) vwCl [(h0, .inr (7, [.ref tb, .int 12])), (tb, .inl (cb, 200, .inl fz))] U.heap ∧ va_K (dC, dI) vwCl [(cb, .byte)] U ∧ va_D (fun _ => True) [(h0, .inr (7, [.ref tb, .int 12])), (tb, .inl (cb, 200, .inl fz))])) (va_Qv (fun (_ : Unit) => True) (fun (_ : Unit) t => ∃ (f2 : Nat → Int32), va_P (dC, dI) vwCl [(h0, .inr (7, [.ref tb, .int 13])), (tb, .inl (cb, 200, .inl f2))] t.heap ∧ va_K (dC, dI) vwCl [(cb, .byte)] t ∧ va_D (va_A [(h0, .inr (7, [.ref tb, .int 12])), (tb, .inl (cb, 200, .inl fz))] sz) [(h0, .inr (7, [.ref tb, .int 13])), (tb, .inl (cb, 200, .inl f2))]) (va_A [(h0, .inr (7, [.ref tb, .int 12])), (tb, .inl (cb, 200, .inl fz))] sz)) 0 0 (va_A [(h0, .inr (7, [.ref tb, .int 12])), (tb, .inl (cb, 200, .inl fz))] sz) := by
  refine Met.ofW (cc := cX7_add) (maxL := 2) (ret := none) (by decide) rfl ?_
  intro p e s m args below meth c s₁ B hml hv
  obtain ⟨rfl, hsz, hP, hK, hD0⟩ := hv
  have hx := B.exec
  have hb := B.bytes
  have hr := B.returns
  have hts := atoms_spec (ws := wq_c_X7_add_12) B.pre
  have hown : s.vm.findClass RX7 = some m.cls := findClass_of_methodNamed B.named
  have hlocks := B.notSynchronized
  subst hsz
  have hD := hD0.self (sz := s.heap.size)
  obtain ⟨A, hAe⟩ : ∃ A, A = va_A [(h0, .inr (7, [.ref tb, .int 12])), (tb, .inl (cb, 200, .inl fz))] s.heap.size := ⟨_, rfl⟩
  rw [← hAe] at hD ⊢
  have hA : ∀ q : Nat, s.heap.size ≤ q → A q := fun q h => by rw [hAe]; exact Or.inr h
  have hS : va_S A s.heap s.heap [] := va_S.rf
  have hP : va_P (dC, dI) vwCl [(h0, .inr (7, [.ref tb, .int 12])), (tb, .inl (cb, 200, .inl fz))] s.heap := hP
  have hl := lv_entry ([.ref h0, .int on]) (n := 2) (Nat.le_of_ble_eq_true rfl)
  rw [lg_entry_eq]
  generalize (lg_sl ([.ref h0, .int on]) ++ List.replicate (2 - (lg_sl ([.ref h0, .int on])).length) Slot.unset).toArray = ls at hl ⊢
  have hl : lv_has ls 2 [(0, .ref h0), (1, .int on)] := hl
  refine lv_aload_n hx hb dX7_add_0 rfl (lv_at hl 0 rfl) ?_
  refine va_get (D := (dC, dI)) (ci := 7) (v := .int 12) (C := RX7) (T := TX7) (N := 2) hx hb hts (fun _ h0_ => List.mem_cons_of_mem _ (List.mem_append_right _ (List.mem_append_left _ h0_))) hown hK hP 0 rfl rfl 1 (by decide) (hts (.fieldLink RX7 15 "DeadlineShare$Tape" "length" "I") (List.mem_cons_of_mem _ (List.mem_append_left _ (List.mem_of_getElem? (i := 0) rfl)))) (fun _ h9 => h9) rfl dX7_add_1 ?_
  refine lv_if_lt (tgt := 38) hx hb dX7_add_4 (by decide) (fun c => absurd c (by decide)) (fun _ => ?_)
  refine lv_aload_n hx hb dX7_add_7 rfl (lv_at hl 0 rfl) ?_
  refine va_get (D := (dC, dI)) (ci := 7) (v := .int 12) (C := RX7) (T := TX7) (N := 2) hx hb hts (fun _ h0_ => List.mem_cons_of_mem _ (List.mem_append_right _ (List.mem_append_left _ h0_))) hown hK hP 0 rfl rfl 1 (by decide) (hts (.fieldLink RX7 15 "DeadlineShare$Tape" "length" "I") (List.mem_cons_of_mem _ (List.mem_append_left _ (List.mem_of_getElem? (i := 0) rfl)))) (fun _ h9 => h9) rfl dX7_add_8 ?_
  refine lv_sipush (v := 200) hx hb dX7_add_11 (by decide) ?_
  refine lv_icmp_ge (tgt := 38) hx hb dX7_add_14 (by decide) (fun c => absurd c (by decide)) (fun _ => ?_)
  refine lv_aload_n hx hb dX7_add_17 rfl (lv_at hl 0 rfl) ?_
  refine va_get (D := (dC, dI)) (ci := 7) (v := .ref tb) (C := RX7) (T := TX7) (N := 2) hx hb hts (fun _ h0_ => List.mem_cons_of_mem _ (List.mem_append_right _ (List.mem_append_left _ h0_))) hown hK hP 0 rfl rfl 0 (by decide) (hts (.fieldLink RX7 11 "DeadlineShare$Tape" "bytes" "[B") (List.mem_cons_of_mem _ (List.mem_append_left _ (List.mem_of_getElem? (i := 1) rfl)))) (fun _ h9 => h9) rfl dX7_add_18 ?_
  refine lv_aload_n hx hb dX7_add_21 rfl (lv_at hl 0 rfl) ?_
  refine va_get (D := (dC, dI)) (ci := 7) (v := .int 12) (C := RX7) (T := TX7) (N := 2) hx hb hts (fun _ h0_ => List.mem_cons_of_mem _ (List.mem_append_right _ (List.mem_append_left _ h0_))) hown hK hP 0 rfl rfl 1 (by decide) (hts (.fieldLink RX7 15 "DeadlineShare$Tape" "length" "I") (List.mem_cons_of_mem _ (List.mem_append_left _ (List.mem_of_getElem? (i := 0) rfl)))) (fun _ h9 => h9) rfl dX7_add_22 ?_
  refine lv_iload_n hx hb dX7_add_25 rfl (lv_at hl 1 rfl) ?_
  refine lv_i2b (v := on.toInt8.toInt32) hx hb dX7_add_26 rfl ?_
  refine va_bast hx hb hK hP hD hS 1 0 rfl rfl (by unfold vp_in; decide) dX7_add_27 (fun H locs hP hD hS => ?_)
  have hP : va_P (dC, dI) vwCl [(h0, .inr (7, [.ref tb, .int 12])), (tb, .inl (cb, 200, .inl (upd fz (Int32.toNatClampNeg 12) (vp_nar .byte on.toInt8.toInt32))))] H := hP
  have hD : va_D A [(h0, .inr (7, [.ref tb, .int 12])), (tb, .inl (cb, 200, .inl (upd fz (Int32.toNatClampNeg 12) (vp_nar .byte on.toInt8.toInt32))))] := hD
  generalize ef_1 : upd fz (Int32.toNatClampNeg 12) (vp_nar .byte on.toInt8.toInt32) = f_1 at hP hD
  refine lv_aload_n hx hb dX7_add_28 rfl (lv_at hl 0 rfl) ?_
  refine lv_dup hx hb dX7_add_29 rfl ?_
  refine va_get (D := (dC, dI)) (ci := 7) (v := .int 12) (C := RX7) (T := TX7) (N := 2) hx hb hts (fun _ h0_ => List.mem_cons_of_mem _ (List.mem_append_right _ (List.mem_append_left _ h0_))) hown hK hP 0 rfl rfl 1 (by decide) (hts (.fieldLink RX7 15 "DeadlineShare$Tape" "length" "I") (List.mem_cons_of_mem _ (List.mem_append_left _ (List.mem_of_getElem? (i := 0) rfl)))) (fun _ h9 => h9) rfl dX7_add_30 ?_
  refine lv_iconst (v := 1) hx hb dX7_add_33 (by decide) ?_
  refine lv_iadd hx hb dX7_add_34 ?_
  refine k_topi (y := 13) (by decide) ?_
  refine va_put (D := (dC, dI)) (ci := 7) (v := .int 13) (ty := .int) (C := RX7) (T := TX7) (N := 2) hx hb hts (fun _ h0_ => List.mem_cons_of_mem _ (List.mem_append_right _ (List.mem_append_left _ h0_))) tyX7 tyX7_ok nmX7 hown hK hP hD hS 0 rfl rfl 1 (by decide) (hts (.fieldLink RX7 15 "DeadlineShare$Tape" "length" "I") (List.mem_cons_of_mem _ (List.mem_append_left _ (List.mem_of_getElem? (i := 0) rfl)))) (fun _ h9 => h9) rfl (by decide +kernel) rfl rfl (Nat.le_of_ble_eq_true rfl) dX7_add_35 (fun H locs hP hD hS => ?_)
  have hP : va_P (dC, dI) vwCl [(h0, .inr (7, [.ref tb, .int 13])), (tb, .inl (cb, 200, .inl f_1))] H := hP
  have hD : va_D A [(h0, .inr (7, [.ref tb, .int 13])), (tb, .inl (cb, 200, .inl f_1))] := hD
  have hP9 := hP.sub (ws' := [(h0, .inr (7, [.ref tb, .int 13])), (tb, .inl (cb, 200, .inl f_1))]) [0, 1] rfl
  have hD9 := hD.sub (ws' := [(h0, .inr (7, [.ref tb, .int 13])), (tb, .inl (cb, 200, .inl f_1))]) [0, 1] (by decide) rfl
  have hK9 := hK.sub (tys' := [(cb, .byte)]) [0] rfl
  refine W.widen (k := 0) (n := 0) (Nat.le_of_ble_eq_true rfl) (Nat.le_of_ble_eq_true rfl) ?_
  exact W.vret hx hb hr (fun t ht hW => ⟨⟨(), rfl, trivial, f_1, by rw [ht]; exact hP9, va_K.moved hW.alike hK9, hD9⟩, hS.F ht⟩) hS.2.2 dX7_add_38
def ow_c_X7_add_13 : List Cond := [.fieldLink RX7 15 "DeadlineShare$Tape" "length" "I", .fieldLink RX7 11 "DeadlineShare$Tape" "bytes" "[B"]
def wq_c_X7_add_13 : List Cond := .code yX7_add cX7_add 2 none :: (ow_c_X7_add_13 ++ (u_ws RX7 TX7 2 ++ ([] : List Cond)))
theorem tb_c_X7_add_13 : ∀ w ∈ wq_c_X7_add_13, q_g w := by
  unfold wq_c_X7_add_13 ow_c_X7_add_13
  exact q_cons tw_296 (q_app (q_cons tw_294 (q_cons tw_20 q_nil)) (q_app tu_X7 q_nil))
set_option maxHeartbeats 4000000 in
set_option maxRecDepth 100000 in
theorem c_X7_add_13 (l : Launch) (dC : Nat → ClassId) (dI : Nat → Nat → Nat) (h0 : Nat) (on : Int32) (tb : Nat) (cb : ClassId) (fz : Nat → Int32) (sz : Nat) : Met l yX7_add wq_c_X7_add_13 ({ frames := 0, cells := 0, slots := 0, locals := 0 } : Room) (va_Pc [.ref h0, .int on] (fun U => U.heap.size = sz ∧ va_P (dC, dI) vwCl [(h0, .inr (7, [.ref tb, .int 13])), (tb, .inl (cb, 200, .inl fz))] U.heap ∧ va_K (dC, dI) vwCl [(cb, .byte)] U ∧ va_D (fun _ => True) [(h0, .inr (7, [.ref tb, .int 13])), (tb, .inl (cb, 200, .inl fz))])) (va_Qv (fun (_ : Unit) => True) (fun (_ : Unit) t => ∃ (f2 : Nat → Int32), va_P (dC, dI) vwCl [(h0, .inr (7, [.ref tb, .int 14])), (tb, .inl (cb, 200, .inl f2))] t.heap ∧ va_K (dC, dI) vwCl [(cb, .byte)] t ∧ va_D (va_A [(h0, .inr (7, [.ref tb, .int 13])), (tb, .inl (cb, 200, .inl fz))] sz) [(h0, .inr (7, [.ref tb, .int 14])), (tb, .inl (cb, 200, .inl f2))]) (va_A [(h0, .inr (7, [.ref tb, .int 13])), (tb, .inl (cb, 200, .inl fz))] sz)) 0 0 (va_A [(h0, .inr (7, [.ref tb, .int 13])), (tb, .inl (cb, 200, .inl fz))] sz) := by
  refine Met.ofW (cc := cX7_add) (maxL := 2) (ret := none) (by decide) rfl ?_
  intro p e s m args below meth c s₁ B hml hv
  obtain ⟨rfl, hsz, hP, hK, hD0⟩ := hv
  have hx := B.exec
  have hb := B.bytes
  have hr := B.returns
  have hts := atoms_spec (ws := wq_c_X7_add_13) B.pre
  have hown : s.vm.findClass RX7 = some m.cls := findClass_of_methodNamed B.named
  have hlocks := B.notSynchronized
  subst hsz
  have hD := hD0.self (sz := s.heap.size)
  obtain ⟨A, hAe⟩ : ∃ A, A = va_A [(h0, .inr (7, [.ref tb, .int 13])), (tb, .inl (cb, 200, .inl fz))] s.heap.size := ⟨_, rfl⟩
  rw [← hAe] at hD ⊢
  have hA : ∀ q : Nat, s.heap.size ≤ q → A q := fun q h => by rw [hAe]; exact Or.inr h
  have hS : va_S A s.heap s.heap [] := va_S.rf
  have hP : va_P (dC, dI) vwCl [(h0, .inr (7, [.ref tb, .int 13])), (tb, .inl (cb, 200, .inl fz))] s.heap := hP
  have hl := lv_entry ([.ref h0, .int on]) (n := 2) (Nat.le_of_ble_eq_true rfl)
  rw [lg_entry_eq]
  generalize (lg_sl ([.ref h0, .int on]) ++ List.replicate (2 - (lg_sl ([.ref h0, .int on])).length) Slot.unset).toArray = ls at hl ⊢
  have hl : lv_has ls 2 [(0, .ref h0), (1, .int on)] := hl
  refine lv_aload_n hx hb dX7_add_0 rfl (lv_at hl 0 rfl) ?_
  refine va_get (D := (dC, dI)) (ci := 7) (v := .int 13) (C := RX7) (T := TX7) (N := 2) hx hb hts (fun _ h0_ => List.mem_cons_of_mem _ (List.mem_append_right _ (List.mem_append_left _ h0_))) hown hK hP 0 rfl rfl 1 (by decide) (hts (.fieldLink RX7 15 "DeadlineShare$Tape" "length" "I") (List.mem_cons_of_mem _ (List.mem_append_left _ (List.mem_of_getElem? (i := 0) rfl)))) (fun _ h9 => h9) rfl dX7_add_1 ?_
  refine lv_if_lt (tgt := 38) hx hb dX7_add_4 (by decide) (fun c => absurd c (by decide)) (fun _ => ?_)
  refine lv_aload_n hx hb dX7_add_7 rfl (lv_at hl 0 rfl) ?_
  refine va_get (D := (dC, dI)) (ci := 7) (v := .int 13) (C := RX7) (T := TX7) (N := 2) hx hb hts (fun _ h0_ => List.mem_cons_of_mem _ (List.mem_append_right _ (List.mem_append_left _ h0_))) hown hK hP 0 rfl rfl 1 (by decide) (hts (.fieldLink RX7 15 "DeadlineShare$Tape" "length" "I") (List.mem_cons_of_mem _ (List.mem_append_left _ (List.mem_of_getElem? (i := 0) rfl)))) (fun _ h9 => h9) rfl dX7_add_8 ?_
  refine lv_sipush (v := 200) hx hb dX7_add_11 (by decide) ?_
  refine lv_icmp_ge (tgt := 38) hx hb dX7_add_14 (by decide) (fun c => absurd c (by decide)) (fun _ => ?_)
  refine lv_aload_n hx hb dX7_add_17 rfl (lv_at hl 0 rfl) ?_
  refine va_get (D := (dC, dI)) (ci := 7) (v := .ref tb) (C := RX7) (T := TX7) (N := 2) hx hb hts (fun _ h0_ => List.mem_cons_of_mem _ (List.mem_append_right _ (List.mem_append_left _ h0_))) hown hK hP 0 rfl rfl 0 (by decide) (hts (.fieldLink RX7 11 "DeadlineShare$Tape" "bytes" "[B") (List.mem_cons_of_mem _ (List.mem_append_left _ (List.mem_of_getElem? (i := 1) rfl)))) (fun _ h9 => h9) rfl dX7_add_18 ?_
  refine lv_aload_n hx hb dX7_add_21 rfl (lv_at hl 0 rfl) ?_
  refine va_get (D := (dC, dI)) (ci := 7) (v := .int 13) (C := RX7) (T := TX7) (N := 2) hx hb hts (fun _ h0_ => List.mem_cons_of_mem _ (List.mem_append_right _ (List.mem_append_left _ h0_))) hown hK hP 0 rfl rfl 1 (by decide) (hts (.fieldLink RX7 15 "DeadlineShare$Tape" "length" "I") (List.mem_cons_of_mem _ (List.mem_append_left _ (List.mem_of_getElem? (i := 0) rfl)))) (fun _ h9 => h9) rfl dX7_add_22 ?_
  refine lv_iload_n hx hb dX7_add_25 rfl (lv_at hl 1 rfl) ?_
  refine lv_i2b (v := on.toInt8.toInt32) hx hb dX7_add_26 rfl ?_
  refine va_bast hx hb hK hP hD hS 1 0 rfl rfl (by unfold vp_in; decide) dX7_add_27 (fun H locs hP hD hS => ?_)
  have hP : va_P (dC, dI) vwCl [(h0, .inr (7, [.ref tb, .int 13])), (tb, .inl (cb, 200, .inl (upd fz (Int32.toNatClampNeg 13) (vp_nar .byte on.toInt8.toInt32))))] H := hP
  have hD : va_D A [(h0, .inr (7, [.ref tb, .int 13])), (tb, .inl (cb, 200, .inl (upd fz (Int32.toNatClampNeg 13) (vp_nar .byte on.toInt8.toInt32))))] := hD
  generalize ef_1 : upd fz (Int32.toNatClampNeg 13) (vp_nar .byte on.toInt8.toInt32) = f_1 at hP hD
  refine lv_aload_n hx hb dX7_add_28 rfl (lv_at hl 0 rfl) ?_
  refine lv_dup hx hb dX7_add_29 rfl ?_
  refine va_get (D := (dC, dI)) (ci := 7) (v := .int 13) (C := RX7) (T := TX7) (N := 2) hx hb hts (fun _ h0_ => List.mem_cons_of_mem _ (List.mem_append_right _ (List.mem_append_left _ h0_))) hown hK hP 0 rfl rfl 1 (by decide) (hts (.fieldLink RX7 15 "DeadlineShare$Tape" "length" "I") (List.mem_cons_of_mem _ (List.mem_append_left _ (List.mem_of_getElem? (i := 0) rfl)))) (fun _ h9 => h9) rfl dX7_add_30 ?_
  refine lv_iconst (v := 1) hx hb dX7_add_33 (by decide) ?_
  refine lv_iadd hx hb dX7_add_34 ?_
  refine k_topi (y := 14) (by decide) ?_
  refine va_put (D := (dC, dI)) (ci := 7) (v := .int 14) (ty := .int) (C := RX7) (T := TX7) (N := 2) hx hb hts (fun _ h0_ => List.mem_cons_of_mem _ (List.mem_append_right _ (List.mem_append_left _ h0_))) tyX7 tyX7_ok nmX7 hown hK hP hD hS 0 rfl rfl 1 (by decide) (hts (.fieldLink RX7 15 "DeadlineShare$Tape" "length" "I") (List.mem_cons_of_mem _ (List.mem_append_left _ (List.mem_of_getElem? (i := 0) rfl)))) (fun _ h9 => h9) rfl (by decide +kernel) rfl rfl (Nat.le_of_ble_eq_true rfl) dX7_add_35 (fun H locs hP hD hS => ?_)
  have hP : va_P (dC, dI) vwCl [(h0, .inr (7, [.ref tb, .int 14])), (tb, .inl (cb, 200, .inl f_1))] H := hP
  have hD : va_D A [(h0, .inr (7, [.ref tb, .int 14])), (tb, .inl (cb, 200, .inl f_1))] := hD
  have hP9 := hP.sub (ws' := [(h0, .inr (7, [.ref tb, .int 14])), (tb, .inl (cb, 200, .inl f_1))]) [0, 1] rfl
  have hD9 := hD.sub (ws' := [(h0, .inr (7, [.ref tb, .int 14])), (tb, .inl (cb, 200, .inl f_1))]) [0, 1] (by decide) rfl
  have hK9 := hK.sub (tys' := [(cb, .byte)]) [0] rfl
  refine W.widen (k := 0) (n := 0) (Nat.le_of_ble_eq_true rfl) (Nat.le_of_ble_eq_true rfl) ?_
  exact W.vret hx hb hr (fun t ht hW => ⟨⟨(), rfl, trivial, f_1, by rw [ht]; exact hP9, va_K.moved hW.alike hK9, hD9⟩, hS.F ht⟩) hS.2.2 dX7_add_38
def ow_c_X7_add_14 : List Cond := [.fieldLink RX7 15 "DeadlineShare$Tape" "length" "I", .fieldLink RX7 11 "DeadlineShare$Tape" "bytes" "[B"]
def wq_c_X7_add_14 : List Cond := .code yX7_add cX7_add 2 none :: (ow_c_X7_add_14 ++ (u_ws RX7 TX7 2 ++ ([] : List Cond)))
theorem tb_c_X7_add_14 : ∀ w ∈ wq_c_X7_add_14, q_g w := by
  unfold wq_c_X7_add_14 ow_c_X7_add_14
  exact q_cons tw_296 (q_app (q_cons tw_294 (q_cons tw_20 q_nil)) (q_app tu_X7 q_nil))
set_option maxHeartbeats 4000000 in
set_option maxRecDepth 100000 in
theorem c_X7_add_14 (l : Launch) (dC : Nat → ClassId) (dI : Nat → Nat → Nat) (h0 : Nat) (on : Int32) (tb : Nat) (cb : ClassId) (fz : Nat → Int32) (sz : Nat) : Met l yX7_add wq_c_X7_add_14 ({ frames := 0, cells := 0, slots := 0, locals := 0 } : Room) (va_Pc [.ref h0, .int on] (fun U => U.heap.size = sz ∧ va_P (dC, dI) vwCl [(h0, .inr (7, [.ref tb, .int 14])), (tb, .inl (cb, 200, .inl fz))] U.heap ∧ va_K (dC, dI) vwCl [(cb, .byte)] U ∧ va_D (fun _ => True) [(h0, .inr (7, [.ref tb, .int 14])), (tb, .inl (cb, 200, .inl fz))])) (va_Qv (fun (_ : Unit) => True) (fun (_ : Unit) t => ∃ (f2 : Nat → Int32), va_P (dC, dI) vwCl [(h0, .inr (7, [.ref tb, .int 15])), (tb, .inl (cb, 200, .inl f2))] t.heap ∧ va_K (dC, dI) vwCl [(cb, .byte)] t ∧ va_D (va_A [(h0, .inr (7, [.ref tb, .int 14])), (tb, .inl (cb, 200, .inl fz))] sz) [(h0, .inr (7, [.ref tb, .int 15])), (tb, .inl (cb, 200, .inl f2))]) (va_A [(h0, .inr (7, [.ref tb, .int 14])), (tb, .inl (cb, 200, .inl fz))] sz)) 0 0 (va_A [(h0, .inr (7, [.ref tb, .int 14])), (tb, .inl (cb, 200, .inl fz))] sz) := by
  refine Met.ofW (cc := cX7_add) (maxL := 2) (ret := none) (by decide) rfl ?_
  intro p e s m args below meth c s₁ B hml hv
  obtain ⟨rfl, hsz, hP, hK, hD0⟩ := hv
  have hx := B.exec
  have hb := B.bytes
  have hr := B.returns
  have hts := atoms_spec (ws := wq_c_X7_add_14) B.pre
  have hown : s.vm.findClass RX7 = some m.cls := findClass_of_methodNamed B.named
  have hlocks := B.notSynchronized
  subst hsz
  have hD := hD0.self (sz := s.heap.size)
  obtain ⟨A, hAe⟩ : ∃ A, A = va_A [(h0, .inr (7, [.ref tb, .int 14])), (tb, .inl (cb, 200, .inl fz))] s.heap.size := ⟨_, rfl⟩
  rw [← hAe] at hD ⊢
  have hA : ∀ q : Nat, s.heap.size ≤ q → A q := fun q h => by rw [hAe]; exact Or.inr h
  have hS : va_S A s.heap s.heap [] := va_S.rf
  have hP : va_P (dC, dI) vwCl [(h0, .inr (7, [.ref tb, .int 14])), (tb, .inl (cb, 200, .inl fz))] s.heap := hP
  have hl := lv_entry ([.ref h0, .int on]) (n := 2) (Nat.le_of_ble_eq_true rfl)
  rw [lg_entry_eq]
  generalize (lg_sl ([.ref h0, .int on]) ++ List.replicate (2 - (lg_sl ([.ref h0, .int on])).length) Slot.unset).toArray = ls at hl ⊢
  have hl : lv_has ls 2 [(0, .ref h0), (1, .int on)] := hl
  refine lv_aload_n hx hb dX7_add_0 rfl (lv_at hl 0 rfl) ?_
  refine va_get (D := (dC, dI)) (ci := 7) (v := .int 14) (C := RX7) (T := TX7) (N := 2) hx hb hts (fun _ h0_ => List.mem_cons_of_mem _ (List.mem_append_right _ (List.mem_append_left _ h0_))) hown hK hP 0 rfl rfl 1 (by decide) (hts (.fieldLink RX7 15 "DeadlineShare$Tape" "length" "I") (List.mem_cons_of_mem _ (List.mem_append_left _ (List.mem_of_getElem? (i := 0) rfl)))) (fun _ h9 => h9) rfl dX7_add_1 ?_
  refine lv_if_lt (tgt := 38) hx hb dX7_add_4 (by decide) (fun c => absurd c (by decide)) (fun _ => ?_)
  refine lv_aload_n hx hb dX7_add_7 rfl (lv_at hl 0 rfl) ?_
  refine va_get (D := (dC, dI)) (ci := 7) (v := .int 14) (C := RX7) (T := TX7) (N := 2) hx hb hts (fun _ h0_ => List.mem_cons_of_mem _ (List.mem_append_right _ (List.mem_append_left _ h0_))) hown hK hP 0 rfl rfl 1 (by decide) (hts (.fieldLink RX7 15 "DeadlineShare$Tape" "length" "I") (List.mem_cons_of_mem _ (List.mem_append_left _ (List.mem_of_getElem? (i := 0) rfl)))) (fun _ h9 => h9) rfl dX7_add_8 ?_
  refine lv_sipush (v := 200) hx hb dX7_add_11 (by decide) ?_
  refine lv_icmp_ge (tgt := 38) hx hb dX7_add_14 (by decide) (fun c => absurd c (by decide)) (fun _ => ?_)
  refine lv_aload_n hx hb dX7_add_17 rfl (lv_at hl 0 rfl) ?_
  refine va_get (D := (dC, dI)) (ci := 7) (v := .ref tb) (C := RX7) (T := TX7) (N := 2) hx hb hts (fun _ h0_ => List.mem_cons_of_mem _ (List.mem_append_right _ (List.mem_append_left _ h0_))) hown hK hP 0 rfl rfl 0 (by decide) (hts (.fieldLink RX7 11 "DeadlineShare$Tape" "bytes" "[B") (List.mem_cons_of_mem _ (List.mem_append_left _ (List.mem_of_getElem? (i := 1) rfl)))) (fun _ h9 => h9) rfl dX7_add_18 ?_
  refine lv_aload_n hx hb dX7_add_21 rfl (lv_at hl 0 rfl) ?_
  refine va_get (D := (dC, dI)) (ci := 7) (v := .int 14) (C := RX7) (T := TX7) (N := 2) hx hb hts (fun _ h0_ => List.mem_cons_of_mem _ (List.mem_append_right _ (List.mem_append_left _ h0_))) hown hK hP 0 rfl rfl 1 (by decide) (hts (.fieldLink RX7 15 "DeadlineShare$Tape" "length" "I") (List.mem_cons_of_mem _ (List.mem_append_left _ (List.mem_of_getElem? (i := 0) rfl)))) (fun _ h9 => h9) rfl dX7_add_22 ?_
  refine lv_iload_n hx hb dX7_add_25 rfl (lv_at hl 1 rfl) ?_
  refine lv_i2b (v := on.toInt8.toInt32) hx hb dX7_add_26 rfl ?_
  refine va_bast hx hb hK hP hD hS 1 0 rfl rfl (by unfold vp_in; decide) dX7_add_27 (fun H locs hP hD hS => ?_)
  have hP : va_P (dC, dI) vwCl [(h0, .inr (7, [.ref tb, .int 14])), (tb, .inl (cb, 200, .inl (upd fz (Int32.toNatClampNeg 14) (vp_nar .byte on.toInt8.toInt32))))] H := hP
  have hD : va_D A [(h0, .inr (7, [.ref tb, .int 14])), (tb, .inl (cb, 200, .inl (upd fz (Int32.toNatClampNeg 14) (vp_nar .byte on.toInt8.toInt32))))] := hD
  generalize ef_1 : upd fz (Int32.toNatClampNeg 14) (vp_nar .byte on.toInt8.toInt32) = f_1 at hP hD
  refine lv_aload_n hx hb dX7_add_28 rfl (lv_at hl 0 rfl) ?_
  refine lv_dup hx hb dX7_add_29 rfl ?_
  refine va_get (D := (dC, dI)) (ci := 7) (v := .int 14) (C := RX7) (T := TX7) (N := 2) hx hb hts (fun _ h0_ => List.mem_cons_of_mem _ (List.mem_append_right _ (List.mem_append_left _ h0_))) hown hK hP 0 rfl rfl 1 (by decide) (hts (.fieldLink RX7 15 "DeadlineShare$Tape" "length" "I") (List.mem_cons_of_mem _ (List.mem_append_left _ (List.mem_of_getElem? (i := 0) rfl)))) (fun _ h9 => h9) rfl dX7_add_30 ?_
  refine lv_iconst (v := 1) hx hb dX7_add_33 (by decide) ?_
  refine lv_iadd hx hb dX7_add_34 ?_
  refine k_topi (y := 15) (by decide) ?_
  refine va_put (D := (dC, dI)) (ci := 7) (v := .int 15) (ty := .int) (C := RX7) (T := TX7) (N := 2) hx hb hts (fun _ h0_ => List.mem_cons_of_mem _ (List.mem_append_right _ (List.mem_append_left _ h0_))) tyX7 tyX7_ok nmX7 hown hK hP hD hS 0 rfl rfl 1 (by decide) (hts (.fieldLink RX7 15 "DeadlineShare$Tape" "length" "I") (List.mem_cons_of_mem _ (List.mem_append_left _ (List.mem_of_getElem? (i := 0) rfl)))) (fun _ h9 => h9) rfl (by decide +kernel) rfl rfl (Nat.le_of_ble_eq_true rfl) dX7_add_35 (fun H locs hP hD hS => ?_)
  have hP : va_P (dC, dI) vwCl [(h0, .inr (7, [.ref tb, .int 15])), (tb, .inl (cb, 200, .inl f_1))] H := hP
  have hD : va_D A [(h0, .inr (7, [.ref tb, .int 15])), (tb, .inl (cb, 200, .inl f_1))] := hD
  have hP9 := hP.sub (ws' := [(h0, .inr (7, [.ref tb, .int 15])), (tb, .inl (cb, 200, .inl f_1))]) [0, 1] rfl
  have hD9 := hD.sub (ws' := [(h0, .inr (7, [.ref tb, .int 15])), (tb, .inl (cb, 200, .inl f_1))]) [0, 1] (by decide) rfl
  have hK9 := hK.sub (tys' := [(cb, .byte)]) [0] rfl
  refine W.widen (k := 0) (n := 0) (Nat.le_of_ble_eq_true rfl) (Nat.le_of_ble_eq_true rfl) ?_
  exact W.vret hx hb hr (fun t ht hW => ⟨⟨(), rfl, trivial, f_1, by rw [ht]; exact hP9, va_K.moved hW.alike hK9, hD9⟩, hS.F ht⟩) hS.2.2 dX7_add_38
def ow_c_X7_add_15 : List Cond := [.fieldLink RX7 15 "DeadlineShare$Tape" "length" "I", .fieldLink RX7 11 "DeadlineShare$Tape" "bytes" "[B"]
def wq_c_X7_add_15 : List Cond := .code yX7_add cX7_add 2 none :: (ow_c_X7_add_15 ++ (u_ws RX7 TX7 2 ++ ([] : List Cond)))
theorem tb_c_X7_add_15 : ∀ w ∈ wq_c_X7_add_15, q_g w := by
  unfold wq_c_X7_add_15 ow_c_X7_add_15
  exact q_cons tw_296 (q_app (q_cons tw_294 (q_cons tw_20 q_nil)) (q_app tu_X7 q_nil))
set_option maxHeartbeats 4000000 in
set_option maxRecDepth 100000 in
theorem c_X7_add_15 (l : Launch) (dC : Nat → ClassId) (dI : Nat → Nat → Nat) (h0 : Nat) (on : Int32) (tb : Nat) (cb : ClassId) (fz : Nat → Int32) (sz : Nat) : Met l yX7_add wq_c_X7_add_15 ({ frames := 0, cells := 0, slots := 0, locals := 0 } : Room) (va_Pc [.ref h0, .int on] (fun U => U.heap.size = sz ∧ va_P (dC, dI) vwCl [(h0, .inr (7, [.ref tb, .int 15])), (tb, .inl (cb, 200, .inl fz))] U.heap ∧ va_K (dC, dI) vwCl [(cb, .byte)] U ∧ va_D (fun _ => True) [(h0, .inr (7, [.ref tb, .int 15])), (tb, .inl (cb, 200, .inl fz))])) (va_Qv (fun (_ : Unit) => True) (fun (_ : Unit) t => ∃ (f2 : Nat → Int32), va_P (dC, dI) vwCl [(h0, .inr (7, [.ref tb, .int 16])), (tb, .inl (cb, 200, .inl f2))] t.heap ∧ va_K (dC, dI) vwCl [(cb, .byte)] t ∧ va_D (va_A [(h0, .inr (7, [.ref tb, .int 15])), (tb, .inl (cb, 200, .inl fz))] sz) [(h0, .inr (7, [.ref tb, .int 16])), (tb, .inl (cb, 200, .inl f2))]) (va_A [(h0, .inr (7, [.ref tb, .int 15])), (tb, .inl (cb, 200, .inl fz))] sz)) 0 0 (va_A [(h0, .inr (7, [.ref tb, .int 15])), (tb, .inl (cb, 200, .inl fz))] sz) := by
  refine Met.ofW (cc := cX7_add) (maxL := 2) (ret := none) (by decide) rfl ?_
  intro p e s m args below meth c s₁ B hml hv
  obtain ⟨rfl, hsz, hP, hK, hD0⟩ := hv
  have hx := B.exec
  have hb := B.bytes
  have hr := B.returns
  have hts := atoms_spec (ws := wq_c_X7_add_15) B.pre
  have hown : s.vm.findClass RX7 = some m.cls := findClass_of_methodNamed B.named
  have hlocks := B.notSynchronized
  subst hsz
  have hD := hD0.self (sz := s.heap.size)
  obtain ⟨A, hAe⟩ : ∃ A, A = va_A [(h0, .inr (7, [.ref tb, .int 15])), (tb, .inl (cb, 200, .inl fz))] s.heap.size := ⟨_, rfl⟩
  rw [← hAe] at hD ⊢
  have hA : ∀ q : Nat, s.heap.size ≤ q → A q := fun q h => by rw [hAe]; exact Or.inr h
  have hS : va_S A s.heap s.heap [] := va_S.rf
  have hP : va_P (dC, dI) vwCl [(h0, .inr (7, [.ref tb, .int 15])), (tb, .inl (cb, 200, .inl fz))] s.heap := hP
  have hl := lv_entry ([.ref h0, .int on]) (n := 2) (Nat.le_of_ble_eq_true rfl)
  rw [lg_entry_eq]
  generalize (lg_sl ([.ref h0, .int on]) ++ List.replicate (2 - (lg_sl ([.ref h0, .int on])).length) Slot.unset).toArray = ls at hl ⊢
  have hl : lv_has ls 2 [(0, .ref h0), (1, .int on)] := hl
  refine lv_aload_n hx hb dX7_add_0 rfl (lv_at hl 0 rfl) ?_
  refine va_get (D := (dC, dI)) (ci := 7) (v := .int 15) (C := RX7) (T := TX7) (N := 2) hx hb hts (fun _ h0_ => List.mem_cons_of_mem _ (List.mem_append_right _ (List.mem_append_left _ h0_))) hown hK hP 0 rfl rfl 1 (by decide) (hts (.fieldLink RX7 15 "DeadlineShare$Tape" "length" "I") (List.mem_cons_of_mem _ (List.mem_append_left _ (List.mem_of_getElem? (i := 0) rfl)))) (fun _ h9 => h9) rfl dX7_add_1 ?_
  refine lv_if_lt (tgt := 38) hx hb dX7_add_4 (by decide) (fun c => absurd c (by decide)) (fun _ => ?_)
  refine lv_aload_n hx hb dX7_add_7 rfl (lv_at hl 0 rfl) ?_
  refine va_get (D := (dC, dI)) (ci := 7) (v := .int 15) (C := RX7) (T := TX7) (N := 2) hx hb hts (fun _ h0_ => List.mem_cons_of_mem _ (List.mem_append_right _ (List.mem_append_left _ h0_))) hown hK hP 0 rfl rfl 1 (by decide) (hts (.fieldLink RX7 15 "DeadlineShare$Tape" "length" "I") (List.mem_cons_of_mem _ (List.mem_append_left _ (List.mem_of_getElem? (i := 0) rfl)))) (fun _ h9 => h9) rfl dX7_add_8 ?_
  refine lv_sipush (v := 200) hx hb dX7_add_11 (by decide) ?_
  refine lv_icmp_ge (tgt := 38) hx hb dX7_add_14 (by decide) (fun c => absurd c (by decide)) (fun _ => ?_)
  refine lv_aload_n hx hb dX7_add_17 rfl (lv_at hl 0 rfl) ?_
  refine va_get (D := (dC, dI)) (ci := 7) (v := .ref tb) (C := RX7) (T := TX7) (N := 2) hx hb hts (fun _ h0_ => List.mem_cons_of_mem _ (List.mem_append_right _ (List.mem_append_left _ h0_))) hown hK hP 0 rfl rfl 0 (by decide) (hts (.fieldLink RX7 11 "DeadlineShare$Tape" "bytes" "[B") (List.mem_cons_of_mem _ (List.mem_append_left _ (List.mem_of_getElem? (i := 1) rfl)))) (fun _ h9 => h9) rfl dX7_add_18 ?_
  refine lv_aload_n hx hb dX7_add_21 rfl (lv_at hl 0 rfl) ?_
  refine va_get (D := (dC, dI)) (ci := 7) (v := .int 15) (C := RX7) (T := TX7) (N := 2) hx hb hts (fun _ h0_ => List.mem_cons_of_mem _ (List.mem_append_right _ (List.mem_append_left _ h0_))) hown hK hP 0 rfl rfl 1 (by decide) (hts (.fieldLink RX7 15 "DeadlineShare$Tape" "length" "I") (List.mem_cons_of_mem _ (List.mem_append_left _ (List.mem_of_getElem? (i := 0) rfl)))) (fun _ h9 => h9) rfl dX7_add_22 ?_
  refine lv_iload_n hx hb dX7_add_25 rfl (lv_at hl 1 rfl) ?_
  refine lv_i2b (v := on.toInt8.toInt32) hx hb dX7_add_26 rfl ?_
  refine va_bast hx hb hK hP hD hS 1 0 rfl rfl (by unfold vp_in; decide) dX7_add_27 (fun H locs hP hD hS => ?_)
  have hP : va_P (dC, dI) vwCl [(h0, .inr (7, [.ref tb, .int 15])), (tb, .inl (cb, 200, .inl (upd fz (Int32.toNatClampNeg 15) (vp_nar .byte on.toInt8.toInt32))))] H := hP
  have hD : va_D A [(h0, .inr (7, [.ref tb, .int 15])), (tb, .inl (cb, 200, .inl (upd fz (Int32.toNatClampNeg 15) (vp_nar .byte on.toInt8.toInt32))))] := hD
  generalize ef_1 : upd fz (Int32.toNatClampNeg 15) (vp_nar .byte on.toInt8.toInt32) = f_1 at hP hD
  refine lv_aload_n hx hb dX7_add_28 rfl (lv_at hl 0 rfl) ?_
  refine lv_dup hx hb dX7_add_29 rfl ?_
  refine va_get (D := (dC, dI)) (ci := 7) (v := .int 15) (C := RX7) (T := TX7) (N := 2) hx hb hts (fun _ h0_ => List.mem_cons_of_mem _ (List.mem_append_right _ (List.mem_append_left _ h0_))) hown hK hP 0 rfl rfl 1 (by decide) (hts (.fieldLink RX7 15 "DeadlineShare$Tape" "length" "I") (List.mem_cons_of_mem _ (List.mem_append_left _ (List.mem_of_getElem? (i := 0) rfl)))) (fun _ h9 => h9) rfl dX7_add_30 ?_
  refine lv_iconst (v := 1) hx hb dX7_add_33 (by decide) ?_
  refine lv_iadd hx hb dX7_add_34 ?_
  refine k_topi (y := 16) (by decide) ?_
  refine va_put (D := (dC, dI)) (ci := 7) (v := .int 16) (ty := .int) (C := RX7) (T := TX7) (N := 2) hx hb hts (fun _ h0_ => List.mem_cons_of_mem _ (List.mem_append_right _ (List.mem_append_left _ h0_))) tyX7 tyX7_ok nmX7 hown hK hP hD hS 0 rfl rfl 1 (by decide) (hts (.fieldLink RX7 15 "DeadlineShare$Tape" "length" "I") (List.mem_cons_of_mem _ (List.mem_append_left _ (List.mem_of_getElem? (i := 0) rfl)))) (fun _ h9 => h9) rfl (by decide +kernel) rfl rfl (Nat.le_of_ble_eq_true rfl) dX7_add_35 (fun H locs hP hD hS => ?_)
  have hP : va_P (dC, dI) vwCl [(h0, .inr (7, [.ref tb, .int 16])), (tb, .inl (cb, 200, .inl f_1))] H := hP
  have hD : va_D A [(h0, .inr (7, [.ref tb, .int 16])), (tb, .inl (cb, 200, .inl f_1))] := hD
  have hP9 := hP.sub (ws' := [(h0, .inr (7, [.ref tb, .int 16])), (tb, .inl (cb, 200, .inl f_1))]) [0, 1] rfl
  have hD9 := hD.sub (ws' := [(h0, .inr (7, [.ref tb, .int 16])), (tb, .inl (cb, 200, .inl f_1))]) [0, 1] (by decide) rfl
  have hK9 := hK.sub (tys' := [(cb, .byte)]) [0] rfl
  refine W.widen (k := 0) (n := 0) (Nat.le_of_ble_eq_true rfl) (Nat.le_of_ble_eq_true rfl) ?_
  exact W.vret hx hb hr (fun t ht hW => ⟨⟨(), rfl, trivial, f_1, by rw [ht]; exact hP9, va_K.moved hW.alike hK9, hD9⟩, hS.F ht⟩) hS.2.2 dX7_add_38
def ow_c_X7_add_16 : List Cond := [.fieldLink RX7 15 "DeadlineShare$Tape" "length" "I", .fieldLink RX7 11 "DeadlineShare$Tape" "bytes" "[B"]
def wq_c_X7_add_16 : List Cond := .code yX7_add cX7_add 2 none :: (ow_c_X7_add_16 ++ (u_ws RX7 TX7 2 ++ ([] : List Cond)))
theorem tb_c_X7_add_16 : ∀ w ∈ wq_c_X7_add_16, q_g w := by
  unfold wq_c_X7_add_16 ow_c_X7_add_16
  exact q_cons tw_296 (q_app (q_cons tw_294 (q_cons tw_20 q_nil)) (q_app tu_X7 q_nil))
set_option maxHeartbeats 4000000 in
set_option maxRecDepth 100000 in
theorem c_X7_add_16 (l : Launch) (dC : Nat → ClassId) (dI : Nat → Nat → Nat) (h0 : Nat) (on : Int32) (tb : Nat) (cb : ClassId) (fz : Nat → Int32) (sz : Nat) : Met l yX7_add wq_c_X7_add_16 ({ frames := 0, cells := 0, slots := 0, locals := 0 } : Room) (va_Pc [.ref h0, .int on] (fun U => U.heap.size = sz ∧ va_P (dC, dI) vwCl [(h0, .inr (7, [.ref tb, .int 16])), (tb, .inl (cb, 200, .inl fz))] U.heap ∧ va_K (dC, dI) vwCl [(cb, .byte)] U ∧ va_D (fun _ => True) [(h0, .inr (7, [.ref tb, .int 16])), (tb, .inl (cb, 200, .inl fz))])) (va_Qv (fun (_ : Unit) => True) (fun (_ : Unit) t => ∃ (f2 : Nat → Int32), va_P (dC, dI) vwCl [(h0, .inr (7, [.ref tb, .int 17])), (tb, .inl (cb, 200, .inl f2))] t.heap ∧ va_K (dC, dI) vwCl [(cb, .byte)] t ∧ va_D (va_A [(h0, .inr (7, [.ref tb, .int 16])), (tb, .inl (cb, 200, .inl fz))] sz) [(h0, .inr (7, [.ref tb, .int 17])), (tb, .inl (cb, 200, .inl f2))]) (va_A [(h0, .inr (7, [.ref tb, .int 16])), (tb, .inl (cb, 200, .inl fz))] sz)) 0 0 (va_A [(h0, .inr (7, [.ref tb, .int 16])), (tb, .inl (cb, 200, .inl fz))] sz) := by
  refine Met.ofW (cc := cX7_add) (maxL := 2) (ret := none) (by decide) rfl ?_
  intro p e s m args below meth c s₁ B hml hv
  obtain ⟨rfl, hsz, hP, hK, hD0⟩ := hv
  have hx := B.exec
  have hb := B.bytes
  have hr := B.returns
  have hts := atoms_spec (ws := wq_c_X7_add_16) B.pre
  have hown : s.vm.findClass RX7 = some m.cls := findClass_of_methodNamed B.named
  have hlocks := B.notSynchronized
  subst hsz
  have hD := hD0.self (sz := s.heap.size)
  obtain ⟨A, hAe⟩ : ∃ A, A = va_A [(h0, .inr (7, [.ref tb, .int 16])), (tb, .inl (cb, 200, .inl fz))] s.heap.size := ⟨_, rfl⟩
  rw [← hAe] at hD ⊢
  have hA : ∀ q : Nat, s.heap.size ≤ q → A q := fun q h => by rw [hAe]; exact Or.inr h
  have hS : va_S A s.heap s.heap [] := va_S.rf
  have hP : va_P (dC, dI) vwCl [(h0, .inr (7, [.ref tb, .int 16])), (tb, .inl (cb, 200, .inl fz))] s.heap := hP
  have hl := lv_entry ([.ref h0, .int on]) (n := 2) (Nat.le_of_ble_eq_true rfl)
  rw [lg_entry_eq]
  generalize (lg_sl ([.ref h0, .int on]) ++ List.replicate (2 - (lg_sl ([.ref h0, .int on])).length) Slot.unset).toArray = ls at hl ⊢
  have hl : lv_has ls 2 [(0, .ref h0), (1, .int on)] := hl
  refine lv_aload_n hx hb dX7_add_0 rfl (lv_at hl 0 rfl) ?_
  refine va_get (D := (dC, dI)) (ci := 7) (v := .int 16) (C := RX7) (T := TX7) (N := 2) hx hb hts (fun _ h0_ => List.mem_cons_of_mem _ (List.mem_append_right _ (List.mem_append_left _ h0_))) hown hK hP 0 rfl rfl 1 (by decide) (hts (.fieldLink RX7 15 "DeadlineShare$Tape" "length" "I") (List.mem_cons_of_mem _ (List.mem_append_left _ (List.mem_of_getElem? (i := 0) rfl)))) (fun _ h9 => h9) rfl dX7_add_1 ?_
  refine lv_if_lt (tgt := 38) hx hb dX7_add_4 (by decide) (fun c => absurd c (by decide)) (fun _ => ?_)
  refine lv_aload_n hx hb dX7_add_7 rfl (lv_at hl 0 rfl) ?_
  refine va_get (D := (dC, dI)) (ci := 7) (v := .int 16) (C := RX7) (T := TX7) (N := 2) hx hb hts (fun _ h0_ => List.mem_cons_of_mem _ (List.mem_append_right _ (List.mem_append_left _ h0_))) hown hK hP 0 rfl rfl 1 (by decide) (hts (.fieldLink RX7 15 "DeadlineShare$Tape" "length" "I") (List.mem_cons_of_mem _ (List.mem_append_left _ (List.mem_of_getElem? (i := 0) rfl)))) (fun _ h9 => h9) rfl dX7_add_8 ?_
  refine lv_sipush (v := 200) hx hb dX7_add_11 (by decide) ?_
  refine lv_icmp_ge (tgt := 38) hx hb dX7_add_14 (by decide) (fun c => absurd c (by decide)) (fun _ => ?_)
  refine lv_aload_n hx hb dX7_add_17 rfl (lv_at hl 0 rfl) ?_
  refine va_get (D := (dC, dI)) (ci := 7) (v := .ref tb) (C := RX7) (T := TX7) (N := 2) hx hb hts (fun _ h0_ => List.mem_cons_of_mem _ (List.mem_append_right _ (List.mem_append_left _ h0_))) hown hK hP 0 rfl rfl 0 (by decide) (hts (.fieldLink RX7 11 "DeadlineShare$Tape" "bytes" "[B") (List.mem_cons_of_mem _ (List.mem_append_left _ (List.mem_of_getElem? (i := 1) rfl)))) (fun _ h9 => h9) rfl dX7_add_18 ?_
  refine lv_aload_n hx hb dX7_add_21 rfl (lv_at hl 0 rfl) ?_
  refine va_get (D := (dC, dI)) (ci := 7) (v := .int 16) (C := RX7) (T := TX7) (N := 2) hx hb hts (fun _ h0_ => List.mem_cons_of_mem _ (List.mem_append_right _ (List.mem_append_left _ h0_))) hown hK hP 0 rfl rfl 1 (by decide) (hts (.fieldLink RX7 15 "DeadlineShare$Tape" "length" "I") (List.mem_cons_of_mem _ (List.mem_append_left _ (List.mem_of_getElem? (i := 0) rfl)))) (fun _ h9 => h9) rfl dX7_add_22 ?_
  refine lv_iload_n hx hb dX7_add_25 rfl (lv_at hl 1 rfl) ?_
  refine lv_i2b (v := on.toInt8.toInt32) hx hb dX7_add_26 rfl ?_
  refine va_bast hx hb hK hP hD hS 1 0 rfl rfl (by unfold vp_in; decide) dX7_add_27 (fun H locs hP hD hS => ?_)
  have hP : va_P (dC, dI) vwCl [(h0, .inr (7, [.ref tb, .int 16])), (tb, .inl (cb, 200, .inl (upd fz (Int32.toNatClampNeg 16) (vp_nar .byte on.toInt8.toInt32))))] H := hP
  have hD : va_D A [(h0, .inr (7, [.ref tb, .int 16])), (tb, .inl (cb, 200, .inl (upd fz (Int32.toNatClampNeg 16) (vp_nar .byte on.toInt8.toInt32))))] := hD
  generalize ef_1 : upd fz (Int32.toNatClampNeg 16) (vp_nar .byte on.toInt8.toInt32) = f_1 at hP hD
  refine lv_aload_n hx hb dX7_add_28 rfl (lv_at hl 0 rfl) ?_
  refine lv_dup hx hb dX7_add_29 rfl ?_
  refine va_get (D := (dC, dI)) (ci := 7) (v := .int 16) (C := RX7) (T := TX7) (N := 2) hx hb hts (fun _ h0_ => List.mem_cons_of_mem _ (List.mem_append_right _ (List.mem_append_left _ h0_))) hown hK hP 0 rfl rfl 1 (by decide) (hts (.fieldLink RX7 15 "DeadlineShare$Tape" "length" "I") (List.mem_cons_of_mem _ (List.mem_append_left _ (List.mem_of_getElem? (i := 0) rfl)))) (fun _ h9 => h9) rfl dX7_add_30 ?_
  refine lv_iconst (v := 1) hx hb dX7_add_33 (by decide) ?_
  refine lv_iadd hx hb dX7_add_34 ?_
  refine k_topi (y := 17) (by decide) ?_
  refine va_put (D := (dC, dI)) (ci := 7) (v := .int 17) (ty := .int) (C := RX7) (T := TX7) (N := 2) hx hb hts (fun _ h0_ => List.mem_cons_of_mem _ (List.mem_append_right _ (List.mem_append_left _ h0_))) tyX7 tyX7_ok nmX7 hown hK hP hD hS 0 rfl rfl 1 (by decide) (hts (.fieldLink RX7 15 "DeadlineShare$Tape" "length" "I") (List.mem_cons_of_mem _ (List.mem_append_left _ (List.mem_of_getElem? (i := 0) rfl)))) (fun _ h9 => h9) rfl (by decide +kernel) rfl rfl (Nat.le_of_ble_eq_true rfl) dX7_add_35 (fun H locs hP hD hS => ?_)
  have hP : va_P (dC, dI) vwCl [(h0, .inr (7, [.ref tb, .int 17])), (tb, .inl (cb, 200, .inl f_1))] H := hP
  have hD : va_D A [(h0, .inr (7, [.ref tb, .int 17])), (tb, .inl (cb, 200, .inl f_1))] := hD
  have hP9 := hP.sub (ws' := [(h0, .inr (7, [.ref tb, .int 17])), (tb, .inl (cb, 200, .inl f_1))]) [0, 1] rfl
  have hD9 := hD.sub (ws' := [(h0, .inr (7, [.ref tb, .int 17])), (tb, .inl (cb, 200, .inl f_1))]) [0, 1] (by decide) rfl
  have hK9 := hK.sub (tys' := [(cb, .byte)]) [0] rfl
  refine W.widen (k := 0) (n := 0) (Nat.le_of_ble_eq_true rfl) (Nat.le_of_ble_eq_true rfl) ?_
  exact W.vret hx hb hr (fun t ht hW => ⟨⟨(), rfl, trivial, f_1, by rw [ht]; exact hP9, va_K.moved hW.alike hK9, hD9⟩, hS.F ht⟩) hS.2.2 dX7_add_38
def ow_c_X7_add_17 : List Cond := [.fieldLink RX7 15 "DeadlineShare$Tape" "length" "I", .fieldLink RX7 11 "DeadlineShare$Tape" "bytes" "[B"]
def wq_c_X7_add_17 : List Cond := .code yX7_add cX7_add 2 none :: (ow_c_X7_add_17 ++ (u_ws RX7 TX7 2 ++ ([] : List Cond)))
theorem tb_c_X7_add_17 : ∀ w ∈ wq_c_X7_add_17, q_g w := by
  unfold wq_c_X7_add_17 ow_c_X7_add_17
  exact q_cons tw_296 (q_app (q_cons tw_294 (q_cons tw_20 q_nil)) (q_app tu_X7 q_nil))
set_option maxHeartbeats 4000000 in
set_option maxRecDepth 100000 in
theorem c_X7_add_17 (l : Launch) (dC : Nat → ClassId) (dI : Nat → Nat → Nat) (h0 : Nat) (on : Int32) (tb : Nat) (cb : ClassId) (fz : Nat → Int32) (sz : Nat) : Met l yX7_add wq_c_X7_add_17 ({ frames := 0, cells := 0, slots := 0, locals := 0 } : Room) (va_Pc [.ref h0, .int on] (fun U => U.heap.size = sz ∧ va_P (dC, dI) vwCl [(h0, .inr (7, [.ref tb, .int 17])), (tb, .inl (cb, 200, .inl fz))] U.heap ∧ va_K (dC, dI) vwCl [(cb, .byte)] U ∧ va_D (fun _ => True) [(h0, .inr (7, [.ref tb, .int 17])), (tb, .inl (cb, 200, .inl fz))])) (va_Qv (fun (_ : Unit) => True) (fun (_ : Unit) t => ∃ (f2 : Nat → Int32), va_P (dC, dI) vwCl [(h0, .inr (7, [.ref tb, .int 18])), (tb, .inl (cb, 200, .inl f2))] t.heap ∧ va_K (dC, dI) vwCl [(cb, .byte)] t ∧ va_D (va_A [(h0, .inr (7, [.ref tb, .int 17])), (tb, .inl (cb, 200, .inl fz))] sz) [(h0, .inr (7, [.ref tb, .int 18])), (tb, .inl (cb, 200, .inl f2))]) (va_A [(h0, .inr (7, [.ref tb, .int 17])), (tb, .inl (cb, 200, .inl fz))] sz)) 0 0 (va_A [(h0, .inr (7, [.ref tb, .int 17])), (tb, .inl (cb, 200, .inl fz))] sz) := by
  refine Met.ofW (cc := cX7_add) (maxL := 2) (ret := none) (by decide) rfl ?_
  intro p e s m args below meth c s₁ B hml hv
  obtain ⟨rfl, hsz, hP, hK, hD0⟩ := hv
  have hx := B.exec
  have hb := B.bytes
  have hr := B.returns
  have hts := atoms_spec (ws := wq_c_X7_add_17) B.pre
  have hown : s.vm.findClass RX7 = some m.cls := findClass_of_methodNamed B.named
  have hlocks := B.notSynchronized
  subst hsz
  have hD := hD0.self (sz := s.heap.size)
  obtain ⟨A, hAe⟩ : ∃ A, A = va_A [(h0, .inr (7, [.ref tb, .int 17])), (tb, .inl (cb, 200, .inl fz))] s.heap.size := ⟨_, rfl⟩
  rw [← hAe] at hD ⊢
  have hA : ∀ q : Nat, s.heap.size ≤ q → A q := fun q h => by rw [hAe]; exact Or.inr h
  have hS : va_S A s.heap s.heap [] := va_S.rf
  have hP : va_P (dC, dI) vwCl [(h0, .inr (7, [.ref tb, .int 17])), (tb, .inl (cb, 200, .inl fz))] s.heap := hP
  have hl := lv_entry ([.ref h0, .int on]) (n := 2) (Nat.le_of_ble_eq_true rfl)
  rw [lg_entry_eq]
  generalize (lg_sl ([.ref h0, .int on]) ++ List.replicate (2 - (lg_sl ([.ref h0, .int on])).length) Slot.unset).toArray = ls at hl ⊢
  have hl : lv_has ls 2 [(0, .ref h0), (1, .int on)] := hl
  refine lv_aload_n hx hb dX7_add_0 rfl (lv_at hl 0 rfl) ?_
  refine va_get (D := (dC, dI)) (ci := 7) (v := .int 17) (C := RX7) (T := TX7) (N := 2) hx hb hts (fun _ h0_ => List.mem_cons_of_mem _ (List.mem_append_right _ (List.mem_append_left _ h0_))) hown hK hP 0 rfl rfl 1 (by decide) (hts (.fieldLink RX7 15 "DeadlineShare$Tape" "length" "I") (List.mem_cons_of_mem _ (List.mem_append_left _ (List.mem_of_getElem? (i := 0) rfl)))) (fun _ h9 => h9) rfl dX7_add_1 ?_
  refine lv_if_lt (tgt := 38) hx hb dX7_add_4 (by decide) (fun c => absurd c (by decide)) (fun _ => ?_)
  refine lv_aload_n hx hb dX7_add_7 rfl (lv_at hl 0 rfl) ?_
  refine va_get (D := (dC, dI)) (ci := 7) (v := .int 17) (C := RX7) (T := TX7) (N := 2) hx hb hts (fun _ h0_ => List.mem_cons_of_mem _ (List.mem_append_right _ (List.mem_append_left _ h0_))) hown hK hP 0 rfl rfl 1 (by decide) (hts (.fieldLink RX7 15 "DeadlineShare$Tape" "length" "I") (List.mem_cons_of_mem _ (List.mem_append_left _ (List.mem_of_getElem? (i := 0) rfl)))) (fun _ h9 => h9) rfl dX7_add_8 ?_
  refine lv_sipush (v := 200) hx hb dX7_add_11 (by decide) ?_
  refine lv_icmp_ge (tgt := 38) hx hb dX7_add_14 (by decide) (fun c => absurd c (by decide)) (fun _ => ?_)
  refine lv_aload_n hx hb dX7_add_17 rfl (lv_at hl 0 rfl) ?_
  refine va_get (D := (dC, dI)) (ci := 7) (v := .ref tb) (C := RX7) (T := TX7) (N := 2) hx hb hts (fun _ h0_ => List.mem_cons_of_mem _ (List.mem_append_right _ (List.mem_append_left _ h0_))) hown hK hP 0 rfl rfl 0 (by decide) (hts (.fieldLink RX7 11 "DeadlineShare$Tape" "bytes" "[B") (List.mem_cons_of_mem _ (List.mem_append_left _ (List.mem_of_getElem? (i := 1) rfl)))) (fun _ h9 => h9) rfl dX7_add_18 ?_
  refine lv_aload_n hx hb dX7_add_21 rfl (lv_at hl 0 rfl) ?_
  refine va_get (D := (dC, dI)) (ci := 7) (v := .int 17) (C := RX7) (T := TX7) (N := 2) hx hb hts (fun _ h0_ => List.mem_cons_of_mem _ (List.mem_append_right _ (List.mem_append_left _ h0_))) hown hK hP 0 rfl rfl 1 (by decide) (hts (.fieldLink RX7 15 "DeadlineShare$Tape" "length" "I") (List.mem_cons_of_mem _ (List.mem_append_left _ (List.mem_of_getElem? (i := 0) rfl)))) (fun _ h9 => h9) rfl dX7_add_22 ?_
  refine lv_iload_n hx hb dX7_add_25 rfl (lv_at hl 1 rfl) ?_
  refine lv_i2b (v := on.toInt8.toInt32) hx hb dX7_add_26 rfl ?_
  refine va_bast hx hb hK hP hD hS 1 0 rfl rfl (by unfold vp_in; decide) dX7_add_27 (fun H locs hP hD hS => ?_)
  have hP : va_P (dC, dI) vwCl [(h0, .inr (7, [.ref tb, .int 17])), (tb, .inl (cb, 200, .inl (upd fz (Int32.toNatClampNeg 17) (vp_nar .byte on.toInt8.toInt32))))] H := hP
  have hD : va_D A [(h0, .inr (7, [.ref tb, .int 17])), (tb, .inl (cb, 200, .inl (upd fz (Int32.toNatClampNeg 17) (vp_nar .byte on.toInt8.toInt32))))] := hD
  generalize ef_1 : upd fz (Int32.toNatClampNeg 17) (vp_nar .byte on.toInt8.toInt32) = f_1 at hP hD
  refine lv_aload_n hx hb dX7_add_28 rfl (lv_at hl 0 rfl) ?_
  refine lv_dup hx hb dX7_add_29 rfl ?_
  refine va_get (D := (dC, dI)) (ci := 7) (v := .int 17) (C := RX7) (T := TX7) (N := 2) hx hb hts (fun _ h0_ => List.mem_cons_of_mem _ (List.mem_append_right _ (List.mem_append_left _ h0_))) hown hK hP 0 rfl rfl 1 (by decide) (hts (.fieldLink RX7 15 "DeadlineShare$Tape" "length" "I") (List.mem_cons_of_mem _ (List.mem_append_left _ (List.mem_of_getElem? (i := 0) rfl)))) (fun _ h9 => h9) rfl dX7_add_30 ?_
  refine lv_iconst (v := 1) hx hb dX7_add_33 (by decide) ?_
  refine lv_iadd hx hb dX7_add_34 ?_
  refine k_topi (y := 18) (by decide) ?_
  refine va_put (D := (dC, dI)) (ci := 7) (v := .int 18) (ty := .int) (C := RX7) (T := TX7) (N := 2) hx hb hts (fun _ h0_ => List.mem_cons_of_mem _ (List.mem_append_right _ (List.mem_append_left _ h0_))) tyX7 tyX7_ok nmX7 hown hK hP hD hS 0 rfl rfl 1 (by decide) (hts (.fieldLink RX7 15 "DeadlineShare$Tape" "length" "I") (List.mem_cons_of_mem _ (List.mem_append_left _ (List.mem_of_getElem? (i := 0) rfl)))) (fun _ h9 => h9) rfl (by decide +kernel) rfl rfl (Nat.le_of_ble_eq_true rfl) dX7_add_35 (fun H locs hP hD hS => ?_)
  have hP : va_P (dC, dI) vwCl [(h0, .inr (7, [.ref tb, .int 18])), (tb, .inl (cb, 200, .inl f_1))] H := hP
  have hD : va_D A [(h0, .inr (7, [.ref tb, .int 18])), (tb, .inl (cb, 200, .inl f_1))] := hD
  have hP9 := hP.sub (ws' := [(h0, .inr (7, [.ref tb, .int 18])), (tb, .inl (cb, 200, .inl f_1))]) [0, 1] rfl
  have hD9 := hD.sub (ws' := [(h0, .inr (7, [.ref tb, .int 18])), (tb, .inl (cb, 200, .inl f_1))]) [0, 1] (by decide) rfl
  have hK9 := hK.sub (tys' := [(cb, .byte)]) [0] rfl
  refine W.widen (k := 0) (n := 0) (Nat.le_of_ble_eq_true rfl) (Nat.le_of_ble_eq_true rfl) ?_
  exact W.vret hx hb hr (fun t ht hW => ⟨⟨(), rfl, trivial, f_1, by rw [ht]; exact hP9, va_K.moved hW.alike hK9, hD9⟩, hS.F ht⟩) hS.2.2 dX7_add_38
def ow_c_X7_add_18 : List Cond := [.fieldLink RX7 15 "DeadlineShare$Tape" "length" "I", .fieldLink RX7 11 "DeadlineShare$Tape" "bytes" "[B"]
def wq_c_X7_add_18 : List Cond := .code yX7_add cX7_add 2 none :: (ow_c_X7_add_18 ++ (u_ws RX7 TX7 2 ++ ([] : List Cond)))
theorem tb_c_X7_add_18 : ∀ w ∈ wq_c_X7_add_18, q_g w := by
  unfold wq_c_X7_add_18 ow_c_X7_add_18
  exact q_cons tw_296 (q_app (q_cons tw_294 (q_cons tw_20 q_nil)) (q_app tu_X7 q_nil))
set_option maxHeartbeats 4000000 in
set_option maxRecDepth 100000 in
theorem c_X7_add_18 (l : Launch) (dC : Nat → ClassId) (dI : Nat → Nat → Nat) (h0 : Nat) (on : Int32) (tb : Nat) (cb : ClassId) (fz : Nat → Int32) (sz : Nat) : Met l yX7_add wq_c_X7_add_18 ({ frames := 0, cells := 0, slots := 0, locals := 0 } : Room) (va_Pc [.ref h0, .int on] (fun U => U.heap.size = sz ∧ va_P (dC, dI) vwCl [(h0, .inr (7, [.ref tb, .int 18])), (tb, .inl (cb, 200, .inl fz))] U.heap ∧ va_K (dC, dI) vwCl [(cb, .byte)] U ∧ va_D (fun _ => True) [(h0, .inr (7, [.ref tb, .int 18])), (tb, .inl (cb, 200, .inl fz))])) (va_Qv (fun (_ : Unit) => True) (fun (_ : Unit) t => ∃ (f2 : Nat → Int32), va_P (dC, dI) vwCl [(h0, .inr (7, [.ref tb, .int 19])), (tb, .inl (cb, 200, .inl f2))] t.heap ∧ va_K (dC, dI) vwCl [(cb, .byte)] t ∧ va_D (va_A [(h0, .inr (7, [.ref tb, .int 18])), (tb, .inl (cb, 200, .inl fz))] sz) [(h0, .inr (7, [.ref tb, .int 19])), (tb, .inl (cb, 200, .inl f2))]) (va_A [(h0, .inr (7, [.ref tb, .int 18])), (tb, .inl (cb, 200, .inl fz))] sz)) 0 0 (va_A [(h0, .inr (7, [.ref tb, .int 18])), (tb, .inl (cb, 200, .inl fz))] sz) := by
  refine Met.ofW (cc := cX7_add) (maxL := 2) (ret := none) (by decide) rfl ?_
  intro p e s m args below meth c s₁ B hml hv
  obtain ⟨rfl, hsz, hP, hK, hD0⟩ := hv
  have hx := B.exec
  have hb := B.bytes
  have hr := B.returns
  have hts := atoms_spec (ws := wq_c_X7_add_18) B.pre
  have hown : s.vm.findClass RX7 = some m.cls := findClass_of_methodNamed B.named
  have hlocks := B.notSynchronized
  subst hsz
  have hD := hD0.self (sz := s.heap.size)
  obtain ⟨A, hAe⟩ : ∃ A, A = va_A [(h0, .inr (7, [.ref tb, .int 18])), (tb, .inl (cb, 200, .inl fz))] s.heap.size := ⟨_, rfl⟩
  rw [← hAe] at hD ⊢
  have hA : ∀ q : Nat, s.heap.size ≤ q → A q := fun q h => by rw [hAe]; exact Or.inr h
  have hS : va_S A s.heap s.heap [] := va_S.rf
  have hP : va_P (dC, dI) vwCl [(h0, .inr (7, [.ref tb, .int 18])), (tb, .inl (cb, 200, .inl fz))] s.heap := hP
  have hl := lv_entry ([.ref h0, .int on]) (n := 2) (Nat.le_of_ble_eq_true rfl)
  rw [lg_entry_eq]
  generalize (lg_sl ([.ref h0, .int on]) ++ List.replicate (2 - (lg_sl ([.ref h0, .int on])).length) Slot.unset).toArray = ls at hl ⊢
  have hl : lv_has ls 2 [(0, .ref h0), (1, .int on)] := hl
  refine lv_aload_n hx hb dX7_add_0 rfl (lv_at hl 0 rfl) ?_
  refine va_get (D := (dC, dI)) (ci := 7) (v := .int 18) (C := RX7) (T := TX7) (N := 2) hx hb hts (fun _ h0_ => List.mem_cons_of_mem _ (List.mem_append_right _ (List.mem_append_left _ h0_))) hown hK hP 0 rfl rfl 1 (by decide) (hts (.fieldLink RX7 15 "DeadlineShare$Tape" "length" "I") (List.mem_cons_of_mem _ (List.mem_append_left _ (List.mem_of_getElem? (i := 0) rfl)))) (fun _ h9 => h9) rfl dX7_add_1 ?_
  refine lv_if_lt (tgt := 38) hx hb dX7_add_4 (by decide) (fun c => absurd c (by decide)) (fun _ => ?_)
  refine lv_aload_n hx hb dX7_add_7 rfl (lv_at hl 0 rfl) ?_
  refine va_get (D := (dC, dI)) (ci := 7) (v := .int 18) (C := RX7) (T := TX7) (N := 2) hx hb hts (fun _ h0_ => List.mem_cons_of_mem _ (List.mem_append_right _ (List.mem_append_left _ h0_))) hown hK hP 0 rfl rfl 1 (by decide) (hts (.fieldLink RX7 15 "DeadlineShare$Tape" "length" "I") (List.mem_cons_of_mem _ (List.mem_append_left _ (List.mem_of_getElem? (i := 0) rfl)))) (fun _ h9 => h9) rfl dX7_add_8 ?_
  refine lv_sipush (v := 200) hx hb dX7_add_11 (by decide) ?_
  refine lv_icmp_ge (tgt := 38) hx hb dX7_add_14 (by decide) (fun c => absurd c (by decide)) (fun _ => ?_)
  refine lv_aload_n hx hb dX7_add_17 rfl (lv_at hl 0 rfl) ?_
  refine va_get (D := (dC, dI)) (ci := 7) (v := .ref tb) (C := RX7) (T := TX7) (N := 2) hx hb hts (fun _ h0_ => List.mem_cons_of_mem _ (List.mem_append_right _ (List.mem_append_left _ h0_))) hown hK hP 0 rfl rfl 0 (by decide) (hts (.fieldLink RX7 11 "DeadlineShare$Tape" "bytes" "[B") (List.mem_cons_of_mem _ (List.mem_append_left _ (List.mem_of_getElem? (i := 1) rfl)))) (fun _ h9 => h9) rfl dX7_add_18 ?_
  refine lv_aload_n hx hb dX7_add_21 rfl (lv_at hl 0 rfl) ?_
  refine va_get (D := (dC, dI)) (ci := 7) (v := .int 18) (C := RX7) (T := TX7) (N := 2) hx hb hts (fun _ h0_ => List.mem_cons_of_mem _ (List.mem_append_right _ (List.mem_append_left _ h0_))) hown hK hP 0 rfl rfl 1 (by decide) (hts (.fieldLink RX7 15 "DeadlineShare$Tape" "length" "I") (List.mem_cons_of_mem _ (List.mem_append_left _ (List.mem_of_getElem? (i := 0) rfl)))) (fun _ h9 => h9) rfl dX7_add_22 ?_
  refine lv_iload_n hx hb dX7_add_25 rfl (lv_at hl 1 rfl) ?_
  refine lv_i2b (v := on.toInt8.toInt32) hx hb dX7_add_26 rfl ?_
  refine va_bast hx hb hK hP hD hS 1 0 rfl rfl (by unfold vp_in; decide) dX7_add_27 (fun H locs hP hD hS => ?_)
  have hP : va_P (dC, dI) vwCl [(h0, .inr (7, [.ref tb, .int 18])), (tb, .inl (cb, 200, .inl (upd fz (Int32.toNatClampNeg 18) (vp_nar .byte on.toInt8.toInt32))))] H := hP
  have hD : va_D A [(h0, .inr (7, [.ref tb, .int 18])), (tb, .inl (cb, 200, .inl (upd fz (Int32.toNatClampNeg 18) (vp_nar .byte on.toInt8.toInt32))))] := hD
  generalize ef_1 : upd fz (Int32.toNatClampNeg 18) (vp_nar .byte on.toInt8.toInt32) = f_1 at hP hD
  refine lv_aload_n hx hb dX7_add_28 rfl (lv_at hl 0 rfl) ?_
  refine lv_dup hx hb dX7_add_29 rfl ?_
  refine va_get (D := (dC, dI)) (ci := 7) (v := .int 18) (C := RX7) (T := TX7) (N := 2) hx hb hts (fun _ h0_ => List.mem_cons_of_mem _ (List.mem_append_right _ (List.mem_append_left _ h0_))) hown hK hP 0 rfl rfl 1 (by decide) (hts (.fieldLink RX7 15 "DeadlineShare$Tape" "length" "I") (List.mem_cons_of_mem _ (List.mem_append_left _ (List.mem_of_getElem? (i := 0) rfl)))) (fun _ h9 => h9) rfl dX7_add_30 ?_
  refine lv_iconst (v := 1) hx hb dX7_add_33 (by decide) ?_
  refine lv_iadd hx hb dX7_add_34 ?_
  refine k_topi (y := 19) (by decide) ?_
  refine va_put (D := (dC, dI)) (ci := 7) (v := .int 19) (ty := .int) (C := RX7) (T := TX7) (N := 2) hx hb hts (fun _ h0_ => List.mem_cons_of_mem _ (List.mem_append_right _ (List.mem_append_left _ h0_))) tyX7 tyX7_ok nmX7 hown hK hP hD hS 0 rfl rfl 1 (by decide) (hts (.fieldLink RX7 15 "DeadlineShare$Tape" "length" "I") (List.mem_cons_of_mem _ (List.mem_append_left _ (List.mem_of_getElem? (i := 0) rfl)))) (fun _ h9 => h9) rfl (by decide +kernel) rfl rfl (Nat.le_of_ble_eq_true rfl) dX7_add_35 (fun H locs hP hD hS => ?_)
  have hP : va_P (dC, dI) vwCl [(h0, .inr (7, [.ref tb, .int 19])), (tb, .inl (cb, 200, .inl f_1))] H := hP
  have hD : va_D A [(h0, .inr (7, [.ref tb, .int 19])), (tb, .inl (cb, 200, .inl f_1))] := hD
  have hP9 := hP.sub (ws' := [(h0, .inr (7, [.ref tb, .int 19])), (tb, .inl (cb, 200, .inl f_1))]) [0, 1] rfl
  have hD9 := hD.sub (ws' := [(h0, .inr (7, [.ref tb, .int 19])), (tb, .inl (cb, 200, .inl f_1))]) [0, 1] (by decide) rfl
  have hK9 := hK.sub (tys' := [(cb, .byte)]) [0] rfl
  refine W.widen (k := 0) (n := 0) (Nat.le_of_ble_eq_true rfl) (Nat.le_of_ble_eq_true rfl) ?_
  exact W.vret hx hb hr (fun t ht hW => ⟨⟨(), rfl, trivial, f_1, by rw [ht]; exact hP9, va_K.moved hW.alike hK9, hD9⟩, hS.F ht⟩) hS.2.2 dX7_add_38
def ow_c_X7_add_19 : List Cond := [.fieldLink RX7 15 "DeadlineShare$Tape" "length" "I", .fieldLink RX7 11 "DeadlineShare$Tape" "bytes" "[B"]
def wq_c_X7_add_19 : List Cond := .code yX7_add cX7_add 2 none :: (ow_c_X7_add_19 ++ (u_ws RX7 TX7 2 ++ ([] : List Cond)))
theorem tb_c_X7_add_19 : ∀ w ∈ wq_c_X7_add_19, q_g w := by
  unfold wq_c_X7_add_19 ow_c_X7_add_19
  exact q_cons tw_296 (q_app (q_cons tw_294 (q_cons tw_20 q_nil)) (q_app tu_X7 q_nil))
set_option maxHeartbeats 4000000 in
set_option maxRecDepth 100000 in
theorem c_X7_add_19 (l : Launch) (dC : Nat → ClassId) (dI : Nat → Nat → Nat) (h0 : Nat) (on : Int32) (tb : Nat) (cb : ClassId) (fz : Nat → Int32) (sz : Nat) : Met l yX7_add wq_c_X7_add_19 ({ frames := 0, cells := 0, slots := 0, locals := 0 } : Room) (va_Pc [.ref h0, .int on] (fun U => U.heap.size = sz ∧ va_P (dC, dI) vwCl [(h0, .inr (7, [.ref tb, .int 19])), (tb, .inl (cb, 200, .inl fz))] U.heap ∧ va_K (dC, dI) vwCl [(cb, .byte)] U ∧ va_D (fun _ => True) [(h0, .inr (7, [.ref tb, .int 19])), (tb, .inl (cb, 200, .inl fz))])) (va_Qv (fun (_ : Unit) => True) (fun (_ : Unit) t => ∃ (f2 : Nat → Int32), va_P (dC, dI) vwCl [(h0, .inr (7, [.ref tb, .int 20])), (tb, .inl (cb, 200, .inl f2))] t.heap ∧ va_K (dC, dI) vwCl [(cb, .byte)] t ∧ va_D (va_A [(h0, .inr (7, [.ref tb, .int 19])), (tb, .inl (cb, 200, .inl fz))] sz) [(h0, .inr (7, [.ref tb, .int 20])), (tb, .inl (cb, 200, .inl f2))]) (va_A [(h0, .inr (7, [.ref tb, .int 19])), (tb, .inl (cb, 200, .inl fz))] sz)) 0 0 (va_A [(h0, .inr (7, [.ref tb, .int 19])), (tb, .inl (cb, 200, .inl fz))] sz) := by
  refine Met.ofW (cc := cX7_add) (maxL := 2) (ret := none) (by decide) rfl ?_
  intro p e s m args below meth c s₁ B hml hv
  obtain ⟨rfl, hsz, hP, hK, hD0⟩ := hv
  have hx := B.exec
  have hb := B.bytes
  have hr := B.returns
  have hts := atoms_spec (ws := wq_c_X7_add_19) B.pre
  have hown : s.vm.findClass RX7 = some m.cls := findClass_of_methodNamed B.named
  have hlocks := B.notSynchronized
  subst hsz
  have hD := hD0.self (sz := s.heap.size)
  obtain ⟨A, hAe⟩ : ∃ A, A = va_A [(h0, .inr (7, [.ref tb, .int 19])), (tb, .inl (cb, 200, .inl fz))] s.heap.size := ⟨_, rfl⟩
  rw [← hAe] at hD ⊢
  have hA : ∀ q : Nat, s.heap.size ≤ q → A q := fun q h => by rw [hAe]; exact Or.inr h
  have hS : va_S A s.heap s.heap [] := va_S.rf
  have hP : va_P (dC, dI) vwCl [(h0, .inr (7, [.ref tb, .int 19])), (tb, .inl (cb, 200, .inl fz))] s.heap := hP
  have hl := lv_entry ([.ref h0, .int on]) (n := 2) (Nat.le_of_ble_eq_true rfl)
  rw [lg_entry_eq]
  generalize (lg_sl ([.ref h0, .int on]) ++ List.replicate (2 - (lg_sl ([.ref h0, .int on])).length) Slot.unset).toArray = ls at hl ⊢
  have hl : lv_has ls 2 [(0, .ref h0), (1, .int on)] := hl
  refine lv_aload_n hx hb dX7_add_0 rfl (lv_at hl 0 rfl) ?_
  refine va_get (D := (dC, dI)) (ci := 7) (v := .int 19) (C := RX7) (T := TX7) (N := 2) hx hb hts (fun _ h0_ => List.mem_cons_of_mem _ (List.mem_append_right _ (List.mem_append_left _ h0_))) hown hK hP 0 rfl rfl 1 (by decide) (hts (.fieldLink RX7 15 "DeadlineShare$Tape" "length" "I") (List.mem_cons_of_mem _ (List.mem_append_left _ (List.mem_of_getElem? (i := 0) rfl)))) (fun _ h9 => h9) rfl dX7_add_1 ?_
  refine lv_if_lt (tgt := 38) hx hb dX7_add_4 (by decide) (fun c => absurd c (by decide)) (fun _ => ?_)
  refine lv_aload_n hx hb dX7_add_7 rfl (lv_at hl 0 rfl) ?_
  refine va_get (D := (dC, dI)) (ci := 7) (v := .int 19) (C := RX7) (T := TX7) (N := 2) hx hb hts (fun _ h0_ => List.mem_cons_of_mem _ (List.mem_append_right _ (List.mem_append_left _ h0_))) hown hK hP 0 rfl rfl 1 (by decide) (hts (.fieldLink RX7 15 "DeadlineShare$Tape" "length" "I") (List.mem_cons_of_mem _ (List.mem_append_left _ (List.mem_of_getElem? (i := 0) rfl)))) (fun _ h9 => h9) rfl dX7_add_8 ?_
  refine lv_sipush (v := 200) hx hb dX7_add_11 (by decide) ?_
  refine lv_icmp_ge (tgt := 38) hx hb dX7_add_14 (by decide) (fun c => absurd c (by decide)) (fun _ => ?_)
  refine lv_aload_n hx hb dX7_add_17 rfl (lv_at hl 0 rfl) ?_
  refine va_get (D := (dC, dI)) (ci := 7) (v := .ref tb) (C := RX7) (T := TX7) (N := 2) hx hb hts (fun _ h0_ => List.mem_cons_of_mem _ (List.mem_append_right _ (List.mem_append_left _ h0_))) hown hK hP 0 rfl rfl 0 (by decide) (hts (.fieldLink RX7 11 "DeadlineShare$Tape" "bytes" "[B") (List.mem_cons_of_mem _ (List.mem_append_left _ (List.mem_of_getElem? (i := 1) rfl)))) (fun _ h9 => h9) rfl dX7_add_18 ?_
  refine lv_aload_n hx hb dX7_add_21 rfl (lv_at hl 0 rfl) ?_
  refine va_get (D := (dC, dI)) (ci := 7) (v := .int 19) (C := RX7) (T := TX7) (N := 2) hx hb hts (fun _ h0_ => List.mem_cons_of_mem _ (List.mem_append_right _ (List.mem_append_left _ h0_))) hown hK hP 0 rfl rfl 1 (by decide) (hts (.fieldLink RX7 15 "DeadlineShare$Tape" "length" "I") (List.mem_cons_of_mem _ (List.mem_append_left _ (List.mem_of_getElem? (i := 0) rfl)))) (fun _ h9 => h9) rfl dX7_add_22 ?_
  refine lv_iload_n hx hb dX7_add_25 rfl (lv_at hl 1 rfl) ?_
  refine lv_i2b (v := on.toInt8.toInt32) hx hb dX7_add_26 rfl ?_
  refine va_bast hx hb hK hP hD hS 1 0 rfl rfl (by unfold vp_in; decide) dX7_add_27 (fun H locs hP hD hS => ?_)
  have hP : va_P (dC, dI) vwCl [(h0, .inr (7, [.ref tb, .int 19])), (tb, .inl (cb, 200, .inl (upd fz (Int32.toNatClampNeg 19) (vp_nar .byte on.toInt8.toInt32))))] H := hP
  have hD : va_D A [(h0, .inr (7, [.ref tb, .int 19])), (tb, .inl (cb, 200, .inl (upd fz (Int32.toNatClampNeg 19) (vp_nar .byte on.toInt8.toInt32))))] := hD
  generalize ef_1 : upd fz (Int32.toNatClampNeg 19) (vp_nar .byte on.toInt8.toInt32) = f_1 at hP hD
  refine lv_aload_n hx hb dX7_add_28 rfl (lv_at hl 0 rfl) ?_
  refine lv_dup hx hb dX7_add_29 rfl ?_
  refine va_get (D := (dC, dI)) (ci := 7) (v := .int 19) (C := RX7) (T := TX7) (N := 2) hx hb hts (fun _ h0_ => List.mem_cons_of_mem _ (List.mem_append_right _ (List.mem_append_left _ h0_))) hown hK hP 0 rfl rfl 1 (by decide) (hts (.fieldLink RX7 15 "DeadlineShare$Tape" "length" "I") (List.mem_cons_of_mem _ (List.mem_append_left _ (List.mem_of_getElem? (i := 0) rfl)))) (fun _ h9 => h9) rfl dX7_add_30 ?_
  refine lv_iconst (v := 1) hx hb dX7_add_33 (by decide) ?_
  refine lv_iadd hx hb dX7_add_34 ?_
  refine k_topi (y := 20) (by decide) ?_
  refine va_put (D := (dC, dI)) (ci := 7) (v := .int 20) (ty := .int) (C := RX7) (T := TX7) (N := 2) hx hb hts (fun _ h0_ => List.mem_cons_of_mem _ (List.mem_append_right _ (List.mem_append_left _ h0_))) tyX7 tyX7_ok nmX7 hown hK hP hD hS 0 rfl rfl 1 (by decide) (hts (.fieldLink RX7 15 "DeadlineShare$Tape" "length" "I") (List.mem_cons_of_mem _ (List.mem_append_left _ (List.mem_of_getElem? (i := 0) rfl)))) (fun _ h9 => h9) rfl (by decide +kernel) rfl rfl (Nat.le_of_ble_eq_true rfl) dX7_add_35 (fun H locs hP hD hS => ?_)
  have hP : va_P (dC, dI) vwCl [(h0, .inr (7, [.ref tb, .int 20])), (tb, .inl (cb, 200, .inl f_1))] H := hP
  have hD : va_D A [(h0, .inr (7, [.ref tb, .int 20])), (tb, .inl (cb, 200, .inl f_1))] := hD
  have hP9 := hP.sub (ws' := [(h0, .inr (7, [.ref tb, .int 20])), (tb, .inl (cb, 200, .inl f_1))]) [0, 1] rfl
  have hD9 := hD.sub (ws' := [(h0, .inr (7, [.ref tb, .int 20])), (tb, .inl (cb, 200, .inl f_1))]) [0, 1] (by decide) rfl
  have hK9 := hK.sub (tys' := [(cb, .byte)]) [0] rfl
  refine W.widen (k := 0) (n := 0) (Nat.le_of_ble_eq_true rfl) (Nat.le_of_ble_eq_true rfl) ?_
  exact W.vret hx hb hr (fun t ht hW => ⟨⟨(), rfl, trivial, f_1, by rw [ht]; exact hP9, va_K.moved hW.alike hK9, hD9⟩, hS.F ht⟩) hS.2.2 dX7_add_38
def ow_c_X7_addFour_0 : List Cond := [.methodLink RX7 19 yX7_add, .instanceMethod yX7_add, .selects RX7 yX7_add yX7_add, .initialized RX7]
def wq_c_X7_addFour_0 : List Cond := .code yX7_addFour cX7_addFour 2 none :: (ow_c_X7_addFour_0 ++ (wq_c_X7_add_0 ++ (wq_c_X7_add_1 ++ (wq_c_X7_add_2 ++ (wq_c_X7_add_3 ++ ([] : List Cond))))))
theorem tb_c_X7_addFour_0 : ∀ w ∈ wq_c_X7_addFour_0, q_g w := by
  unfold wq_c_X7_addFour_0 ow_c_X7_addFour_0
  exact q_cons tw_300 (q_app (q_cons tw_299 (q_cons tw_298 (q_cons tw_297 (q_cons tw_111 q_nil)))) (q_app tb_c_X7_add_0 (q_app tb_c_X7_add_1 (q_app tb_c_X7_add_2 (q_app tb_c_X7_add_3 q_nil)))))
set_option maxHeartbeats 4000000 in
set_option maxRecDepth 100000 in
theorem c_X7_addFour_0 (l : Launch) (dC : Nat → ClassId) (dI : Nat → Nat → Nat) (h0 : Nat) (fo : Int32) (tb : Nat) (cb : ClassId) (fz : Nat → Int32) (sz : Nat) : Met l yX7_addFour wq_c_X7_addFour_0 ({ frames := 1, cells := 0, slots := 0, locals := 21 } : Room) (va_Pc [.ref h0, .int fo] (fun U => U.heap.size = sz ∧ va_P (dC, dI) vwCl [(h0, .inr (7, [.ref tb, .int 0])), (tb, .inl (cb, 200, .inl fz))] U.heap ∧ va_K (dC, dI) vwCl [(cb, .byte)] U ∧ va_D (fun _ => True) [(h0, .inr (7, [.ref tb, .int 0])), (tb, .inl (cb, 200, .inl fz))])) (va_Qv (fun (_ : Unit) => True) (fun (_ : Unit) t => ∃ (f2 : Nat → Int32), va_P (dC, dI) vwCl [(h0, .inr (7, [.ref tb, .int 4])), (tb, .inl (cb, 200, .inl f2))] t.heap ∧ va_K (dC, dI) vwCl [(cb, .byte)] t ∧ va_D (va_A [(h0, .inr (7, [.ref tb, .int 0])), (tb, .inl (cb, 200, .inl fz))] sz) [(h0, .inr (7, [.ref tb, .int 4])), (tb, .inl (cb, 200, .inl f2))]) (va_A [(h0, .inr (7, [.ref tb, .int 0])), (tb, .inl (cb, 200, .inl fz))] sz)) 0 0 (va_A [(h0, .inr (7, [.ref tb, .int 0])), (tb, .inl (cb, 200, .inl fz))] sz) := by
  refine Met.ofW (cc := cX7_addFour) (maxL := 2) (ret := none) (by decide) rfl ?_
  intro p e s m args below meth c s₁ B hml hv
  obtain ⟨rfl, hsz, hP, hK, hD0⟩ := hv
  have hx := B.exec
  have hb := B.bytes
  have hr := B.returns
  have hts := atoms_spec (ws := wq_c_X7_addFour_0) B.pre
  have hown : s.vm.findClass RX7 = some m.cls := findClass_of_methodNamed B.named
  have hlocks := B.notSynchronized
  subst hsz
  have hD := hD0.self (sz := s.heap.size)
  obtain ⟨A, hAe⟩ : ∃ A, A = va_A [(h0, .inr (7, [.ref tb, .int 0])), (tb, .inl (cb, 200, .inl fz))] s.heap.size := ⟨_, rfl⟩
  rw [← hAe] at hD ⊢
  have hA : ∀ q : Nat, s.heap.size ≤ q → A q := fun q h => by rw [hAe]; exact Or.inr h
  have hS : va_S A s.heap s.heap [] := va_S.rf
  have hP : va_P (dC, dI) vwCl [(h0, .inr (7, [.ref tb, .int 0])), (tb, .inl (cb, 200, .inl fz))] s.heap := hP
  have hl := lv_entry ([.ref h0, .int fo]) (n := 2) (Nat.le_of_ble_eq_true rfl)
  rw [lg_entry_eq]
  generalize (lg_sl ([.ref h0, .int fo]) ++ List.replicate (2 - (lg_sl ([.ref h0, .int fo])).length) Slot.unset).toArray = ls at hl ⊢
  have hl : lv_has ls 2 [(0, .ref h0), (1, .int fo)] := hl
  refine lv_aload_n hx hb dX7_addFour_0 rfl (lv_at hl 0 rfl) ?_
  refine lv_iload_n hx hb dX7_addFour_1 rfl (lv_at hl 1 rfl) ?_
  refine lv_bipush (v := 24) hx hb dX7_addFour_2 (by decide) ?_
  refine lv_iushr hx hb dX7_addFour_4 rfl ?_
  refine lv_topi (fun v_1 ev_1 => ?_)
  have hPc := hP.sub (ws' := [(h0, .inr (7, [.ref tb, .int 0])), (tb, .inl (cb, 200, .inl fz))]) [0, 1] rfl
  have hDc := hD.sub (ws' := [(h0, .inr (7, [.ref tb, .int 0])), (tb, .inl (cb, 200, .inl fz))]) [0, 1] (by decide) rfl
  have hKc := hK.sub (tys' := [(cb, .byte)]) [0] rfl
  have hFc := va_free (wc := [(h0, .inr (7, [.ref tb, .int 0])), (tb, .inl (cb, 200, .inl fz))]) hD hS hA [0, 1] rfl
  refine va_callv (va_runV (As := [.int v_1]) (rest := []) ⟨hx, hb, hml, hown, hts⟩ (c_X7_add_0 l dC dI h0 v_1 tb cb fz s.heap.size) (cwV 1 hts (gi_V (fun w_ h0_ => ⟨List.mem_cons_of_mem _ (List.mem_append_right _ (List.mem_append_left _ h0_)), (tb_c_X7_add_0 w_ h0_).2⟩) (List.mem_cons_of_mem _ (List.mem_append_left _ (List.mem_of_getElem? (i := 0) rfl))) (List.mem_cons_of_mem _ (List.mem_append_left _ (List.mem_of_getElem? (i := 1) rfl))) (List.mem_cons_of_mem _ (List.mem_append_left _ (List.mem_of_getElem? (i := 2) rfl))) (List.mem_cons_of_mem _ (List.mem_append_left _ (List.mem_of_getElem? (i := 3) rfl)))) rfl rfl rfl (by decide +kernel) ⟨Nat.le_of_ble_eq_true rfl, Nat.le_of_ble_eq_true rfl⟩) ⟨fun a U g mk q => by obtain ⟨q0, q1, qP, qK, qD⟩ := q; exact ⟨q0, q1, qP, va_K.moved (u := U) (U := U.calling g mk a) (Vm.Alike.refl U.vm) qK, qD⟩, va_recv hKc hPc (ci := 7) (q0 := 0) rfl rfl, fun U hU hW => ⟨rfl, by rw [hU], by rw [hU]; exact hPc, va_K.moved hW.alike hKc, hDc.weaken (fun _ _ _ _ => trivial)⟩⟩ rfl rfl hl.1 rfl (lv_room (Nat.le_of_ble_eq_true rfl)) dX7_addFour_5 ⟨Nat.le_of_ble_eq_true rfl, Nat.le_of_ble_eq_true rfl⟩) hS (fun q _ h => hFc q h) hFc (fun u t H1 locs ht hvm hw hB hz1 hk1 hS => ?_)
  obtain ⟨f_2, hP1, hK1, hD1⟩ := hB
  rw [ht] at hP1
  have hK1 := va_K.moved hvm.symm hK1
  obtain ⟨hP, hD⟩ := va_join (wr := []) (w1 := [(h0, .inr (7, [.ref tb, .int 1])), (tb, .inl (cb, 200, .inl f_2))]) hP hD [0, 1] [] rfl rfl (by decide) (by decide) hk1 hFc hP1 hD1
  generalize H1 = H at hP hS ⊢
  have hP : va_P (dC, dI) vwCl [(h0, .inr (7, [.ref tb, .int 1])), (tb, .inl (cb, 200, .inl f_2))] H := hP
  have hD : va_D A [(h0, .inr (7, [.ref tb, .int 1])), (tb, .inl (cb, 200, .inl f_2))] := hD
  refine W.widen (k := 0) (n := 0) (Nat.le_of_ble_eq_true rfl) (Nat.le_of_ble_eq_true rfl) ?_
  refine lv_aload_n hx hb dX7_addFour_8 rfl (lv_at hl 0 rfl) ?_
  refine lv_iload_n hx hb dX7_addFour_9 rfl (lv_at hl 1 rfl) ?_
  refine lv_bipush (v := 16) hx hb dX7_addFour_10 (by decide) ?_
  refine lv_iushr hx hb dX7_addFour_12 rfl ?_
  refine lv_topi (fun v_3 ev_3 => ?_)
  have hPc := hP.sub (ws' := [(h0, .inr (7, [.ref tb, .int 1])), (tb, .inl (cb, 200, .inl f_2))]) [0, 1] rfl
  have hDc := hD.sub (ws' := [(h0, .inr (7, [.ref tb, .int 1])), (tb, .inl (cb, 200, .inl f_2))]) [0, 1] (by decide) rfl
  have hKc := hK.sub (tys' := [(cb, .byte)]) [0] rfl
  have hFc := va_free (wc := [(h0, .inr (7, [.ref tb, .int 1])), (tb, .inl (cb, 200, .inl f_2))]) hD hS hA [0, 1] rfl
  refine va_callv (va_runV (As := [.int v_3]) (rest := []) ⟨hx, hb, hml, hown, hts⟩ (c_X7_add_1 l dC dI h0 v_3 tb cb f_2 H.size) (cwV 1 hts (gi_V (fun w_ h0_ => ⟨List.mem_cons_of_mem _ (List.mem_append_right _ (List.mem_append_right _ (List.mem_append_left _ h0_))), (tb_c_X7_add_1 w_ h0_).2⟩) (List.mem_cons_of_mem _ (List.mem_append_left _ (List.mem_of_getElem? (i := 0) rfl))) (List.mem_cons_of_mem _ (List.mem_append_left _ (List.mem_of_getElem? (i := 1) rfl))) (List.mem_cons_of_mem _ (List.mem_append_left _ (List.mem_of_getElem? (i := 2) rfl))) (List.mem_cons_of_mem _ (List.mem_append_left _ (List.mem_of_getElem? (i := 3) rfl)))) rfl rfl rfl (by decide +kernel) ⟨Nat.le_of_ble_eq_true rfl, Nat.le_of_ble_eq_true rfl⟩) ⟨fun a U g mk q => by obtain ⟨q0, q1, qP, qK, qD⟩ := q; exact ⟨q0, q1, qP, va_K.moved (u := U) (U := U.calling g mk a) (Vm.Alike.refl U.vm) qK, qD⟩, va_recv hKc hPc (ci := 7) (q0 := 0) rfl rfl, fun U hU hW => ⟨rfl, by rw [hU], by rw [hU]; exact hPc, va_K.moved hW.alike hKc, hDc.weaken (fun _ _ _ _ => trivial)⟩⟩ rfl rfl hl.1 rfl (lv_room (Nat.le_of_ble_eq_true rfl)) dX7_addFour_13 ⟨Nat.le_of_ble_eq_true rfl, Nat.le_of_ble_eq_true rfl⟩) hS (fun q _ h => hFc q h) hFc (fun u t H1 locs ht hvm hw hB hz1 hk1 hS => ?_)
  obtain ⟨f_4, hP1, hK1, hD1⟩ := hB
  rw [ht] at hP1
  have hK1 := va_K.moved hvm.symm hK1
  obtain ⟨hP, hD⟩ := va_join (wr := []) (w1 := [(h0, .inr (7, [.ref tb, .int 2])), (tb, .inl (cb, 200, .inl f_4))]) hP hD [0, 1] [] rfl rfl (by decide) (by decide) hk1 hFc hP1 hD1
  generalize H1 = H at hP hS ⊢
  have hP : va_P (dC, dI) vwCl [(h0, .inr (7, [.ref tb, .int 2])), (tb, .inl (cb, 200, .inl f_4))] H := hP
  have hD : va_D A [(h0, .inr (7, [.ref tb, .int 2])), (tb, .inl (cb, 200, .inl f_4))] := hD
  refine W.widen (k := 0) (n := 0) (Nat.le_of_ble_eq_true rfl) (Nat.le_of_ble_eq_true rfl) ?_
  refine lv_aload_n hx hb dX7_addFour_16 rfl (lv_at hl 0 rfl) ?_
  refine lv_iload_n hx hb dX7_addFour_17 rfl (lv_at hl 1 rfl) ?_
  refine lv_bipush (v := 8) hx hb dX7_addFour_18 (by decide) ?_
  refine lv_iushr hx hb dX7_addFour_20 rfl ?_
  refine lv_topi (fun v_5 ev_5 => ?_)
  have hPc := hP.sub (ws' := [(h0, .inr (7, [.ref tb, .int 2])), (tb, .inl (cb, 200, .inl f_4))]) [0, 1] rfl
  have hDc := hD.sub (ws' := [(h0, .inr (7, [.ref tb, .int 2])), (tb, .inl (cb, 200, .inl f_4))]) [0, 1] (by decide) rfl
  have hKc := hK.sub (tys' := [(cb, .byte)]) [0] rfl
  have hFc := va_free (wc := [(h0, .inr (7, [.ref tb, .int 2])), (tb, .inl (cb, 200, .inl f_4))]) hD hS hA [0, 1] rfl
  refine va_callv (va_runV (As := [.int v_5]) (rest := []) ⟨hx, hb, hml, hown, hts⟩ (c_X7_add_2 l dC dI h0 v_5 tb cb f_4 H.size) (cwV 1 hts (gi_V (fun w_ h0_ => ⟨List.mem_cons_of_mem _ (List.mem_append_right _ (List.mem_append_right _ (List.mem_append_right _ (List.mem_append_left _ h0_)))), (tb_c_X7_add_2 w_ h0_).2⟩) (List.mem_cons_of_mem _ (List.mem_append_left _ (List.mem_of_getElem? (i := 0) rfl))) (List.mem_cons_of_mem _ (List.mem_append_left _ (List.mem_of_getElem? (i := 1) rfl))) (List.mem_cons_of_mem _ (List.mem_append_left _ (List.mem_of_getElem? (i := 2) rfl))) (List.mem_cons_of_mem _ (List.mem_append_left _ (List.mem_of_getElem? (i := 3) rfl)))) rfl rfl rfl (by decide +kernel) ⟨Nat.le_of_ble_eq_true rfl, Nat.le_of_ble_eq_true rfl⟩) ⟨fun a U g mk q => by obtain ⟨q0, q1, qP, qK, qD⟩ := q; exact ⟨q0, q1, qP, va_K.moved (u := U) (U := U.calling g mk a) (Vm.Alike.refl U.vm) qK, qD⟩, va_recv hKc hPc (ci := 7) (q0 := 0) rfl rfl, fun U hU hW => ⟨rfl, by rw [hU], by rw [hU]; exact hPc, va_K.moved hW.alike hKc, hDc.weaken (fun _ _ _ _ => trivial)⟩⟩ rfl rfl hl.1 rfl (lv_room (Nat.le_of_ble_eq_true rfl)) dX7_addFour_21 ⟨Nat.le_of_ble_eq_true rfl, Nat.le_of_ble_eq_true rfl⟩) hS (fun q _ h => hFc q h) hFc (fun u t H1 locs ht hvm hw hB hz1 hk1 hS => ?_)
  obtain ⟨f_6, hP1, hK1, hD1⟩ := hB
  rw [ht] at hP1
  have hK1 := va_K.moved hvm.symm hK1
  obtain ⟨hP, hD⟩ := va_join (wr := []) (w1 := [(h0, .inr (7, [.ref tb, .int 3])), (tb, .inl (cb, 200, .inl f_6))]) hP hD [0, 1] [] rfl rfl (by decide) (by decide) hk1 hFc hP1 hD1
  generalize H1 = H at hP hS ⊢
  have hP : va_P (dC, dI) vwCl [(h0, .inr (7, [.ref tb, .int 3])), (tb, .inl (cb, 200, .inl f_6))] H := hP
  have hD : va_D A [(h0, .inr (7, [.ref tb, .int 3])), (tb, .inl (cb, 200, .inl f_6))] := hD
  refine W.widen (k := 0) (n := 0) (Nat.le_of_ble_eq_true rfl) (Nat.le_of_ble_eq_true rfl) ?_
  refine lv_aload_n hx hb dX7_addFour_24 rfl (lv_at hl 0 rfl) ?_
  refine lv_iload_n hx hb dX7_addFour_25 rfl (lv_at hl 1 rfl) ?_
  have hPc := hP.sub (ws' := [(h0, .inr (7, [.ref tb, .int 3])), (tb, .inl (cb, 200, .inl f_6))]) [0, 1] rfl
  have hDc := hD.sub (ws' := [(h0, .inr (7, [.ref tb, .int 3])), (tb, .inl (cb, 200, .inl f_6))]) [0, 1] (by decide) rfl
  have hKc := hK.sub (tys' := [(cb, .byte)]) [0] rfl
  have hFc := va_free (wc := [(h0, .inr (7, [.ref tb, .int 3])), (tb, .inl (cb, 200, .inl f_6))]) hD hS hA [0, 1] rfl
  refine va_callv (va_runV (As := [.int fo]) (rest := []) ⟨hx, hb, hml, hown, hts⟩ (c_X7_add_3 l dC dI h0 fo tb cb f_6 H.size) (cwV 1 hts (gi_V (fun w_ h0_ => ⟨List.mem_cons_of_mem _ (List.mem_append_right _ (List.mem_append_right _ (List.mem_append_right _ (List.mem_append_right _ (List.mem_append_left _ h0_))))), (tb_c_X7_add_3 w_ h0_).2⟩) (List.mem_cons_of_mem _ (List.mem_append_left _ (List.mem_of_getElem? (i := 0) rfl))) (List.mem_cons_of_mem _ (List.mem_append_left _ (List.mem_of_getElem? (i := 1) rfl))) (List.mem_cons_of_mem _ (List.mem_append_left _ (List.mem_of_getElem? (i := 2) rfl))) (List.mem_cons_of_mem _ (List.mem_append_left _ (List.mem_of_getElem? (i := 3) rfl)))) rfl rfl rfl (by decide +kernel) ⟨Nat.le_of_ble_eq_true rfl, Nat.le_of_ble_eq_true rfl⟩) ⟨fun a U g mk q => by obtain ⟨q0, q1, qP, qK, qD⟩ := q; exact ⟨q0, q1, qP, va_K.moved (u := U) (U := U.calling g mk a) (Vm.Alike.refl U.vm) qK, qD⟩, va_recv hKc hPc (ci := 7) (q0 := 0) rfl rfl, fun U hU hW => ⟨rfl, by rw [hU], by rw [hU]; exact hPc, va_K.moved hW.alike hKc, hDc.weaken (fun _ _ _ _ => trivial)⟩⟩ rfl rfl hl.1 rfl (lv_room (Nat.le_of_ble_eq_true rfl)) dX7_addFour_26 ⟨Nat.le_of_ble_eq_true rfl, Nat.le_of_ble_eq_true rfl⟩) hS (fun q _ h => hFc q h) hFc (fun u t H1 locs ht hvm hw hB hz1 hk1 hS => ?_)
  obtain ⟨f_7, hP1, hK1, hD1⟩ := hB
  rw [ht] at hP1
  have hK1 := va_K.moved hvm.symm hK1
  obtain ⟨hP, hD⟩ := va_join (wr := []) (w1 := [(h0, .inr (7, [.ref tb, .int 4])), (tb, .inl (cb, 200, .inl f_7))]) hP hD [0, 1] [] rfl rfl (by decide) (by decide) hk1 hFc hP1 hD1
  generalize H1 = H at hP hS ⊢
  have hP : va_P (dC, dI) vwCl [(h0, .inr (7, [.ref tb, .int 4])), (tb, .inl (cb, 200, .inl f_7))] H := hP
  have hD : va_D A [(h0, .inr (7, [.ref tb, .int 4])), (tb, .inl (cb, 200, .inl f_7))] := hD
  refine W.widen (k := 0) (n := 0) (Nat.le_of_ble_eq_true rfl) (Nat.le_of_ble_eq_true rfl) ?_
  have hP9 := hP.sub (ws' := [(h0, .inr (7, [.ref tb, .int 4])), (tb, .inl (cb, 200, .inl f_7))]) [0, 1] rfl
  have hD9 := hD.sub (ws' := [(h0, .inr (7, [.ref tb, .int 4])), (tb, .inl (cb, 200, .inl f_7))]) [0, 1] (by decide) rfl
  have hK9 := hK.sub (tys' := [(cb, .byte)]) [0] rfl
  refine W.widen (k := 0) (n := 0) (Nat.le_of_ble_eq_true rfl) (Nat.le_of_ble_eq_true rfl) ?_
  exact W.vret hx hb hr (fun t ht hW => ⟨⟨(), rfl, trivial, f_7, by rw [ht]; exact hP9, va_K.moved hW.alike hK9, hD9⟩, hS.F ht⟩) hS.2.2 dX7_addFour_29
def ow_c_X7_addFour_4 : List Cond := [.methodLink RX7 19 yX7_add, .instanceMethod yX7_add, .selects RX7 yX7_add yX7_add, .initialized RX7]
def wq_c_X7_addFour_4 : List Cond := .code yX7_addFour cX7_addFour 2 none :: (ow_c_X7_addFour_4 ++ (wq_c_X7_add_4 ++ (wq_c_X7_add_5 ++ (wq_c_X7_add_6 ++ (wq_c_X7_add_7 ++ ([] : List Cond))))))
theorem tb_c_X7_addFour_4 : ∀ w ∈ wq_c_X7_addFour_4, q_g w := by
  unfold wq_c_X7_addFour_4 ow_c_X7_addFour_4
  exact q_cons tw_300 (q_app (q_cons tw_299 (q_cons tw_298 (q_cons tw_297 (q_cons tw_111 q_nil)))) (q_app tb_c_X7_add_4 (q_app tb_c_X7_add_5 (q_app tb_c_X7_add_6 (q_app tb_c_X7_add_7 q_nil)))))
set_option maxHeartbeats 4000000 in
set_option maxRecDepth 100000 in
theorem c_X7_addFour_4 (l : Launch) (dC : Nat → ClassId) (dI : Nat → Nat → Nat) (h0 : Nat) (fo : Int32) (tb : Nat) (cb : ClassId) (fz : Nat → Int32) (sz : Nat) : Met l yX7_addFour wq_c_X7_addFour_4 ({ frames := 1, cells := 0, slots := 0, locals := 21 } : Room) (va_Pc [.ref h0, .int fo] (fun U => U.heap.size = sz ∧ va_P (dC, dI) vwCl [(h0, .inr (7, [.ref tb, .int 4])), (tb, .inl (cb, 200, .inl fz))] U.heap ∧ va_K (dC, dI) vwCl [(cb, .byte)] U ∧ va_D (fun _ => True) [(h0, .inr (7, [.ref tb, .int 4])), (tb, .inl (cb, 200, .inl fz))])) (va_Qv (fun (_ : Unit) => True) (fun (_ : Unit) t => ∃ (f2 : Nat → Int32), va_P (dC, dI) vwCl [(h0, .inr (7, [.ref tb, .int 8])), (tb, .inl (cb, 200, .inl f2))] t.heap ∧ va_K (dC, dI) vwCl [(cb, .byte)] t ∧ va_D (va_A [(h0, .inr (7, [.ref tb, .int 4])), (tb, .inl (cb, 200, .inl fz))] sz) [(h0, .inr (7, [.ref tb, .int 8])), (tb, .inl (cb, 200, .inl f2))]) (va_A [(h0, .inr (7, [.ref tb, .int 4])), (tb, .inl (cb, 200, .inl fz))] sz)) 0 0 (va_A [(h0, .inr (7, [.ref tb, .int 4])), (tb, .inl (cb, 200, .inl fz))] sz) := by
  refine Met.ofW (cc := cX7_addFour) (maxL := 2) (ret := none) (by decide) rfl ?_
  intro p e s m args below meth c s₁ B hml hv
  obtain ⟨rfl, hsz, hP, hK, hD0⟩ := hv
  have hx := B.exec
  have hb := B.bytes
  have hr := B.returns
  have hts := atoms_spec (ws := wq_c_X7_addFour_4) B.pre
  have hown : s.vm.findClass RX7 = some m.cls := findClass_of_methodNamed B.named
  have hlocks := B.notSynchronized
  subst hsz
  have hD := hD0.self (sz := s.heap.size)
  obtain ⟨A, hAe⟩ : ∃ A, A = va_A [(h0, .inr (7, [.ref tb, .int 4])), (tb, .inl (cb, 200, .inl fz))] s.heap.size := ⟨_, rfl⟩
  rw [← hAe] at hD ⊢
  have hA : ∀ q : Nat, s.heap.size ≤ q → A q := fun q h => by rw [hAe]; exact Or.inr h
  have hS : va_S A s.heap s.heap [] := va_S.rf
  have hP : va_P (dC, dI) vwCl [(h0, .inr (7, [.ref tb, .int 4])), (tb, .inl (cb, 200, .inl fz))] s.heap := hP
  have hl := lv_entry ([.ref h0, .int fo]) (n := 2) (Nat.le_of_ble_eq_true rfl)
  rw [lg_entry_eq]
  generalize (lg_sl ([.ref h0, .int fo]) ++ List.replicate (2 - (lg_sl ([.ref h0, .int fo])).length) Slot.unset).toArray = ls at hl ⊢
  have hl : lv_has ls 2 [(0, .ref h0), (1, .int fo)] := hl
  refine lv_aload_n hx hb dX7_addFour_0 rfl (lv_at hl 0 rfl) ?_
  refine lv_iload_n hx hb dX7_addFour_1 rfl (lv_at hl 1 rfl) ?_
  refine lv_bipush (v := 24) hx hb dX7_addFour_2 (by decide) ?_
  refine lv_iushr hx hb dX7_addFour_4 rfl ?_
  refine lv_topi (fun v_1 ev_1 => ?_)
  have hPc := hP.sub (ws' := [(h0, .inr (7, [.ref tb, .int 4])), (tb, .inl (cb, 200, .inl fz))]) [0, 1] rfl
  have hDc := hD.sub (ws' := [(h0, .inr (7, [.ref tb, .int 4])), (tb, .inl (cb, 200, .inl fz))]) [0, 1] (by decide) rfl
  have hKc := hK.sub (tys' := [(cb, .byte)]) [0] rfl
  have hFc := va_free (wc := [(h0, .inr (7, [.ref tb, .int 4])), (tb, .inl (cb, 200, .inl fz))]) hD hS hA [0, 1] rfl
  refine va_callv (va_runV (As := [.int v_1]) (rest := []) ⟨hx, hb, hml, hown, hts⟩ (c_X7_add_4 l dC dI h0 v_1 tb cb fz s.heap.size) (cwV 1 hts (gi_V (fun w_ h0_ => ⟨List.mem_cons_of_mem _ (List.mem_append_right _ (List.mem_append_left _ h0_)), (tb_c_X7_add_4 w_ h0_).2⟩) (List.mem_cons_of_mem _ (List.mem_append_left _ (List.mem_of_getElem? (i := 0) rfl))) (List.mem_cons_of_mem _ (List.mem_append_left _ (List.mem_of_getElem? (i := 1) rfl))) (List.mem_cons_of_mem _ (List.mem_append_left _ (List.mem_of_getElem? (i := 2) rfl))) (List.mem_cons_of_mem _ (List.mem_append_left _ (List.mem_of_getElem? (i := 3) rfl)))) rfl rfl rfl (by decide +kernel) ⟨Nat.le_of_ble_eq_true rfl, Nat.le_of_ble_eq_true rfl⟩) ⟨fun a U g mk q => by obtain ⟨q0, q1, qP, qK, qD⟩ := q; exact ⟨q0, q1, qP, va_K.moved (u := U) (U := U.calling g mk a) (Vm.Alike.refl U.vm) qK, qD⟩, va_recv hKc hPc (ci := 7) (q0 := 0) rfl rfl, fun U hU hW => ⟨rfl, by rw [hU], by rw [hU]; exact hPc, va_K.moved hW.alike hKc, hDc.weaken (fun _ _ _ _ => trivial)⟩⟩ rfl rfl hl.1 rfl (lv_room (Nat.le_of_ble_eq_true rfl)) dX7_addFour_5 ⟨Nat.le_of_ble_eq_true rfl, Nat.le_of_ble_eq_true rfl⟩) hS (fun q _ h => hFc q h) hFc (fun u t H1 locs ht hvm hw hB hz1 hk1 hS => ?_)
  obtain ⟨f_2, hP1, hK1, hD1⟩ := hB
  rw [ht] at hP1
  have hK1 := va_K.moved hvm.symm hK1
  obtain ⟨hP, hD⟩ := va_join (wr := []) (w1 := [(h0, .inr (7, [.ref tb, .int 5])), (tb, .inl (cb, 200, .inl f_2))]) hP hD [0, 1] [] rfl rfl (by decide) (by decide) hk1 hFc hP1 hD1
  generalize H1 = H at hP hS ⊢
  have hP : va_P (dC, dI) vwCl [(h0, .inr (7, [.ref tb, .int 5])), (tb, .inl (cb, 200, .inl f_2))] H := hP
  have hD : va_D A [(h0, .inr (7, [.ref tb, .int 5])), (tb, .inl (cb, 200, .inl f_2))] := hD
  refine W.widen (k := 0) (n := 0) (Nat.le_of_ble_eq_true rfl) (Nat.le_of_ble_eq_true rfl) ?_
  refine lv_aload_n hx hb dX7_addFour_8 rfl (lv_at hl 0 rfl) ?_
  refine lv_iload_n hx hb dX7_addFour_9 rfl (lv_at hl 1 rfl) ?_
  refine lv_bipush (v := 16) hx hb dX7_addFour_10 (by decide) ?_
  refine lv_iushr hx hb dX7_addFour_12 rfl ?_
  refine lv_topi (fun v_3 ev_3 => ?_)
  have hPc := hP.sub (ws' := [(h0, .inr (7, [.ref tb, .int 5])), (tb, .inl (cb, 200, .inl f_2))]) [0, 1] rfl
  have hDc := hD.sub (ws' := [(h0, .inr (7, [.ref tb, .int 5])), (tb, .inl (cb, 200, .inl f_2))]) [0, 1] (by decide) rfl
  have hKc := hK.sub (tys' := [(cb, .byte)]) [0] rfl
  have hFc := va_free (wc := [(h0, .inr (7, [.ref tb, .int 5])), (tb, .inl (cb, 200, .inl f_2))]) hD hS hA [0, 1] rfl
  refine va_callv (va_runV (As := [.int v_3]) (rest := []) ⟨hx, hb, hml, hown, hts⟩ (c_X7_add_5 l dC dI h0 v_3 tb cb f_2 H.size) (cwV 1 hts (gi_V (fun w_ h0_ => ⟨List.mem_cons_of_mem _ (List.mem_append_right _ (List.mem_append_right _ (List.mem_append_left _ h0_))), (tb_c_X7_add_5 w_ h0_).2⟩) (List.mem_cons_of_mem _ (List.mem_append_left _ (List.mem_of_getElem? (i := 0) rfl))) (List.mem_cons_of_mem _ (List.mem_append_left _ (List.mem_of_getElem? (i := 1) rfl))) (List.mem_cons_of_mem _ (List.mem_append_left _ (List.mem_of_getElem? (i := 2) rfl))) (List.mem_cons_of_mem _ (List.mem_append_left _ (List.mem_of_getElem? (i := 3) rfl)))) rfl rfl rfl (by decide +kernel) ⟨Nat.le_of_ble_eq_true rfl, Nat.le_of_ble_eq_true rfl⟩) ⟨fun a U g mk q => by obtain ⟨q0, q1, qP, qK, qD⟩ := q; exact ⟨q0, q1, qP, va_K.moved (u := U) (U := U.calling g mk a) (Vm.Alike.refl U.vm) qK, qD⟩, va_recv hKc hPc (ci := 7) (q0 := 0) rfl rfl, fun U hU hW => ⟨rfl, by rw [hU], by rw [hU]; exact hPc, va_K.moved hW.alike hKc, hDc.weaken (fun _ _ _ _ => trivial)⟩⟩ rfl rfl hl.1 rfl (lv_room (Nat.le_of_ble_eq_true rfl)) dX7_addFour_13 ⟨Nat.le_of_ble_eq_true rfl, Nat.le_of_ble_eq_true rfl⟩) hS (fun q _ h => hFc q h) hFc (fun u t H1 locs ht hvm hw hB hz1 hk1 hS => ?_)
  obtain ⟨f_4, hP1, hK1, hD1⟩ := hB
  rw [ht] at hP1
  have hK1 := va_K.moved hvm.symm hK1
  obtain ⟨hP, hD⟩ := va_join (wr := []) (w1 := [(h0, .inr (7, [.ref tb, .int 6])), (tb, .inl (cb, 200, .inl f_4))]) hP hD [0, 1] [] rfl rfl (by decide) (by decide) hk1 hFc hP1 hD1
  generalize H1 = H at hP hS ⊢
  have hP : va_P (dC, dI) vwCl [(h0, .inr (7, [.ref tb, .int 6])), (tb, .inl (cb, 200, .inl f_4))] H := hP
  have hD : va_D A [(h0, .inr (7, [.ref tb, .int 6])), (tb, .inl (cb, 200, .inl f_4))] := hD
  refine W.widen (k := 0) (n := 0) (Nat.le_of_ble_eq_true rfl) (Nat.le_of_ble_eq_true rfl) ?_
  refine lv_aload_n hx hb dX7_addFour_16 rfl (lv_at hl 0 rfl) ?_
  refine lv_iload_n hx hb dX7_addFour_17 rfl (lv_at hl 1 rfl) ?_
  refine lv_bipush (v := 8) hx hb dX7_addFour_18 (by decide) ?_
  refine lv_iushr hx hb dX7_addFour_20 rfl ?_
  refine lv_topi (fun v_5 ev_5 => ?_)
  have hPc := hP.sub (ws' := [(h0, .inr (7, [.ref tb, .int 6])), (tb, .inl (cb, 200, .inl f_4))]) [0, 1] rfl
  have hDc := hD.sub (ws' := [(h0, .inr (7, [.ref tb, .int 6])), (tb, .inl (cb, 200, .inl f_4))]) [0, 1] (by decide) rfl
  have hKc := hK.sub (tys' := [(cb, .byte)]) [0] rfl
  have hFc := va_free (wc := [(h0, .inr (7, [.ref tb, .int 6])), (tb, .inl (cb, 200, .inl f_4))]) hD hS hA [0, 1] rfl
  refine va_callv (va_runV (As := [.int v_5]) (rest := []) ⟨hx, hb, hml, hown, hts⟩ (c_X7_add_6 l dC dI h0 v_5 tb cb f_4 H.size) (cwV 1 hts (gi_V (fun w_ h0_ => ⟨List.mem_cons_of_mem _ (List.mem_append_right _ (List.mem_append_right _ (List.mem_append_right _ (List.mem_append_left _ h0_)))), (tb_c_X7_add_6 w_ h0_).2⟩) (List.mem_cons_of_mem _ (List.mem_append_left _ (List.mem_of_getElem? (i := 0) rfl))) (List.mem_cons_of_mem _ (List.mem_append_left _ (List.mem_of_getElem? (i := 1) rfl))) (List.mem_cons_of_mem _ (List.mem_append_left _ (List.mem_of_getElem? (i := 2) rfl))) (List.mem_cons_of_mem _ (List.mem_append_left _ (List.mem_of_getElem? (i := 3) rfl)))) rfl rfl rfl (by decide +kernel) ⟨Nat.le_of_ble_eq_true rfl, Nat.le_of_ble_eq_true rfl⟩) ⟨fun a U g mk q => by obtain ⟨q0, q1, qP, qK, qD⟩ := q; exact ⟨q0, q1, qP, va_K.moved (u := U) (U := U.calling g mk a) (Vm.Alike.refl U.vm) qK, qD⟩, va_recv hKc hPc (ci := 7) (q0 := 0) rfl rfl, fun U hU hW => ⟨rfl, by rw [hU], by rw [hU]; exact hPc, va_K.moved hW.alike hKc, hDc.weaken (fun _ _ _ _ => trivial)⟩⟩ rfl rfl hl.1 rfl (lv_room (Nat.le_of_ble_eq_true rfl)) dX7_addFour_21 ⟨Nat.le_of_ble_eq_true rfl, Nat.le_of_ble_eq_true rfl⟩) hS (fun q _ h => hFc q h) hFc (fun u t H1 locs ht hvm hw hB hz1 hk1 hS => ?_)
  obtain ⟨f_6, hP1, hK1, hD1⟩ := hB
  rw [ht] at hP1
  have hK1 := va_K.moved hvm.symm hK1
  obtain ⟨hP, hD⟩ := va_join (wr := []) (w1 := [(h0, .inr (7, [.ref tb, .int 7])), (tb, .inl (cb, 200, .inl f_6))]) hP hD [0, 1] [] rfl rfl (by decide) (by decide) hk1 hFc hP1 hD1
  generalize H1 = H at hP hS ⊢
  have hP : va_P (dC, dI) vwCl [(h0, .inr (7, [.ref tb, .int 7])), (tb, .inl (cb, 200, .inl f_6))] H := hP
  have hD : va_D A [(h0, .inr (7, [.ref tb, .int 7])), (tb, .inl (cb, 200, .inl f_6))] := hD
  refine W.widen (k := 0) (n := 0) (Nat.le_of_ble_eq_true rfl) (Nat.le_of_ble_eq_true rfl) ?_
  refine lv_aload_n hx hb dX7_addFour_24 rfl (lv_at hl 0 rfl) ?_
  refine lv_iload_n hx hb dX7_addFour_25 rfl (lv_at hl 1 rfl) ?_
  have hPc := hP.sub (ws' := [(h0, .inr (7, [.ref tb, .int 7])), (tb, .inl (cb, 200, .inl f_6))]) [0, 1] rfl
  have hDc := hD.sub (ws' := [(h0, .inr (7, [.ref tb, .int 7])), (tb, .inl (cb, 200, .inl f_6))]) [0, 1] (by decide) rfl
  have hKc := hK.sub (tys' := [(cb, .byte)]) [0] rfl
  have hFc := va_free (wc := [(h0, .inr (7, [.ref tb, .int 7])), (tb, .inl (cb, 200, .inl f_6))]) hD hS hA [0, 1] rfl
  refine va_callv (va_runV (As := [.int fo]) (rest := []) ⟨hx, hb, hml, hown, hts⟩ (c_X7_add_7 l dC dI h0 fo tb cb f_6 H.size) (cwV 1 hts (gi_V (fun w_ h0_ => ⟨List.mem_cons_of_mem _ (List.mem_append_right _ (List.mem_append_right _ (List.mem_append_right _ (List.mem_append_right _ (List.mem_append_left _ h0_))))), (tb_c_X7_add_7 w_ h0_).2⟩) (List.mem_cons_of_mem _ (List.mem_append_left _ (List.mem_of_getElem? (i := 0) rfl))) (List.mem_cons_of_mem _ (List.mem_append_left _ (List.mem_of_getElem? (i := 1) rfl))) (List.mem_cons_of_mem _ (List.mem_append_left _ (List.mem_of_getElem? (i := 2) rfl))) (List.mem_cons_of_mem _ (List.mem_append_left _ (List.mem_of_getElem? (i := 3) rfl)))) rfl rfl rfl (by decide +kernel) ⟨Nat.le_of_ble_eq_true rfl, Nat.le_of_ble_eq_true rfl⟩) ⟨fun a U g mk q => by obtain ⟨q0, q1, qP, qK, qD⟩ := q; exact ⟨q0, q1, qP, va_K.moved (u := U) (U := U.calling g mk a) (Vm.Alike.refl U.vm) qK, qD⟩, va_recv hKc hPc (ci := 7) (q0 := 0) rfl rfl, fun U hU hW => ⟨rfl, by rw [hU], by rw [hU]; exact hPc, va_K.moved hW.alike hKc, hDc.weaken (fun _ _ _ _ => trivial)⟩⟩ rfl rfl hl.1 rfl (lv_room (Nat.le_of_ble_eq_true rfl)) dX7_addFour_26 ⟨Nat.le_of_ble_eq_true rfl, Nat.le_of_ble_eq_true rfl⟩) hS (fun q _ h => hFc q h) hFc (fun u t H1 locs ht hvm hw hB hz1 hk1 hS => ?_)
  obtain ⟨f_7, hP1, hK1, hD1⟩ := hB
  rw [ht] at hP1
  have hK1 := va_K.moved hvm.symm hK1
  obtain ⟨hP, hD⟩ := va_join (wr := []) (w1 := [(h0, .inr (7, [.ref tb, .int 8])), (tb, .inl (cb, 200, .inl f_7))]) hP hD [0, 1] [] rfl rfl (by decide) (by decide) hk1 hFc hP1 hD1
  generalize H1 = H at hP hS ⊢
  have hP : va_P (dC, dI) vwCl [(h0, .inr (7, [.ref tb, .int 8])), (tb, .inl (cb, 200, .inl f_7))] H := hP
  have hD : va_D A [(h0, .inr (7, [.ref tb, .int 8])), (tb, .inl (cb, 200, .inl f_7))] := hD
  refine W.widen (k := 0) (n := 0) (Nat.le_of_ble_eq_true rfl) (Nat.le_of_ble_eq_true rfl) ?_
  have hP9 := hP.sub (ws' := [(h0, .inr (7, [.ref tb, .int 8])), (tb, .inl (cb, 200, .inl f_7))]) [0, 1] rfl
  have hD9 := hD.sub (ws' := [(h0, .inr (7, [.ref tb, .int 8])), (tb, .inl (cb, 200, .inl f_7))]) [0, 1] (by decide) rfl
  have hK9 := hK.sub (tys' := [(cb, .byte)]) [0] rfl
  refine W.widen (k := 0) (n := 0) (Nat.le_of_ble_eq_true rfl) (Nat.le_of_ble_eq_true rfl) ?_
  exact W.vret hx hb hr (fun t ht hW => ⟨⟨(), rfl, trivial, f_7, by rw [ht]; exact hP9, va_K.moved hW.alike hK9, hD9⟩, hS.F ht⟩) hS.2.2 dX7_addFour_29
def ow_c_X7_addFour_8 : List Cond := [.methodLink RX7 19 yX7_add, .instanceMethod yX7_add, .selects RX7 yX7_add yX7_add, .initialized RX7]
def wq_c_X7_addFour_8 : List Cond := .code yX7_addFour cX7_addFour 2 none :: (ow_c_X7_addFour_8 ++ (wq_c_X7_add_8 ++ (wq_c_X7_add_9 ++ (wq_c_X7_add_10 ++ (wq_c_X7_add_11 ++ ([] : List Cond))))))
theorem tb_c_X7_addFour_8 : ∀ w ∈ wq_c_X7_addFour_8, q_g w := by
  unfold wq_c_X7_addFour_8 ow_c_X7_addFour_8
  exact q_cons tw_300 (q_app (q_cons tw_299 (q_cons tw_298 (q_cons tw_297 (q_cons tw_111 q_nil)))) (q_app tb_c_X7_add_8 (q_app tb_c_X7_add_9 (q_app tb_c_X7_add_10 (q_app tb_c_X7_add_11 q_nil)))))
set_option maxHeartbeats 4000000 in
set_option maxRecDepth 100000 in
theorem c_X7_addFour_8 (l : Launch) (dC : Nat → ClassId) (dI : Nat → Nat → Nat) (h0 : Nat) (fo : Int32) (tb : Nat) (cb : ClassId) (fz : Nat → Int32) (sz : Nat) : Met l yX7_addFour wq_c_X7_addFour_8 ({ frames := 1, cells := 0, slots := 0, locals := 21 } : Room) (va_Pc [.ref h0, .int fo] (fun U => U.heap.size = sz ∧ va_P (dC, dI) vwCl [(h0, .inr (7, [.ref tb, .int 8])), (tb, .inl (cb, 200, .inl fz))] U.heap ∧ va_K (dC, dI) vwCl [(cb, .byte)] U ∧ va_D (fun _ => True) [(h0, .inr (7, [.ref tb, .int 8])), (tb, .inl (cb, 200, .inl fz))])) (va_Qv (fun (_ : Unit) => True) (fun (_ : Unit) t => ∃ (f2 : Nat → Int32), va_P (dC, dI) vwCl [(h0, .inr (7, [.ref tb, .int 12])), (tb, .inl (cb, 200, .inl f2))] t.heap ∧ va_K (dC, dI) vwCl [(cb, .byte)] t ∧ va_D (va_A [(h0, .inr (7, [.ref tb, .int 8])), (tb, .inl (cb, 200, .inl fz))] sz) [(h0, .inr (7, [.ref tb, .int 12])), (tb, .inl (cb, 200, .inl f2))]) (va_A [(h0, .inr (7, [.ref tb, .int 8])), (tb, .inl (cb, 200, .inl fz))] sz)) 0 0 (va_A [(h0, .inr (7, [.ref tb, .int 8])), (tb, .inl (cb, 200, .inl fz))] sz) := by
  refine Met.ofW (cc := cX7_addFour) (maxL := 2) (ret := none) (by decide) rfl ?_
  intro p e s m args below meth c s₁ B hml hv
  obtain ⟨rfl, hsz, hP, hK, hD0⟩ := hv
  have hx := B.exec
  have hb := B.bytes
  have hr := B.returns
  have hts := atoms_spec (ws := wq_c_X7_addFour_8) B.pre
  have hown : s.vm.findClass RX7 = some m.cls := findClass_of_methodNamed B.named
  have hlocks := B.notSynchronized
  subst hsz
  have hD := hD0.self (sz := s.heap.size)
  obtain ⟨A, hAe⟩ : ∃ A, A = va_A [(h0, .inr (7, [.ref tb, .int 8])), (tb, .inl (cb, 200, .inl fz))] s.heap.size := ⟨_, rfl⟩
  rw [← hAe] at hD ⊢
  have hA : ∀ q : Nat, s.heap.size ≤ q → A q := fun q h => by rw [hAe]; exact Or.inr h
  have hS : va_S A s.heap s.heap [] := va_S.rf
  have hP : va_P (dC, dI) vwCl [(h0, .inr (7, [.ref tb, .int 8])), (tb, .inl (cb, 200, .inl fz))] s.heap := hP
  have hl := lv_entry ([.ref h0, .int fo]) (n := 2) (Nat.le_of_ble_eq_true rfl)
  rw [lg_entry_eq]
  generalize (lg_sl ([.ref h0, .int fo]) ++ List.replicate (2 - (lg_sl ([.ref h0, .int fo])).length) Slot.unset).toArray = ls at hl ⊢
  have hl : lv_has ls 2 [(0, .ref h0), (1, .int fo)] := hl
  refine lv_aload_n hx hb dX7_addFour_0 rfl (lv_at hl 0 rfl) ?_
  refine lv_iload_n hx hb dX7_addFour_1 rfl (lv_at hl 1 rfl) ?_
  refine lv_bipush (v := 24) hx hb dX7_addFour_2 (by decide) ?_
  refine lv_iushr hx hb dX7_addFour_4 rfl ?_
  refine lv_topi (fun v_1 ev_1 => ?_)
  have hPc := hP.sub (ws' := [(h0, .inr (7, [.ref tb, .int 8])), (tb, .inl (cb, 200, .inl fz))]) [0, 1] rfl
  have hDc := hD.sub (ws' := [(h0, .inr (7, [.ref tb, .int 8])), (tb, .inl (cb, 200, .inl fz))]) [0, 1] (by decide) rfl
  have hKc := hK.sub (tys' := [(cb, .byte)]) [0] rfl
  have hFc := va_free (wc := [(h0, .inr (7, [.ref tb, .int 8])), (tb, .inl (cb, 200, .inl fz))]) hD hS hA [0, 1] rfl
  refine va_callv (va_runV (As := [.int v_1]) (rest := []) ⟨hx, hb, hml, hown, hts⟩ (c_X7_add_8 l dC dI h0 v_1 tb cb fz s.heap.size) (cwV 1 hts (gi_V (fun w_ h0_ => ⟨List.mem_cons_of_mem _ (List.mem_append_right _ (List.mem_append_left _ h0_)), (tb_c_X7_add_8 w_ h0_).2⟩) (List.mem_cons_of_mem _ (List.mem_append_left _ (List.mem_of_getElem? (i := 0) rfl))) (List.mem_cons_of_mem _ (List.mem_append_left _ (List.mem_of_getElem? (i := 1) rfl))) (List.mem_cons_of_mem _ (List.mem_append_left _ (List.mem_of_getElem? (i := 2) rfl))) (List.mem_cons_of_mem _ (List.mem_append_left _ (List.mem_of_getElem? (i := 3) rfl)))) rfl rfl rfl (by decide +kernel) ⟨Nat.le_of_ble_eq_true rfl, Nat.le_of_ble_eq_true rfl⟩) ⟨fun a U g mk q => by obtain ⟨q0, q1, qP, qK, qD⟩ := q; exact ⟨q0, q1, qP, va_K.moved (u := U) (U := U.calling g mk a) (Vm.Alike.refl U.vm) qK, qD⟩, va_recv hKc hPc (ci := 7) (q0 := 0) rfl rfl, fun U hU hW => ⟨rfl, by rw [hU], by rw [hU]; exact hPc, va_K.moved hW.alike hKc, hDc.weaken (fun _ _ _ _ => trivial)⟩⟩ rfl rfl hl.1 rfl (lv_room (Nat.le_of_ble_eq_true rfl)) dX7_addFour_5 ⟨Nat.le_of_ble_eq_true rfl, Nat.le_of_ble_eq_true rfl⟩) hS (fun q _ h => hFc q h) hFc (fun u t H1 locs ht hvm hw hB hz1 hk1 hS => ?_)
  obtain ⟨f_2, hP1, hK1, hD1⟩ := hB
  rw [ht] at hP1
  have hK1 := va_K.moved hvm.symm hK1
  obtain ⟨hP, hD⟩ := va_join (wr := []) (w1 := [(h0, .inr (7, [.ref tb, .int 9])), (tb, .inl (cb, 200, .inl f_2))]) hP hD [0, 1] [] rfl rfl (by decide) (by decide) hk1 hFc hP1 hD1
  generalize H1 = H at hP hS ⊢
  have hP : va_P (dC, dI) vwCl [(h0, .inr (7, [.ref tb, .int 9])), (tb, .inl (cb, 200, .inl f_2))] H := hP
  have hD : va_D A [(h0, .inr (7, [.ref tb, .int 9])), (tb, .inl (cb, 200, .inl f_2))] := hD
  refine W.widen (k := 0) (n := 0) (Nat.le_of_ble_eq_true rfl) (Nat.le_of_ble_eq_true rfl) ?_
  refine lv_aload_n hx hb dX7_addFour_8 rfl (lv_at hl 0 rfl) ?_
  refine lv_iload_n hx hb dX7_addFour_9 rfl (lv_at hl 1 rfl) ?_
  refine lv_bipush (v := 16) hx hb dX7_addFour_10 (by decide) ?_
  refine lv_iushr hx hb dX7_addFour_12 rfl ?_
  refine lv_topi (fun v_3 ev_3 => ?_)
  have hPc := hP.sub (ws' := [(h0, .inr (7, [.ref tb, .int 9])), (tb, .inl (cb, 200, .inl f_2))]) [0, 1] rfl
  have hDc := hD.sub (ws' := [(h0, .inr (7, [.ref tb, .int 9])), (tb, .inl (cb, 200, .inl f_2))]) [0, 1] (by decide) rfl
  have hKc := hK.sub (tys' := [(cb, .byte)]) [0] rfl
  have hFc := va_free (wc := [(h0, .inr (7, [.ref tb, .int 9])), (tb, .inl (cb, 200, .inl f_2))]) hD hS hA [0, 1] rfl
  refine va_callv (va_runV (As := [.int v_3]) (rest := []) ⟨hx, hb, hml, hown, hts⟩ (c_X7_add_9 l dC dI h0 v_3 tb cb f_2 H.size) (cwV 1 hts (gi_V (fun w_ h0_ => ⟨List.mem_cons_of_mem _ (List.mem_append_right _ (List.mem_append_right _ (List.mem_append_left _ h0_))), (tb_c_X7_add_9 w_ h0_).2⟩) (List.mem_cons_of_mem _ (List.mem_append_left _ (List.mem_of_getElem? (i := 0) rfl))) (List.mem_cons_of_mem _ (List.mem_append_left _ (List.mem_of_getElem? (i := 1) rfl))) (List.mem_cons_of_mem _ (List.mem_append_left _ (List.mem_of_getElem? (i := 2) rfl))) (List.mem_cons_of_mem _ (List.mem_append_left _ (List.mem_of_getElem? (i := 3) rfl)))) rfl rfl rfl (by decide +kernel) ⟨Nat.le_of_ble_eq_true rfl, Nat.le_of_ble_eq_true rfl⟩) ⟨fun a U g mk q => by obtain ⟨q0, q1, qP, qK, qD⟩ := q; exact ⟨q0, q1, qP, va_K.moved (u := U) (U := U.calling g mk a) (Vm.Alike.refl U.vm) qK, qD⟩, va_recv hKc hPc (ci := 7) (q0 := 0) rfl rfl, fun U hU hW => ⟨rfl, by rw [hU], by rw [hU]; exact hPc, va_K.moved hW.alike hKc, hDc.weaken (fun _ _ _ _ => trivial)⟩⟩ rfl rfl hl.1 rfl (lv_room (Nat.le_of_ble_eq_true rfl)) dX7_addFour_13 ⟨Nat.le_of_ble_eq_true rfl, Nat.le_of_ble_eq_true rfl⟩) hS (fun q _ h => hFc q h) hFc (fun u t H1 locs ht hvm hw hB hz1 hk1 hS => ?_)
  obtain ⟨f_4, hP1, hK1, hD1⟩ := hB
  rw [ht] at hP1
  have hK1 := va_K.moved hvm.symm hK1
  obtain ⟨hP, hD⟩ := va_join (wr := []) (w1 := [(h0, .inr (7, [.ref tb, .int 10])), (tb, .inl (cb, 200, .inl f_4))]) hP hD [0, 1] [] rfl rfl (by decide) (by decide) hk1 hFc hP1 hD1
  generalize H1 = H at hP hS ⊢
  have hP : va_P (dC, dI) vwCl [(h0, .inr (7, [.ref tb, .int 10])), (tb, .inl (cb, 200, .inl f_4))] H := hP
  have hD : va_D A [(h0, .inr (7, [.ref tb, .int 10])), (tb, .inl (cb, 200, .inl f_4))] := hD
  refine W.widen (k := 0) (n := 0) (Nat.le_of_ble_eq_true rfl) (Nat.le_of_ble_eq_true rfl) ?_
  refine lv_aload_n hx hb dX7_addFour_16 rfl (lv_at hl 0 rfl) ?_
  refine lv_iload_n hx hb dX7_addFour_17 rfl (lv_at hl 1 rfl) ?_
  refine lv_bipush (v := 8) hx hb dX7_addFour_18 (by decide) ?_
  refine lv_iushr hx hb dX7_addFour_20 rfl ?_
  refine lv_topi (fun v_5 ev_5 => ?_)
  have hPc := hP.sub (ws' := [(h0, .inr (7, [.ref tb, .int 10])), (tb, .inl (cb, 200, .inl f_4))]) [0, 1] rfl
  have hDc := hD.sub (ws' := [(h0, .inr (7, [.ref tb, .int 10])), (tb, .inl (cb, 200, .inl f_4))]) [0, 1] (by decide) rfl
  have hKc := hK.sub (tys' := [(cb, .byte)]) [0] rfl
  have hFc := va_free (wc := [(h0, .inr (7, [.ref tb, .int 10])), (tb, .inl (cb, 200, .inl f_4))]) hD hS hA [0, 1] rfl
  refine va_callv (va_runV (As := [.int v_5]) (rest := []) ⟨hx, hb, hml, hown, hts⟩ (c_X7_add_10 l dC dI h0 v_5 tb cb f_4 H.size) (cwV 1 hts (gi_V (fun w_ h0_ => ⟨List.mem_cons_of_mem _ (List.mem_append_right _ (List.mem_append_right _ (List.mem_append_right _ (List.mem_append_left _ h0_)))), (tb_c_X7_add_10 w_ h0_).2⟩) (List.mem_cons_of_mem _ (List.mem_append_left _ (List.mem_of_getElem? (i := 0) rfl))) (List.mem_cons_of_mem _ (List.mem_append_left _ (List.mem_of_getElem? (i := 1) rfl))) (List.mem_cons_of_mem _ (List.mem_append_left _ (List.mem_of_getElem? (i := 2) rfl))) (List.mem_cons_of_mem _ (List.mem_append_left _ (List.mem_of_getElem? (i := 3) rfl)))) rfl rfl rfl (by decide +kernel) ⟨Nat.le_of_ble_eq_true rfl, Nat.le_of_ble_eq_true rfl⟩) ⟨fun a U g mk q => by obtain ⟨q0, q1, qP, qK, qD⟩ := q; exact ⟨q0, q1, qP, va_K.moved (u := U) (U := U.calling g mk a) (Vm.Alike.refl U.vm) qK, qD⟩, va_recv hKc hPc (ci := 7) (q0 := 0) rfl rfl, fun U hU hW => ⟨rfl, by rw [hU], by rw [hU]; exact hPc, va_K.moved hW.alike hKc, hDc.weaken (fun _ _ _ _ => trivial)⟩⟩ rfl rfl hl.1 rfl (lv_room (Nat.le_of_ble_eq_true rfl)) dX7_addFour_21 ⟨Nat.le_of_ble_eq_true rfl, Nat.le_of_ble_eq_true rfl⟩) hS (fun q _ h => hFc q h) hFc (fun u t H1 locs ht hvm hw hB hz1 hk1 hS => ?_)
  obtain ⟨f_6, hP1, hK1, hD1⟩ := hB
  rw [ht] at hP1
  have hK1 := va_K.moved hvm.symm hK1
  obtain ⟨hP, hD⟩ := va_join (wr := []) (w1 := [(h0, .inr (7, [.ref tb, .int 11])), (tb, .inl (cb, 200, .inl f_6))]) hP hD [0, 1] [] rfl rfl (by decide) (by decide) hk1 hFc hP1 hD1
  generalize H1 = H at hP hS ⊢
  have hP : va_P (dC, dI) vwCl [(h0, .inr (7, [.ref tb, .int 11])), (tb, .inl (cb, 200, .inl f_6))] H := hP
  have hD : va_D A [(h0, .inr (7, [.ref tb, .int 11])), (tb, .inl (cb, 200, .inl f_6))] := hD
  refine W.widen (k := 0) (n := 0) (Nat.le_of_ble_eq_true rfl) (Nat.le_of_ble_eq_true rfl) ?_
  refine lv_aload_n hx hb dX7_addFour_24 rfl (lv_at hl 0 rfl) ?_
  refine lv_iload_n hx hb dX7_addFour_25 rfl (lv_at hl 1 rfl) ?_
  have hPc := hP.sub (ws' := [(h0, .inr (7, [.ref tb, .int 11])), (tb, .inl (cb, 200, .inl f_6))]) [0, 1] rfl
  have hDc := hD.sub (ws' := [(h0, .inr (7, [.ref tb, .int 11])), (tb, .inl (cb, 200, .inl f_6))]) [0, 1] (by decide) rfl
  have hKc := hK.sub (tys' := [(cb, .byte)]) [0] rfl
  have hFc := va_free (wc := [(h0, .inr (7, [.ref tb, .int 11])), (tb, .inl (cb, 200, .inl f_6))]) hD hS hA [0, 1] rfl
  refine va_callv (va_runV (As := [.int fo]) (rest := []) ⟨hx, hb, hml, hown, hts⟩ (c_X7_add_11 l dC dI h0 fo tb cb f_6 H.size) (cwV 1 hts (gi_V (fun w_ h0_ => ⟨List.mem_cons_of_mem _ (List.mem_append_right _ (List.mem_append_right _ (List.mem_append_right _ (List.mem_append_right _ (List.mem_append_left _ h0_))))), (tb_c_X7_add_11 w_ h0_).2⟩) (List.mem_cons_of_mem _ (List.mem_append_left _ (List.mem_of_getElem? (i := 0) rfl))) (List.mem_cons_of_mem _ (List.mem_append_left _ (List.mem_of_getElem? (i := 1) rfl))) (List.mem_cons_of_mem _ (List.mem_append_left _ (List.mem_of_getElem? (i := 2) rfl))) (List.mem_cons_of_mem _ (List.mem_append_left _ (List.mem_of_getElem? (i := 3) rfl)))) rfl rfl rfl (by decide +kernel) ⟨Nat.le_of_ble_eq_true rfl, Nat.le_of_ble_eq_true rfl⟩) ⟨fun a U g mk q => by obtain ⟨q0, q1, qP, qK, qD⟩ := q; exact ⟨q0, q1, qP, va_K.moved (u := U) (U := U.calling g mk a) (Vm.Alike.refl U.vm) qK, qD⟩, va_recv hKc hPc (ci := 7) (q0 := 0) rfl rfl, fun U hU hW => ⟨rfl, by rw [hU], by rw [hU]; exact hPc, va_K.moved hW.alike hKc, hDc.weaken (fun _ _ _ _ => trivial)⟩⟩ rfl rfl hl.1 rfl (lv_room (Nat.le_of_ble_eq_true rfl)) dX7_addFour_26 ⟨Nat.le_of_ble_eq_true rfl, Nat.le_of_ble_eq_true rfl⟩) hS (fun q _ h => hFc q h) hFc (fun u t H1 locs ht hvm hw hB hz1 hk1 hS => ?_)
  obtain ⟨f_7, hP1, hK1, hD1⟩ := hB
  rw [ht] at hP1
  have hK1 := va_K.moved hvm.symm hK1
  obtain ⟨hP, hD⟩ := va_join (wr := []) (w1 := [(h0, .inr (7, [.ref tb, .int 12])), (tb, .inl (cb, 200, .inl f_7))]) hP hD [0, 1] [] rfl rfl (by decide) (by decide) hk1 hFc hP1 hD1
  generalize H1 = H at hP hS ⊢
  have hP : va_P (dC, dI) vwCl [(h0, .inr (7, [.ref tb, .int 12])), (tb, .inl (cb, 200, .inl f_7))] H := hP
  have hD : va_D A [(h0, .inr (7, [.ref tb, .int 12])), (tb, .inl (cb, 200, .inl f_7))] := hD
  refine W.widen (k := 0) (n := 0) (Nat.le_of_ble_eq_true rfl) (Nat.le_of_ble_eq_true rfl) ?_
  have hP9 := hP.sub (ws' := [(h0, .inr (7, [.ref tb, .int 12])), (tb, .inl (cb, 200, .inl f_7))]) [0, 1] rfl
  have hD9 := hD.sub (ws' := [(h0, .inr (7, [.ref tb, .int 12])), (tb, .inl (cb, 200, .inl f_7))]) [0, 1] (by decide) rfl
  have hK9 := hK.sub (tys' := [(cb, .byte)]) [0] rfl
  refine W.widen (k := 0) (n := 0) (Nat.le_of_ble_eq_true rfl) (Nat.le_of_ble_eq_true rfl) ?_
  exact W.vret hx hb hr (fun t ht hW => ⟨⟨(), rfl, trivial, f_7, by rw [ht]; exact hP9, va_K.moved hW.alike hK9, hD9⟩, hS.F ht⟩) hS.2.2 dX7_addFour_29
def ow_c_X7_addFour_12 : List Cond := [.methodLink RX7 19 yX7_add, .instanceMethod yX7_add, .selects RX7 yX7_add yX7_add, .initialized RX7]
def wq_c_X7_addFour_12 : List Cond := .code yX7_addFour cX7_addFour 2 none :: (ow_c_X7_addFour_12 ++ (wq_c_X7_add_12 ++ (wq_c_X7_add_13 ++ (wq_c_X7_add_14 ++ (wq_c_X7_add_15 ++ ([] : List Cond))))))
theorem tb_c_X7_addFour_12 : ∀ w ∈ wq_c_X7_addFour_12, q_g w := by
  unfold wq_c_X7_addFour_12 ow_c_X7_addFour_12
  exact q_cons tw_300 (q_app (q_cons tw_299 (q_cons tw_298 (q_cons tw_297 (q_cons tw_111 q_nil)))) (q_app tb_c_X7_add_12 (q_app tb_c_X7_add_13 (q_app tb_c_X7_add_14 (q_app tb_c_X7_add_15 q_nil)))))
set_option maxHeartbeats 4000000 in
set_option maxRecDepth 100000 in
theorem c_X7_addFour_12 (l : Launch) (dC : Nat → ClassId) (dI : Nat → Nat → Nat) (h0 : Nat) (fo : Int32) (tb : Nat) (cb : ClassId) (fz : Nat → Int32) (sz : Nat) : Met l yX7_addFour wq_c_X7_addFour_12 ({ frames := 1, cells := 0, slots := 0, locals := 21 } : Room) (va_Pc [.ref h0, .int fo] (fun U => U.heap.size = sz ∧ va_P (dC, dI) vwCl [(h0, .inr (7, [.ref tb, .int 12])), (tb, .inl (cb, 200, .inl fz))] U.heap ∧ va_K (dC, dI) vwCl [(cb, .byte)] U ∧ va_D (fun _ => True) [(h0, .inr (7, [.ref tb, .int 12])), (tb, .inl (cb, 200, .inl fz))])) (va_Qv (fun (_ : Unit) => True) (fun (_ : Unit) t => ∃ (f2 : Nat → Int32), va_P (dC, dI) vwCl [(h0, .inr (7, [.ref tb, .int 16])), (tb, .inl (cb, 200, .inl f2))] t.heap ∧ va_K (dC, dI) vwCl [(cb, .byte)] t ∧ va_D (va_A [(h0, .inr (7, [.ref tb, .int 12])), (tb, .inl (cb, 200, .inl fz))] sz) [(h0, .inr (7, [.ref tb, .int 16])), (tb, .inl (cb, 200, .inl f2))]) (va_A [(h0, .inr (7, [.ref tb, .int 12])), (tb, .inl (cb, 200, .inl fz))] sz)) 0 0 (va_A [(h0, .inr (7, [.ref tb, .int 12])), (tb, .inl (cb, 200, .inl fz))] sz) := by
  refine Met.ofW (cc := cX7_addFour) (maxL := 2) (ret := none) (by decide) rfl ?_
  intro p e s m args below meth c s₁ B hml hv
  obtain ⟨rfl, hsz, hP, hK, hD0⟩ := hv
  have hx := B.exec
  have hb := B.bytes
  have hr := B.returns
  have hts := atoms_spec (ws := wq_c_X7_addFour_12) B.pre
  have hown : s.vm.findClass RX7 = some m.cls := findClass_of_methodNamed B.named
  have hlocks := B.notSynchronized
  subst hsz
  have hD := hD0.self (sz := s.heap.size)
  obtain ⟨A, hAe⟩ : ∃ A, A = va_A [(h0, .inr (7, [.ref tb, .int 12])), (tb, .inl (cb, 200, .inl fz))] s.heap.size := ⟨_, rfl⟩
  rw [← hAe] at hD ⊢
  have hA : ∀ q : Nat, s.heap.size ≤ q → A q := fun q h => by rw [hAe]; exact Or.inr h
  have hS : va_S A s.heap s.heap [] := va_S.rf
  have hP : va_P (dC, dI) vwCl [(h0, .inr (7, [.ref tb, .int 12])), (tb, .inl (cb, 200, .inl fz))] s.heap := hP
  have hl := lv_entry ([.ref h0, .int fo]) (n := 2) (Nat.le_of_ble_eq_true rfl)
  rw [lg_entry_eq]
  generalize (lg_sl ([.ref h0, .int fo]) ++ List.replicate (2 - (lg_sl ([.ref h0, .int fo])).length) Slot.unset).toArray = ls at hl ⊢
  have hl : lv_has ls 2 [(0, .ref h0), (1, .int fo)] := hl
  refine lv_aload_n hx hb dX7_addFour_0 rfl (lv_at hl 0 rfl) ?_
  refine lv_iload_n hx hb dX7_addFour_1 rfl (lv_at hl 1 rfl) ?_
  refine lv_bipush (v := 24) hx hb dX7_addFour_2 (by decide) ?_
  refine lv_iushr hx hb dX7_addFour_4 rfl ?_
  refine lv_topi (fun v_1 ev_1 => ?_)
  have hPc := hP.sub (ws' := [(h0, .inr (7, [.ref tb, .int 12])), (tb, .inl (cb, 200, .inl fz))]) [0, 1] rfl
  have hDc := hD.sub (ws' := [(h0, .inr (7, [.ref tb, .int 12])), (tb, .inl (cb, 200, .inl fz))]) [0, 1] (by decide) rfl
  have hKc := hK.sub (tys' := [(cb, .byte)]) [0] rfl
  have hFc := va_free (wc := [(h0, .inr (7, [.ref tb, .int 12])), (tb, .inl (cb, 200, .inl fz))]) hD hS hA [0, 1] rfl
  refine va_callv (va_runV (As := [.int v_1]) (rest := []) ⟨hx, hb, hml, hown, hts⟩ (c_X7_add_12 l dC dI h0 v_1 tb cb fz s.heap.size) (cwV 1 hts (gi_V (fun w_ h0_ => ⟨List.mem_cons_of_mem _ (List.mem_append_right _ (List.mem_append_left _ h0_)), (tb_c_X7_add_12 w_ h0_).2⟩) (List.mem_cons_of_mem _ (List.mem_append_left _ (List.mem_of_getElem? (i := 0) rfl))) (List.mem_cons_of_mem _ (List.mem_append_left _ (List.mem_of_getElem? (i := 1) rfl))) (List.mem_cons_of_mem _ (List.mem_append_left _ (List.mem_of_getElem? (i := 2) rfl))) (List.mem_cons_of_mem _ (List.mem_append_left _ (List.mem_of_getElem? (i := 3) rfl)))) rfl rfl rfl (by decide +kernel) ⟨Nat.le_of_ble_eq_true rfl, Nat.le_of_ble_eq_true rfl⟩) ⟨fun a U g mk q => by obtain ⟨q0, q1, qP, qK, qD⟩ := q; exact ⟨q0, q1, qP, va_K.moved (u := U) (U := U.calling g mk a) (Vm.Alike.refl U.vm) qK, qD⟩, va_recv hKc hPc (ci := 7) (q0 := 0) rfl rfl, fun U hU hW => ⟨rfl, by rw [hU], by rw [hU]; exact hPc, va_K.moved hW.alike hKc, hDc.weaken (fun _ _ _ _ => trivial)⟩⟩ rfl rfl hl.1 rfl (lv_room (Nat.le_of_ble_eq_true rfl)) dX7_addFour_5 ⟨Nat.le_of_ble_eq_true rfl, Nat.le_of_ble_eq_true rfl⟩) hS (fun q _ h => hFc q h) hFc (fun u t H1 locs ht hvm hw hB hz1 hk1 hS => ?_)
  obtain ⟨f_2, hP1, hK1, hD1⟩ := hB
  rw [ht] at hP1
  have hK1 := va_K.moved hvm.symm hK1
  obtain ⟨hP, hD⟩ := va_join (wr := []) (w1 := [(h0, .inr (7, [.ref tb, .int 13])), (tb, .inl (cb, 200, .inl f_2))]) hP hD [0, 1] [] rfl rfl (by decide) (by decide) hk1 hFc hP1 hD1
  generalize H1 = H at hP hS ⊢
  have hP : va_P (dC, dI) vwCl [(h0, .inr (7, [.ref tb, .int 13])), (tb, .inl (cb, 200, .inl f_2))] H := hP
  have hD : va_D A [(h0, .inr (7, [.ref tb, .int 13])), (tb, .inl (cb, 200, .inl f_2))] := hD
  refine W.widen (k := 0) (n := 0) (Nat.le_of_ble_eq_true rfl) (Nat.le_of_ble_eq_true rfl) ?_
  refine lv_aload_n hx hb dX7_addFour_8 rfl (lv_at hl 0 rfl) ?_
  refine lv_iload_n hx hb dX7_addFour_9 rfl (lv_at hl 1 rfl) ?_
  refine lv_bipush (v := 16) hx hb dX7_addFour_10 (by decide) ?_
  refine lv_iushr hx hb dX7_addFour_12 rfl ?_
  refine lv_topi (fun v_3 ev_3 => ?_)
  have hPc := hP.sub (ws' := [(h0, .inr (7, [.ref tb, .int 13])), (tb, .inl (cb, 200, .inl f_2))]) [0, 1] rfl
  have hDc := hD.sub (ws' := [(h0, .inr (7, [.ref tb, .int 13])), (tb, .inl (cb, 200, .inl f_2))]) [0, 1] (by decide) rfl
  have hKc := hK.sub (tys' := [(cb, .byte)]) [0] rfl
  have hFc := va_free (wc := [(h0, .inr (7, [.ref tb, .int 13])), (tb, .inl (cb, 200, .inl f_2))]) hD hS hA [0, 1] rfl
  refine va_callv (va_runV (As := [.int v_3]) (rest := []) ⟨hx, hb, hml, hown, hts⟩ (c_X7_add_13 l dC dI h0 v_3 tb cb f_2 H.size) (cwV 1 hts (gi_V (fun w_ h0_ => ⟨List.mem_cons_of_mem _ (List.mem_append_right _ (List.mem_append_right _ (List.mem_append_left _ h0_))), (tb_c_X7_add_13 w_ h0_).2⟩) (List.mem_cons_of_mem _ (List.mem_append_left _ (List.mem_of_getElem? (i := 0) rfl))) (List.mem_cons_of_mem _ (List.mem_append_left _ (List.mem_of_getElem? (i := 1) rfl))) (List.mem_cons_of_mem _ (List.mem_append_left _ (List.mem_of_getElem? (i := 2) rfl))) (List.mem_cons_of_mem _ (List.mem_append_left _ (List.mem_of_getElem? (i := 3) rfl)))) rfl rfl rfl (by decide +kernel) ⟨Nat.le_of_ble_eq_true rfl, Nat.le_of_ble_eq_true rfl⟩) ⟨fun a U g mk q => by obtain ⟨q0, q1, qP, qK, qD⟩ := q; exact ⟨q0, q1, qP, va_K.moved (u := U) (U := U.calling g mk a) (Vm.Alike.refl U.vm) qK, qD⟩, va_recv hKc hPc (ci := 7) (q0 := 0) rfl rfl, fun U hU hW => ⟨rfl, by rw [hU], by rw [hU]; exact hPc, va_K.moved hW.alike hKc, hDc.weaken (fun _ _ _ _ => trivial)⟩⟩ rfl rfl hl.1 rfl (lv_room (Nat.le_of_ble_eq_true rfl)) dX7_addFour_13 ⟨Nat.le_of_ble_eq_true rfl, Nat.le_of_ble_eq_true rfl⟩) hS (fun q _ h => hFc q h) hFc (fun u t H1 locs ht hvm hw hB hz1 hk1 hS => ?_)
  obtain ⟨f_4, hP1, hK1, hD1⟩ := hB
  rw [ht] at hP1
  have hK1 := va_K.moved hvm.symm hK1
  obtain ⟨hP, hD⟩ := va_join (wr := []) (w1 := [(h0, .inr (7, [.ref tb, .int 14])), (tb, .inl (cb, 200, .inl f_4))]) hP hD [0, 1] [] rfl rfl (by decide) (by decide) hk1 hFc hP1 hD1
  generalize H1 = H at hP hS ⊢
  have hP : va_P (dC, dI) vwCl [(h0, .inr (7, [.ref tb, .int 14])), (tb, .inl (cb, 200, .inl f_4))] H := hP
  have hD : va_D A [(h0, .inr (7, [.ref tb, .int 14])), (tb, .inl (cb, 200, .inl f_4))] := hD
  refine W.widen (k := 0) (n := 0) (Nat.le_of_ble_eq_true rfl) (Nat.le_of_ble_eq_true rfl) ?_
  refine lv_aload_n hx hb dX7_addFour_16 rfl (lv_at hl 0 rfl) ?_
  refine lv_iload_n hx hb dX7_addFour_17 rfl (lv_at hl 1 rfl) ?_
  refine lv_bipush (v := 8) hx hb dX7_addFour_18 (by decide) ?_
  refine lv_iushr hx hb dX7_addFour_20 rfl ?_
  refine lv_topi (fun v_5 ev_5 => ?_)
  have hPc := hP.sub (ws' := [(h0, .inr (7, [.ref tb, .int 14])), (tb, .inl (cb, 200, .inl f_4))]) [0, 1] rfl
  have hDc := hD.sub (ws' := [(h0, .inr (7, [.ref tb, .int 14])), (tb, .inl (cb, 200, .inl f_4))]) [0, 1] (by decide) rfl
  have hKc := hK.sub (tys' := [(cb, .byte)]) [0] rfl
  have hFc := va_free (wc := [(h0, .inr (7, [.ref tb, .int 14])), (tb, .inl (cb, 200, .inl f_4))]) hD hS hA [0, 1] rfl
  refine va_callv (va_runV (As := [.int v_5]) (rest := []) ⟨hx, hb, hml, hown, hts⟩ (c_X7_add_14 l dC dI h0 v_5 tb cb f_4 H.size) (cwV 1 hts (gi_V (fun w_ h0_ => ⟨List.mem_cons_of_mem _ (List.mem_append_right _ (List.mem_append_right _ (List.mem_append_right _ (List.mem_append_left _ h0_)))), (tb_c_X7_add_14 w_ h0_).2⟩) (List.mem_cons_of_mem _ (List.mem_append_left _ (List.mem_of_getElem? (i := 0) rfl))) (List.mem_cons_of_mem _ (List.mem_append_left _ (List.mem_of_getElem? (i := 1) rfl))) (List.mem_cons_of_mem _ (List.mem_append_left _ (List.mem_of_getElem? (i := 2) rfl))) (List.mem_cons_of_mem _ (List.mem_append_left _ (List.mem_of_getElem? (i := 3) rfl)))) rfl rfl rfl (by decide +kernel) ⟨Nat.le_of_ble_eq_true rfl, Nat.le_of_ble_eq_true rfl⟩) ⟨fun a U g mk q => by obtain ⟨q0, q1, qP, qK, qD⟩ := q; exact ⟨q0, q1, qP, va_K.moved (u := U) (U := U.calling g mk a) (Vm.Alike.refl U.vm) qK, qD⟩, va_recv hKc hPc (ci := 7) (q0 := 0) rfl rfl, fun U hU hW => ⟨rfl, by rw [hU], by rw [hU]; exact hPc, va_K.moved hW.alike hKc, hDc.weaken (fun _ _ _ _ => trivial)⟩⟩ rfl rfl hl.1 rfl (lv_room (Nat.le_of_ble_eq_true rfl)) dX7_addFour_21 ⟨Nat.le_of_ble_eq_true rfl, Nat.le_of_ble_eq_true rfl⟩) hS (fun q _ h => hFc q h) hFc (fun u t H1 locs ht hvm hw hB hz1 hk1 hS => ?_)
  obtain ⟨f_6, hP1, hK1, hD1⟩ := hB
  rw [ht] at hP1
  have hK1 := va_K.moved hvm.symm hK1
  obtain ⟨hP, hD⟩ := va_join (wr := []) (w1 := [(h0, .inr (7, [.ref tb, .int 15])), (tb, .inl (cb, 200, .inl f_6))]) hP hD [0, 1] [] rfl rfl (by decide) (by decide) hk1 hFc hP1 hD1
  generalize H1 = H at hP hS ⊢
  have hP : va_P (dC, dI) vwCl [(h0, .inr (7, [.ref tb, .int 15])), (tb, .inl (cb, 200, .inl f_6))] H := hP
  have hD : va_D A [(h0, .inr (7, [.ref tb, .int 15])), (tb, .inl (cb, 200, .inl f_6))] := hD
  refine W.widen (k := 0) (n := 0) (Nat.le_of_ble_eq_true rfl) (Nat.le_of_ble_eq_true rfl) ?_
  refine lv_aload_n hx hb dX7_addFour_24 rfl (lv_at hl 0 rfl) ?_
  refine lv_iload_n hx hb dX7_addFour_25 rfl (lv_at hl 1 rfl) ?_
  have hPc := hP.sub (ws' := [(h0, .inr (7, [.ref tb, .int 15])), (tb, .inl (cb, 200, .inl f_6))]) [0, 1] rfl
  have hDc := hD.sub (ws' := [(h0, .inr (7, [.ref tb, .int 15])), (tb, .inl (cb, 200, .inl f_6))]) [0, 1] (by decide) rfl
  have hKc := hK.sub (tys' := [(cb, .byte)]) [0] rfl
  have hFc := va_free (wc := [(h0, .inr (7, [.ref tb, .int 15])), (tb, .inl (cb, 200, .inl f_6))]) hD hS hA [0, 1] rfl
  refine va_callv (va_runV (As := [.int fo]) (rest := []) ⟨hx, hb, hml, hown, hts⟩ (c_X7_add_15 l dC dI h0 fo tb cb f_6 H.size) (cwV 1 hts (gi_V (fun w_ h0_ => ⟨List.mem_cons_of_mem _ (List.mem_append_right _ (List.mem_append_right _ (List.mem_append_right _ (List.mem_append_right _ (List.mem_append_left _ h0_))))), (tb_c_X7_add_15 w_ h0_).2⟩) (List.mem_cons_of_mem _ (List.mem_append_left _ (List.mem_of_getElem? (i := 0) rfl))) (List.mem_cons_of_mem _ (List.mem_append_left _ (List.mem_of_getElem? (i := 1) rfl))) (List.mem_cons_of_mem _ (List.mem_append_left _ (List.mem_of_getElem? (i := 2) rfl))) (List.mem_cons_of_mem _ (List.mem_append_left _ (List.mem_of_getElem? (i := 3) rfl)))) rfl rfl rfl (by decide +kernel) ⟨Nat.le_of_ble_eq_true rfl, Nat.le_of_ble_eq_true rfl⟩) ⟨fun a U g mk q => by obtain ⟨q0, q1, qP, qK, qD⟩ := q; exact ⟨q0, q1, qP, va_K.moved (u := U) (U := U.calling g mk a) (Vm.Alike.refl U.vm) qK, qD⟩, va_recv hKc hPc (ci := 7) (q0 := 0) rfl rfl, fun U hU hW => ⟨rfl, by rw [hU], by rw [hU]; exact hPc, va_K.moved hW.alike hKc, hDc.weaken (fun _ _ _ _ => trivial)⟩⟩ rfl rfl hl.1 rfl (lv_room (Nat.le_of_ble_eq_true rfl)) dX7_addFour_26 ⟨Nat.le_of_ble_eq_true rfl, Nat.le_of_ble_eq_true rfl⟩) hS (fun q _ h => hFc q h) hFc (fun u t H1 locs ht hvm hw hB hz1 hk1 hS => ?_)
  obtain ⟨f_7, hP1, hK1, hD1⟩ := hB
  rw [ht] at hP1
  have hK1 := va_K.moved hvm.symm hK1
  obtain ⟨hP, hD⟩ := va_join (wr := []) (w1 := [(h0, .inr (7, [.ref tb, .int 16])), (tb, .inl (cb, 200, .inl f_7))]) hP hD [0, 1] [] rfl rfl (by decide) (by decide) hk1 hFc hP1 hD1
  generalize H1 = H at hP hS ⊢
  have hP : va_P (dC, dI) vwCl [(h0, .inr (7, [.ref tb, .int 16])), (tb, .inl (cb, 200, .inl f_7))] H := hP
  have hD : va_D A [(h0, .inr (7, [.ref tb, .int 16])), (tb, .inl (cb, 200, .inl f_7))] := hD
  refine W.widen (k := 0) (n := 0) (Nat.le_of_ble_eq_true rfl) (Nat.le_of_ble_eq_true rfl) ?_
  have hP9 := hP.sub (ws' := [(h0, .inr (7, [.ref tb, .int 16])), (tb, .inl (cb, 200, .inl f_7))]) [0, 1] rfl
  have hD9 := hD.sub (ws' := [(h0, .inr (7, [.ref tb, .int 16])), (tb, .inl (cb, 200, .inl f_7))]) [0, 1] (by decide) rfl
  have hK9 := hK.sub (tys' := [(cb, .byte)]) [0] rfl
  refine W.widen (k := 0) (n := 0) (Nat.le_of_ble_eq_true rfl) (Nat.le_of_ble_eq_true rfl) ?_
  exact W.vret hx hb hr (fun t ht hW => ⟨⟨(), rfl, trivial, f_7, by rw [ht]; exact hP9, va_K.moved hW.alike hK9, hD9⟩, hS.F ht⟩) hS.2.2 dX7_addFour_29
def ow_c_X7_addFour_16 : List Cond := [.methodLink RX7 19 yX7_add, .instanceMethod yX7_add, .selects RX7 yX7_add yX7_add, .initialized RX7]
def wq_c_X7_addFour_16 : List Cond := .code yX7_addFour cX7_addFour 2 none :: (ow_c_X7_addFour_16 ++ (wq_c_X7_add_16 ++ (wq_c_X7_add_17 ++ (wq_c_X7_add_18 ++ (wq_c_X7_add_19 ++ ([] : List Cond))))))
theorem tb_c_X7_addFour_16 : ∀ w ∈ wq_c_X7_addFour_16, q_g w := by
  unfold wq_c_X7_addFour_16 ow_c_X7_addFour_16
  exact q_cons tw_300 (q_app (q_cons tw_299 (q_cons tw_298 (q_cons tw_297 (q_cons tw_111 q_nil)))) (q_app tb_c_X7_add_16 (q_app tb_c_X7_add_17 (q_app tb_c_X7_add_18 (q_app tb_c_X7_add_19 q_nil)))))
set_option maxHeartbeats 4000000 in
set_option maxRecDepth 100000 in
theorem c_X7_addFour_16 (l : Launch) (dC : Nat → ClassId) (dI : Nat → Nat → Nat) (h0 : Nat) (fo : Int32) (tb : Nat) (cb : ClassId) (fz : Nat → Int32) (sz : Nat) : Met l yX7_addFour wq_c_X7_addFour_16 ({ frames := 1, cells := 0, slots := 0, locals := 21 } : Room) (va_Pc [.ref h0, .int fo] (fun U => U.heap.size = sz ∧ va_P (dC, dI) vwCl [(h0, .inr (7, [.ref tb, .int 16])), (tb, .inl (cb, 200, .inl fz))] U.heap ∧ va_K (dC, dI) vwCl [(cb, .byte)] U ∧ va_D (fun _ => True) [(h0, .inr (7, [.ref tb, .int 16])), (tb, .inl (cb, 200, .inl fz))])) (va_Qv (fun (_ : Unit) => True) (fun (_ : Unit) t => ∃ (f2 : Nat → Int32), va_P (dC, dI) vwCl [(h0, .inr (7, [.ref tb, .int 20])), (tb, .inl (cb, 200, .inl f2))] t.heap ∧ va_K (dC, dI) vwCl [(cb, .byte)] t ∧ va_D (va_A [(h0, .inr (7, [.ref tb, .int 16])), (tb, .inl (cb, 200, .inl fz))] sz) [(h0, .inr (7, [.ref tb, .int 20])), (tb, .inl (cb, 200, .inl f2))]) (va_A [(h0, .inr (7, [.ref tb, .int 16])), (tb, .inl (cb, 200, .inl fz))] sz)) 0 0 (va_A [(h0, .inr (7, [.ref tb, .int 16])), (tb, .inl (cb, 200, .inl fz))] sz) := by
  refine Met.ofW (cc := cX7_addFour) (maxL := 2) (ret := none) (by decide) rfl ?_
  intro p e s m args below meth c s₁ B hml hv
  obtain ⟨rfl, hsz, hP, hK, hD0⟩ := hv
  have hx := B.exec
  have hb := B.bytes
  have hr := B.returns
  have hts := atoms_spec (ws := wq_c_X7_addFour_16) B.pre
  have hown : s.vm.findClass RX7 = some m.cls := findClass_of_methodNamed B.named
  have hlocks := B.notSynchronized
  subst hsz
  have hD := hD0.self (sz := s.heap.size)
  obtain ⟨A, hAe⟩ : ∃ A, A = va_A [(h0, .inr (7, [.ref tb, .int 16])), (tb, .inl (cb, 200, .inl fz))] s.heap.size := ⟨_, rfl⟩
  rw [← hAe] at hD ⊢
  have hA : ∀ q : Nat, s.heap.size ≤ q → A q := fun q h => by rw [hAe]; exact Or.inr h
  have hS : va_S A s.heap s.heap [] := va_S.rf
  have hP : va_P (dC, dI) vwCl [(h0, .inr (7, [.ref tb, .int 16])), (tb, .inl (cb, 200, .inl fz))] s.heap := hP
  have hl := lv_entry ([.ref h0, .int fo]) (n := 2) (Nat.le_of_ble_eq_true rfl)
  rw [lg_entry_eq]
  generalize (lg_sl ([.ref h0, .int fo]) ++ List.replicate (2 - (lg_sl ([.ref h0, .int fo])).length) Slot.unset).toArray = ls at hl ⊢
  have hl : lv_has ls 2 [(0, .ref h0), (1, .int fo)] := hl
  refine lv_aload_n hx hb dX7_addFour_0 rfl (lv_at hl 0 rfl) ?_
  refine lv_iload_n hx hb dX7_addFour_1 rfl (lv_at hl 1 rfl) ?_
  refine lv_bipush (v := 24) hx hb dX7_addFour_2 (by decide) ?_
  refine lv_iushr hx hb dX7_addFour_4 rfl ?_
  refine lv_topi (fun v_1 ev_1 => ?_)
  have hPc := hP.sub (ws' := [(h0, .inr (7, [.ref tb, .int 16])), (tb, .inl (cb, 200, .inl fz))]) [0, 1] rfl
  have hDc := hD.sub (ws' := [(h0, .inr (7, [.ref tb, .int 16])), (tb, .inl (cb, 200, .inl fz))]) [0, 1] (by decide) rfl
  have hKc := hK.sub (tys' := [(cb, .byte)]) [0] rfl
  have hFc := va_free (wc := [(h0, .inr (7, [.ref tb, .int 16])), (tb, .inl (cb, 200, .inl fz))]) hD hS hA [0, 1] rfl
  refine va_callv (va_runV (As := [.int v_1]) (rest := []) ⟨hx, hb, hml, hown, hts⟩ (c_X7_add_16 l dC dI h0 v_1 tb cb fz s.heap.size) (cwV 1 hts (gi_V (fun w_ h0_ => ⟨List.mem_cons_of_mem _ (List.mem_append_right _ (List.mem_append_left _ h0_)), (tb_c_X7_add_16 w_ h0_).2⟩) (List.mem_cons_of_mem _ (List.mem_append_left _ (List.mem_of_getElem? (i := 0) rfl))) (List.mem_cons_of_mem _ (List.mem_append_left _ (List.mem_of_getElem? (i := 1) rfl))) (List.mem_cons_of_mem _ (List.mem_append_left _ (List.mem_of_getElem? (i := 2) rfl))) (List.mem_cons_of_mem _ (List.mem_append_left _ (List.mem_of_getElem? (i := 3) rfl)))) rfl rfl rfl (by decide +kernel) ⟨Nat.le_of_ble_eq_true rfl, Nat.le_of_ble_eq_true rfl⟩) ⟨fun a U g mk q => by obtain ⟨q0, q1, qP, qK, qD⟩ := q; exact ⟨q0, q1, qP, va_K.moved (u := U) (U := U.calling g mk a) (Vm.Alike.refl U.vm) qK, qD⟩, va_recv hKc hPc (ci := 7) (q0 := 0) rfl rfl, fun U hU hW => ⟨rfl, by rw [hU], by rw [hU]; exact hPc, va_K.moved hW.alike hKc, hDc.weaken (fun _ _ _ _ => trivial)⟩⟩ rfl rfl hl.1 rfl (lv_room (Nat.le_of_ble_eq_true rfl)) dX7_addFour_5 ⟨Nat.le_of_ble_eq_true rfl, Nat.le_of_ble_eq_true rfl⟩) hS (fun q _ h => hFc q h) hFc (fun u t H1 locs ht hvm hw hB hz1 hk1 hS => ?_)
  obtain ⟨f_2, hP1, hK1, hD1⟩ := hB
  rw [ht] at hP1
  have hK1 := va_K.moved hvm.symm hK1
  obtain ⟨hP, hD⟩ := va_join (wr := []) (w1 := [(h0, .inr (7, [.ref tb, .int 17])), (tb, .inl (cb, 200, .inl f_2))]) hP hD [0, 1] [] rfl rfl (by decide) (by decide) hk1 hFc hP1 hD1
  generalize H1 = H at hP hS ⊢
  have hP : va_P (dC, dI) vwCl [(h0, .inr (7, [.ref tb, .int 17])), (tb, .inl (cb, 200, .inl f_2))] H := hP
  have hD : va_D A [(h0, .inr (7, [.ref tb, .int 17])), (tb, .inl (cb, 200, .inl f_2))] := hD
  refine W.widen (k := 0) (n := 0) (Nat.le_of_ble_eq_true rfl) (Nat.le_of_ble_eq_true rfl) ?_
  refine lv_aload_n hx hb dX7_addFour_8 rfl (lv_at hl 0 rfl) ?_
  refine lv_iload_n hx hb dX7_addFour_9 rfl (lv_at hl 1 rfl) ?_
  refine lv_bipush (v := 16) hx hb dX7_addFour_10 (by decide) ?_
  refine lv_iushr hx hb dX7_addFour_12 rfl ?_
  refine lv_topi (fun v_3 ev_3 => ?_)
  have hPc := hP.sub (ws' := [(h0, .inr (7, [.ref tb, .int 17])), (tb, .inl (cb, 200, .inl f_2))]) [0, 1] rfl
  have hDc := hD.sub (ws' := [(h0, .inr (7, [.ref tb, .int 17])), (tb, .inl (cb, 200, .inl f_2))]) [0, 1] (by decide) rfl
  have hKc := hK.sub (tys' := [(cb, .byte)]) [0] rfl
  have hFc := va_free (wc := [(h0, .inr (7, [.ref tb, .int 17])), (tb, .inl (cb, 200, .inl f_2))]) hD hS hA [0, 1] rfl
  refine va_callv (va_runV (As := [.int v_3]) (rest := []) ⟨hx, hb, hml, hown, hts⟩ (c_X7_add_17 l dC dI h0 v_3 tb cb f_2 H.size) (cwV 1 hts (gi_V (fun w_ h0_ => ⟨List.mem_cons_of_mem _ (List.mem_append_right _ (List.mem_append_right _ (List.mem_append_left _ h0_))), (tb_c_X7_add_17 w_ h0_).2⟩) (List.mem_cons_of_mem _ (List.mem_append_left _ (List.mem_of_getElem? (i := 0) rfl))) (List.mem_cons_of_mem _ (List.mem_append_left _ (List.mem_of_getElem? (i := 1) rfl))) (List.mem_cons_of_mem _ (List.mem_append_left _ (List.mem_of_getElem? (i := 2) rfl))) (List.mem_cons_of_mem _ (List.mem_append_left _ (List.mem_of_getElem? (i := 3) rfl)))) rfl rfl rfl (by decide +kernel) ⟨Nat.le_of_ble_eq_true rfl, Nat.le_of_ble_eq_true rfl⟩) ⟨fun a U g mk q => by obtain ⟨q0, q1, qP, qK, qD⟩ := q; exact ⟨q0, q1, qP, va_K.moved (u := U) (U := U.calling g mk a) (Vm.Alike.refl U.vm) qK, qD⟩, va_recv hKc hPc (ci := 7) (q0 := 0) rfl rfl, fun U hU hW => ⟨rfl, by rw [hU], by rw [hU]; exact hPc, va_K.moved hW.alike hKc, hDc.weaken (fun _ _ _ _ => trivial)⟩⟩ rfl rfl hl.1 rfl (lv_room (Nat.le_of_ble_eq_true rfl)) dX7_addFour_13 ⟨Nat.le_of_ble_eq_true rfl, Nat.le_of_ble_eq_true rfl⟩) hS (fun q _ h => hFc q h) hFc (fun u t H1 locs ht hvm hw hB hz1 hk1 hS => ?_)
  obtain ⟨f_4, hP1, hK1, hD1⟩ := hB
  rw [ht] at hP1
  have hK1 := va_K.moved hvm.symm hK1
  obtain ⟨hP, hD⟩ := va_join (wr := []) (w1 := [(h0, .inr (7, [.ref tb, .int 18])), (tb, .inl (cb, 200, .inl f_4))]) hP hD [0, 1] [] rfl rfl (by decide) (by decide) hk1 hFc hP1 hD1
  generalize H1 = H at hP hS ⊢
  have hP : va_P (dC, dI) vwCl [(h0, .inr (7, [.ref tb, .int 18])), (tb, .inl (cb, 200, .inl f_4))] H := hP
  have hD : va_D A [(h0, .inr (7, [.ref tb, .int 18])), (tb, .inl (cb, 200, .inl f_4))] := hD
  refine W.widen (k := 0) (n := 0) (Nat.le_of_ble_eq_true rfl) (Nat.le_of_ble_eq_true rfl) ?_
  refine lv_aload_n hx hb dX7_addFour_16 rfl (lv_at hl 0 rfl) ?_
  refine lv_iload_n hx hb dX7_addFour_17 rfl (lv_at hl 1 rfl) ?_
  refine lv_bipush (v := 8) hx hb dX7_addFour_18 (by decide) ?_
  refine lv_iushr hx hb dX7_addFour_20 rfl ?_
  refine lv_topi (fun v_5 ev_5 => ?_)
  have hPc := hP.sub (ws' := [(h0, .inr (7, [.ref tb, .int 18])), (tb, .inl (cb, 200, .inl f_4))]) [0, 1] rfl
  have hDc := hD.sub (ws' := [(h0, .inr (7, [.ref tb, .int 18])), (tb, .inl (cb, 200, .inl f_4))]) [0, 1] (by decide) rfl
  have hKc := hK.sub (tys' := [(cb, .byte)]) [0] rfl
  have hFc := va_free (wc := [(h0, .inr (7, [.ref tb, .int 18])), (tb, .inl (cb, 200, .inl f_4))]) hD hS hA [0, 1] rfl
  refine va_callv (va_runV (As := [.int v_5]) (rest := []) ⟨hx, hb, hml, hown, hts⟩ (c_X7_add_18 l dC dI h0 v_5 tb cb f_4 H.size) (cwV 1 hts (gi_V (fun w_ h0_ => ⟨List.mem_cons_of_mem _ (List.mem_append_right _ (List.mem_append_right _ (List.mem_append_right _ (List.mem_append_left _ h0_)))), (tb_c_X7_add_18 w_ h0_).2⟩) (List.mem_cons_of_mem _ (List.mem_append_left _ (List.mem_of_getElem? (i := 0) rfl))) (List.mem_cons_of_mem _ (List.mem_append_left _ (List.mem_of_getElem? (i := 1) rfl))) (List.mem_cons_of_mem _ (List.mem_append_left _ (List.mem_of_getElem? (i := 2) rfl))) (List.mem_cons_of_mem _ (List.mem_append_left _ (List.mem_of_getElem? (i := 3) rfl)))) rfl rfl rfl (by decide +kernel) ⟨Nat.le_of_ble_eq_true rfl, Nat.le_of_ble_eq_true rfl⟩) ⟨fun a U g mk q => by obtain ⟨q0, q1, qP, qK, qD⟩ := q; exact ⟨q0, q1, qP, va_K.moved (u := U) (U := U.calling g mk a) (Vm.Alike.refl U.vm) qK, qD⟩, va_recv hKc hPc (ci := 7) (q0 := 0) rfl rfl, fun U hU hW => ⟨rfl, by rw [hU], by rw [hU]; exact hPc, va_K.moved hW.alike hKc, hDc.weaken (fun _ _ _ _ => trivial)⟩⟩ rfl rfl hl.1 rfl (lv_room (Nat.le_of_ble_eq_true rfl)) dX7_addFour_21 ⟨Nat.le_of_ble_eq_true rfl, Nat.le_of_ble_eq_true rfl⟩) hS (fun q _ h => hFc q h) hFc (fun u t H1 locs ht hvm hw hB hz1 hk1 hS => ?_)
  obtain ⟨f_6, hP1, hK1, hD1⟩ := hB
  rw [ht] at hP1
  have hK1 := va_K.moved hvm.symm hK1
  obtain ⟨hP, hD⟩ := va_join (wr := []) (w1 := [(h0, .inr (7, [.ref tb, .int 19])), (tb, .inl (cb, 200, .inl f_6))]) hP hD [0, 1] [] rfl rfl (by decide) (by decide) hk1 hFc hP1 hD1
  generalize H1 = H at hP hS ⊢
  have hP : va_P (dC, dI) vwCl [(h0, .inr (7, [.ref tb, .int 19])), (tb, .inl (cb, 200, .inl f_6))] H := hP
  have hD : va_D A [(h0, .inr (7, [.ref tb, .int 19])), (tb, .inl (cb, 200, .inl f_6))] := hD
  refine W.widen (k := 0) (n := 0) (Nat.le_of_ble_eq_true rfl) (Nat.le_of_ble_eq_true rfl) ?_
  refine lv_aload_n hx hb dX7_addFour_24 rfl (lv_at hl 0 rfl) ?_
  refine lv_iload_n hx hb dX7_addFour_25 rfl (lv_at hl 1 rfl) ?_
  have hPc := hP.sub (ws' := [(h0, .inr (7, [.ref tb, .int 19])), (tb, .inl (cb, 200, .inl f_6))]) [0, 1] rfl
  have hDc := hD.sub (ws' := [(h0, .inr (7, [.ref tb, .int 19])), (tb, .inl (cb, 200, .inl f_6))]) [0, 1] (by decide) rfl
  have hKc := hK.sub (tys' := [(cb, .byte)]) [0] rfl
  have hFc := va_free (wc := [(h0, .inr (7, [.ref tb, .int 19])), (tb, .inl (cb, 200, .inl f_6))]) hD hS hA [0, 1] rfl
  refine va_callv (va_runV (As := [.int fo]) (rest := []) ⟨hx, hb, hml, hown, hts⟩ (c_X7_add_19 l dC dI h0 fo tb cb f_6 H.size) (cwV 1 hts (gi_V (fun w_ h0_ => ⟨List.mem_cons_of_mem _ (List.mem_append_right _ (List.mem_append_right _ (List.mem_append_right _ (List.mem_append_right _ (List.mem_append_left _ h0_))))), (tb_c_X7_add_19 w_ h0_).2⟩) (List.mem_cons_of_mem _ (List.mem_append_left _ (List.mem_of_getElem? (i := 0) rfl))) (List.mem_cons_of_mem _ (List.mem_append_left _ (List.mem_of_getElem? (i := 1) rfl))) (List.mem_cons_of_mem _ (List.mem_append_left _ (List.mem_of_getElem? (i := 2) rfl))) (List.mem_cons_of_mem _ (List.mem_append_left _ (List.mem_of_getElem? (i := 3) rfl)))) rfl rfl rfl (by decide +kernel) ⟨Nat.le_of_ble_eq_true rfl, Nat.le_of_ble_eq_true rfl⟩) ⟨fun a U g mk q => by obtain ⟨q0, q1, qP, qK, qD⟩ := q; exact ⟨q0, q1, qP, va_K.moved (u := U) (U := U.calling g mk a) (Vm.Alike.refl U.vm) qK, qD⟩, va_recv hKc hPc (ci := 7) (q0 := 0) rfl rfl, fun U hU hW => ⟨rfl, by rw [hU], by rw [hU]; exact hPc, va_K.moved hW.alike hKc, hDc.weaken (fun _ _ _ _ => trivial)⟩⟩ rfl rfl hl.1 rfl (lv_room (Nat.le_of_ble_eq_true rfl)) dX7_addFour_26 ⟨Nat.le_of_ble_eq_true rfl, Nat.le_of_ble_eq_true rfl⟩) hS (fun q _ h => hFc q h) hFc (fun u t H1 locs ht hvm hw hB hz1 hk1 hS => ?_)
  obtain ⟨f_7, hP1, hK1, hD1⟩ := hB
  rw [ht] at hP1
  have hK1 := va_K.moved hvm.symm hK1
  obtain ⟨hP, hD⟩ := va_join (wr := []) (w1 := [(h0, .inr (7, [.ref tb, .int 20])), (tb, .inl (cb, 200, .inl f_7))]) hP hD [0, 1] [] rfl rfl (by decide) (by decide) hk1 hFc hP1 hD1
  generalize H1 = H at hP hS ⊢
  have hP : va_P (dC, dI) vwCl [(h0, .inr (7, [.ref tb, .int 20])), (tb, .inl (cb, 200, .inl f_7))] H := hP
  have hD : va_D A [(h0, .inr (7, [.ref tb, .int 20])), (tb, .inl (cb, 200, .inl f_7))] := hD
  refine W.widen (k := 0) (n := 0) (Nat.le_of_ble_eq_true rfl) (Nat.le_of_ble_eq_true rfl) ?_
  have hP9 := hP.sub (ws' := [(h0, .inr (7, [.ref tb, .int 20])), (tb, .inl (cb, 200, .inl f_7))]) [0, 1] rfl
  have hD9 := hD.sub (ws' := [(h0, .inr (7, [.ref tb, .int 20])), (tb, .inl (cb, 200, .inl f_7))]) [0, 1] (by decide) rfl
  have hK9 := hK.sub (tys' := [(cb, .byte)]) [0] rfl
  refine W.widen (k := 0) (n := 0) (Nat.le_of_ble_eq_true rfl) (Nat.le_of_ble_eq_true rfl) ?_
  exact W.vret hx hb hr (fun t ht hW => ⟨⟨(), rfl, trivial, f_7, by rw [ht]; exact hP9, va_K.moved hW.alike hK9, hD9⟩, hS.F ht⟩) hS.2.2 dX7_addFour_29
def ow_c_X7_byteAt : List Cond := [.fieldLink RX7 15 "DeadlineShare$Tape" "length" "I"]
def wq_c_X7_byteAt : List Cond := .code yX7_byteAt cX7_byteAt 2 (some .int) :: (ow_c_X7_byteAt ++ (u_ws RX7 TX7 2 ++ ([] : List Cond)))
theorem tb_c_X7_byteAt : ∀ w ∈ wq_c_X7_byteAt, q_g w := by
  unfold wq_c_X7_byteAt ow_c_X7_byteAt
  exact q_cons tw_301 (q_app (q_cons tw_294 q_nil) (q_app tu_X7 q_nil))
set_option maxHeartbeats 4000000 in
set_option maxRecDepth 100000 in
theorem c_X7_byteAt (l : Launch) (dC : Nat → ClassId) (dI : Nat → Nat → Nat) (h0 : Nat) (ix : Int32) (tb : Nat) (sz : Nat) : Met l yX7_byteAt wq_c_X7_byteAt ({ frames := 0, cells := 0, slots := 0, locals := 0 } : Room) (va_Pc [.ref h0, .int ix] (fun U => U.heap.size = sz ∧ va_P (dC, dI) vwCl [(h0, .inr (7, [.ref tb, .int 0]))] U.heap ∧ va_K (dC, dI) vwCl [] U ∧ va_D (fun _ => True) [(h0, .inr (7, [.ref tb, .int 0]))])) (va_Qi (fun (r : Int32) (_ : Unit) => r = (-1)) (fun (_ : Unit) t => va_P (dC, dI) vwCl [(h0, .inr (7, [.ref tb, .int 0]))] t.heap ∧ va_K (dC, dI) vwCl [] t ∧ va_D (va_A [(h0, .inr (7, [.ref tb, .int 0]))] sz) [(h0, .inr (7, [.ref tb, .int 0]))]) (va_A [(h0, .inr (7, [.ref tb, .int 0]))] sz)) 0 0 (va_A [(h0, .inr (7, [.ref tb, .int 0]))] sz) := by
  refine Met.ofW (cc := cX7_byteAt) (maxL := 2) (ret := (some .int)) (by decide) rfl ?_
  intro p e s m args below meth c s₁ B hml hv
  obtain ⟨rfl, hsz, hP, hK, hD0⟩ := hv
  have hx := B.exec
  have hb := B.bytes
  have hr := B.returns
  have hts := atoms_spec (ws := wq_c_X7_byteAt) B.pre
  have hown : s.vm.findClass RX7 = some m.cls := findClass_of_methodNamed B.named
  have hlocks := B.notSynchronized
  subst hsz
  have hD := hD0.self (sz := s.heap.size)
  obtain ⟨A, hAe⟩ : ∃ A, A = va_A [(h0, .inr (7, [.ref tb, .int 0]))] s.heap.size := ⟨_, rfl⟩
  rw [← hAe] at hD ⊢
  have hA : ∀ q : Nat, s.heap.size ≤ q → A q := fun q h => by rw [hAe]; exact Or.inr h
  have hS : va_S A s.heap s.heap [] := va_S.rf
  have hP : va_P (dC, dI) vwCl [(h0, .inr (7, [.ref tb, .int 0]))] s.heap := hP
  have hl := lv_entry ([.ref h0, .int ix]) (n := 2) (Nat.le_of_ble_eq_true rfl)
  rw [lg_entry_eq]
  generalize (lg_sl ([.ref h0, .int ix]) ++ List.replicate (2 - (lg_sl ([.ref h0, .int ix])).length) Slot.unset).toArray = ls at hl ⊢
  have hl : lv_has ls 2 [(0, .ref h0), (1, .int ix)] := hl
  refine lv_iload_n hx hb dX7_byteAt_0 rfl (lv_at hl 1 rfl) ?_
  refine lv_if_lt (tgt := 32) hx hb dX7_byteAt_1 (by decide) (fun c_1 => ?_) (fun c_1 => ?_)
  · refine lv_iconst (v := (-1)) hx hb dX7_byteAt_32 (by decide) ?_
    have hP9 := hP.sub (ws' := [(h0, .inr (7, [.ref tb, .int 0]))]) [0] rfl
    have hD9 := hD.sub (ws' := [(h0, .inr (7, [.ref tb, .int 0]))]) [0] (by decide) rfl
    have hK9 := hK.sub (tys' := []) [] rfl
    refine W.widen (k := 0) (n := 0) (Nat.le_of_ble_eq_true rfl) (Nat.le_of_ble_eq_true rfl) ?_
    exact W.iret (v := (-1)) hx hb hr (fun t ht hW => ⟨⟨(-1), (), rfl, rfl, by rw [ht]; exact hP9, va_K.moved hW.alike hK9, hD9⟩, hS.F ht⟩) hS.2.2 dX7_byteAt_33
  · refine lv_iload_n hx hb dX7_byteAt_4 rfl (lv_at hl 1 rfl) ?_
    refine lv_aload_n hx hb dX7_byteAt_5 rfl (lv_at hl 0 rfl) ?_
    refine va_get (D := (dC, dI)) (ci := 7) (v := .int 0) (C := RX7) (T := TX7) (N := 2) hx hb hts (fun _ h0_ => List.mem_cons_of_mem _ (List.mem_append_right _ (List.mem_append_left _ h0_))) hown hK hP 0 rfl rfl 1 (by decide) (hts (.fieldLink RX7 15 "DeadlineShare$Tape" "length" "I") (List.mem_cons_of_mem _ (List.mem_append_left _ (List.mem_of_getElem? (i := 0) rfl)))) (fun _ h9 => h9) rfl dX7_byteAt_6 ?_
    refine lv_icmp_ge (tgt := 32) hx hb dX7_byteAt_9 (by decide) (fun _ => ?_) (fun c => absurd ((fa_le _ _).mpr (by have z0 : ¬ _ := fun h9 => c_1 ((fa_lt _ _).mpr h9); have li0 : Int32.toInt 0 = 0 := (by decide); skip; omega)) c)
    refine lv_iconst (v := (-1)) hx hb dX7_byteAt_32 (by decide) ?_
    have hP9 := hP.sub (ws' := [(h0, .inr (7, [.ref tb, .int 0]))]) [0] rfl
    have hD9 := hD.sub (ws' := [(h0, .inr (7, [.ref tb, .int 0]))]) [0] (by decide) rfl
    have hK9 := hK.sub (tys' := []) [] rfl
    refine W.widen (k := 0) (n := 0) (Nat.le_of_ble_eq_true rfl) (Nat.le_of_ble_eq_true rfl) ?_
    exact W.iret (v := (-1)) hx hb hr (fun t ht hW => ⟨⟨(-1), (), rfl, rfl, by rw [ht]; exact hP9, va_K.moved hW.alike hK9, hD9⟩, hS.F ht⟩) hS.2.2 dX7_byteAt_33
def ow_c_X11_feed : List Cond := [.fieldLink RX11 21 "DeadlineShare" "tape" "LDeadlineShare$Tape;", .methodLink RX11 98 yX7_hasRoomForFive, .instanceMethod yX7_hasRoomForFive, .selects RX7 yX7_hasRoomForFive yX7_hasRoomForFive, .initialized RX7, .methodLink RX11 102 yX7_addFour, .instanceMethod yX7_addFour, .selects RX7 yX7_addFour yX7_addFour, .fieldLink RX11 106 "DeadlineShare$Tape" "length" "I"]
def wq_c_X11_feed : List Cond := .code yX11_feed cX11_feed 6 (some .int) :: (ow_c_X11_feed ++ (u_ws RX11 TX11 12 ++ (wq_c_X7_hasRoomForFive ++ (wq_c_X7_addFour_0 ++ (wq_c_X7_addFour_4 ++ (wq_c_X7_addFour_8 ++ (wq_c_X7_addFour_12 ++ (wq_c_X7_addFour_16 ++ (u_ws RX7 TX7 2 ++ ([] : List Cond))))))))))
theorem tb_c_X11_feed : ∀ w ∈ wq_c_X11_feed, q_g w := by
  unfold wq_c_X11_feed ow_c_X11_feed
  exact q_cons tw_309 (q_app (q_cons tw_109 (q_cons tw_308 (q_cons tw_307 (q_cons tw_306 (q_cons tw_111 (q_cons tw_305 (q_cons tw_304 (q_cons tw_303 (q_cons tw_302 q_nil))))))))) (q_app tu_X11 (q_app tb_c_X7_hasRoomForFive (q_app tb_c_X7_addFour_0 (q_app tb_c_X7_addFour_4 (q_app tb_c_X7_addFour_8 (q_app tb_c_X7_addFour_12 (q_app tb_c_X7_addFour_16 (q_app tu_X7 q_nil)))))))))
set_option maxHeartbeats 4000000 in
set_option maxRecDepth 100000 in
theorem c_X11_feed (l : Launch) (dC : Nat → ClassId) (dI : Nat → Nat → Nat) (h0 : Nat) (a1 : Int32) (a2 : Int32) (a3 : Int32) (a4 : Int32) (a5 : Int32) (te : Nat) (ta : Nat) (re : Nat) (no : Nat) (pa : Nat) (ac : Nat) (op : Nat) (im : Nat) (ik : Nat) (hi : Nat) (rf : Nat) (tb : Nat) (cb : ClassId) (sz : Nat) : Met l yX11_feed wq_c_X11_feed ({ frames := 2, cells := 0, slots := 0, locals := 42 } : Room) (va_Pc [.ref h0, .int a1, .int a2, .int a3, .int a4, .int a5] (fun U => U.heap.size = sz ∧ va_P (dC, dI) vwCl [(h0, .inr (11, [.ref te, .ref ta, .ref re, .ref no, .ref pa, .ref ac, .ref op, .ref im, .ref ik, .ref hi, .ref rf, .int (-1)])), (ta, .inr (7, [.ref tb, .int 0])), (tb, .inl (cb, 200, .inl (fun _ => 0)))] U.heap ∧ va_K (dC, dI) vwCl [(cb, .byte)] U ∧ va_D (fun _ => True) [(h0, .inr (11, [.ref te, .ref ta, .ref re, .ref no, .ref pa, .ref ac, .ref op, .ref im, .ref ik, .ref hi, .ref rf, .int (-1)])), (ta, .inr (7, [.ref tb, .int 0])), (tb, .inl (cb, 200, .inl (fun _ => 0)))])) (va_Qi (fun (r : Int32) (_ : Unit) => r = 20) (fun (_ : Unit) t => va_P (dC, dI) vwCl [] t.heap ∧ va_K (dC, dI) vwCl [] t ∧ va_D (va_A [(h0, .inr (11, [.ref te, .ref ta, .ref re, .ref no, .ref pa, .ref ac, .ref op, .ref im, .ref ik, .ref hi, .ref rf, .int (-1)])), (ta, .inr (7, [.ref tb, .int 0])), (tb, .inl (cb, 200, .inl (fun _ => 0)))] sz) []) (va_A [(h0, .inr (11, [.ref te, .ref ta, .ref re, .ref no, .ref pa, .ref ac, .ref op, .ref im, .ref ik, .ref hi, .ref rf, .int (-1)])), (ta, .inr (7, [.ref tb, .int 0])), (tb, .inl (cb, 200, .inl (fun _ => 0)))] sz)) 0 0 (va_A [(h0, .inr (11, [.ref te, .ref ta, .ref re, .ref no, .ref pa, .ref ac, .ref op, .ref im, .ref ik, .ref hi, .ref rf, .int (-1)])), (ta, .inr (7, [.ref tb, .int 0])), (tb, .inl (cb, 200, .inl (fun _ => 0)))] sz) := by
  refine Met.ofW (cc := cX11_feed) (maxL := 6) (ret := (some .int)) (by decide) rfl ?_
  intro p e s m args below meth c s₁ B hml hv
  obtain ⟨rfl, hsz, hP, hK, hD0⟩ := hv
  have hx := B.exec
  have hb := B.bytes
  have hr := B.returns
  have hts := atoms_spec (ws := wq_c_X11_feed) B.pre
  have hown : s.vm.findClass RX11 = some m.cls := findClass_of_methodNamed B.named
  have hlocks := B.notSynchronized
  subst hsz
  have hD := hD0.self (sz := s.heap.size)
  obtain ⟨A, hAe⟩ : ∃ A, A = va_A [(h0, .inr (11, [.ref te, .ref ta, .ref re, .ref no, .ref pa, .ref ac, .ref op, .ref im, .ref ik, .ref hi, .ref rf, .int (-1)])), (ta, .inr (7, [.ref tb, .int 0])), (tb, .inl (cb, 200, .inl (fun _ => 0)))] s.heap.size := ⟨_, rfl⟩
  rw [← hAe] at hD ⊢
  have hA : ∀ q : Nat, s.heap.size ≤ q → A q := fun q h => by rw [hAe]; exact Or.inr h
  have hS : va_S A s.heap s.heap [] := va_S.rf
  have hP : va_P (dC, dI) vwCl [(h0, .inr (11, [.ref te, .ref ta, .ref re, .ref no, .ref pa, .ref ac, .ref op, .ref im, .ref ik, .ref hi, .ref rf, .int (-1)])), (ta, .inr (7, [.ref tb, .int 0])), (tb, .inl (cb, 200, .inl (fun _ => 0)))] s.heap := hP
  have hl := lv_entry ([.ref h0, .int a1, .int a2, .int a3, .int a4, .int a5]) (n := 6) (Nat.le_of_ble_eq_true rfl)
  rw [lg_entry_eq]
  generalize (lg_sl ([.ref h0, .int a1, .int a2, .int a3, .int a4, .int a5]) ++ List.replicate (6 - (lg_sl ([.ref h0, .int a1, .int a2, .int a3, .int a4, .int a5])).length) Slot.unset).toArray = ls at hl ⊢
  have hl : lv_has ls 6 [(0, .ref h0), (1, .int a1), (2, .int a2), (3, .int a3), (4, .int a4), (5, .int a5)] := hl
  refine lv_aload_n hx hb dX11_feed_0 rfl (lv_at hl 0 rfl) ?_
  refine va_get (D := (dC, dI)) (ci := 11) (v := .ref ta) (C := RX11) (T := TX11) (N := 12) hx hb hts (fun _ h0_ => List.mem_cons_of_mem _ (List.mem_append_right _ (List.mem_append_left _ h0_))) hown hK hP 0 rfl rfl 1 (by decide) (hts (.fieldLink RX11 21 "DeadlineShare" "tape" "LDeadlineShare$Tape;") (List.mem_cons_of_mem _ (List.mem_append_left _ (List.mem_of_getElem? (i := 0) rfl)))) (fun _ h9 => h9) rfl dX11_feed_1 ?_
  have hPc := hP.sub (ws' := [(ta, .inr (7, [.ref tb, .int 0]))]) [1] rfl
  have hDc := hD.sub (ws' := [(ta, .inr (7, [.ref tb, .int 0]))]) [1] (by decide) rfl
  have hKc := hK.sub (tys' := []) [] rfl
  have hFc := va_free (wc := [(ta, .inr (7, [.ref tb, .int 0]))]) hD hS hA [1] rfl
  refine va_calli (va_runV (As := []) (rest := []) ⟨hx, hb, hml, hown, hts⟩ (c_X7_hasRoomForFive l dC dI ta tb s.heap.size) (cwV 0 hts (gi_V (fun w_ h0_ => ⟨List.mem_cons_of_mem _ (List.mem_append_right _ (List.mem_append_right _ (List.mem_append_left _ h0_))), (tb_c_X7_hasRoomForFive w_ h0_).2⟩) (List.mem_cons_of_mem _ (List.mem_append_left _ (List.mem_of_getElem? (i := 1) rfl))) (List.mem_cons_of_mem _ (List.mem_append_left _ (List.mem_of_getElem? (i := 2) rfl))) (List.mem_cons_of_mem _ (List.mem_append_left _ (List.mem_of_getElem? (i := 3) rfl))) (List.mem_cons_of_mem _ (List.mem_append_left _ (List.mem_of_getElem? (i := 4) rfl)))) rfl rfl rfl (by decide +kernel) ⟨Nat.le_of_ble_eq_true rfl, Nat.le_of_ble_eq_true rfl⟩) ⟨fun a U g mk q => by obtain ⟨q0, q1, qP, qK, qD⟩ := q; exact ⟨q0, q1, qP, va_K.moved (u := U) (U := U.calling g mk a) (Vm.Alike.refl U.vm) qK, qD⟩, va_recv hKc hPc (ci := 7) (q0 := 0) rfl rfl, fun U hU hW => ⟨rfl, by rw [hU], by rw [hU]; exact hPc, va_K.moved hW.alike hKc, hDc.weaken (fun _ _ _ _ => trivial)⟩⟩ rfl rfl hl.1 rfl (lv_room (Nat.le_of_ble_eq_true rfl)) dX11_feed_4 ⟨Nat.le_of_ble_eq_true rfl, Nat.le_of_ble_eq_true rfl⟩) hS (fun q _ h => hFc q h) hFc (fun r_1 u t H1 locs ht hvm hw hB hz1 hk1 hS => ?_)
  obtain ⟨hP1, hK1, hD1⟩ := hB
  rw [ht] at hP1
  have hK1 := va_K.moved hvm.symm hK1
  obtain ⟨hP, hD⟩ := va_join (wr := [(h0, .inr (11, [.ref te, .ref ta, .ref re, .ref no, .ref pa, .ref ac, .ref op, .ref im, .ref ik, .ref hi, .ref rf, .int (-1)])), (tb, .inl (cb, 200, .inl (fun _ => 0)))]) (w1 := [(ta, .inr (7, [.ref tb, .int 0]))]) hP hD [1] [0, 2] rfl rfl (by decide) (by decide) hk1 hFc hP1 hD1
  generalize H1 = H at hP hS ⊢
  have hP : va_P (dC, dI) vwCl [(h0, .inr (11, [.ref te, .ref ta, .ref re, .ref no, .ref pa, .ref ac, .ref op, .ref im, .ref ik, .ref hi, .ref rf, .int (-1)])), (tb, .inl (cb, 200, .inl (fun _ => 0))), (ta, .inr (7, [.ref tb, .int 0]))] H := hP
  have hD : va_D A [(h0, .inr (11, [.ref te, .ref ta, .ref re, .ref no, .ref pa, .ref ac, .ref op, .ref im, .ref ik, .ref hi, .ref rf, .int (-1)])), (tb, .inl (cb, 200, .inl (fun _ => 0))), (ta, .inr (7, [.ref tb, .int 0]))] := hD
  refine W.widen (k := 0) (n := 0) (Nat.le_of_ble_eq_true rfl) (Nat.le_of_ble_eq_true rfl) ?_
  have hw : r_1 = 1 := hw
  subst hw
  refine lv_if_ne (tgt := 12) hx hb dX11_feed_7 (by decide) (fun _ => ?_) (fun c => absurd c (by decide))
  refine lv_aload_n hx hb dX11_feed_12 rfl (lv_at hl 0 rfl) ?_
  refine va_get (D := (dC, dI)) (ci := 11) (v := .ref ta) (C := RX11) (T := TX11) (N := 12) hx hb hts (fun _ h0_ => List.mem_cons_of_mem _ (List.mem_append_right _ (List.mem_append_left _ h0_))) hown hK hP 0 rfl rfl 1 (by decide) (hts (.fieldLink RX11 21 "DeadlineShare" "tape" "LDeadlineShare$Tape;") (List.mem_cons_of_mem _ (List.mem_append_left _ (List.mem_of_getElem? (i := 0) rfl)))) (fun _ h9 => h9) rfl dX11_feed_13 ?_
  refine lv_iload_n hx hb dX11_feed_16 rfl (lv_at hl 1 rfl) ?_
  have hPc := hP.sub (ws' := [(ta, .inr (7, [.ref tb, .int 0])), (tb, .inl (cb, 200, .inl (fun _ => 0)))]) [2, 1] rfl
  have hDc := hD.sub (ws' := [(ta, .inr (7, [.ref tb, .int 0])), (tb, .inl (cb, 200, .inl (fun _ => 0)))]) [2, 1] (by decide) rfl
  have hKc := hK.sub (tys' := [(cb, .byte)]) [0] rfl
  have hFc := va_free (wc := [(ta, .inr (7, [.ref tb, .int 0])), (tb, .inl (cb, 200, .inl (fun _ => 0)))]) hD hS hA [2, 1] rfl
  refine va_callv (va_runV (As := [.int a1]) (rest := []) ⟨hx, hb, hml, hown, hts⟩ (c_X7_addFour_0 l dC dI ta a1 tb cb (fun _ => 0) H.size) (cwV 1 hts (gi_V (fun w_ h0_ => ⟨List.mem_cons_of_mem _ (List.mem_append_right _ (List.mem_append_right _ (List.mem_append_right _ (List.mem_append_left _ h0_)))), (tb_c_X7_addFour_0 w_ h0_).2⟩) (List.mem_cons_of_mem _ (List.mem_append_left _ (List.mem_of_getElem? (i := 5) rfl))) (List.mem_cons_of_mem _ (List.mem_append_left _ (List.mem_of_getElem? (i := 6) rfl))) (List.mem_cons_of_mem _ (List.mem_append_left _ (List.mem_of_getElem? (i := 7) rfl))) (List.mem_cons_of_mem _ (List.mem_append_left _ (List.mem_of_getElem? (i := 4) rfl)))) rfl rfl rfl (by decide +kernel) ⟨Nat.le_of_ble_eq_true rfl, Nat.le_of_ble_eq_true rfl⟩) ⟨fun a U g mk q => by obtain ⟨q0, q1, qP, qK, qD⟩ := q; exact ⟨q0, q1, qP, va_K.moved (u := U) (U := U.calling g mk a) (Vm.Alike.refl U.vm) qK, qD⟩, va_recv hKc hPc (ci := 7) (q0 := 0) rfl rfl, fun U hU hW => ⟨rfl, by rw [hU], by rw [hU]; exact hPc, va_K.moved hW.alike hKc, hDc.weaken (fun _ _ _ _ => trivial)⟩⟩ rfl rfl hl.1 rfl (lv_room (Nat.le_of_ble_eq_true rfl)) dX11_feed_17 ⟨Nat.le_of_ble_eq_true rfl, Nat.le_of_ble_eq_true rfl⟩) hS (fun q _ h => hFc q h) hFc (fun u t H1 locs ht hvm hw hB hz1 hk1 hS => ?_)
  obtain ⟨f_2, hP1, hK1, hD1⟩ := hB
  rw [ht] at hP1
  have hK1 := va_K.moved hvm.symm hK1
  obtain ⟨hP, hD⟩ := va_join (wr := [(h0, .inr (11, [.ref te, .ref ta, .ref re, .ref no, .ref pa, .ref ac, .ref op, .ref im, .ref ik, .ref hi, .ref rf, .int (-1)]))]) (w1 := [(ta, .inr (7, [.ref tb, .int 4])), (tb, .inl (cb, 200, .inl f_2))]) hP hD [2, 1] [0] rfl rfl (by decide) (by decide) hk1 hFc hP1 hD1
  generalize H1 = H at hP hS ⊢
  have hP : va_P (dC, dI) vwCl [(h0, .inr (11, [.ref te, .ref ta, .ref re, .ref no, .ref pa, .ref ac, .ref op, .ref im, .ref ik, .ref hi, .ref rf, .int (-1)])), (ta, .inr (7, [.ref tb, .int 4])), (tb, .inl (cb, 200, .inl f_2))] H := hP
  have hD : va_D A [(h0, .inr (11, [.ref te, .ref ta, .ref re, .ref no, .ref pa, .ref ac, .ref op, .ref im, .ref ik, .ref hi, .ref rf, .int (-1)])), (ta, .inr (7, [.ref tb, .int 4])), (tb, .inl (cb, 200, .inl f_2))] := hD
  refine W.widen (k := 0) (n := 0) (Nat.le_of_ble_eq_true rfl) (Nat.le_of_ble_eq_true rfl) ?_
  refine lv_aload_n hx hb dX11_feed_20 rfl (lv_at hl 0 rfl) ?_
  refine va_get (D := (dC, dI)) (ci := 11) (v := .ref ta) (C := RX11) (T := TX11) (N := 12) hx hb hts (fun _ h0_ => List.mem_cons_of_mem _ (List.mem_append_right _ (List.mem_append_left _ h0_))) hown hK hP 0 rfl rfl 1 (by decide) (hts (.fieldLink RX11 21 "DeadlineShare" "tape" "LDeadlineShare$Tape;") (List.mem_cons_of_mem _ (List.mem_append_left _ (List.mem_of_getElem? (i := 0) rfl)))) (fun _ h9 => h9) rfl dX11_feed_21 ?_
  refine lv_iload_n hx hb dX11_feed_24 rfl (lv_at hl 2 rfl) ?_
  have hPc := hP.sub (ws' := [(ta, .inr (7, [.ref tb, .int 4])), (tb, .inl (cb, 200, .inl f_2))]) [1, 2] rfl
  have hDc := hD.sub (ws' := [(ta, .inr (7, [.ref tb, .int 4])), (tb, .inl (cb, 200, .inl f_2))]) [1, 2] (by decide) rfl
  have hKc := hK.sub (tys' := [(cb, .byte)]) [0] rfl
  have hFc := va_free (wc := [(ta, .inr (7, [.ref tb, .int 4])), (tb, .inl (cb, 200, .inl f_2))]) hD hS hA [1, 2] rfl
  refine va_callv (va_runV (As := [.int a2]) (rest := []) ⟨hx, hb, hml, hown, hts⟩ (c_X7_addFour_4 l dC dI ta a2 tb cb f_2 H.size) (cwV 1 hts (gi_V (fun w_ h0_ => ⟨List.mem_cons_of_mem _ (List.mem_append_right _ (List.mem_append_right _ (List.mem_append_right _ (List.mem_append_right _ (List.mem_append_left _ h0_))))), (tb_c_X7_addFour_4 w_ h0_).2⟩) (List.mem_cons_of_mem _ (List.mem_append_left _ (List.mem_of_getElem? (i := 5) rfl))) (List.mem_cons_of_mem _ (List.mem_append_left _ (List.mem_of_getElem? (i := 6) rfl))) (List.mem_cons_of_mem _ (List.mem_append_left _ (List.mem_of_getElem? (i := 7) rfl))) (List.mem_cons_of_mem _ (List.mem_append_left _ (List.mem_of_getElem? (i := 4) rfl)))) rfl rfl rfl (by decide +kernel) ⟨Nat.le_of_ble_eq_true rfl, Nat.le_of_ble_eq_true rfl⟩) ⟨fun a U g mk q => by obtain ⟨q0, q1, qP, qK, qD⟩ := q; exact ⟨q0, q1, qP, va_K.moved (u := U) (U := U.calling g mk a) (Vm.Alike.refl U.vm) qK, qD⟩, va_recv hKc hPc (ci := 7) (q0 := 0) rfl rfl, fun U hU hW => ⟨rfl, by rw [hU], by rw [hU]; exact hPc, va_K.moved hW.alike hKc, hDc.weaken (fun _ _ _ _ => trivial)⟩⟩ rfl rfl hl.1 rfl (lv_room (Nat.le_of_ble_eq_true rfl)) dX11_feed_25 ⟨Nat.le_of_ble_eq_true rfl, Nat.le_of_ble_eq_true rfl⟩) hS (fun q _ h => hFc q h) hFc (fun u t H1 locs ht hvm hw hB hz1 hk1 hS => ?_)
  obtain ⟨f_3, hP1, hK1, hD1⟩ := hB
  rw [ht] at hP1
  have hK1 := va_K.moved hvm.symm hK1
  obtain ⟨hP, hD⟩ := va_join (wr := [(h0, .inr (11, [.ref te, .ref ta, .ref re, .ref no, .ref pa, .ref ac, .ref op, .ref im, .ref ik, .ref hi, .ref rf, .int (-1)]))]) (w1 := [(ta, .inr (7, [.ref tb, .int 8])), (tb, .inl (cb, 200, .inl f_3))]) hP hD [1, 2] [0] rfl rfl (by decide) (by decide) hk1 hFc hP1 hD1
  generalize H1 = H at hP hS ⊢
  have hP : va_P (dC, dI) vwCl [(h0, .inr (11, [.ref te, .ref ta, .ref re, .ref no, .ref pa, .ref ac, .ref op, .ref im, .ref ik, .ref hi, .ref rf, .int (-1)])), (ta, .inr (7, [.ref tb, .int 8])), (tb, .inl (cb, 200, .inl f_3))] H := hP
  have hD : va_D A [(h0, .inr (11, [.ref te, .ref ta, .ref re, .ref no, .ref pa, .ref ac, .ref op, .ref im, .ref ik, .ref hi, .ref rf, .int (-1)])), (ta, .inr (7, [.ref tb, .int 8])), (tb, .inl (cb, 200, .inl f_3))] := hD
  refine W.widen (k := 0) (n := 0) (Nat.le_of_ble_eq_true rfl) (Nat.le_of_ble_eq_true rfl) ?_
  refine lv_aload_n hx hb dX11_feed_28 rfl (lv_at hl 0 rfl) ?_
  refine va_get (D := (dC, dI)) (ci := 11) (v := .ref ta) (C := RX11) (T := TX11) (N := 12) hx hb hts (fun _ h0_ => List.mem_cons_of_mem _ (List.mem_append_right _ (List.mem_append_left _ h0_))) hown hK hP 0 rfl rfl 1 (by decide) (hts (.fieldLink RX11 21 "DeadlineShare" "tape" "LDeadlineShare$Tape;") (List.mem_cons_of_mem _ (List.mem_append_left _ (List.mem_of_getElem? (i := 0) rfl)))) (fun _ h9 => h9) rfl dX11_feed_29 ?_
  refine lv_iload_n hx hb dX11_feed_32 rfl (lv_at hl 3 rfl) ?_
  have hPc := hP.sub (ws' := [(ta, .inr (7, [.ref tb, .int 8])), (tb, .inl (cb, 200, .inl f_3))]) [1, 2] rfl
  have hDc := hD.sub (ws' := [(ta, .inr (7, [.ref tb, .int 8])), (tb, .inl (cb, 200, .inl f_3))]) [1, 2] (by decide) rfl
  have hKc := hK.sub (tys' := [(cb, .byte)]) [0] rfl
  have hFc := va_free (wc := [(ta, .inr (7, [.ref tb, .int 8])), (tb, .inl (cb, 200, .inl f_3))]) hD hS hA [1, 2] rfl
  refine va_callv (va_runV (As := [.int a3]) (rest := []) ⟨hx, hb, hml, hown, hts⟩ (c_X7_addFour_8 l dC dI ta a3 tb cb f_3 H.size) (cwV 1 hts (gi_V (fun w_ h0_ => ⟨List.mem_cons_of_mem _ (List.mem_append_right _ (List.mem_append_right _ (List.mem_append_right _ (List.mem_append_right _ (List.mem_append_right _ (List.mem_append_left _ h0_)))))), (tb_c_X7_addFour_8 w_ h0_).2⟩) (List.mem_cons_of_mem _ (List.mem_append_left _ (List.mem_of_getElem? (i := 5) rfl))) (List.mem_cons_of_mem _ (List.mem_append_left _ (List.mem_of_getElem? (i := 6) rfl))) (List.mem_cons_of_mem _ (List.mem_append_left _ (List.mem_of_getElem? (i := 7) rfl))) (List.mem_cons_of_mem _ (List.mem_append_left _ (List.mem_of_getElem? (i := 4) rfl)))) rfl rfl rfl (by decide +kernel) ⟨Nat.le_of_ble_eq_true rfl, Nat.le_of_ble_eq_true rfl⟩) ⟨fun a U g mk q => by obtain ⟨q0, q1, qP, qK, qD⟩ := q; exact ⟨q0, q1, qP, va_K.moved (u := U) (U := U.calling g mk a) (Vm.Alike.refl U.vm) qK, qD⟩, va_recv hKc hPc (ci := 7) (q0 := 0) rfl rfl, fun U hU hW => ⟨rfl, by rw [hU], by rw [hU]; exact hPc, va_K.moved hW.alike hKc, hDc.weaken (fun _ _ _ _ => trivial)⟩⟩ rfl rfl hl.1 rfl (lv_room (Nat.le_of_ble_eq_true rfl)) dX11_feed_33 ⟨Nat.le_of_ble_eq_true rfl, Nat.le_of_ble_eq_true rfl⟩) hS (fun q _ h => hFc q h) hFc (fun u t H1 locs ht hvm hw hB hz1 hk1 hS => ?_)
  obtain ⟨f_4, hP1, hK1, hD1⟩ := hB
  rw [ht] at hP1
  have hK1 := va_K.moved hvm.symm hK1
  obtain ⟨hP, hD⟩ := va_join (wr := [(h0, .inr (11, [.ref te, .ref ta, .ref re, .ref no, .ref pa, .ref ac, .ref op, .ref im, .ref ik, .ref hi, .ref rf, .int (-1)]))]) (w1 := [(ta, .inr (7, [.ref tb, .int 12])), (tb, .inl (cb, 200, .inl f_4))]) hP hD [1, 2] [0] rfl rfl (by decide) (by decide) hk1 hFc hP1 hD1
  generalize H1 = H at hP hS ⊢
  have hP : va_P (dC, dI) vwCl [(h0, .inr (11, [.ref te, .ref ta, .ref re, .ref no, .ref pa, .ref ac, .ref op, .ref im, .ref ik, .ref hi, .ref rf, .int (-1)])), (ta, .inr (7, [.ref tb, .int 12])), (tb, .inl (cb, 200, .inl f_4))] H := hP
  have hD : va_D A [(h0, .inr (11, [.ref te, .ref ta, .ref re, .ref no, .ref pa, .ref ac, .ref op, .ref im, .ref ik, .ref hi, .ref rf, .int (-1)])), (ta, .inr (7, [.ref tb, .int 12])), (tb, .inl (cb, 200, .inl f_4))] := hD
  refine W.widen (k := 0) (n := 0) (Nat.le_of_ble_eq_true rfl) (Nat.le_of_ble_eq_true rfl) ?_
  refine lv_aload_n hx hb dX11_feed_36 rfl (lv_at hl 0 rfl) ?_
  refine va_get (D := (dC, dI)) (ci := 11) (v := .ref ta) (C := RX11) (T := TX11) (N := 12) hx hb hts (fun _ h0_ => List.mem_cons_of_mem _ (List.mem_append_right _ (List.mem_append_left _ h0_))) hown hK hP 0 rfl rfl 1 (by decide) (hts (.fieldLink RX11 21 "DeadlineShare" "tape" "LDeadlineShare$Tape;") (List.mem_cons_of_mem _ (List.mem_append_left _ (List.mem_of_getElem? (i := 0) rfl)))) (fun _ h9 => h9) rfl dX11_feed_37 ?_
  refine lv_iload hx hb dX11_feed_40 (lv_at hl 4 rfl) ?_
  have hPc := hP.sub (ws' := [(ta, .inr (7, [.ref tb, .int 12])), (tb, .inl (cb, 200, .inl f_4))]) [1, 2] rfl
  have hDc := hD.sub (ws' := [(ta, .inr (7, [.ref tb, .int 12])), (tb, .inl (cb, 200, .inl f_4))]) [1, 2] (by decide) rfl
  have hKc := hK.sub (tys' := [(cb, .byte)]) [0] rfl
  have hFc := va_free (wc := [(ta, .inr (7, [.ref tb, .int 12])), (tb, .inl (cb, 200, .inl f_4))]) hD hS hA [1, 2] rfl
  refine va_callv (va_runV (As := [.int a4]) (rest := []) ⟨hx, hb, hml, hown, hts⟩ (c_X7_addFour_12 l dC dI ta a4 tb cb f_4 H.size) (cwV 1 hts (gi_V (fun w_ h0_ => ⟨List.mem_cons_of_mem _ (List.mem_append_right _ (List.mem_append_right _ (List.mem_append_right _ (List.mem_append_right _ (List.mem_append_right _ (List.mem_append_right _ (List.mem_append_left _ h0_))))))), (tb_c_X7_addFour_12 w_ h0_).2⟩) (List.mem_cons_of_mem _ (List.mem_append_left _ (List.mem_of_getElem? (i := 5) rfl))) (List.mem_cons_of_mem _ (List.mem_append_left _ (List.mem_of_getElem? (i := 6) rfl))) (List.mem_cons_of_mem _ (List.mem_append_left _ (List.mem_of_getElem? (i := 7) rfl))) (List.mem_cons_of_mem _ (List.mem_append_left _ (List.mem_of_getElem? (i := 4) rfl)))) rfl rfl rfl (by decide +kernel) ⟨Nat.le_of_ble_eq_true rfl, Nat.le_of_ble_eq_true rfl⟩) ⟨fun a U g mk q => by obtain ⟨q0, q1, qP, qK, qD⟩ := q; exact ⟨q0, q1, qP, va_K.moved (u := U) (U := U.calling g mk a) (Vm.Alike.refl U.vm) qK, qD⟩, va_recv hKc hPc (ci := 7) (q0 := 0) rfl rfl, fun U hU hW => ⟨rfl, by rw [hU], by rw [hU]; exact hPc, va_K.moved hW.alike hKc, hDc.weaken (fun _ _ _ _ => trivial)⟩⟩ rfl rfl hl.1 rfl (lv_room (Nat.le_of_ble_eq_true rfl)) dX11_feed_42 ⟨Nat.le_of_ble_eq_true rfl, Nat.le_of_ble_eq_true rfl⟩) hS (fun q _ h => hFc q h) hFc (fun u t H1 locs ht hvm hw hB hz1 hk1 hS => ?_)
  obtain ⟨f_5, hP1, hK1, hD1⟩ := hB
  rw [ht] at hP1
  have hK1 := va_K.moved hvm.symm hK1
  obtain ⟨hP, hD⟩ := va_join (wr := [(h0, .inr (11, [.ref te, .ref ta, .ref re, .ref no, .ref pa, .ref ac, .ref op, .ref im, .ref ik, .ref hi, .ref rf, .int (-1)]))]) (w1 := [(ta, .inr (7, [.ref tb, .int 16])), (tb, .inl (cb, 200, .inl f_5))]) hP hD [1, 2] [0] rfl rfl (by decide) (by decide) hk1 hFc hP1 hD1
  generalize H1 = H at hP hS ⊢
  have hP : va_P (dC, dI) vwCl [(h0, .inr (11, [.ref te, .ref ta, .ref re, .ref no, .ref pa, .ref ac, .ref op, .ref im, .ref ik, .ref hi, .ref rf, .int (-1)])), (ta, .inr (7, [.ref tb, .int 16])), (tb, .inl (cb, 200, .inl f_5))] H := hP
  have hD : va_D A [(h0, .inr (11, [.ref te, .ref ta, .ref re, .ref no, .ref pa, .ref ac, .ref op, .ref im, .ref ik, .ref hi, .ref rf, .int (-1)])), (ta, .inr (7, [.ref tb, .int 16])), (tb, .inl (cb, 200, .inl f_5))] := hD
  refine W.widen (k := 0) (n := 0) (Nat.le_of_ble_eq_true rfl) (Nat.le_of_ble_eq_true rfl) ?_
  refine lv_aload_n hx hb dX11_feed_45 rfl (lv_at hl 0 rfl) ?_
  refine va_get (D := (dC, dI)) (ci := 11) (v := .ref ta) (C := RX11) (T := TX11) (N := 12) hx hb hts (fun _ h0_ => List.mem_cons_of_mem _ (List.mem_append_right _ (List.mem_append_left _ h0_))) hown hK hP 0 rfl rfl 1 (by decide) (hts (.fieldLink RX11 21 "DeadlineShare" "tape" "LDeadlineShare$Tape;") (List.mem_cons_of_mem _ (List.mem_append_left _ (List.mem_of_getElem? (i := 0) rfl)))) (fun _ h9 => h9) rfl dX11_feed_46 ?_
  refine lv_iload hx hb dX11_feed_49 (lv_at hl 5 rfl) ?_
  have hPc := hP.sub (ws' := [(ta, .inr (7, [.ref tb, .int 16])), (tb, .inl (cb, 200, .inl f_5))]) [1, 2] rfl
  have hDc := hD.sub (ws' := [(ta, .inr (7, [.ref tb, .int 16])), (tb, .inl (cb, 200, .inl f_5))]) [1, 2] (by decide) rfl
  have hKc := hK.sub (tys' := [(cb, .byte)]) [0] rfl
  have hFc := va_free (wc := [(ta, .inr (7, [.ref tb, .int 16])), (tb, .inl (cb, 200, .inl f_5))]) hD hS hA [1, 2] rfl
  refine va_callv (va_runV (As := [.int a5]) (rest := []) ⟨hx, hb, hml, hown, hts⟩ (c_X7_addFour_16 l dC dI ta a5 tb cb f_5 H.size) (cwV 1 hts (gi_V (fun w_ h0_ => ⟨List.mem_cons_of_mem _ (List.mem_append_right _ (List.mem_append_right _ (List.mem_append_right _ (List.mem_append_right _ (List.mem_append_right _ (List.mem_append_right _ (List.mem_append_right _ (List.mem_append_left _ h0_)))))))), (tb_c_X7_addFour_16 w_ h0_).2⟩) (List.mem_cons_of_mem _ (List.mem_append_left _ (List.mem_of_getElem? (i := 5) rfl))) (List.mem_cons_of_mem _ (List.mem_append_left _ (List.mem_of_getElem? (i := 6) rfl))) (List.mem_cons_of_mem _ (List.mem_append_left _ (List.mem_of_getElem? (i := 7) rfl))) (List.mem_cons_of_mem _ (List.mem_append_left _ (List.mem_of_getElem? (i := 4) rfl)))) rfl rfl rfl (by decide +kernel) ⟨Nat.le_of_ble_eq_true rfl, Nat.le_of_ble_eq_true rfl⟩) ⟨fun a U g mk q => by obtain ⟨q0, q1, qP, qK, qD⟩ := q; exact ⟨q0, q1, qP, va_K.moved (u := U) (U := U.calling g mk a) (Vm.Alike.refl U.vm) qK, qD⟩, va_recv hKc hPc (ci := 7) (q0 := 0) rfl rfl, fun U hU hW => ⟨rfl, by rw [hU], by rw [hU]; exact hPc, va_K.moved hW.alike hKc, hDc.weaken (fun _ _ _ _ => trivial)⟩⟩ rfl rfl hl.1 rfl (lv_room (Nat.le_of_ble_eq_true rfl)) dX11_feed_51 ⟨Nat.le_of_ble_eq_true rfl, Nat.le_of_ble_eq_true rfl⟩) hS (fun q _ h => hFc q h) hFc (fun u t H1 locs ht hvm hw hB hz1 hk1 hS => ?_)
  obtain ⟨f_6, hP1, hK1, hD1⟩ := hB
  rw [ht] at hP1
  have hK1 := va_K.moved hvm.symm hK1
  obtain ⟨hP, hD⟩ := va_join (wr := [(h0, .inr (11, [.ref te, .ref ta, .ref re, .ref no, .ref pa, .ref ac, .ref op, .ref im, .ref ik, .ref hi, .ref rf, .int (-1)]))]) (w1 := [(ta, .inr (7, [.ref tb, .int 20])), (tb, .inl (cb, 200, .inl f_6))]) hP hD [1, 2] [0] rfl rfl (by decide) (by decide) hk1 hFc hP1 hD1
  generalize H1 = H at hP hS ⊢
  have hP : va_P (dC, dI) vwCl [(h0, .inr (11, [.ref te, .ref ta, .ref re, .ref no, .ref pa, .ref ac, .ref op, .ref im, .ref ik, .ref hi, .ref rf, .int (-1)])), (ta, .inr (7, [.ref tb, .int 20])), (tb, .inl (cb, 200, .inl f_6))] H := hP
  have hD : va_D A [(h0, .inr (11, [.ref te, .ref ta, .ref re, .ref no, .ref pa, .ref ac, .ref op, .ref im, .ref ik, .ref hi, .ref rf, .int (-1)])), (ta, .inr (7, [.ref tb, .int 20])), (tb, .inl (cb, 200, .inl f_6))] := hD
  refine W.widen (k := 0) (n := 0) (Nat.le_of_ble_eq_true rfl) (Nat.le_of_ble_eq_true rfl) ?_
  refine lv_aload_n hx hb dX11_feed_54 rfl (lv_at hl 0 rfl) ?_
  refine va_get (D := (dC, dI)) (ci := 11) (v := .ref ta) (C := RX11) (T := TX11) (N := 12) hx hb hts (fun _ h0_ => List.mem_cons_of_mem _ (List.mem_append_right _ (List.mem_append_left _ h0_))) hown hK hP 0 rfl rfl 1 (by decide) (hts (.fieldLink RX11 21 "DeadlineShare" "tape" "LDeadlineShare$Tape;") (List.mem_cons_of_mem _ (List.mem_append_left _ (List.mem_of_getElem? (i := 0) rfl)))) (fun _ h9 => h9) rfl dX11_feed_55 ?_
  refine va_get (D := (dC, dI)) (ci := 7) (v := .int 20) (C := RX7) (T := TX7) (N := 2) hx hb hts (fun _ h0_ => List.mem_cons_of_mem _ (List.mem_append_right _ (List.mem_append_right _ (List.mem_append_right _ (List.mem_append_right _ (List.mem_append_right _ (List.mem_append_right _ (List.mem_append_right _ (List.mem_append_right _ (List.mem_append_left _ h0_)))))))))) hown hK hP 1 rfl rfl 1 (by decide) (hts (.fieldLink RX11 106 "DeadlineShare$Tape" "length" "I") (List.mem_cons_of_mem _ (List.mem_append_left _ (List.mem_of_getElem? (i := 8) rfl)))) (fun _ h9 => h9) rfl dX11_feed_58 ?_
  have hP9 := hP.sub (ws' := []) [] rfl
  have hD9 := hD.sub (ws' := []) [] (by decide) rfl
  have hK9 := hK.sub (tys' := []) [] rfl
  refine W.widen (k := 0) (n := 0) (Nat.le_of_ble_eq_true rfl) (Nat.le_of_ble_eq_true rfl) ?_
  exact W.iret (v := 20) hx hb hr (fun t ht hW => ⟨⟨20, (), rfl, rfl, by rw [ht]; exact hP9, va_K.moved hW.alike hK9, hD9⟩, hS.F ht⟩) hS.2.2 dX11_feed_61
def ow_c_X11_end : List Cond := [.fieldLink RX11 21 "DeadlineShare" "tape" "LDeadlineShare$Tape;", .fieldLink RX11 106 "DeadlineShare$Tape" "length" "I"]
def wq_c_X11_end : List Cond := .code yX11_end cX11_end 2 (some .int) :: (ow_c_X11_end ++ (u_ws RX11 TX11 12 ++ (u_ws RX7 TX7 2 ++ ([] : List Cond))))
theorem tb_c_X11_end : ∀ w ∈ wq_c_X11_end, q_g w := by
  unfold wq_c_X11_end ow_c_X11_end
  exact q_cons tw_310 (q_app (q_cons tw_109 (q_cons tw_302 q_nil)) (q_app tu_X11 (q_app tu_X7 q_nil)))
set_option maxHeartbeats 4000000 in
set_option maxRecDepth 100000 in
theorem c_X11_end (l : Launch) (dC : Nat → ClassId) (dI : Nat → Nat → Nat) (h0 : Nat) (nn_ : Int32) (te : Nat) (ta : Nat) (re : Nat) (no : Nat) (pa : Nat) (ac : Nat) (op : Nat) (im : Nat) (ik : Nat) (hi : Nat) (rf : Nat) (tb : Nat) (sz : Nat) : Met l yX11_end wq_c_X11_end ({ frames := 0, cells := 0, slots := 0, locals := 0 } : Room) (va_Pc [.ref h0, .int nn_] (fun U => U.heap.size = sz ∧ va_P (dC, dI) vwCl [(h0, .inr (11, [.ref te, .ref ta, .ref re, .ref no, .ref pa, .ref ac, .ref op, .ref im, .ref ik, .ref hi, .ref rf, .int (-1)])), (ta, .inr (7, [.ref tb, .int 0]))] U.heap ∧ va_K (dC, dI) vwCl [] U ∧ va_D (fun _ => True) [(h0, .inr (11, [.ref te, .ref ta, .ref re, .ref no, .ref pa, .ref ac, .ref op, .ref im, .ref ik, .ref hi, .ref rf, .int (-1)])), (ta, .inr (7, [.ref tb, .int 0]))])) (va_Qi (fun (r : Int32) (_ : Unit) => r = sp_end nn_) (fun (_ : Unit) t => va_P (dC, dI) vwCl [] t.heap ∧ va_K (dC, dI) vwCl [] t ∧ va_D (va_A [(h0, .inr (11, [.ref te, .ref ta, .ref re, .ref no, .ref pa, .ref ac, .ref op, .ref im, .ref ik, .ref hi, .ref rf, .int (-1)])), (ta, .inr (7, [.ref tb, .int 0]))] sz) []) (va_A [(h0, .inr (11, [.ref te, .ref ta, .ref re, .ref no, .ref pa, .ref ac, .ref op, .ref im, .ref ik, .ref hi, .ref rf, .int (-1)])), (ta, .inr (7, [.ref tb, .int 0]))] sz)) 0 0 (va_A [(h0, .inr (11, [.ref te, .ref ta, .ref re, .ref no, .ref pa, .ref ac, .ref op, .ref im, .ref ik, .ref hi, .ref rf, .int (-1)])), (ta, .inr (7, [.ref tb, .int 0]))] sz) := by
  refine Met.ofW (cc := cX11_end) (maxL := 2) (ret := (some .int)) (by decide) rfl ?_
  intro p e s m args below meth c s₁ B hml hv
  obtain ⟨rfl, hsz, hP, hK, hD0⟩ := hv
  have hx := B.exec
  have hb := B.bytes
  have hr := B.returns
  have hts := atoms_spec (ws := wq_c_X11_end) B.pre
  have hown : s.vm.findClass RX11 = some m.cls := findClass_of_methodNamed B.named
  have hlocks := B.notSynchronized
  subst hsz
  have hD := hD0.self (sz := s.heap.size)
  obtain ⟨A, hAe⟩ : ∃ A, A = va_A [(h0, .inr (11, [.ref te, .ref ta, .ref re, .ref no, .ref pa, .ref ac, .ref op, .ref im, .ref ik, .ref hi, .ref rf, .int (-1)])), (ta, .inr (7, [.ref tb, .int 0]))] s.heap.size := ⟨_, rfl⟩
  rw [← hAe] at hD ⊢
  have hA : ∀ q : Nat, s.heap.size ≤ q → A q := fun q h => by rw [hAe]; exact Or.inr h
  have hS : va_S A s.heap s.heap [] := va_S.rf
  have hP : va_P (dC, dI) vwCl [(h0, .inr (11, [.ref te, .ref ta, .ref re, .ref no, .ref pa, .ref ac, .ref op, .ref im, .ref ik, .ref hi, .ref rf, .int (-1)])), (ta, .inr (7, [.ref tb, .int 0]))] s.heap := hP
  have hl := lv_entry ([.ref h0, .int nn_]) (n := 2) (Nat.le_of_ble_eq_true rfl)
  rw [lg_entry_eq]
  generalize (lg_sl ([.ref h0, .int nn_]) ++ List.replicate (2 - (lg_sl ([.ref h0, .int nn_])).length) Slot.unset).toArray = ls at hl ⊢
  have hl : lv_has ls 2 [(0, .ref h0), (1, .int nn_)] := hl
  refine lv_iload_n hx hb dX11_end_0 rfl (lv_at hl 1 rfl) ?_
  refine lv_if_lt (tgt := 15) hx hb dX11_end_1 (by decide) (fun c_1 => ?_) (fun c_1 => ?_)
  · refine lv_iconst (v := (-1)) hx hb dX11_end_15 (by decide) ?_
    have hP9 := hP.sub (ws' := []) [] rfl
    have hD9 := hD.sub (ws' := []) [] (by decide) rfl
    have hK9 := hK.sub (tys' := []) [] rfl
    refine W.widen (k := 0) (n := 0) (Nat.le_of_ble_eq_true rfl) (Nat.le_of_ble_eq_true rfl) ?_
    exact W.iret (v := (-1)) hx hb hr (fun t ht hW => ⟨⟨(-1), (), rfl, (by have z0 := (fa_lt _ _).mp c_1; have li0 : Int32.toInt 0 = 0 := (by decide); unfold sp_end; (repeat' split) <;> first | rfl | omega | (refine Int32.toInt_inj.mp ?_; omega)), by rw [ht]; exact hP9, va_K.moved hW.alike hK9, hD9⟩, hS.F ht⟩) hS.2.2 dX11_end_16
  · refine lv_iload_n hx hb dX11_end_4 rfl (lv_at hl 1 rfl) ?_
    refine lv_aload_n hx hb dX11_end_5 rfl (lv_at hl 0 rfl) ?_
    refine va_get (D := (dC, dI)) (ci := 11) (v := .ref ta) (C := RX11) (T := TX11) (N := 12) hx hb hts (fun _ h0_ => List.mem_cons_of_mem _ (List.mem_append_right _ (List.mem_append_left _ h0_))) hown hK hP 0 rfl rfl 1 (by decide) (hts (.fieldLink RX11 21 "DeadlineShare" "tape" "LDeadlineShare$Tape;") (List.mem_cons_of_mem _ (List.mem_append_left _ (List.mem_of_getElem? (i := 0) rfl)))) (fun _ h9 => h9) rfl dX11_end_6 ?_
    refine va_get (D := (dC, dI)) (ci := 7) (v := .int 0) (C := RX7) (T := TX7) (N := 2) hx hb hts (fun _ h0_ => List.mem_cons_of_mem _ (List.mem_append_right _ (List.mem_append_right _ (List.mem_append_left _ h0_)))) hown hK hP 1 rfl rfl 1 (by decide) (hts (.fieldLink RX11 106 "DeadlineShare$Tape" "length" "I") (List.mem_cons_of_mem _ (List.mem_append_left _ (List.mem_of_getElem? (i := 1) rfl)))) (fun _ h9 => h9) rfl dX11_end_9 ?_
    refine lv_icmp_le (tgt := 17) hx hb dX11_end_12 (by decide) (fun c_2 => ?_) (fun c_2 => ?_)
    · refine lv_aload_n hx hb dX11_end_17 rfl (lv_at hl 0 rfl) ?_
      refine va_get (D := (dC, dI)) (ci := 11) (v := .ref ta) (C := RX11) (T := TX11) (N := 12) hx hb hts (fun _ h0_ => List.mem_cons_of_mem _ (List.mem_append_right _ (List.mem_append_left _ h0_))) hown hK hP 0 rfl rfl 1 (by decide) (hts (.fieldLink RX11 21 "DeadlineShare" "tape" "LDeadlineShare$Tape;") (List.mem_cons_of_mem _ (List.mem_append_left _ (List.mem_of_getElem? (i := 0) rfl)))) (fun _ h9 => h9) rfl dX11_end_18 ?_
      refine lv_iload_n hx hb dX11_end_21 rfl (lv_at hl 1 rfl) ?_
      refine va_put (D := (dC, dI)) (ci := 7) (v := .int nn_) (ty := .int) (C := RX7) (T := TX7) (N := 2) hx hb hts (fun _ h0_ => List.mem_cons_of_mem _ (List.mem_append_right _ (List.mem_append_right _ (List.mem_append_left _ h0_)))) tyX7 tyX7_ok nmX7 hown hK hP hD hS 1 rfl rfl 1 (by decide) (hts (.fieldLink RX11 106 "DeadlineShare$Tape" "length" "I") (List.mem_cons_of_mem _ (List.mem_append_left _ (List.mem_of_getElem? (i := 1) rfl)))) (fun _ h9 => h9) rfl (by decide +kernel) rfl rfl (Nat.le_of_ble_eq_true rfl) dX11_end_22 (fun H locs hP hD hS => ?_)
      have hP : va_P (dC, dI) vwCl [(h0, .inr (11, [.ref te, .ref ta, .ref re, .ref no, .ref pa, .ref ac, .ref op, .ref im, .ref ik, .ref hi, .ref rf, .int (-1)])), (ta, .inr (7, [.ref tb, .int nn_]))] H := hP
      have hD : va_D A [(h0, .inr (11, [.ref te, .ref ta, .ref re, .ref no, .ref pa, .ref ac, .ref op, .ref im, .ref ik, .ref hi, .ref rf, .int (-1)])), (ta, .inr (7, [.ref tb, .int nn_]))] := hD
      refine lv_iload_n hx hb dX11_end_25 rfl (lv_at hl 1 rfl) ?_
      have hP9 := hP.sub (ws' := []) [] rfl
      have hD9 := hD.sub (ws' := []) [] (by decide) rfl
      have hK9 := hK.sub (tys' := []) [] rfl
      refine W.widen (k := 0) (n := 0) (Nat.le_of_ble_eq_true rfl) (Nat.le_of_ble_eq_true rfl) ?_
      exact W.iret (v := nn_) hx hb hr (fun t ht hW => ⟨⟨nn_, (), rfl, (by have z0 : ¬ _ := fun h9 => c_1 ((fa_lt _ _).mpr h9); have z1 := (fa_le _ _).mp c_2; have li0 : Int32.toInt 0 = 0 := (by decide); unfold sp_end; (repeat' split) <;> first | rfl | omega | (refine Int32.toInt_inj.mp ?_; omega)), by rw [ht]; exact hP9, va_K.moved hW.alike hK9, hD9⟩, hS.F ht⟩) hS.2.2 dX11_end_26
    · refine lv_iconst (v := (-1)) hx hb dX11_end_15 (by decide) ?_
      have hP9 := hP.sub (ws' := []) [] rfl
      have hD9 := hD.sub (ws' := []) [] (by decide) rfl
      have hK9 := hK.sub (tys' := []) [] rfl
      refine W.widen (k := 0) (n := 0) (Nat.le_of_ble_eq_true rfl) (Nat.le_of_ble_eq_true rfl) ?_
      exact W.iret (v := (-1)) hx hb hr (fun t ht hW => ⟨⟨(-1), (), rfl, (by have z0 : ¬ _ := fun h9 => c_1 ((fa_lt _ _).mpr h9); have z1 : ¬ _ := fun h9 => c_2 ((fa_le _ _).mpr h9); have li0 : Int32.toInt 0 = 0 := (by decide); unfold sp_end; (repeat' split) <;> first | rfl | omega | (refine Int32.toInt_inj.mp ?_; omega)), by rw [ht]; exact hP9, va_K.moved hW.alike hK9, hD9⟩, hS.F ht⟩) hS.2.2 dX11_end_16
def ow_c_X11_tape : List Cond := [.fieldLink RX11 21 "DeadlineShare" "tape" "LDeadlineShare$Tape;", .methodLink RX11 109 yX7_byteAt, .instanceMethod yX7_byteAt, .selects RX7 yX7_byteAt yX7_byteAt, .initialized RX7]
def wq_c_X11_tape : List Cond := .code yX11_tape cX11_tape 2 (some .int) :: (ow_c_X11_tape ++ (u_ws RX11 TX11 12 ++ (wq_c_X7_byteAt ++ ([] : List Cond))))
theorem tb_c_X11_tape : ∀ w ∈ wq_c_X11_tape, q_g w := by
  unfold wq_c_X11_tape ow_c_X11_tape
  exact q_cons tw_314 (q_app (q_cons tw_109 (q_cons tw_313 (q_cons tw_312 (q_cons tw_311 (q_cons tw_111 q_nil))))) (q_app tu_X11 (q_app tb_c_X7_byteAt q_nil)))
set_option maxHeartbeats 4000000 in
set_option maxRecDepth 100000 in
theorem c_X11_tape (l : Launch) (dC : Nat → ClassId) (dI : Nat → Nat → Nat) (h0 : Nat) (ix : Int32) (te : Nat) (ta : Nat) (re : Nat) (no : Nat) (pa : Nat) (ac : Nat) (op : Nat) (im : Nat) (ik : Nat) (hi : Nat) (rf : Nat) (tb : Nat) (sz : Nat) : Met l yX11_tape wq_c_X11_tape ({ frames := 1, cells := 0, slots := 0, locals := 21 } : Room) (va_Pc [.ref h0, .int ix] (fun U => U.heap.size = sz ∧ va_P (dC, dI) vwCl [(h0, .inr (11, [.ref te, .ref ta, .ref re, .ref no, .ref pa, .ref ac, .ref op, .ref im, .ref ik, .ref hi, .ref rf, .int (-1)])), (ta, .inr (7, [.ref tb, .int 0]))] U.heap ∧ va_K (dC, dI) vwCl [] U ∧ va_D (fun _ => True) [(h0, .inr (11, [.ref te, .ref ta, .ref re, .ref no, .ref pa, .ref ac, .ref op, .ref im, .ref ik, .ref hi, .ref rf, .int (-1)])), (ta, .inr (7, [.ref tb, .int 0]))])) (va_Qi (fun (r : Int32) (_ : Unit) => r = (-1)) (fun (_ : Unit) t => va_P (dC, dI) vwCl [] t.heap ∧ va_K (dC, dI) vwCl [] t ∧ va_D (va_A [(h0, .inr (11, [.ref te, .ref ta, .ref re, .ref no, .ref pa, .ref ac, .ref op, .ref im, .ref ik, .ref hi, .ref rf, .int (-1)])), (ta, .inr (7, [.ref tb, .int 0]))] sz) []) (va_A [(h0, .inr (11, [.ref te, .ref ta, .ref re, .ref no, .ref pa, .ref ac, .ref op, .ref im, .ref ik, .ref hi, .ref rf, .int (-1)])), (ta, .inr (7, [.ref tb, .int 0]))] sz)) 0 0 (va_A [(h0, .inr (11, [.ref te, .ref ta, .ref re, .ref no, .ref pa, .ref ac, .ref op, .ref im, .ref ik, .ref hi, .ref rf, .int (-1)])), (ta, .inr (7, [.ref tb, .int 0]))] sz) := by
  refine Met.ofW (cc := cX11_tape) (maxL := 2) (ret := (some .int)) (by decide) rfl ?_
  intro p e s m args below meth c s₁ B hml hv
  obtain ⟨rfl, hsz, hP, hK, hD0⟩ := hv
  have hx := B.exec
  have hb := B.bytes
  have hr := B.returns
  have hts := atoms_spec (ws := wq_c_X11_tape) B.pre
  have hown : s.vm.findClass RX11 = some m.cls := findClass_of_methodNamed B.named
  have hlocks := B.notSynchronized
  subst hsz
  have hD := hD0.self (sz := s.heap.size)
  obtain ⟨A, hAe⟩ : ∃ A, A = va_A [(h0, .inr (11, [.ref te, .ref ta, .ref re, .ref no, .ref pa, .ref ac, .ref op, .ref im, .ref ik, .ref hi, .ref rf, .int (-1)])), (ta, .inr (7, [.ref tb, .int 0]))] s.heap.size := ⟨_, rfl⟩
  rw [← hAe] at hD ⊢
  have hA : ∀ q : Nat, s.heap.size ≤ q → A q := fun q h => by rw [hAe]; exact Or.inr h
  have hS : va_S A s.heap s.heap [] := va_S.rf
  have hP : va_P (dC, dI) vwCl [(h0, .inr (11, [.ref te, .ref ta, .ref re, .ref no, .ref pa, .ref ac, .ref op, .ref im, .ref ik, .ref hi, .ref rf, .int (-1)])), (ta, .inr (7, [.ref tb, .int 0]))] s.heap := hP
  have hl := lv_entry ([.ref h0, .int ix]) (n := 2) (Nat.le_of_ble_eq_true rfl)
  rw [lg_entry_eq]
  generalize (lg_sl ([.ref h0, .int ix]) ++ List.replicate (2 - (lg_sl ([.ref h0, .int ix])).length) Slot.unset).toArray = ls at hl ⊢
  have hl : lv_has ls 2 [(0, .ref h0), (1, .int ix)] := hl
  refine lv_aload_n hx hb dX11_tape_0 rfl (lv_at hl 0 rfl) ?_
  refine va_get (D := (dC, dI)) (ci := 11) (v := .ref ta) (C := RX11) (T := TX11) (N := 12) hx hb hts (fun _ h0_ => List.mem_cons_of_mem _ (List.mem_append_right _ (List.mem_append_left _ h0_))) hown hK hP 0 rfl rfl 1 (by decide) (hts (.fieldLink RX11 21 "DeadlineShare" "tape" "LDeadlineShare$Tape;") (List.mem_cons_of_mem _ (List.mem_append_left _ (List.mem_of_getElem? (i := 0) rfl)))) (fun _ h9 => h9) rfl dX11_tape_1 ?_
  refine lv_iload_n hx hb dX11_tape_4 rfl (lv_at hl 1 rfl) ?_
  have hPc := hP.sub (ws' := [(ta, .inr (7, [.ref tb, .int 0]))]) [1] rfl
  have hDc := hD.sub (ws' := [(ta, .inr (7, [.ref tb, .int 0]))]) [1] (by decide) rfl
  have hKc := hK.sub (tys' := []) [] rfl
  have hFc := va_free (wc := [(ta, .inr (7, [.ref tb, .int 0]))]) hD hS hA [1] rfl
  refine va_calli (va_runV (As := [.int ix]) (rest := []) ⟨hx, hb, hml, hown, hts⟩ (c_X7_byteAt l dC dI ta ix tb s.heap.size) (cwV 1 hts (gi_V (fun w_ h0_ => ⟨List.mem_cons_of_mem _ (List.mem_append_right _ (List.mem_append_right _ (List.mem_append_left _ h0_))), (tb_c_X7_byteAt w_ h0_).2⟩) (List.mem_cons_of_mem _ (List.mem_append_left _ (List.mem_of_getElem? (i := 1) rfl))) (List.mem_cons_of_mem _ (List.mem_append_left _ (List.mem_of_getElem? (i := 2) rfl))) (List.mem_cons_of_mem _ (List.mem_append_left _ (List.mem_of_getElem? (i := 3) rfl))) (List.mem_cons_of_mem _ (List.mem_append_left _ (List.mem_of_getElem? (i := 4) rfl)))) rfl rfl rfl (by decide +kernel) ⟨Nat.le_of_ble_eq_true rfl, Nat.le_of_ble_eq_true rfl⟩) ⟨fun a U g mk q => by obtain ⟨q0, q1, qP, qK, qD⟩ := q; exact ⟨q0, q1, qP, va_K.moved (u := U) (U := U.calling g mk a) (Vm.Alike.refl U.vm) qK, qD⟩, va_recv hKc hPc (ci := 7) (q0 := 0) rfl rfl, fun U hU hW => ⟨rfl, by rw [hU], by rw [hU]; exact hPc, va_K.moved hW.alike hKc, hDc.weaken (fun _ _ _ _ => trivial)⟩⟩ rfl rfl hl.1 rfl (lv_room (Nat.le_of_ble_eq_true rfl)) dX11_tape_5 ⟨Nat.le_of_ble_eq_true rfl, Nat.le_of_ble_eq_true rfl⟩) hS (fun q _ h => hFc q h) hFc (fun r_1 u t H1 locs ht hvm hw hB hz1 hk1 hS => ?_)
  obtain ⟨hP1, hK1, hD1⟩ := hB
  rw [ht] at hP1
  have hK1 := va_K.moved hvm.symm hK1
  obtain ⟨hP, hD⟩ := va_join (wr := [(h0, .inr (11, [.ref te, .ref ta, .ref re, .ref no, .ref pa, .ref ac, .ref op, .ref im, .ref ik, .ref hi, .ref rf, .int (-1)]))]) (w1 := [(ta, .inr (7, [.ref tb, .int 0]))]) hP hD [1] [0] rfl rfl (by decide) (by decide) hk1 hFc hP1 hD1
  generalize H1 = H at hP hS ⊢
  have hP : va_P (dC, dI) vwCl [(h0, .inr (11, [.ref te, .ref ta, .ref re, .ref no, .ref pa, .ref ac, .ref op, .ref im, .ref ik, .ref hi, .ref rf, .int (-1)])), (ta, .inr (7, [.ref tb, .int 0]))] H := hP
  have hD : va_D A [(h0, .inr (11, [.ref te, .ref ta, .ref re, .ref no, .ref pa, .ref ac, .ref op, .ref im, .ref ik, .ref hi, .ref rf, .int (-1)])), (ta, .inr (7, [.ref tb, .int 0]))] := hD
  refine W.widen (k := 0) (n := 0) (Nat.le_of_ble_eq_true rfl) (Nat.le_of_ble_eq_true rfl) ?_
  have hw : r_1 = (-1) := hw
  subst hw
  have hP9 := hP.sub (ws' := []) [] rfl
  have hD9 := hD.sub (ws' := []) [] (by decide) rfl
  have hK9 := hK.sub (tys' := []) [] rfl
  refine W.widen (k := 0) (n := 0) (Nat.le_of_ble_eq_true rfl) (Nat.le_of_ble_eq_true rfl) ?_
  exact W.iret (v := (-1)) hx hb hr (fun t ht hW => ⟨⟨(-1), (), rfl, rfl, by rw [ht]; exact hP9, va_K.moved hW.alike hK9, hD9⟩, hS.F ht⟩) hS.2.2 dX11_tape_8
