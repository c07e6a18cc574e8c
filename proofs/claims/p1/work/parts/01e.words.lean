def q_g (w : Cond) : Prop := w ∈ lw_tbl ∧ ((w.onTables && w.keeps) = true ∨ ∃ ty, w = .arrayClass ty)
theorem q_nil : ∀ w ∈ ([] : List Cond), q_g w := fun _ h => absurd h List.not_mem_nil
theorem q_cons {c : Cond} {a : List Cond} (hc : q_g c) (ha : ∀ w ∈ a, q_g w) : ∀ w ∈ c :: a, q_g w := fun w h => (List.mem_cons.mp h).elim (fun e => by rw [e]; exact hc) (ha w)
theorem q_app {a b : List Cond} (ha : ∀ w ∈ a, q_g w) (hb : ∀ w ∈ b, q_g w) : ∀ w ∈ a ++ b, q_g w := fun w h => (List.mem_append.mp h).elim (ha w) (hb w)
theorem gi_V {big : List Cond} {own : String} {idx : Nat} {C : String} {y : MethodName} {ws : List Cond} (h : GoodIn big ws) (h1 : .methodLink own idx y ∈ big) (h2 : .instanceMethod y ∈ big) (h3 : .selects C y y ∈ big) (h4 : .initialized C ∈ big) : GoodIn big (wsV own idx C y ws) := by
  intro w hw
  unfold wsV at hw
  rcases List.mem_append.mp hw with q | q
  · simp only [List.mem_cons, List.not_mem_nil, or_false] at q
    rcases q with rfl | rfl | rfl | rfl
    · exact ⟨h1, good_of_word (by rfl)⟩
    · exact ⟨h2, good_of_word (by rfl)⟩
    · exact ⟨h3, good_of_word (by rfl)⟩
    · exact ⟨h4, good_of_word (by rfl)⟩
  · exact h w q
theorem gi_S {big : List Cond} {own : String} {idx : Nat} {y : MethodName} {ws : List Cond} (h : GoodIn big ws) (h1 : .methodLink own idx y ∈ big) (h2 : .static y ∈ big) (h3 : .initialized y.cls ∈ big) : GoodIn big (va_wsS own idx y ws) := by
  intro w hw
  unfold va_wsS at hw
  rcases List.mem_append.mp hw with q | q
  · simp only [List.mem_cons, List.not_mem_nil, or_false] at q
    rcases q with rfl | rfl | rfl
    · exact ⟨h1, good_of_word (by rfl)⟩
    · exact ⟨h2, good_of_word (by rfl)⟩
    · exact ⟨h3, good_of_word (by rfl)⟩
  · exact h w q

theorem tu_X4 : ∀ w ∈ u_ws RX4 TX4 2, q_g w := by
  intro w h
  unfold u_ws at h
  obtain ⟨j, hj, rfl⟩ := List.mem_map.mp h
  have hj := List.mem_range.mp hj
  match j, hj with
  | 0, _ => exact ⟨(List.mem_append_right _ (List.mem_of_getElem? (i := 315) (by decide +kernel))), good_of_word (by decide +kernel)⟩
  | 1, _ => exact ⟨(List.mem_append_right _ (List.mem_of_getElem? (i := 317) (by decide +kernel))), good_of_word (by decide +kernel)⟩
  | (j9 + 2), h9 => exact absurd h9 (by omega)
theorem tu_X9 : ∀ w ∈ u_ws RX9 TX9 3, q_g w := by
  intro w h
  unfold u_ws at h
  obtain ⟨j, hj, rfl⟩ := List.mem_map.mp h
  have hj := List.mem_range.mp hj
  match j, hj with
  | 0, _ => exact ⟨(List.mem_append_right _ (List.mem_of_getElem? (i := 43) (by decide +kernel))), good_of_word (by decide +kernel)⟩
  | 1, _ => exact ⟨(List.mem_append_right _ (List.mem_of_getElem? (i := 45) (by decide +kernel))), good_of_word (by decide +kernel)⟩
  | 2, _ => exact ⟨(List.mem_append_right _ (List.mem_of_getElem? (i := 47) (by decide +kernel))), good_of_word (by decide +kernel)⟩
  | (j9 + 3), h9 => exact absurd h9 (by omega)
theorem tu_X7 : ∀ w ∈ u_ws RX7 TX7 2, q_g w := by
  intro w h
  unfold u_ws at h
  obtain ⟨j, hj, rfl⟩ := List.mem_map.mp h
  have hj := List.mem_range.mp hj
  match j, hj with
  | 0, _ => exact ⟨(List.mem_append_right _ (List.mem_of_getElem? (i := 60) (by decide +kernel))), good_of_word (by decide +kernel)⟩
  | 1, _ => exact ⟨(List.mem_append_right _ (List.mem_of_getElem? (i := 62) (by decide +kernel))), good_of_word (by decide +kernel)⟩
  | (j9 + 2), h9 => exact absurd h9 (by omega)
theorem tu_X5 : ∀ w ∈ u_ws RX5 TX5 5, q_g w := by
  intro w h
  unfold u_ws at h
  obtain ⟨j, hj, rfl⟩ := List.mem_map.mp h
  have hj := List.mem_range.mp hj
  match j, hj with
  | 0, _ => exact ⟨(List.mem_append_right _ (List.mem_of_getElem? (i := 88) (by decide +kernel))), good_of_word (by decide +kernel)⟩
  | 1, _ => exact ⟨(List.mem_append_right _ (List.mem_of_getElem? (i := 90) (by decide +kernel))), good_of_word (by decide +kernel)⟩
  | 2, _ => exact ⟨(List.mem_append_right _ (List.mem_of_getElem? (i := 92) (by decide +kernel))), good_of_word (by decide +kernel)⟩
  | 3, _ => exact ⟨(List.mem_append_right _ (List.mem_of_getElem? (i := 94) (by decide +kernel))), good_of_word (by decide +kernel)⟩
  | 4, _ => exact ⟨(List.mem_append_right _ (List.mem_of_getElem? (i := 96) (by decide +kernel))), good_of_word (by decide +kernel)⟩
  | (j9 + 5), h9 => exact absurd h9 (by omega)
theorem tu_X2 : ∀ w ∈ u_ws RX2 TX2 1, q_g w := by
  intro w h
  unfold u_ws at h
  obtain ⟨j, hj, rfl⟩ := List.mem_map.mp h
  have hj := List.mem_range.mp hj
  match j, hj with
  | 0, _ => exact ⟨(List.mem_append_right _ (List.mem_of_getElem? (i := 123) (by decide +kernel))), good_of_word (by decide +kernel)⟩
  | (j9 + 1), h9 => exact absurd h9 (by omega)
theorem tu_X0 : ∀ w ∈ u_ws RX0 TX0 3, q_g w := by
  intro w h
  unfold u_ws at h
  obtain ⟨j, hj, rfl⟩ := List.mem_map.mp h
  have hj := List.mem_range.mp hj
  match j, hj with
  | 0, _ => exact ⟨(List.mem_append_right _ (List.mem_of_getElem? (i := 275) (by decide +kernel))), good_of_word (by decide +kernel)⟩
  | 1, _ => exact ⟨(List.mem_append_right _ (List.mem_of_getElem? (i := 277) (by decide +kernel))), good_of_word (by decide +kernel)⟩
  | 2, _ => exact ⟨(List.mem_append_right _ (List.mem_of_getElem? (i := 279) (by decide +kernel))), good_of_word (by decide +kernel)⟩
  | (j9 + 3), h9 => exact absurd h9 (by omega)
theorem tu_X3 : ∀ w ∈ u_ws RX3 TX3 2, q_g w := by
  intro w h
  unfold u_ws at h
  obtain ⟨j, hj, rfl⟩ := List.mem_map.mp h
  have hj := List.mem_range.mp hj
  match j, hj with
  | 0, _ => exact ⟨(List.mem_append_right _ (List.mem_of_getElem? (i := 103) (by decide +kernel))), good_of_word (by decide +kernel)⟩
  | 1, _ => exact ⟨(List.mem_append_right _ (List.mem_of_getElem? (i := 105) (by decide +kernel))), good_of_word (by decide +kernel)⟩
  | (j9 + 2), h9 => exact absurd h9 (by omega)
theorem tu_X10 : ∀ w ∈ u_ws RX10 TX10 2, q_g w := by
  intro w h
  unfold u_ws at h
  obtain ⟨j, hj, rfl⟩ := List.mem_map.mp h
  have hj := List.mem_range.mp hj
  match j, hj with
  | 0, _ => exact ⟨(List.mem_append_right _ (List.mem_of_getElem? (i := 135) (by decide +kernel))), good_of_word (by decide +kernel)⟩
  | 1, _ => exact ⟨(List.mem_append_right _ (List.mem_of_getElem? (i := 137) (by decide +kernel))), good_of_word (by decide +kernel)⟩
  | (j9 + 2), h9 => exact absurd h9 (by omega)
theorem tu_X8 : ∀ w ∈ u_ws RX8 TX8 18, q_g w := by
  intro w h
  unfold u_ws at h
  obtain ⟨j, hj, rfl⟩ := List.mem_map.mp h
  have hj := List.mem_range.mp hj
  match j, hj with
  | 0, _ => exact ⟨(List.mem_append_right _ (List.mem_of_getElem? (i := 192) (by decide +kernel))), good_of_word (by decide +kernel)⟩
  | 1, _ => exact ⟨(List.mem_append_right _ (List.mem_of_getElem? (i := 194) (by decide +kernel))), good_of_word (by decide +kernel)⟩
  | 2, _ => exact ⟨(List.mem_append_right _ (List.mem_of_getElem? (i := 196) (by decide +kernel))), good_of_word (by decide +kernel)⟩
  | 3, _ => exact ⟨(List.mem_append_right _ (List.mem_of_getElem? (i := 198) (by decide +kernel))), good_of_word (by decide +kernel)⟩
  | 4, _ => exact ⟨(List.mem_append_right _ (List.mem_of_getElem? (i := 200) (by decide +kernel))), good_of_word (by decide +kernel)⟩
  | 5, _ => exact ⟨(List.mem_append_right _ (List.mem_of_getElem? (i := 202) (by decide +kernel))), good_of_word (by decide +kernel)⟩
  | 6, _ => exact ⟨(List.mem_append_right _ (List.mem_of_getElem? (i := 204) (by decide +kernel))), good_of_word (by decide +kernel)⟩
  | 7, _ => exact ⟨(List.mem_append_right _ (List.mem_of_getElem? (i := 206) (by decide +kernel))), good_of_word (by decide +kernel)⟩
  | 8, _ => exact ⟨(List.mem_append_right _ (List.mem_of_getElem? (i := 208) (by decide +kernel))), good_of_word (by decide +kernel)⟩
  | 9, _ => exact ⟨(List.mem_append_right _ (List.mem_of_getElem? (i := 210) (by decide +kernel))), good_of_word (by decide +kernel)⟩
  | 10, _ => exact ⟨(List.mem_append_right _ (List.mem_of_getElem? (i := 212) (by decide +kernel))), good_of_word (by decide +kernel)⟩
  | 11, _ => exact ⟨(List.mem_append_right _ (List.mem_of_getElem? (i := 214) (by decide +kernel))), good_of_word (by decide +kernel)⟩
  | 12, _ => exact ⟨(List.mem_append_right _ (List.mem_of_getElem? (i := 216) (by decide +kernel))), good_of_word (by decide +kernel)⟩
  | 13, _ => exact ⟨(List.mem_append_right _ (List.mem_of_getElem? (i := 218) (by decide +kernel))), good_of_word (by decide +kernel)⟩
  | 14, _ => exact ⟨(List.mem_append_right _ (List.mem_of_getElem? (i := 220) (by decide +kernel))), good_of_word (by decide +kernel)⟩
  | 15, _ => exact ⟨(List.mem_append_right _ (List.mem_of_getElem? (i := 222) (by decide +kernel))), good_of_word (by decide +kernel)⟩
  | 16, _ => exact ⟨(List.mem_append_right _ (List.mem_of_getElem? (i := 224) (by decide +kernel))), good_of_word (by decide +kernel)⟩
  | 17, _ => exact ⟨(List.mem_append_right _ (List.mem_of_getElem? (i := 226) (by decide +kernel))), good_of_word (by decide +kernel)⟩
  | (j9 + 18), h9 => exact absurd h9 (by omega)
theorem tu_X6 : ∀ w ∈ u_ws RX6 TX6 10, q_g w := by
  intro w h
  unfold u_ws at h
  obtain ⟨j, hj, rfl⟩ := List.mem_map.mp h
  have hj := List.mem_range.mp hj
  match j, hj with
  | 0, _ => exact ⟨(List.mem_append_right _ (List.mem_of_getElem? (i := 245) (by decide +kernel))), good_of_word (by decide +kernel)⟩
  | 1, _ => exact ⟨(List.mem_append_right _ (List.mem_of_getElem? (i := 247) (by decide +kernel))), good_of_word (by decide +kernel)⟩
  | 2, _ => exact ⟨(List.mem_append_right _ (List.mem_of_getElem? (i := 249) (by decide +kernel))), good_of_word (by decide +kernel)⟩
  | 3, _ => exact ⟨(List.mem_append_right _ (List.mem_of_getElem? (i := 251) (by decide +kernel))), good_of_word (by decide +kernel)⟩
  | 4, _ => exact ⟨(List.mem_append_right _ (List.mem_of_getElem? (i := 253) (by decide +kernel))), good_of_word (by decide +kernel)⟩
  | 5, _ => exact ⟨(List.mem_append_right _ (List.mem_of_getElem? (i := 255) (by decide +kernel))), good_of_word (by decide +kernel)⟩
  | 6, _ => exact ⟨(List.mem_append_right _ (List.mem_of_getElem? (i := 257) (by decide +kernel))), good_of_word (by decide +kernel)⟩
  | 7, _ => exact ⟨(List.mem_append_right _ (List.mem_of_getElem? (i := 259) (by decide +kernel))), good_of_word (by decide +kernel)⟩
  | 8, _ => exact ⟨(List.mem_append_right _ (List.mem_of_getElem? (i := 261) (by decide +kernel))), good_of_word (by decide +kernel)⟩
  | 9, _ => exact ⟨(List.mem_append_right _ (List.mem_of_getElem? (i := 263) (by decide +kernel))), good_of_word (by decide +kernel)⟩
  | (j9 + 10), h9 => exact absurd h9 (by omega)
theorem tu_X1 : ∀ w ∈ u_ws RX1 TX1 4, q_g w := by
  intro w h
  unfold u_ws at h
  obtain ⟨j, hj, rfl⟩ := List.mem_map.mp h
  have hj := List.mem_range.mp hj
  match j, hj with
  | 0, _ => exact ⟨(List.mem_append_right _ (List.mem_of_getElem? (i := 296) (by decide +kernel))), good_of_word (by decide +kernel)⟩
  | 1, _ => exact ⟨(List.mem_append_right _ (List.mem_of_getElem? (i := 298) (by decide +kernel))), good_of_word (by decide +kernel)⟩
  | 2, _ => exact ⟨(List.mem_append_right _ (List.mem_of_getElem? (i := 300) (by decide +kernel))), good_of_word (by decide +kernel)⟩
  | 3, _ => exact ⟨(List.mem_append_right _ (List.mem_of_getElem? (i := 302) (by decide +kernel))), good_of_word (by decide +kernel)⟩
  | (j9 + 4), h9 => exact absurd h9 (by omega)
theorem tu_X11 : ∀ w ∈ u_ws RX11 TX11 12, q_g w := by
  intro w h
  unfold u_ws at h
  obtain ⟨j, hj, rfl⟩ := List.mem_map.mp h
  have hj := List.mem_range.mp hj
  match j, hj with
  | 0, _ => exact ⟨(List.mem_append_right _ (List.mem_of_getElem? (i := 332) (by decide +kernel))), good_of_word (by decide +kernel)⟩
  | 1, _ => exact ⟨(List.mem_append_right _ (List.mem_of_getElem? (i := 334) (by decide +kernel))), good_of_word (by decide +kernel)⟩
  | 2, _ => exact ⟨(List.mem_append_right _ (List.mem_of_getElem? (i := 336) (by decide +kernel))), good_of_word (by decide +kernel)⟩
  | 3, _ => exact ⟨(List.mem_append_right _ (List.mem_of_getElem? (i := 338) (by decide +kernel))), good_of_word (by decide +kernel)⟩
  | 4, _ => exact ⟨(List.mem_append_right _ (List.mem_of_getElem? (i := 340) (by decide +kernel))), good_of_word (by decide +kernel)⟩
  | 5, _ => exact ⟨(List.mem_append_right _ (List.mem_of_getElem? (i := 342) (by decide +kernel))), good_of_word (by decide +kernel)⟩
  | 6, _ => exact ⟨(List.mem_append_right _ (List.mem_of_getElem? (i := 344) (by decide +kernel))), good_of_word (by decide +kernel)⟩
  | 7, _ => exact ⟨(List.mem_append_right _ (List.mem_of_getElem? (i := 346) (by decide +kernel))), good_of_word (by decide +kernel)⟩
  | 8, _ => exact ⟨(List.mem_append_right _ (List.mem_of_getElem? (i := 348) (by decide +kernel))), good_of_word (by decide +kernel)⟩
  | 9, _ => exact ⟨(List.mem_append_right _ (List.mem_of_getElem? (i := 350) (by decide +kernel))), good_of_word (by decide +kernel)⟩
  | 10, _ => exact ⟨(List.mem_append_right _ (List.mem_of_getElem? (i := 352) (by decide +kernel))), good_of_word (by decide +kernel)⟩
  | 11, _ => exact ⟨(List.mem_append_right _ (List.mem_of_getElem? (i := 354) (by decide +kernel))), good_of_word (by decide +kernel)⟩
  | (j9 + 12), h9 => exact absurd h9 (by omega)
theorem tu_X12 : ∀ w ∈ u_ws RX12 TX12 27, q_g w := by
  intro w h
  unfold u_ws at h
  obtain ⟨j, hj, rfl⟩ := List.mem_map.mp h
  have hj := List.mem_range.mp hj
  match j, hj with
  | 0, _ => exact ⟨(List.mem_append_right _ (List.mem_of_getElem? (i := 1124) (by decide +kernel))), good_of_word (by decide +kernel)⟩
  | 1, _ => exact ⟨(List.mem_append_right _ (List.mem_of_getElem? (i := 1126) (by decide +kernel))), good_of_word (by decide +kernel)⟩
  | 2, _ => exact ⟨(List.mem_append_right _ (List.mem_of_getElem? (i := 1128) (by decide +kernel))), good_of_word (by decide +kernel)⟩
  | 3, _ => exact ⟨(List.mem_append_right _ (List.mem_of_getElem? (i := 1130) (by decide +kernel))), good_of_word (by decide +kernel)⟩
  | 4, _ => exact ⟨(List.mem_append_right _ (List.mem_of_getElem? (i := 1132) (by decide +kernel))), good_of_word (by decide +kernel)⟩
  | 5, _ => exact ⟨(List.mem_append_right _ (List.mem_of_getElem? (i := 1134) (by decide +kernel))), good_of_word (by decide +kernel)⟩
  | 6, _ => exact ⟨(List.mem_append_right _ (List.mem_of_getElem? (i := 1136) (by decide +kernel))), good_of_word (by decide +kernel)⟩
  | 7, _ => exact ⟨(List.mem_append_right _ (List.mem_of_getElem? (i := 1138) (by decide +kernel))), good_of_word (by decide +kernel)⟩
  | 8, _ => exact ⟨(List.mem_append_right _ (List.mem_of_getElem? (i := 1140) (by decide +kernel))), good_of_word (by decide +kernel)⟩
  | 9, _ => exact ⟨(List.mem_append_right _ (List.mem_of_getElem? (i := 1142) (by decide +kernel))), good_of_word (by decide +kernel)⟩
  | 10, _ => exact ⟨(List.mem_append_right _ (List.mem_of_getElem? (i := 1144) (by decide +kernel))), good_of_word (by decide +kernel)⟩
  | 11, _ => exact ⟨(List.mem_append_right _ (List.mem_of_getElem? (i := 1146) (by decide +kernel))), good_of_word (by decide +kernel)⟩
  | 12, _ => exact ⟨(List.mem_append_right _ (List.mem_of_getElem? (i := 1148) (by decide +kernel))), good_of_word (by decide +kernel)⟩
  | 13, _ => exact ⟨(List.mem_append_right _ (List.mem_of_getElem? (i := 1150) (by decide +kernel))), good_of_word (by decide +kernel)⟩
  | 14, _ => exact ⟨(List.mem_append_right _ (List.mem_of_getElem? (i := 1152) (by decide +kernel))), good_of_word (by decide +kernel)⟩
  | 15, _ => exact ⟨(List.mem_append_right _ (List.mem_of_getElem? (i := 1154) (by decide +kernel))), good_of_word (by decide +kernel)⟩
  | 16, _ => exact ⟨(List.mem_append_right _ (List.mem_of_getElem? (i := 1156) (by decide +kernel))), good_of_word (by decide +kernel)⟩
  | 17, _ => exact ⟨(List.mem_append_right _ (List.mem_of_getElem? (i := 1158) (by decide +kernel))), good_of_word (by decide +kernel)⟩
  | 18, _ => exact ⟨(List.mem_append_right _ (List.mem_of_getElem? (i := 1160) (by decide +kernel))), good_of_word (by decide +kernel)⟩
  | 19, _ => exact ⟨(List.mem_append_right _ (List.mem_of_getElem? (i := 1162) (by decide +kernel))), good_of_word (by decide +kernel)⟩
  | 20, _ => exact ⟨(List.mem_append_right _ (List.mem_of_getElem? (i := 1164) (by decide +kernel))), good_of_word (by decide +kernel)⟩
  | 21, _ => exact ⟨(List.mem_append_right _ (List.mem_of_getElem? (i := 1166) (by decide +kernel))), good_of_word (by decide +kernel)⟩
  | 22, _ => exact ⟨(List.mem_append_right _ (List.mem_of_getElem? (i := 1168) (by decide +kernel))), good_of_word (by decide +kernel)⟩
  | 23, _ => exact ⟨(List.mem_append_right _ (List.mem_of_getElem? (i := 1170) (by decide +kernel))), good_of_word (by decide +kernel)⟩
  | 24, _ => exact ⟨(List.mem_append_right _ (List.mem_of_getElem? (i := 1172) (by decide +kernel))), good_of_word (by decide +kernel)⟩
  | 25, _ => exact ⟨(List.mem_append_right _ (List.mem_of_getElem? (i := 1174) (by decide +kernel))), good_of_word (by decide +kernel)⟩
  | 26, _ => exact ⟨(List.mem_append_right _ (List.mem_of_getElem? (i := 1176) (by decide +kernel))), good_of_word (by decide +kernel)⟩
  | (j9 + 27), h9 => exact absurd h9 (by omega)
theorem tw_0 : q_g (.code yX4_placeOf cX4_placeOf 1 (some .int)) := ⟨(List.mem_append_right _ (List.mem_of_getElem? (i := 372) (by decide +kernel))), good_of_word (by decide +kernel)⟩
theorem tw_1 : q_g (.initialized RX4) := ⟨(List.mem_append_right _ (List.mem_of_getElem? (i := 12) (by decide +kernel))), good_of_word (by decide +kernel)⟩
theorem tw_2 : q_g (.static yX4_placeOf) := ⟨(List.mem_append_right _ (List.mem_of_getElem? (i := 371) (by decide +kernel))), good_of_word (by decide +kernel)⟩
theorem tw_3 : q_g (.methodLink RX4 19 yX4_placeOf) := ⟨(List.mem_append_right _ (List.mem_of_getElem? (i := 370) (by decide +kernel))), good_of_word (by decide +kernel)⟩
theorem tw_4 : q_g (.fieldLink RX4 9 "DeadlineShare$Refusals" "counts" "[I") := ⟨(List.mem_append_right _ (List.mem_of_getElem? (i := 312) (by decide +kernel))), good_of_word (by decide +kernel)⟩
theorem tw_5 : q_g (.fieldLink RX4 15 "DeadlineShare$Refusals" "latest" "I") := ⟨(List.mem_append_right _ (List.mem_of_getElem? (i := 313) (by decide +kernel))), good_of_word (by decide +kernel)⟩
theorem tw_6 : q_g (.code yX4_add cX4_add 2 (some .int)) := ⟨(List.mem_append_right _ (List.mem_of_getElem? (i := 369) (by decide +kernel))), good_of_word (by decide +kernel)⟩
theorem tw_7 : q_g (.code yX4_none cX4_none 2 (some .int)) := ⟨(List.mem_append_right _ (List.mem_of_getElem? (i := 384) (by decide +kernel))), good_of_word (by decide +kernel)⟩
theorem tw_8 : q_g (.code yX4_countOf cX4_countOf 2 (some .int)) := ⟨(List.mem_append_right _ (List.mem_of_getElem? (i := 1080) (by decide +kernel))), good_of_word (by decide +kernel)⟩
theorem tw_9 : q_g (.fieldLink RX9 13 "DeadlineShare$Terms" "seed" "I") := ⟨(List.mem_append_right _ (List.mem_of_getElem? (i := 40) (by decide +kernel))), good_of_word (by decide +kernel)⟩
theorem tw_10 : q_g (.fieldLink RX9 7 "DeadlineShare$Terms" "carry" "I") := ⟨(List.mem_append_right _ (List.mem_of_getElem? (i := 37) (by decide +kernel))), good_of_word (by decide +kernel)⟩
theorem tw_11 : q_g (.code objectInit ⟨#[0xb1]⟩ 1 none) := ⟨(List.mem_append_right _ (List.mem_of_getElem? (i := 27) (by decide +kernel))), good_of_word (by decide +kernel)⟩
theorem tw_12 : q_g (.instanceMethod objectInit) := ⟨(List.mem_append_right _ (List.mem_of_getElem? (i := 26) (by decide +kernel))), good_of_word (by decide +kernel)⟩
theorem tw_13 : q_g (.methodLink RX9 1 objectInit) := ⟨(List.mem_append_right _ (List.mem_of_getElem? (i := 33) (by decide +kernel))), good_of_word (by decide +kernel)⟩
theorem tw_14 : q_g (.code yX9_init cX9_init 1 none) := ⟨(List.mem_append_right _ (List.mem_of_getElem? (i := 32) (by decide +kernel))), good_of_word (by decide +kernel)⟩
theorem tw_15 : q_g (.methodLink RX10 3 objectInit) := ⟨(List.mem_append_right _ (List.mem_of_getElem? (i := 132) (by decide +kernel))), good_of_word (by decide +kernel)⟩
theorem tw_16 : q_g (.code yX10_init cX10_init 1 none) := ⟨(List.mem_append_right _ (List.mem_of_getElem? (i := 131) (by decide +kernel))), good_of_word (by decide +kernel)⟩
theorem tw_17 : q_g (.arrayClass .int) := ⟨(List.mem_append_right _ (List.mem_of_getElem? (i := 99) (by decide +kernel))), good_of_word (by decide +kernel)⟩
theorem tw_18 : q_g (.methodLink RX4 3 objectInit) := ⟨(List.mem_append_right _ (List.mem_of_getElem? (i := 311) (by decide +kernel))), good_of_word (by decide +kernel)⟩
theorem tw_19 : q_g (.code yX4_init cX4_init 1 none) := ⟨(List.mem_append_right _ (List.mem_of_getElem? (i := 310) (by decide +kernel))), good_of_word (by decide +kernel)⟩
theorem tw_20 : q_g (.fieldLink RX7 11 "DeadlineShare$Tape" "bytes" "[B") := ⟨(List.mem_append_right _ (List.mem_of_getElem? (i := 56) (by decide +kernel))), good_of_word (by decide +kernel)⟩
theorem tw_21 : q_g (.arrayClass .byte) := ⟨(List.mem_append_right _ (List.mem_of_getElem? (i := 65) (by decide +kernel))), good_of_word (by decide +kernel)⟩
theorem tw_22 : q_g (.methodLink RX7 3 objectInit) := ⟨(List.mem_append_right _ (List.mem_of_getElem? (i := 55) (by decide +kernel))), good_of_word (by decide +kernel)⟩
theorem tw_23 : q_g (.code yX7_init cX7_init 1 none) := ⟨(List.mem_append_right _ (List.mem_of_getElem? (i := 54) (by decide +kernel))), good_of_word (by decide +kernel)⟩
theorem tw_24 : q_g (.fieldLink RX5 11 "DeadlineShare$Script" "steps" "[I") := ⟨(List.mem_append_right _ (List.mem_of_getElem? (i := 78) (by decide +kernel))), good_of_word (by decide +kernel)⟩
theorem tw_25 : q_g (.methodLink RX5 3 objectInit) := ⟨(List.mem_append_right _ (List.mem_of_getElem? (i := 77) (by decide +kernel))), good_of_word (by decide +kernel)⟩
theorem tw_26 : q_g (.code yX5_init cX5_init 1 none) := ⟨(List.mem_append_right _ (List.mem_of_getElem? (i := 76) (by decide +kernel))), good_of_word (by decide +kernel)⟩
theorem tw_27 : q_g (.fieldLink RX2 11 "DeadlineShare$Log" "rows" "[J") := ⟨(List.mem_append_right _ (List.mem_of_getElem? (i := 122) (by decide +kernel))), good_of_word (by decide +kernel)⟩
theorem tw_28 : q_g (.arrayClass .long) := ⟨(List.mem_append_right _ (List.mem_of_getElem? (i := 126) (by decide +kernel))), good_of_word (by decide +kernel)⟩
theorem tw_29 : q_g (.methodLink RX2 5 objectInit) := ⟨(List.mem_append_right _ (List.mem_of_getElem? (i := 121) (by decide +kernel))), good_of_word (by decide +kernel)⟩
theorem tw_30 : q_g (.code yX2_init cX2_init 1 none) := ⟨(List.mem_append_right _ (List.mem_of_getElem? (i := 120) (by decide +kernel))), good_of_word (by decide +kernel)⟩
theorem tw_31 : q_g (.fieldLink RX0 9 "DeadlineShare$Chooser" "terms" "LDeadlineShare$Terms;") := ⟨(List.mem_append_right _ (List.mem_of_getElem? (i := 272) (by decide +kernel))), good_of_word (by decide +kernel)⟩
theorem tw_32 : q_g (.methodLink RX0 3 objectInit) := ⟨(List.mem_append_right _ (List.mem_of_getElem? (i := 271) (by decide +kernel))), good_of_word (by decide +kernel)⟩
theorem tw_33 : q_g (.code yX0_init cX0_init 2 none) := ⟨(List.mem_append_right _ (List.mem_of_getElem? (i := 270) (by decide +kernel))), good_of_word (by decide +kernel)⟩
theorem tw_34 : q_g (.fieldLink RX3 12 "DeadlineShare$Reader" "script" "LDeadlineShare$Script;") := ⟨(List.mem_append_right _ (List.mem_of_getElem? (i := 100) (by decide +kernel))), good_of_word (by decide +kernel)⟩
theorem tw_35 : q_g (.instanceMethod yX5_init) := ⟨(List.mem_append_right _ (List.mem_of_getElem? (i := 75) (by decide +kernel))), good_of_word (by decide +kernel)⟩
theorem tw_36 : q_g (.initialized RX5) := ⟨(List.mem_append_right _ (List.mem_of_getElem? (i := 5) (by decide +kernel))), good_of_word (by decide +kernel)⟩
theorem tw_37 : q_g (.instantiable RX5 5) := ⟨(List.mem_append_right _ (List.mem_of_getElem? (i := 73) (by decide +kernel))), good_of_word (by decide +kernel)⟩
theorem tw_38 : q_g (.classLink RX3 9 RX5) := ⟨(List.mem_append_right _ (List.mem_of_getElem? (i := 72) (by decide +kernel))), good_of_word (by decide +kernel)⟩
theorem tw_39 : q_g (.methodLink RX3 3 objectInit) := ⟨(List.mem_append_right _ (List.mem_of_getElem? (i := 71) (by decide +kernel))), good_of_word (by decide +kernel)⟩
theorem tw_40 : q_g (.code yX3_init cX3_init 1 none) := ⟨(List.mem_append_right _ (List.mem_of_getElem? (i := 70) (by decide +kernel))), good_of_word (by decide +kernel)⟩
theorem tw_41 : q_g (.fieldLink RX8 25 "DeadlineShare$Task" "number" "I") := ⟨(List.mem_append_right _ (List.mem_of_getElem? (i := 149) (by decide +kernel))), good_of_word (by decide +kernel)⟩
theorem tw_42 : q_g (.fieldLink RX8 21 "DeadlineShare$Task" "lag" "LDeadlineShare$Wide;") := ⟨(List.mem_append_right _ (List.mem_of_getElem? (i := 169) (by decide +kernel))), good_of_word (by decide +kernel)⟩
theorem tw_43 : q_g (.instanceMethod yX10_init) := ⟨(List.mem_append_right _ (List.mem_of_getElem? (i := 130) (by decide +kernel))), good_of_word (by decide +kernel)⟩
theorem tw_44 : q_g (.initialized RX10) := ⟨(List.mem_append_right _ (List.mem_of_getElem? (i := 8) (by decide +kernel))), good_of_word (by decide +kernel)⟩
theorem tw_45 : q_g (.instantiable RX10 2) := ⟨(List.mem_append_right _ (List.mem_of_getElem? (i := 128) (by decide +kernel))), good_of_word (by decide +kernel)⟩
theorem tw_46 : q_g (.classLink RX8 18 RX10) := ⟨(List.mem_append_right _ (List.mem_of_getElem? (i := 147) (by decide +kernel))), good_of_word (by decide +kernel)⟩
theorem tw_47 : q_g (.fieldLink RX8 12 "DeadlineShare$Task" "script" "LDeadlineShare$Script;") := ⟨(List.mem_append_right _ (List.mem_of_getElem? (i := 151) (by decide +kernel))), good_of_word (by decide +kernel)⟩
theorem tw_48 : q_g (.classLink RX8 9 RX5) := ⟨(List.mem_append_right _ (List.mem_of_getElem? (i := 145) (by decide +kernel))), good_of_word (by decide +kernel)⟩
theorem tw_49 : q_g (.methodLink RX8 3 objectInit) := ⟨(List.mem_append_right _ (List.mem_of_getElem? (i := 144) (by decide +kernel))), good_of_word (by decide +kernel)⟩
theorem tw_50 : q_g (.code yX8_init cX8_init 2 none) := ⟨(List.mem_append_right _ (List.mem_of_getElem? (i := 143) (by decide +kernel))), good_of_word (by decide +kernel)⟩
theorem tw_51 : q_g (.instanceMethod yX8_init) := ⟨(List.mem_append_right _ (List.mem_of_getElem? (i := 142) (by decide +kernel))), good_of_word (by decide +kernel)⟩
theorem tw_52 : q_g (.methodLink RX6 45 yX8_init) := ⟨(List.mem_append_right _ (List.mem_of_getElem? (i := 141) (by decide +kernel))), good_of_word (by decide +kernel)⟩
theorem tw_53 : q_g (.initialized RX8) := ⟨(List.mem_append_right _ (List.mem_of_getElem? (i := 9) (by decide +kernel))), good_of_word (by decide +kernel)⟩
theorem tw_54 : q_g (.instantiable RX8 18) := ⟨(List.mem_append_right _ (List.mem_of_getElem? (i := 140) (by decide +kernel))), good_of_word (by decide +kernel)⟩
theorem tw_55 : q_g (.fieldLink RX6 41 "DeadlineShare$State" "terms" "LDeadlineShare$Terms;") := ⟨(List.mem_append_right _ (List.mem_of_getElem? (i := 229) (by decide +kernel))), good_of_word (by decide +kernel)⟩
theorem tw_56 : q_g (.fieldLink RX6 38 "DeadlineShare$State" "holder" "I") := ⟨(List.mem_append_right _ (List.mem_of_getElem? (i := 243) (by decide +kernel))), good_of_word (by decide +kernel)⟩
theorem tw_57 : q_g (.fieldLink RX6 34 "DeadlineShare$State" "last" "I") := ⟨(List.mem_append_right _ (List.mem_of_getElem? (i := 241) (by decide +kernel))), good_of_word (by decide +kernel)⟩
theorem tw_58 : q_g (.fieldLink RX6 31 "DeadlineShare$State" "part" "LDeadlineShare$Wide;") := ⟨(List.mem_append_right _ (List.mem_of_getElem? (i := 235) (by decide +kernel))), good_of_word (by decide +kernel)⟩
theorem tw_59 : q_g (.fieldLink RX6 27 "DeadlineShare$State" "sum" "LDeadlineShare$Wide;") := ⟨(List.mem_append_right _ (List.mem_of_getElem? (i := 234) (by decide +kernel))), good_of_word (by decide +kernel)⟩
theorem tw_60 : q_g (.classLink RX6 24 RX10) := ⟨(List.mem_append_right _ (List.mem_of_getElem? (i := 127) (by decide +kernel))), good_of_word (by decide +kernel)⟩
theorem tw_61 : q_g (.fieldLink RX6 20 "DeadlineShare$State" "log" "LDeadlineShare$Log;") := ⟨(List.mem_append_right _ (List.mem_of_getElem? (i := 232) (by decide +kernel))), good_of_word (by decide +kernel)⟩
theorem tw_62 : q_g (.instanceMethod yX2_init) := ⟨(List.mem_append_right _ (List.mem_of_getElem? (i := 119) (by decide +kernel))), good_of_word (by decide +kernel)⟩
theorem tw_63 : q_g (.initialized RX2) := ⟨(List.mem_append_right _ (List.mem_of_getElem? (i := 7) (by decide +kernel))), good_of_word (by decide +kernel)⟩
theorem tw_64 : q_g (.instantiable RX2 1) := ⟨(List.mem_append_right _ (List.mem_of_getElem? (i := 117) (by decide +kernel))), good_of_word (by decide +kernel)⟩
theorem tw_65 : q_g (.classLink RX6 17 RX2) := ⟨(List.mem_append_right _ (List.mem_of_getElem? (i := 116) (by decide +kernel))), good_of_word (by decide +kernel)⟩
theorem tw_66 : q_g (.fieldLink RX6 11 "DeadlineShare$State" "tasks" "[LDeadlineShare$Task;") := ⟨(List.mem_append_right _ (List.mem_of_getElem? (i := 230) (by decide +kernel))), good_of_word (by decide +kernel)⟩
theorem tw_67 : q_g (.classLink RX6 9 RX8) := ⟨(List.mem_append_right _ (List.mem_of_getElem? (i := 114) (by decide +kernel))), good_of_word (by decide +kernel)⟩
theorem tw_68 : q_g (.methodLink RX6 3 objectInit) := ⟨(List.mem_append_right _ (List.mem_of_getElem? (i := 113) (by decide +kernel))), good_of_word (by decide +kernel)⟩
theorem tw_69 : q_g (.code yX6_init cX6_init 3 none) := ⟨(List.mem_append_right _ (List.mem_of_getElem? (i := 112) (by decide +kernel))), good_of_word (by decide +kernel)⟩
theorem tw_70 : q_g (.instanceMethod yX6_init) := ⟨(List.mem_append_right _ (List.mem_of_getElem? (i := 111) (by decide +kernel))), good_of_word (by decide +kernel)⟩
theorem tw_71 : q_g (.methodLink RX1 21 yX6_init) := ⟨(List.mem_append_right _ (List.mem_of_getElem? (i := 290) (by decide +kernel))), good_of_word (by decide +kernel)⟩
theorem tw_72 : q_g (.initialized RX6) := ⟨(List.mem_append_right _ (List.mem_of_getElem? (i := 6) (by decide +kernel))), good_of_word (by decide +kernel)⟩
theorem tw_73 : q_g (.instantiable RX6 10) := ⟨(List.mem_append_right _ (List.mem_of_getElem? (i := 109) (by decide +kernel))), good_of_word (by decide +kernel)⟩
theorem tw_74 : q_g (.fieldLink RX1 17 "DeadlineShare$History" "acts" "[I") := ⟨(List.mem_append_right _ (List.mem_of_getElem? (i := 292) (by decide +kernel))), good_of_word (by decide +kernel)⟩
theorem tw_75 : q_g (.fieldLink RX1 11 "DeadlineShare$History" "before" "[LDeadlineShare$State;") := ⟨(List.mem_append_right _ (List.mem_of_getElem? (i := 291) (by decide +kernel))), good_of_word (by decide +kernel)⟩
theorem tw_76 : q_g (.classLink RX1 9 RX6) := ⟨(List.mem_append_right _ (List.mem_of_getElem? (i := 289) (by decide +kernel))), good_of_word (by decide +kernel)⟩
theorem tw_77 : q_g (.methodLink RX1 3 objectInit) := ⟨(List.mem_append_right _ (List.mem_of_getElem? (i := 288) (by decide +kernel))), good_of_word (by decide +kernel)⟩
theorem tw_78 : q_g (.code yX1_init cX1_init 3 none) := ⟨(List.mem_append_right _ (List.mem_of_getElem? (i := 287) (by decide +kernel))), good_of_word (by decide +kernel)⟩
theorem tw_79 : q_g (.fieldLink RX11 76 "DeadlineShare" "faultPlace" "I") := ⟨(List.mem_append_right _ (List.mem_of_getElem? (i := 331) (by decide +kernel))), good_of_word (by decide +kernel)⟩
theorem tw_80 : q_g (.fieldLink RX11 72 "DeadlineShare" "refusals" "LDeadlineShare$Refusals;") := ⟨(List.mem_append_right _ (List.mem_of_getElem? (i := 330) (by decide +kernel))), good_of_word (by decide +kernel)⟩
theorem tw_81 : q_g (.instanceMethod yX4_init) := ⟨(List.mem_append_right _ (List.mem_of_getElem? (i := 309) (by decide +kernel))), good_of_word (by decide +kernel)⟩
theorem tw_82 : q_g (.instantiable RX4 2) := ⟨(List.mem_append_right _ (List.mem_of_getElem? (i := 307) (by decide +kernel))), good_of_word (by decide +kernel)⟩
theorem tw_83 : q_g (.classLink RX11 69 RX4) := ⟨(List.mem_append_right _ (List.mem_of_getElem? (i := 306) (by decide +kernel))), good_of_word (by decide +kernel)⟩
theorem tw_84 : q_g (.fieldLink RX11 65 "DeadlineShare" "history" "LDeadlineShare$History;") := ⟨(List.mem_append_right _ (List.mem_of_getElem? (i := 329) (by decide +kernel))), good_of_word (by decide +kernel)⟩
theorem tw_85 : q_g (.instanceMethod yX1_init) := ⟨(List.mem_append_right _ (List.mem_of_getElem? (i := 286) (by decide +kernel))), good_of_word (by decide +kernel)⟩
theorem tw_86 : q_g (.methodLink RX11 64 yX1_init) := ⟨(List.mem_append_right _ (List.mem_of_getElem? (i := 285) (by decide +kernel))), good_of_word (by decide +kernel)⟩
theorem tw_87 : q_g (.initialized RX1) := ⟨(List.mem_append_right _ (List.mem_of_getElem? (i := 11) (by decide +kernel))), good_of_word (by decide +kernel)⟩
theorem tw_88 : q_g (.instantiable RX1 4) := ⟨(List.mem_append_right _ (List.mem_of_getElem? (i := 284) (by decide +kernel))), good_of_word (by decide +kernel)⟩
theorem tw_89 : q_g (.classLink RX11 62 RX1) := ⟨(List.mem_append_right _ (List.mem_of_getElem? (i := 283) (by decide +kernel))), good_of_word (by decide +kernel)⟩
theorem tw_90 : q_g (.fieldLink RX11 58 "DeadlineShare" "imageKept" "[Z") := ⟨(List.mem_append_right _ (List.mem_of_getElem? (i := 328) (by decide +kernel))), good_of_word (by decide +kernel)⟩
theorem tw_91 : q_g (.arrayClass .boolean) := ⟨(List.mem_append_right _ (List.mem_of_getElem? (i := 305) (by decide +kernel))), good_of_word (by decide +kernel)⟩
theorem tw_92 : q_g (.fieldLink RX11 54 "DeadlineShare" "images" "[LDeadlineShare$State;") := ⟨(List.mem_append_right _ (List.mem_of_getElem? (i := 327) (by decide +kernel))), good_of_word (by decide +kernel)⟩
theorem tw_93 : q_g (.fieldLink RX11 51 "DeadlineShare" "onPaper" "LDeadlineShare$Chooser;") := ⟨(List.mem_append_right _ (List.mem_of_getElem? (i := 326) (by decide +kernel))), good_of_word (by decide +kernel)⟩
theorem tw_94 : q_g (.fieldLink RX11 47 "DeadlineShare" "asTold" "LDeadlineShare$Chooser;") := ⟨(List.mem_append_right _ (List.mem_of_getElem? (i := 325) (by decide +kernel))), good_of_word (by decide +kernel)⟩
theorem tw_95 : q_g (.instanceMethod yX0_init) := ⟨(List.mem_append_right _ (List.mem_of_getElem? (i := 269) (by decide +kernel))), good_of_word (by decide +kernel)⟩
theorem tw_96 : q_g (.methodLink RX11 46 yX0_init) := ⟨(List.mem_append_right _ (List.mem_of_getElem? (i := 268) (by decide +kernel))), good_of_word (by decide +kernel)⟩
theorem tw_97 : q_g (.initialized RX0) := ⟨(List.mem_append_right _ (List.mem_of_getElem? (i := 10) (by decide +kernel))), good_of_word (by decide +kernel)⟩
theorem tw_98 : q_g (.instantiable RX0 3) := ⟨(List.mem_append_right _ (List.mem_of_getElem? (i := 267) (by decide +kernel))), good_of_word (by decide +kernel)⟩
theorem tw_99 : q_g (.classLink RX11 44 RX0) := ⟨(List.mem_append_right _ (List.mem_of_getElem? (i := 266) (by decide +kernel))), good_of_word (by decide +kernel)⟩
theorem tw_100 : q_g (.fieldLink RX11 41 "DeadlineShare" "paper" "LDeadlineShare$State;") := ⟨(List.mem_append_right _ (List.mem_of_getElem? (i := 324) (by decide +kernel))), good_of_word (by decide +kernel)⟩
theorem tw_101 : q_g (.fieldLink RX11 37 "DeadlineShare" "now" "LDeadlineShare$State;") := ⟨(List.mem_append_right _ (List.mem_of_getElem? (i := 323) (by decide +kernel))), good_of_word (by decide +kernel)⟩
theorem tw_102 : q_g (.methodLink RX11 34 yX6_init) := ⟨(List.mem_append_right _ (List.mem_of_getElem? (i := 110) (by decide +kernel))), good_of_word (by decide +kernel)⟩
theorem tw_103 : q_g (.classLink RX11 32 RX6) := ⟨(List.mem_append_right _ (List.mem_of_getElem? (i := 108) (by decide +kernel))), good_of_word (by decide +kernel)⟩
theorem tw_104 : q_g (.fieldLink RX11 28 "DeadlineShare" "reader" "LDeadlineShare$Reader;") := ⟨(List.mem_append_right _ (List.mem_of_getElem? (i := 322) (by decide +kernel))), good_of_word (by decide +kernel)⟩
theorem tw_105 : q_g (.instanceMethod yX3_init) := ⟨(List.mem_append_right _ (List.mem_of_getElem? (i := 69) (by decide +kernel))), good_of_word (by decide +kernel)⟩
theorem tw_106 : q_g (.initialized RX3) := ⟨(List.mem_append_right _ (List.mem_of_getElem? (i := 4) (by decide +kernel))), good_of_word (by decide +kernel)⟩
theorem tw_107 : q_g (.instantiable RX3 2) := ⟨(List.mem_append_right _ (List.mem_of_getElem? (i := 67) (by decide +kernel))), good_of_word (by decide +kernel)⟩
theorem tw_108 : q_g (.classLink RX11 25 RX3) := ⟨(List.mem_append_right _ (List.mem_of_getElem? (i := 66) (by decide +kernel))), good_of_word (by decide +kernel)⟩
theorem tw_109 : q_g (.fieldLink RX11 21 "DeadlineShare" "tape" "LDeadlineShare$Tape;") := ⟨(List.mem_append_right _ (List.mem_of_getElem? (i := 321) (by decide +kernel))), good_of_word (by decide +kernel)⟩
theorem tw_110 : q_g (.instanceMethod yX7_init) := ⟨(List.mem_append_right _ (List.mem_of_getElem? (i := 53) (by decide +kernel))), good_of_word (by decide +kernel)⟩
theorem tw_111 : q_g (.initialized RX7) := ⟨(List.mem_append_right _ (List.mem_of_getElem? (i := 3) (by decide +kernel))), good_of_word (by decide +kernel)⟩
theorem tw_112 : q_g (.instantiable RX7 2) := ⟨(List.mem_append_right _ (List.mem_of_getElem? (i := 51) (by decide +kernel))), good_of_word (by decide +kernel)⟩
theorem tw_113 : q_g (.classLink RX11 18 RX7) := ⟨(List.mem_append_right _ (List.mem_of_getElem? (i := 50) (by decide +kernel))), good_of_word (by decide +kernel)⟩
theorem tw_114 : q_g (.fieldLink RX11 12 "DeadlineShare" "terms" "LDeadlineShare$Terms;") := ⟨(List.mem_append_right _ (List.mem_of_getElem? (i := 320) (by decide +kernel))), good_of_word (by decide +kernel)⟩
theorem tw_115 : q_g (.instanceMethod yX9_init) := ⟨(List.mem_append_right _ (List.mem_of_getElem? (i := 31) (by decide +kernel))), good_of_word (by decide +kernel)⟩
theorem tw_116 : q_g (.initialized RX9) := ⟨(List.mem_append_right _ (List.mem_of_getElem? (i := 2) (by decide +kernel))), good_of_word (by decide +kernel)⟩
theorem tw_117 : q_g (.instantiable RX9 3) := ⟨(List.mem_append_right _ (List.mem_of_getElem? (i := 29) (by decide +kernel))), good_of_word (by decide +kernel)⟩
theorem tw_118 : q_g (.classLink RX11 9 RX9) := ⟨(List.mem_append_right _ (List.mem_of_getElem? (i := 28) (by decide +kernel))), good_of_word (by decide +kernel)⟩
theorem tw_119 : q_g (.methodLink RX11 3 objectInit) := ⟨(List.mem_append_right _ (List.mem_of_getElem? (i := 25) (by decide +kernel))), good_of_word (by decide +kernel)⟩
theorem tw_120 : q_g (.code yX11_init cX11_init 2 none) := ⟨(List.mem_append_right _ (List.mem_of_getElem? (i := 24) (by decide +kernel))), good_of_word (by decide +kernel)⟩
theorem tw_121 : q_g (.fieldLink RX10 15 "DeadlineShare$Wide" "low" "J") := ⟨(List.mem_append_right _ (List.mem_of_getElem? (i := 134) (by decide +kernel))), good_of_word (by decide +kernel)⟩
theorem tw_122 : q_g (.constantLong RX10 13 (4294967295)) := ⟨(List.mem_append_right _ (List.mem_of_getElem? (i := 470) (by decide +kernel))), good_of_word (by decide +kernel)⟩
theorem tw_123 : q_g (.fieldLink RX10 9 "DeadlineShare$Wide" "high" "J") := ⟨(List.mem_append_right _ (List.mem_of_getElem? (i := 133) (by decide +kernel))), good_of_word (by decide +kernel)⟩
theorem tw_124 : q_g (.code yX10_set cX10_set 3 none) := ⟨(List.mem_append_right _ (List.mem_of_getElem? (i := 469) (by decide +kernel))), good_of_word (by decide +kernel)⟩
theorem tw_125 : q_g (.code yX10_asLong cX10_asLong 1 (some .long)) := ⟨(List.mem_append_right _ (List.mem_of_getElem? (i := 544) (by decide +kernel))), good_of_word (by decide +kernel)⟩
theorem tw_126 : q_g (.code yJ9_floorMod_f86c9 cJ9_floorMod_f86c9 6 (some .long)) := ⟨(List.mem_append_right _ (List.mem_of_getElem? (i := 537) (by decide +kernel))), good_of_word (by decide +kernel)⟩
theorem tw_127 : q_g (.code yJ9_floorDiv_f86c9 cJ9_floorDiv_f86c9 6 (some .long)) := ⟨(List.mem_append_right _ (List.mem_of_getElem? (i := 540) (by decide +kernel))), good_of_word (by decide +kernel)⟩
theorem tw_128 : q_g (.static yJ9_floorDiv_f86c9) := ⟨(List.mem_append_right _ (List.mem_of_getElem? (i := 539) (by decide +kernel))), good_of_word (by decide +kernel)⟩
theorem tw_129 : q_g (.methodLink RX10 24 yJ9_floorDiv_f86c9) := ⟨(List.mem_append_right _ (List.mem_of_getElem? (i := 538) (by decide +kernel))), good_of_word (by decide +kernel)⟩
theorem tw_130 : q_g (.initialized RJ9) := ⟨(List.mem_append_right _ (List.mem_of_getElem? (i := 15) (by decide +kernel))), good_of_word (by decide +kernel)⟩
theorem tw_131 : q_g (.static yJ9_floorMod_f86c9) := ⟨(List.mem_append_right _ (List.mem_of_getElem? (i := 536) (by decide +kernel))), good_of_word (by decide +kernel)⟩
theorem tw_132 : q_g (.methodLink RX10 18 yJ9_floorMod_f86c9) := ⟨(List.mem_append_right _ (List.mem_of_getElem? (i := 535) (by decide +kernel))), good_of_word (by decide +kernel)⟩
theorem tw_133 : q_g (.code yX10_divide cX10_divide 3 none) := ⟨(List.mem_append_right _ (List.mem_of_getElem? (i := 534) (by decide +kernel))), good_of_word (by decide +kernel)⟩
theorem tw_134 : q_g (.code yX10_modulo cX10_modulo 3 (some .long)) := ⟨(List.mem_append_right _ (List.mem_of_getElem? (i := 932) (by decide +kernel))), good_of_word (by decide +kernel)⟩
theorem tw_135 : q_g (.fieldLink RX6 48 "DeadlineShare$State" "count" "I") := ⟨(List.mem_append_right _ (List.mem_of_getElem? (i := 236) (by decide +kernel))), good_of_word (by decide +kernel)⟩
theorem tw_136 : q_g (.code yX6_has cX6_has 2 (some .boolean)) := ⟨(List.mem_append_right _ (List.mem_of_getElem? (i := 482) (by decide +kernel))), good_of_word (by decide +kernel)⟩
theorem tw_137 : q_g (.code yX6_weightOfAll cX6_weightOfAll 3 (some .int)) := ⟨(List.mem_append_right _ (List.mem_of_getElem? (i := 494) (by decide +kernel))), good_of_word (by decide +kernel)⟩
theorem tw_138 : q_g (.fieldLink RX6 61 "DeadlineShare$State" "rest" "J") := ⟨(List.mem_append_right _ (List.mem_of_getElem? (i := 240) (by decide +kernel))), good_of_word (by decide +kernel)⟩
theorem tw_139 : q_g (.selects RX10 yX10_set yX10_set) := ⟨(List.mem_append_right _ (List.mem_of_getElem? (i := 468) (by decide +kernel))), good_of_word (by decide +kernel)⟩
theorem tw_140 : q_g (.instanceMethod yX10_set) := ⟨(List.mem_append_right _ (List.mem_of_getElem? (i := 467) (by decide +kernel))), good_of_word (by decide +kernel)⟩
theorem tw_141 : q_g (.methodLink RX6 75 yX10_set) := ⟨(List.mem_append_right _ (List.mem_of_getElem? (i := 503) (by decide +kernel))), good_of_word (by decide +kernel)⟩
theorem tw_142 : q_g (.code yX6_sumUp cX6_sumUp 3 (some .int)) := ⟨(List.mem_append_right _ (List.mem_of_getElem? (i := 502) (by decide +kernel))), good_of_word (by decide +kernel)⟩
theorem tw_143 : q_g (.selects RX10 yX10_asLong yX10_asLong) := ⟨(List.mem_append_right _ (List.mem_of_getElem? (i := 543) (by decide +kernel))), good_of_word (by decide +kernel)⟩
theorem tw_144 : q_g (.instanceMethod yX10_asLong) := ⟨(List.mem_append_right _ (List.mem_of_getElem? (i := 542) (by decide +kernel))), good_of_word (by decide +kernel)⟩
theorem tw_145 : q_g (.methodLink RX6 93 yX10_asLong) := ⟨(List.mem_append_right _ (List.mem_of_getElem? (i := 541) (by decide +kernel))), good_of_word (by decide +kernel)⟩
theorem tw_146 : q_g (.selects RX10 yX10_divide yX10_divide) := ⟨(List.mem_append_right _ (List.mem_of_getElem? (i := 533) (by decide +kernel))), good_of_word (by decide +kernel)⟩
theorem tw_147 : q_g (.instanceMethod yX10_divide) := ⟨(List.mem_append_right _ (List.mem_of_getElem? (i := 532) (by decide +kernel))), good_of_word (by decide +kernel)⟩
theorem tw_148 : q_g (.methodLink RX6 90 yX10_divide) := ⟨(List.mem_append_right _ (List.mem_of_getElem? (i := 531) (by decide +kernel))), good_of_word (by decide +kernel)⟩
theorem tw_149 : q_g (.selects RX6 yX6_sumUp yX6_sumUp) := ⟨(List.mem_append_left _ (List.mem_of_getElem? (i := 0) (by decide +kernel))), good_of_word (by decide +kernel)⟩
theorem tw_150 : q_g (.instanceMethod yX6_sumUp) := ⟨(List.mem_append_right _ (List.mem_of_getElem? (i := 501) (by decide +kernel))), good_of_word (by decide +kernel)⟩
theorem tw_151 : q_g (.methodLink RX6 86 yX6_sumUp) := ⟨(List.mem_append_right _ (List.mem_of_getElem? (i := 499) (by decide +kernel))), good_of_word (by decide +kernel)⟩
theorem tw_152 : q_g (.code yX6_wholeV cX6_wholeV 2 (some .long)) := ⟨(List.mem_append_right _ (List.mem_of_getElem? (i := 812) (by decide +kernel))), good_of_word (by decide +kernel)⟩
theorem tw_153 : q_g (.selects RX10 yX10_modulo yX10_modulo) := ⟨(List.mem_append_right _ (List.mem_of_getElem? (i := 931) (by decide +kernel))), good_of_word (by decide +kernel)⟩
theorem tw_154 : q_g (.instanceMethod yX10_modulo) := ⟨(List.mem_append_right _ (List.mem_of_getElem? (i := 930) (by decide +kernel))), good_of_word (by decide +kernel)⟩
theorem tw_155 : q_g (.methodLink RX6 97 yX10_modulo) := ⟨(List.mem_append_right _ (List.mem_of_getElem? (i := 929) (by decide +kernel))), good_of_word (by decide +kernel)⟩
theorem tw_156 : q_g (.code yX6_restOfV cX6_restOfV 2 (some .long)) := ⟨(List.mem_append_right _ (List.mem_of_getElem? (i := 928) (by decide +kernel))), good_of_word (by decide +kernel)⟩
theorem tw_157 : q_g (.code yX6_howManyAre cX6_howManyAre 4 (some .int)) := ⟨(List.mem_append_right _ (List.mem_of_getElem? (i := 1072) (by decide +kernel))), good_of_word (by decide +kernel)⟩
theorem tw_158 : q_g (.code yX6_howManyHaveScripts cX6_howManyHaveScripts 3 (some .int)) := ⟨(List.mem_append_right _ (List.mem_of_getElem? (i := 1076) (by decide +kernel))), good_of_word (by decide +kernel)⟩
theorem tw_159 : q_g (.selects RX6 yX6_wholeV yX6_wholeV) := ⟨(List.mem_append_right _ (List.mem_of_getElem? (i := 811) (by decide +kernel))), good_of_word (by decide +kernel)⟩
theorem tw_160 : q_g (.instanceMethod yX6_wholeV) := ⟨(List.mem_append_right _ (List.mem_of_getElem? (i := 810) (by decide +kernel))), good_of_word (by decide +kernel)⟩
theorem tw_161 : q_g (.methodLink RX6 176 yX6_wholeV) := ⟨(List.mem_append_right _ (List.mem_of_getElem? (i := 809) (by decide +kernel))), good_of_word (by decide +kernel)⟩
theorem tw_162 : q_g (.code yX6_eligibleBits cX6_eligibleBits 5 (some .int)) := ⟨(List.mem_append_right _ (List.mem_of_getElem? (i := 940) (by decide +kernel))), good_of_word (by decide +kernel)⟩
theorem tw_163 : q_g (.selects RX6 yX6_eligibleBits yX6_eligibleBits) := ⟨(List.mem_append_right _ (List.mem_of_getElem? (i := 939) (by decide +kernel))), good_of_word (by decide +kernel)⟩
theorem tw_164 : q_g (.instanceMethod yX6_eligibleBits) := ⟨(List.mem_append_right _ (List.mem_of_getElem? (i := 938) (by decide +kernel))), good_of_word (by decide +kernel)⟩
theorem tw_165 : q_g (.methodLink RX6 179 yX6_eligibleBits) := ⟨(List.mem_append_right _ (List.mem_of_getElem? (i := 949) (by decide +kernel))), good_of_word (by decide +kernel)⟩
theorem tw_166 : q_g (.code yX6_eligibleAt cX6_eligibleAt 4 (some .int)) := ⟨(List.mem_append_right _ (List.mem_of_getElem? (i := 948) (by decide +kernel))), good_of_word (by decide +kernel)⟩
theorem tw_167 : q_g (.code yX6_firstDeadline cX6_firstDeadline 7 (some .int)) := ⟨(List.mem_append_right _ (List.mem_of_getElem? (i := 808) (by decide +kernel))), good_of_word (by decide +kernel)⟩
theorem tw_168 : q_g (.constantLong RX6 192 (9223372036854775807)) := ⟨(List.mem_append_right _ (List.mem_of_getElem? (i := 813) (by decide +kernel))), good_of_word (by decide +kernel)⟩
theorem tw_169 : q_g (.code yX6_leastV cX6_leastV 5 (some .int)) := ⟨(List.mem_append_right _ (List.mem_of_getElem? (i := 804) (by decide +kernel))), good_of_word (by decide +kernel)⟩
theorem tw_170 : q_g (.code yX6_nextInTurn cX6_nextInTurn 3 (some .int)) := ⟨(List.mem_append_right _ (List.mem_of_getElem? (i := 823) (by decide +kernel))), good_of_word (by decide +kernel)⟩
theorem tw_171 : q_g (.code yX6_weightsAsBits cX6_weightsAsBits 4 (some .long)) := ⟨(List.mem_append_right _ (List.mem_of_getElem? (i := 839) (by decide +kernel))), good_of_word (by decide +kernel)⟩
theorem tw_172 : q_g (.code Lib.Math.max.name Lib.Math.max.code 2 (some .int)) := ⟨(List.mem_append_right _ (List.mem_of_getElem? (i := 596) (by decide +kernel))), good_of_word (by decide +kernel)⟩
theorem tw_173 : q_g (.initialized "java/lang/Math") := ⟨(List.mem_append_right _ (List.mem_of_getElem? (i := 15) (by decide +kernel))), good_of_word (by decide +kernel)⟩
theorem tw_174 : q_g (.static Lib.Math.max.name) := ⟨(List.mem_append_right _ (List.mem_of_getElem? (i := 595) (by decide +kernel))), good_of_word (by decide +kernel)⟩
theorem tw_175 : q_g (.methodLink RX6 174 Lib.Math.max.name) := ⟨(List.mem_append_right _ (List.mem_of_getElem? (i := 594) (by decide +kernel))), good_of_word (by decide +kernel)⟩
theorem tw_176 : q_g (.fieldLink RX6 58 "DeadlineShare$State" "time" "I") := ⟨(List.mem_append_right _ (List.mem_of_getElem? (i := 238) (by decide +kernel))), good_of_word (by decide +kernel)⟩
theorem tw_177 : q_g (.code yX6_firstInLog cX6_firstInLog 1 (some .int)) := ⟨(List.mem_append_right _ (List.mem_of_getElem? (i := 973) (by decide +kernel))), good_of_word (by decide +kernel)⟩
theorem tw_178 : q_g (.selects RX6 yX6_firstInLog yX6_firstInLog) := ⟨(List.mem_append_right _ (List.mem_of_getElem? (i := 972) (by decide +kernel))), good_of_word (by decide +kernel)⟩
theorem tw_179 : q_g (.instanceMethod yX6_firstInLog) := ⟨(List.mem_append_right _ (List.mem_of_getElem? (i := 971) (by decide +kernel))), good_of_word (by decide +kernel)⟩
theorem tw_180 : q_g (.methodLink RX6 316 yX6_firstInLog) := ⟨(List.mem_append_right _ (List.mem_of_getElem? (i := 970) (by decide +kernel))), good_of_word (by decide +kernel)⟩
theorem tw_181 : q_g (.code yX6_logHolds cX6_logHolds 2 (some .boolean)) := ⟨(List.mem_append_right _ (List.mem_of_getElem? (i := 969) (by decide +kernel))), good_of_word (by decide +kernel)⟩
theorem tw_182 : q_g (.selects RX6 yX6_weightOfAll yX6_weightOfAll) := ⟨(List.mem_append_right _ (List.mem_of_getElem? (i := 493) (by decide +kernel))), good_of_word (by decide +kernel)⟩
theorem tw_183 : q_g (.instanceMethod yX6_weightOfAll) := ⟨(List.mem_append_right _ (List.mem_of_getElem? (i := 492) (by decide +kernel))), good_of_word (by decide +kernel)⟩
theorem tw_184 : q_g (.methodLink RX6 108 yX6_weightOfAll) := ⟨(List.mem_append_right _ (List.mem_of_getElem? (i := 491) (by decide +kernel))), good_of_word (by decide +kernel)⟩
theorem tw_185 : q_g (.code yX6_lagEdge cX6_lagEdge 8 (some .long)) := ⟨(List.mem_append_right _ (List.mem_of_getElem? (i := 1058) (by decide +kernel))), good_of_word (by decide +kernel)⟩
theorem tw_186 : q_g (.methodLink RX0 51 yX6_weightOfAll) := ⟨(List.mem_append_right _ (List.mem_of_getElem? (i := 828) (by decide +kernel))), good_of_word (by decide +kernel)⟩
theorem tw_187 : q_g (.code yX0_byDraw cX0_byDraw 3 (some .int)) := ⟨(List.mem_append_right _ (List.mem_of_getElem? (i := 827) (by decide +kernel))), good_of_word (by decide +kernel)⟩
theorem tw_188 : q_g (.fieldLink RX0 45 "DeadlineShare$Terms" "mode" "I") := ⟨(List.mem_append_right _ (List.mem_of_getElem? (i := 35) (by decide +kernel))), good_of_word (by decide +kernel)⟩
theorem tw_189 : q_g (.selects RX0 yX0_byDraw yX0_byDraw) := ⟨(List.mem_append_left _ (List.mem_of_getElem? (i := 10) (by decide +kernel))), good_of_word (by decide +kernel)⟩
theorem tw_190 : q_g (.instanceMethod yX0_byDraw) := ⟨(List.mem_append_right _ (List.mem_of_getElem? (i := 826) (by decide +kernel))), good_of_word (by decide +kernel)⟩
theorem tw_191 : q_g (.methodLink RX0 41 yX0_byDraw) := ⟨(List.mem_append_right _ (List.mem_of_getElem? (i := 824) (by decide +kernel))), good_of_word (by decide +kernel)⟩
theorem tw_192 : q_g (.selects RX6 yX6_nextInTurn yX6_nextInTurn) := ⟨(List.mem_append_right _ (List.mem_of_getElem? (i := 822) (by decide +kernel))), good_of_word (by decide +kernel)⟩
theorem tw_193 : q_g (.instanceMethod yX6_nextInTurn) := ⟨(List.mem_append_right _ (List.mem_of_getElem? (i := 821) (by decide +kernel))), good_of_word (by decide +kernel)⟩
theorem tw_194 : q_g (.methodLink RX0 38 yX6_nextInTurn) := ⟨(List.mem_append_right _ (List.mem_of_getElem? (i := 820) (by decide +kernel))), good_of_word (by decide +kernel)⟩
theorem tw_195 : q_g (.selects RX6 yX6_firstDeadline yX6_firstDeadline) := ⟨(List.mem_append_right _ (List.mem_of_getElem? (i := 807) (by decide +kernel))), good_of_word (by decide +kernel)⟩
theorem tw_196 : q_g (.instanceMethod yX6_firstDeadline) := ⟨(List.mem_append_right _ (List.mem_of_getElem? (i := 806) (by decide +kernel))), good_of_word (by decide +kernel)⟩
theorem tw_197 : q_g (.methodLink RX0 34 yX6_firstDeadline) := ⟨(List.mem_append_right _ (List.mem_of_getElem? (i := 805) (by decide +kernel))), good_of_word (by decide +kernel)⟩
theorem tw_198 : q_g (.selects RX6 yX6_leastV yX6_leastV) := ⟨(List.mem_append_right _ (List.mem_of_getElem? (i := 803) (by decide +kernel))), good_of_word (by decide +kernel)⟩
theorem tw_199 : q_g (.instanceMethod yX6_leastV) := ⟨(List.mem_append_right _ (List.mem_of_getElem? (i := 802) (by decide +kernel))), good_of_word (by decide +kernel)⟩
theorem tw_200 : q_g (.methodLink RX0 28 yX6_leastV) := ⟨(List.mem_append_right _ (List.mem_of_getElem? (i := 801) (by decide +kernel))), good_of_word (by decide +kernel)⟩
theorem tw_201 : q_g (.fieldLink RX0 15 "DeadlineShare$Chooser" "way" "I") := ⟨(List.mem_append_right _ (List.mem_of_getElem? (i := 273) (by decide +kernel))), good_of_word (by decide +kernel)⟩
theorem tw_202 : q_g (.code yX0_pick cX0_pick 2 (some .int)) := ⟨(List.mem_append_right _ (List.mem_of_getElem? (i := 800) (by decide +kernel))), good_of_word (by decide +kernel)⟩
theorem tw_203 : q_g (.code yX2_put cX2_put 6 none) := ⟨(List.mem_append_right _ (List.mem_of_getElem? (i := 846) (by decide +kernel))), good_of_word (by decide +kernel)⟩
theorem tw_204 : q_g (.selects RX6 yX6_has yX6_has) := ⟨(List.mem_append_right _ (List.mem_of_getElem? (i := 481) (by decide +kernel))), good_of_word (by decide +kernel)⟩
theorem tw_205 : q_g (.instanceMethod yX6_has) := ⟨(List.mem_append_right _ (List.mem_of_getElem? (i := 480) (by decide +kernel))), good_of_word (by decide +kernel)⟩
theorem tw_206 : q_g (.methodLink RX6 194 yX6_has) := ⟨(List.mem_append_right _ (List.mem_of_getElem? (i := 814) (by decide +kernel))), good_of_word (by decide +kernel)⟩
theorem tw_207 : q_g (.selects RX2 yX2_put yX2_put) := ⟨(List.mem_append_right _ (List.mem_of_getElem? (i := 845) (by decide +kernel))), good_of_word (by decide +kernel)⟩
theorem tw_208 : q_g (.instanceMethod yX2_put) := ⟨(List.mem_append_right _ (List.mem_of_getElem? (i := 844) (by decide +kernel))), good_of_word (by decide +kernel)⟩
theorem tw_209 : q_g (.methodLink RX6 213 yX2_put) := ⟨(List.mem_append_right _ (List.mem_of_getElem? (i := 843) (by decide +kernel))), good_of_word (by decide +kernel)⟩
theorem tw_210 : q_g (.selects RX6 yX6_weightsAsBits yX6_weightsAsBits) := ⟨(List.mem_append_left _ (List.mem_of_getElem? (i := 11) (by decide +kernel))), good_of_word (by decide +kernel)⟩
theorem tw_211 : q_g (.instanceMethod yX6_weightsAsBits) := ⟨(List.mem_append_right _ (List.mem_of_getElem? (i := 838) (by decide +kernel))), good_of_word (by decide +kernel)⟩
theorem tw_212 : q_g (.methodLink RX6 210 yX6_weightsAsBits) := ⟨(List.mem_append_right _ (List.mem_of_getElem? (i := 836) (by decide +kernel))), good_of_word (by decide +kernel)⟩
theorem tw_213 : q_g (.selects RX0 yX0_pick yX0_pick) := ⟨(List.mem_append_right _ (List.mem_of_getElem? (i := 799) (by decide +kernel))), good_of_word (by decide +kernel)⟩
theorem tw_214 : q_g (.instanceMethod yX0_pick) := ⟨(List.mem_append_right _ (List.mem_of_getElem? (i := 798) (by decide +kernel))), good_of_word (by decide +kernel)⟩
theorem tw_215 : q_g (.methodLink RX6 204 yX0_pick) := ⟨(List.mem_append_right _ (List.mem_of_getElem? (i := 797) (by decide +kernel))), good_of_word (by decide +kernel)⟩
theorem tw_216 : q_g (.code yX6_tick cX6_tick 3 (some .int)) := ⟨(List.mem_append_right _ (List.mem_of_getElem? (i := 786) (by decide +kernel))), good_of_word (by decide +kernel)⟩
theorem tw_217 : q_g (.initialized "java/lang/System") := ⟨(List.mem_append_right _ (List.mem_of_getElem? (i := 14) (by decide +kernel))), good_of_word (by decide +kernel)⟩
theorem tw_218 : q_g (.static arraycopyName) := ⟨(List.mem_append_right _ (List.mem_of_getElem? (i := 440) (by decide +kernel))), good_of_word (by decide +kernel)⟩
theorem tw_219 : q_g (.native arraycopyName) := ⟨(List.mem_append_right _ (List.mem_of_getElem? (i := 441) (by decide +kernel))), good_of_word (by decide +kernel)⟩
theorem tw_220 : q_g (.methodLink RX2 15 arraycopyName) := ⟨(List.mem_append_right _ (List.mem_of_getElem? (i := 450) (by decide +kernel))), good_of_word (by decide +kernel)⟩
theorem tw_221 : q_g (.code yX2_copy cX2_copy 2 none) := ⟨(List.mem_append_right _ (List.mem_of_getElem? (i := 449) (by decide +kernel))), good_of_word (by decide +kernel)⟩
theorem tw_222 : q_g (.selects RX2 yX2_copy yX2_copy) := ⟨(List.mem_append_right _ (List.mem_of_getElem? (i := 448) (by decide +kernel))), good_of_word (by decide +kernel)⟩
theorem tw_223 : q_g (.instanceMethod yX2_copy) := ⟨(List.mem_append_right _ (List.mem_of_getElem? (i := 447) (by decide +kernel))), good_of_word (by decide +kernel)⟩
theorem tw_224 : q_g (.methodLink RX6 55 yX2_copy) := ⟨(List.mem_append_right _ (List.mem_of_getElem? (i := 446) (by decide +kernel))), good_of_word (by decide +kernel)⟩
theorem tw_225 : q_g (.code yX6_copy cX6_copy 3 none) := ⟨(List.mem_append_right _ (List.mem_of_getElem? (i := 430) (by decide +kernel))), good_of_word (by decide +kernel)⟩
theorem tw_226 : q_g (.code Lib.Math.min.name Lib.Math.min.code 2 (some .int)) := ⟨(List.mem_append_right _ (List.mem_of_getElem? (i := 453) (by decide +kernel))), good_of_word (by decide +kernel)⟩
theorem tw_227 : q_g (.static Lib.Math.min.name) := ⟨(List.mem_append_right _ (List.mem_of_getElem? (i := 452) (by decide +kernel))), good_of_word (by decide +kernel)⟩
theorem tw_228 : q_g (.methodLink RX1 35 Lib.Math.min.name) := ⟨(List.mem_append_right _ (List.mem_of_getElem? (i := 451) (by decide +kernel))), good_of_word (by decide +kernel)⟩
theorem tw_229 : q_g (.fieldLink RX1 32 "DeadlineShare$History" "size" "I") := ⟨(List.mem_append_right _ (List.mem_of_getElem? (i := 294) (by decide +kernel))), good_of_word (by decide +kernel)⟩
theorem tw_230 : q_g (.selects RX6 yX6_copy yX6_copy) := ⟨(List.mem_append_right _ (List.mem_of_getElem? (i := 429) (by decide +kernel))), good_of_word (by decide +kernel)⟩
theorem tw_231 : q_g (.instanceMethod yX6_copy) := ⟨(List.mem_append_right _ (List.mem_of_getElem? (i := 428) (by decide +kernel))), good_of_word (by decide +kernel)⟩
theorem tw_232 : q_g (.methodLink RX1 28 yX6_copy) := ⟨(List.mem_append_right _ (List.mem_of_getElem? (i := 427) (by decide +kernel))), good_of_word (by decide +kernel)⟩
theorem tw_233 : q_g (.fieldLink RX1 24 "DeadlineShare$History" "next" "I") := ⟨(List.mem_append_right _ (List.mem_of_getElem? (i := 293) (by decide +kernel))), good_of_word (by decide +kernel)⟩
theorem tw_234 : q_g (.code yX1_keep cX1_keep 3 none) := ⟨(List.mem_append_right _ (List.mem_of_getElem? (i := 426) (by decide +kernel))), good_of_word (by decide +kernel)⟩
theorem tw_235 : q_g (.fieldLink RX8 84 "DeadlineShare$Task" "budget" "I") := ⟨(List.mem_append_right _ (List.mem_of_getElem? (i := 186) (by decide +kernel))), good_of_word (by decide +kernel)⟩
theorem tw_236 : q_g (.fieldLink RX8 90 "DeadlineShare$Task" "period" "I") := ⟨(List.mem_append_right _ (List.mem_of_getElem? (i := 191) (by decide +kernel))), good_of_word (by decide +kernel)⟩
theorem tw_237 : q_g (.fieldLink RX8 87 "DeadlineShare$Task" "quota" "I") := ⟨(List.mem_append_right _ (List.mem_of_getElem? (i := 189) (by decide +kernel))), good_of_word (by decide +kernel)⟩
theorem tw_238 : q_g (.code yX8_takeQuota cX8_takeQuota 3 none) := ⟨(List.mem_append_right _ (List.mem_of_getElem? (i := 474) (by decide +kernel))), good_of_word (by decide +kernel)⟩
theorem tw_239 : q_g (.fieldLink RX5 38 "DeadlineShare$Script" "timesBack" "I") := ⟨(List.mem_append_right _ (List.mem_of_getElem? (i := 87) (by decide +kernel))), good_of_word (by decide +kernel)⟩
theorem tw_240 : q_g (.fieldLink RX5 35 "DeadlineShare$Script" "toRun" "I") := ⟨(List.mem_append_right _ (List.mem_of_getElem? (i := 84) (by decide +kernel))), good_of_word (by decide +kernel)⟩
theorem tw_241 : q_g (.fieldLink RX5 32 "DeadlineShare$Script" "at" "I") := ⟨(List.mem_append_right _ (List.mem_of_getElem? (i := 81) (by decide +kernel))), good_of_word (by decide +kernel)⟩
theorem tw_242 : q_g (.fieldLink RX5 28 "DeadlineShare$Script" "size" "I") := ⟨(List.mem_append_right _ (List.mem_of_getElem? (i := 79) (by decide +kernel))), good_of_word (by decide +kernel)⟩
theorem tw_243 : q_g (.code yX5_drop cX5_drop 1 none) := ⟨(List.mem_append_right _ (List.mem_of_getElem? (i := 465) (by decide +kernel))), good_of_word (by decide +kernel)⟩
theorem tw_244 : q_g (.selects RX8 yX8_takeQuota yX8_takeQuota) := ⟨(List.mem_append_right _ (List.mem_of_getElem? (i := 473) (by decide +kernel))), good_of_word (by decide +kernel)⟩
theorem tw_245 : q_g (.instanceMethod yX8_takeQuota) := ⟨(List.mem_append_right _ (List.mem_of_getElem? (i := 472) (by decide +kernel))), good_of_word (by decide +kernel)⟩
theorem tw_246 : q_g (.methodLink RX8 73 yX8_takeQuota) := ⟨(List.mem_append_right _ (List.mem_of_getElem? (i := 471) (by decide +kernel))), good_of_word (by decide +kernel)⟩
theorem tw_247 : q_g (.fieldLink RX8 70 "DeadlineShare$Task" "napTill" "I") := ⟨(List.mem_append_right _ (List.mem_of_getElem? (i := 184) (by decide +kernel))), good_of_word (by decide +kernel)⟩
theorem tw_248 : q_g (.fieldLink RX8 67 "DeadlineShare$Task" "longest" "I") := ⟨(List.mem_append_right _ (List.mem_of_getElem? (i := 183) (by decide +kernel))), good_of_word (by decide +kernel)⟩
theorem tw_249 : q_g (.fieldLink RX8 64 "DeadlineShare$Task" "wait" "I") := ⟨(List.mem_append_right _ (List.mem_of_getElem? (i := 181) (by decide +kernel))), good_of_word (by decide +kernel)⟩
theorem tw_250 : q_g (.fieldLink RX8 61 "DeadlineShare$Task" "late" "I") := ⟨(List.mem_append_right _ (List.mem_of_getElem? (i := 179) (by decide +kernel))), good_of_word (by decide +kernel)⟩
theorem tw_251 : q_g (.fieldLink RX8 58 "DeadlineShare$Task" "requests" "I") := ⟨(List.mem_append_right _ (List.mem_of_getElem? (i := 176) (by decide +kernel))), good_of_word (by decide +kernel)⟩
theorem tw_252 : q_g (.fieldLink RX8 55 "DeadlineShare$Task" "served" "I") := ⟨(List.mem_append_right _ (List.mem_of_getElem? (i := 174) (by decide +kernel))), good_of_word (by decide +kernel)⟩
theorem tw_253 : q_g (.fieldLink RX8 52 "DeadlineShare$Task" "lagWeight" "I") := ⟨(List.mem_append_right _ (List.mem_of_getElem? (i := 172) (by decide +kernel))), good_of_word (by decide +kernel)⟩
theorem tw_254 : q_g (.methodLink RX8 48 yX10_set) := ⟨(List.mem_append_right _ (List.mem_of_getElem? (i := 466) (by decide +kernel))), good_of_word (by decide +kernel)⟩
theorem tw_255 : q_g (.fieldLink RX8 45 "DeadlineShare$Task" "left" "I") := ⟨(List.mem_append_right _ (List.mem_of_getElem? (i := 166) (by decide +kernel))), good_of_word (by decide +kernel)⟩
theorem tw_256 : q_g (.fieldLink RX8 41 "DeadlineShare$Task" "v" "J") := ⟨(List.mem_append_right _ (List.mem_of_getElem? (i := 163) (by decide +kernel))), good_of_word (by decide +kernel)⟩
theorem tw_257 : q_g (.fieldLink RX8 38 "DeadlineShare$Task" "state" "I") := ⟨(List.mem_append_right _ (List.mem_of_getElem? (i := 160) (by decide +kernel))), good_of_word (by decide +kernel)⟩
theorem tw_258 : q_g (.fieldLink RX8 35 "DeadlineShare$Task" "slice" "I") := ⟨(List.mem_append_right _ (List.mem_of_getElem? (i := 157) (by decide +kernel))), good_of_word (by decide +kernel)⟩
theorem tw_259 : q_g (.fieldLink RX8 32 "DeadlineShare$Task" "weight" "I") := ⟨(List.mem_append_right _ (List.mem_of_getElem? (i := 154) (by decide +kernel))), good_of_word (by decide +kernel)⟩
theorem tw_260 : q_g (.selects RX5 yX5_drop yX5_drop) := ⟨(List.mem_append_right _ (List.mem_of_getElem? (i := 464) (by decide +kernel))), good_of_word (by decide +kernel)⟩
theorem tw_261 : q_g (.instanceMethod yX5_drop) := ⟨(List.mem_append_right _ (List.mem_of_getElem? (i := 463) (by decide +kernel))), good_of_word (by decide +kernel)⟩
theorem tw_262 : q_g (.methodLink RX8 29 yX5_drop) := ⟨(List.mem_append_right _ (List.mem_of_getElem? (i := 462) (by decide +kernel))), good_of_word (by decide +kernel)⟩
theorem tw_263 : q_g (.code yX8_startAnew cX8_startAnew 3 none) := ⟨(List.mem_append_right _ (List.mem_of_getElem? (i := 461) (by decide +kernel))), good_of_word (by decide +kernel)⟩
theorem tw_264 : q_g (.selects RX8 yX8_startAnew yX8_startAnew) := ⟨(List.mem_append_right _ (List.mem_of_getElem? (i := 460) (by decide +kernel))), good_of_word (by decide +kernel)⟩
theorem tw_265 : q_g (.instanceMethod yX8_startAnew) := ⟨(List.mem_append_right _ (List.mem_of_getElem? (i := 459) (by decide +kernel))), good_of_word (by decide +kernel)⟩
theorem tw_266 : q_g (.methodLink RX6 65 yX8_startAnew) := ⟨(List.mem_append_right _ (List.mem_of_getElem? (i := 458) (by decide +kernel))), good_of_word (by decide +kernel)⟩
theorem tw_267 : q_g (.code yX6_addTask cX6_addTask 3 (some .int)) := ⟨(List.mem_append_right _ (List.mem_of_getElem? (i := 457) (by decide +kernel))), good_of_word (by decide +kernel)⟩
theorem tw_268 : q_g (.code yX11_isWeight cX11_isWeight 1 (some .boolean)) := ⟨(List.mem_append_right _ (List.mem_of_getElem? (i := 419) (by decide +kernel))), good_of_word (by decide +kernel)⟩
theorem tw_269 : q_g (.code yX11_isSlice cX11_isSlice 1 (some .boolean)) := ⟨(List.mem_append_right _ (List.mem_of_getElem? (i := 422) (by decide +kernel))), good_of_word (by decide +kernel)⟩
theorem tw_270 : q_g (.code yX11_isImage cX11_isImage 1 (some .boolean)) := ⟨(List.mem_append_right _ (List.mem_of_getElem? (i := 889) (by decide +kernel))), good_of_word (by decide +kernel)⟩
theorem tw_271 : q_g (.fieldLink RX11 223 "DeadlineShare$State" "time" "I") := ⟨(List.mem_append_right _ (List.mem_of_getElem? (i := 239) (by decide +kernel))), good_of_word (by decide +kernel)⟩
theorem tw_272 : q_g (.code yX11_canTick cX11_canTick 2 (some .boolean)) := ⟨(List.mem_append_right _ (List.mem_of_getElem? (i := 1029) (by decide +kernel))), good_of_word (by decide +kernel)⟩
theorem tw_273 : q_g (.constant RX9 16 (1000000)) := ⟨(List.mem_append_right _ (List.mem_of_getElem? (i := 365) (by decide +kernel))), good_of_word (by decide +kernel)⟩
theorem tw_274 : q_g (.code yX9_allows cX9_allows 3 (some .boolean)) := ⟨(List.mem_append_right _ (List.mem_of_getElem? (i := 364) (by decide +kernel))), good_of_word (by decide +kernel)⟩
theorem tw_275 : q_g (.fieldLink RX9 17 "DeadlineShare$Terms" "mode" "I") := ⟨(List.mem_append_right _ (List.mem_of_getElem? (i := 34) (by decide +kernel))), good_of_word (by decide +kernel)⟩
theorem tw_276 : q_g (.code yX9_get cX9_get 2 (some .int)) := ⟨(List.mem_append_right _ (List.mem_of_getElem? (i := 376) (by decide +kernel))), good_of_word (by decide +kernel)⟩
theorem tw_277 : q_g (.code yX9_set cX9_set 3 none) := ⟨(List.mem_append_right _ (List.mem_of_getElem? (i := 380) (by decide +kernel))), good_of_word (by decide +kernel)⟩
theorem tw_278 : q_g (.selects RX4 yX4_add yX4_add) := ⟨(List.mem_append_right _ (List.mem_of_getElem? (i := 368) (by decide +kernel))), good_of_word (by decide +kernel)⟩
theorem tw_279 : q_g (.instanceMethod yX4_add) := ⟨(List.mem_append_right _ (List.mem_of_getElem? (i := 367) (by decide +kernel))), good_of_word (by decide +kernel)⟩
theorem tw_280 : q_g (.methodLink RX11 84 yX4_add) := ⟨(List.mem_append_right _ (List.mem_of_getElem? (i := 366) (by decide +kernel))), good_of_word (by decide +kernel)⟩
theorem tw_281 : q_g (.selects RX4 yX4_none yX4_none) := ⟨(List.mem_append_right _ (List.mem_of_getElem? (i := 383) (by decide +kernel))), good_of_word (by decide +kernel)⟩
theorem tw_282 : q_g (.instanceMethod yX4_none) := ⟨(List.mem_append_right _ (List.mem_of_getElem? (i := 382) (by decide +kernel))), good_of_word (by decide +kernel)⟩
theorem tw_283 : q_g (.methodLink RX11 95 yX4_none) := ⟨(List.mem_append_right _ (List.mem_of_getElem? (i := 381) (by decide +kernel))), good_of_word (by decide +kernel)⟩
theorem tw_284 : q_g (.selects RX9 yX9_set yX9_set) := ⟨(List.mem_append_right _ (List.mem_of_getElem? (i := 379) (by decide +kernel))), good_of_word (by decide +kernel)⟩
theorem tw_285 : q_g (.instanceMethod yX9_set) := ⟨(List.mem_append_right _ (List.mem_of_getElem? (i := 378) (by decide +kernel))), good_of_word (by decide +kernel)⟩
theorem tw_286 : q_g (.methodLink RX11 91 yX9_set) := ⟨(List.mem_append_right _ (List.mem_of_getElem? (i := 377) (by decide +kernel))), good_of_word (by decide +kernel)⟩
theorem tw_287 : q_g (.selects RX9 yX9_get yX9_get) := ⟨(List.mem_append_right _ (List.mem_of_getElem? (i := 375) (by decide +kernel))), good_of_word (by decide +kernel)⟩
theorem tw_288 : q_g (.instanceMethod yX9_get) := ⟨(List.mem_append_right _ (List.mem_of_getElem? (i := 374) (by decide +kernel))), good_of_word (by decide +kernel)⟩
theorem tw_289 : q_g (.methodLink RX11 88 yX9_get) := ⟨(List.mem_append_right _ (List.mem_of_getElem? (i := 373) (by decide +kernel))), good_of_word (by decide +kernel)⟩
theorem tw_290 : q_g (.selects RX9 yX9_allows yX9_allows) := ⟨(List.mem_append_right _ (List.mem_of_getElem? (i := 363) (by decide +kernel))), good_of_word (by decide +kernel)⟩
theorem tw_291 : q_g (.instanceMethod yX9_allows) := ⟨(List.mem_append_right _ (List.mem_of_getElem? (i := 362) (by decide +kernel))), good_of_word (by decide +kernel)⟩
theorem tw_292 : q_g (.methodLink RX11 80 yX9_allows) := ⟨(List.mem_append_right _ (List.mem_of_getElem? (i := 361) (by decide +kernel))), good_of_word (by decide +kernel)⟩
theorem tw_293 : q_g (.code yX11_terms cX11_terms 4 (some .int)) := ⟨(List.mem_append_right _ (List.mem_of_getElem? (i := 360) (by decide +kernel))), good_of_word (by decide +kernel)⟩
theorem tw_294 : q_g (.fieldLink RX7 15 "DeadlineShare$Tape" "length" "I") := ⟨(List.mem_append_right _ (List.mem_of_getElem? (i := 57) (by decide +kernel))), good_of_word (by decide +kernel)⟩
theorem tw_295 : q_g (.code yX7_hasRoomForFive cX7_hasRoomForFive 1 (some .boolean)) := ⟨(List.mem_append_right _ (List.mem_of_getElem? (i := 392) (by decide +kernel))), good_of_word (by decide +kernel)⟩
theorem tw_296 : q_g (.code yX7_add cX7_add 2 none) := ⟨(List.mem_append_right _ (List.mem_of_getElem? (i := 400) (by decide +kernel))), good_of_word (by decide +kernel)⟩
theorem tw_297 : q_g (.selects RX7 yX7_add yX7_add) := ⟨(List.mem_append_right _ (List.mem_of_getElem? (i := 399) (by decide +kernel))), good_of_word (by decide +kernel)⟩
theorem tw_298 : q_g (.instanceMethod yX7_add) := ⟨(List.mem_append_right _ (List.mem_of_getElem? (i := 398) (by decide +kernel))), good_of_word (by decide +kernel)⟩
theorem tw_299 : q_g (.methodLink RX7 19 yX7_add) := ⟨(List.mem_append_right _ (List.mem_of_getElem? (i := 397) (by decide +kernel))), good_of_word (by decide +kernel)⟩
theorem tw_300 : q_g (.code yX7_addFour cX7_addFour 2 none) := ⟨(List.mem_append_right _ (List.mem_of_getElem? (i := 396) (by decide +kernel))), good_of_word (by decide +kernel)⟩
theorem tw_301 : q_g (.code yX7_byteAt cX7_byteAt 2 (some .int)) := ⟨(List.mem_append_right _ (List.mem_of_getElem? (i := 412) (by decide +kernel))), good_of_word (by decide +kernel)⟩
theorem tw_302 : q_g (.fieldLink RX11 106 "DeadlineShare$Tape" "length" "I") := ⟨(List.mem_append_right _ (List.mem_of_getElem? (i := 59) (by decide +kernel))), good_of_word (by decide +kernel)⟩
theorem tw_303 : q_g (.selects RX7 yX7_addFour yX7_addFour) := ⟨(List.mem_append_right _ (List.mem_of_getElem? (i := 395) (by decide +kernel))), good_of_word (by decide +kernel)⟩
theorem tw_304 : q_g (.instanceMethod yX7_addFour) := ⟨(List.mem_append_right _ (List.mem_of_getElem? (i := 394) (by decide +kernel))), good_of_word (by decide +kernel)⟩
theorem tw_305 : q_g (.methodLink RX11 102 yX7_addFour) := ⟨(List.mem_append_right _ (List.mem_of_getElem? (i := 393) (by decide +kernel))), good_of_word (by decide +kernel)⟩
theorem tw_306 : q_g (.selects RX7 yX7_hasRoomForFive yX7_hasRoomForFive) := ⟨(List.mem_append_right _ (List.mem_of_getElem? (i := 391) (by decide +kernel))), good_of_word (by decide +kernel)⟩
theorem tw_307 : q_g (.instanceMethod yX7_hasRoomForFive) := ⟨(List.mem_append_right _ (List.mem_of_getElem? (i := 390) (by decide +kernel))), good_of_word (by decide +kernel)⟩
theorem tw_308 : q_g (.methodLink RX11 98 yX7_hasRoomForFive) := ⟨(List.mem_append_right _ (List.mem_of_getElem? (i := 389) (by decide +kernel))), good_of_word (by decide +kernel)⟩
theorem tw_309 : q_g (.code yX11_feed cX11_feed 6 (some .int)) := ⟨(List.mem_append_right _ (List.mem_of_getElem? (i := 388) (by decide +kernel))), good_of_word (by decide +kernel)⟩
theorem tw_310 : q_g (.code yX11_end cX11_end 2 (some .int)) := ⟨(List.mem_append_right _ (List.mem_of_getElem? (i := 404) (by decide +kernel))), good_of_word (by decide +kernel)⟩
theorem tw_311 : q_g (.selects RX7 yX7_byteAt yX7_byteAt) := ⟨(List.mem_append_right _ (List.mem_of_getElem? (i := 411) (by decide +kernel))), good_of_word (by decide +kernel)⟩
theorem tw_312 : q_g (.instanceMethod yX7_byteAt) := ⟨(List.mem_append_right _ (List.mem_of_getElem? (i := 410) (by decide +kernel))), good_of_word (by decide +kernel)⟩
theorem tw_313 : q_g (.methodLink RX11 109 yX7_byteAt) := ⟨(List.mem_append_right _ (List.mem_of_getElem? (i := 409) (by decide +kernel))), good_of_word (by decide +kernel)⟩
theorem tw_314 : q_g (.code yX11_tape cX11_tape 2 (some .int)) := ⟨(List.mem_append_right _ (List.mem_of_getElem? (i := 408) (by decide +kernel))), good_of_word (by decide +kernel)⟩
theorem tw_315 : q_g (.selects RX6 yX6_addTask yX6_addTask) := ⟨(List.mem_append_right _ (List.mem_of_getElem? (i := 456) (by decide +kernel))), good_of_word (by decide +kernel)⟩
theorem tw_316 : q_g (.instanceMethod yX6_addTask) := ⟨(List.mem_append_right _ (List.mem_of_getElem? (i := 455) (by decide +kernel))), good_of_word (by decide +kernel)⟩
theorem tw_317 : q_g (.methodLink RX11 126 yX6_addTask) := ⟨(List.mem_append_right _ (List.mem_of_getElem? (i := 454) (by decide +kernel))), good_of_word (by decide +kernel)⟩
theorem tw_318 : q_g (.selects RX1 yX1_keep yX1_keep) := ⟨(List.mem_append_right _ (List.mem_of_getElem? (i := 425) (by decide +kernel))), good_of_word (by decide +kernel)⟩
theorem tw_319 : q_g (.instanceMethod yX1_keep) := ⟨(List.mem_append_right _ (List.mem_of_getElem? (i := 424) (by decide +kernel))), good_of_word (by decide +kernel)⟩
theorem tw_320 : q_g (.methodLink RX11 122 yX1_keep) := ⟨(List.mem_append_right _ (List.mem_of_getElem? (i := 423) (by decide +kernel))), good_of_word (by decide +kernel)⟩
theorem tw_321 : q_g (.fieldLink RX11 119 "DeadlineShare$State" "count" "I") := ⟨(List.mem_append_right _ (List.mem_of_getElem? (i := 237) (by decide +kernel))), good_of_word (by decide +kernel)⟩
theorem tw_322 : q_g (.static yX11_isSlice) := ⟨(List.mem_append_right _ (List.mem_of_getElem? (i := 421) (by decide +kernel))), good_of_word (by decide +kernel)⟩
theorem tw_323 : q_g (.methodLink RX11 116 yX11_isSlice) := ⟨(List.mem_append_right _ (List.mem_of_getElem? (i := 420) (by decide +kernel))), good_of_word (by decide +kernel)⟩
theorem tw_324 : q_g (.initialized RX11) := ⟨(List.mem_append_right _ (List.mem_of_getElem? (i := 1) (by decide +kernel))), good_of_word (by decide +kernel)⟩
theorem tw_325 : q_g (.static yX11_isWeight) := ⟨(List.mem_append_right _ (List.mem_of_getElem? (i := 418) (by decide +kernel))), good_of_word (by decide +kernel)⟩
theorem tw_326 : q_g (.methodLink RX11 112 yX11_isWeight) := ⟨(List.mem_append_right _ (List.mem_of_getElem? (i := 417) (by decide +kernel))), good_of_word (by decide +kernel)⟩
theorem tw_327 : q_g (.code yX11_task cX11_task 3 (some .int)) := ⟨(List.mem_append_right _ (List.mem_of_getElem? (i := 416) (by decide +kernel))), good_of_word (by decide +kernel)⟩
theorem tw_328 : q_g (.methodLink RX11 130 yX6_has) := ⟨(List.mem_append_right _ (List.mem_of_getElem? (i := 479) (by decide +kernel))), good_of_word (by decide +kernel)⟩
theorem tw_329 : q_g (.code yX11_join cX11_join 3 (some .int)) := ⟨(List.mem_append_right _ (List.mem_of_getElem? (i := 478) (by decide +kernel))), good_of_word (by decide +kernel)⟩
theorem tw_330 : q_g (.code yX11_leave cX11_leave 3 (some .int)) := ⟨(List.mem_append_right _ (List.mem_of_getElem? (i := 549) (by decide +kernel))), good_of_word (by decide +kernel)⟩
theorem tw_331 : q_g (.code yX11_yields cX11_yields 4 (some .int)) := ⟨(List.mem_append_right _ (List.mem_of_getElem? (i := 600) (by decide +kernel))), good_of_word (by decide +kernel)⟩
theorem tw_332 : q_g (.code yX11_script cX11_script 4 (some .int)) := ⟨(List.mem_append_right _ (List.mem_of_getElem? (i := 621) (by decide +kernel))), good_of_word (by decide +kernel)⟩
theorem tw_333 : q_g (.code yX11_listing cX11_listing 3 (some .int)) := ⟨(List.mem_append_right _ (List.mem_of_getElem? (i := 754) (by decide +kernel))), good_of_word (by decide +kernel)⟩
theorem tw_334 : q_g (.code yX11_weigh cX11_weigh 5 (some .int)) := ⟨(List.mem_append_right _ (List.mem_of_getElem? (i := 566) (by decide +kernel))), good_of_word (by decide +kernel)⟩
theorem tw_335 : q_g (.code yX11_slice cX11_slice 5 (some .int)) := ⟨(List.mem_append_right _ (List.mem_of_getElem? (i := 579) (by decide +kernel))), good_of_word (by decide +kernel)⟩
theorem tw_336 : q_g (.code yX11_wish cX11_wish 4 (some .int)) := ⟨(List.mem_append_right _ (List.mem_of_getElem? (i := 588) (by decide +kernel))), good_of_word (by decide +kernel)⟩
theorem tw_337 : q_g (.code yX11_quota cX11_quota 6 (some .int)) := ⟨(List.mem_append_right _ (List.mem_of_getElem? (i := 616) (by decide +kernel))), good_of_word (by decide +kernel)⟩
theorem tw_338 : q_g (.code yX11_fault cX11_fault 1 (some .int)) := ⟨(List.mem_append_right _ (List.mem_of_getElem? (i := 778) (by decide +kernel))), good_of_word (by decide +kernel)⟩
theorem tw_339 : q_g (.fieldLink RX11 230 "DeadlineShare$History" "size" "I") := ⟨(List.mem_append_right _ (List.mem_of_getElem? (i := 295) (by decide +kernel))), good_of_word (by decide +kernel)⟩
theorem tw_340 : q_g (.code yX11_undo cX11_undo 1 (some .int)) := ⟨(List.mem_append_right _ (List.mem_of_getElem? (i := 878) (by decide +kernel))), good_of_word (by decide +kernel)⟩
theorem tw_341 : q_g (.methodLink RX11 238 yX6_copy) := ⟨(List.mem_append_right _ (List.mem_of_getElem? (i := 890) (by decide +kernel))), good_of_word (by decide +kernel)⟩
theorem tw_342 : q_g (.static yX11_isImage) := ⟨(List.mem_append_right _ (List.mem_of_getElem? (i := 888) (by decide +kernel))), good_of_word (by decide +kernel)⟩
theorem tw_343 : q_g (.methodLink RX11 235 yX11_isImage) := ⟨(List.mem_append_right _ (List.mem_of_getElem? (i := 887) (by decide +kernel))), good_of_word (by decide +kernel)⟩
theorem tw_344 : q_g (.code yX11_image cX11_image 2 (some .int)) := ⟨(List.mem_append_right _ (List.mem_of_getElem? (i := 886) (by decide +kernel))), good_of_word (by decide +kernel)⟩
theorem tw_345 : q_g (.code yX11_back cX11_back 2 (some .int)) := ⟨(List.mem_append_right _ (List.mem_of_getElem? (i := 894) (by decide +kernel))), good_of_word (by decide +kernel)⟩
theorem tw_346 : q_g (.code yX11_of cX11_of 3 (some .int)) := ⟨(List.mem_append_right _ (List.mem_of_getElem? (i := 898) (by decide +kernel))), good_of_word (by decide +kernel)⟩
theorem tw_347 : q_g (.constantLong RX11 245 (-9223372036854775808)) := ⟨(List.mem_append_right _ (List.mem_of_getElem? (i := 913) (by decide +kernel))), good_of_word (by decide +kernel)⟩
theorem tw_348 : q_g (.code yX11_exact cX11_exact 4 (some .long)) := ⟨(List.mem_append_right _ (List.mem_of_getElem? (i := 912) (by decide +kernel))), good_of_word (by decide +kernel)⟩
theorem tw_349 : q_g (.methodLink RX11 155 yX6_weightOfAll) := ⟨(List.mem_append_right _ (List.mem_of_getElem? (i := 545) (by decide +kernel))), good_of_word (by decide +kernel)⟩
theorem tw_350 : q_g (.selects RX6 yX6_restOfV yX6_restOfV) := ⟨(List.mem_append_right _ (List.mem_of_getElem? (i := 927) (by decide +kernel))), good_of_word (by decide +kernel)⟩
theorem tw_351 : q_g (.instanceMethod yX6_restOfV) := ⟨(List.mem_append_right _ (List.mem_of_getElem? (i := 926) (by decide +kernel))), good_of_word (by decide +kernel)⟩
theorem tw_352 : q_g (.methodLink RX11 271 yX6_restOfV) := ⟨(List.mem_append_right _ (List.mem_of_getElem? (i := 925) (by decide +kernel))), good_of_word (by decide +kernel)⟩
theorem tw_353 : q_g (.methodLink RX11 268 yX6_wholeV) := ⟨(List.mem_append_right _ (List.mem_of_getElem? (i := 924) (by decide +kernel))), good_of_word (by decide +kernel)⟩
theorem tw_354 : q_g (.code yX11_time cX11_time 2 (some .long)) := ⟨(List.mem_append_right _ (List.mem_of_getElem? (i := 923) (by decide +kernel))), good_of_word (by decide +kernel)⟩
theorem tw_355 : q_g (.methodLink RX11 274 yX6_eligibleBits) := ⟨(List.mem_append_right _ (List.mem_of_getElem? (i := 937) (by decide +kernel))), good_of_word (by decide +kernel)⟩
theorem tw_356 : q_g (.code yX11_eligible cX11_eligible 1 (some .int)) := ⟨(List.mem_append_right _ (List.mem_of_getElem? (i := 936) (by decide +kernel))), good_of_word (by decide +kernel)⟩
theorem tw_357 : q_g (.selects RX6 yX6_eligibleAt yX6_eligibleAt) := ⟨(List.mem_append_right _ (List.mem_of_getElem? (i := 947) (by decide +kernel))), good_of_word (by decide +kernel)⟩
theorem tw_358 : q_g (.instanceMethod yX6_eligibleAt) := ⟨(List.mem_append_right _ (List.mem_of_getElem? (i := 946) (by decide +kernel))), good_of_word (by decide +kernel)⟩
theorem tw_359 : q_g (.methodLink RX11 277 yX6_eligibleAt) := ⟨(List.mem_append_right _ (List.mem_of_getElem? (i := 945) (by decide +kernel))), good_of_word (by decide +kernel)⟩
theorem tw_360 : q_g (.code yX11_earliest cX11_earliest 2 (some .int)) := ⟨(List.mem_append_right _ (List.mem_of_getElem? (i := 944) (by decide +kernel))), good_of_word (by decide +kernel)⟩
theorem tw_361 : q_g (.code yX11_rank cX11_rank 2 (some .int)) := ⟨(List.mem_append_right _ (List.mem_of_getElem? (i := 957) (by decide +kernel))), good_of_word (by decide +kernel)⟩
theorem tw_362 : q_g (.selects RX6 yX6_logHolds yX6_logHolds) := ⟨(List.mem_append_right _ (List.mem_of_getElem? (i := 968) (by decide +kernel))), good_of_word (by decide +kernel)⟩
theorem tw_363 : q_g (.instanceMethod yX6_logHolds) := ⟨(List.mem_append_right _ (List.mem_of_getElem? (i := 967) (by decide +kernel))), good_of_word (by decide +kernel)⟩
theorem tw_364 : q_g (.methodLink RX11 284 yX6_logHolds) := ⟨(List.mem_append_right _ (List.mem_of_getElem? (i := 966) (by decide +kernel))), good_of_word (by decide +kernel)⟩
theorem tw_365 : q_g (.code yX11_ran cX11_ran 2 (some .int)) := ⟨(List.mem_append_right _ (List.mem_of_getElem? (i := 965) (by decide +kernel))), good_of_word (by decide +kernel)⟩
theorem tw_366 : q_g (.code yX11_service cX11_service 4 (some .int)) := ⟨(List.mem_append_right _ (List.mem_of_getElem? (i := 981) (by decide +kernel))), good_of_word (by decide +kernel)⟩
theorem tw_367 : q_g (.code yX11_share cX11_share 4 (some .long)) := ⟨(List.mem_append_right _ (List.mem_of_getElem? (i := 994) (by decide +kernel))), good_of_word (by decide +kernel)⟩
theorem tw_368 : q_g (.code yX11_worst cX11_worst 3 (some .long)) := ⟨(List.mem_append_right _ (List.mem_of_getElem? (i := 1011) (by decide +kernel))), good_of_word (by decide +kernel)⟩
theorem tw_369 : q_g (.code yX11_finish cX11_finish 4 (some .int)) := ⟨(List.mem_append_right _ (List.mem_of_getElem? (i := 1033) (by decide +kernel))), good_of_word (by decide +kernel)⟩
theorem tw_370 : q_g (.code yX11_due cX11_due 5 (some .int)) := ⟨(List.mem_append_right _ (List.mem_of_getElem? (i := 1037) (by decide +kernel))), good_of_word (by decide +kernel)⟩
theorem tw_371 : q_g (.code yX11_least cX11_least 5 (some .int)) := ⟨(List.mem_append_right _ (List.mem_of_getElem? (i := 1041) (by decide +kernel))), good_of_word (by decide +kernel)⟩
theorem tw_372 : q_g (.fieldLink RX11 351 "DeadlineShare$Terms" "seed" "I") := ⟨(List.mem_append_right _ (List.mem_of_getElem? (i := 42) (by decide +kernel))), good_of_word (by decide +kernel)⟩
theorem tw_373 : q_g (.fieldLink RX11 348 "DeadlineShare$Terms" "carry" "I") := ⟨(List.mem_append_right _ (List.mem_of_getElem? (i := 39) (by decide +kernel))), good_of_word (by decide +kernel)⟩
theorem tw_374 : q_g (.fieldLink RX11 345 "DeadlineShare$Terms" "mode" "I") := ⟨(List.mem_append_right _ (List.mem_of_getElem? (i := 36) (by decide +kernel))), good_of_word (by decide +kernel)⟩
theorem tw_375 : q_g (.selects RX4 yX4_countOf yX4_countOf) := ⟨(List.mem_append_right _ (List.mem_of_getElem? (i := 1079) (by decide +kernel))), good_of_word (by decide +kernel)⟩
theorem tw_376 : q_g (.instanceMethod yX4_countOf) := ⟨(List.mem_append_right _ (List.mem_of_getElem? (i := 1078) (by decide +kernel))), good_of_word (by decide +kernel)⟩
theorem tw_377 : q_g (.methodLink RX11 342 yX4_countOf) := ⟨(List.mem_append_right _ (List.mem_of_getElem? (i := 1077) (by decide +kernel))), good_of_word (by decide +kernel)⟩
theorem tw_378 : q_g (.methodLink RX11 307 yX6_firstInLog) := ⟨(List.mem_append_right _ (List.mem_of_getElem? (i := 1012) (by decide +kernel))), good_of_word (by decide +kernel)⟩
theorem tw_379 : q_g (.fieldLink RX11 329 "DeadlineShare$State" "last" "I") := ⟨(List.mem_append_right _ (List.mem_of_getElem? (i := 242) (by decide +kernel))), good_of_word (by decide +kernel)⟩
theorem tw_380 : q_g (.selects RX6 yX6_howManyHaveScripts yX6_howManyHaveScripts) := ⟨(List.mem_append_right _ (List.mem_of_getElem? (i := 1075) (by decide +kernel))), good_of_word (by decide +kernel)⟩
theorem tw_381 : q_g (.instanceMethod yX6_howManyHaveScripts) := ⟨(List.mem_append_right _ (List.mem_of_getElem? (i := 1074) (by decide +kernel))), good_of_word (by decide +kernel)⟩
theorem tw_382 : q_g (.methodLink RX11 339 yX6_howManyHaveScripts) := ⟨(List.mem_append_right _ (List.mem_of_getElem? (i := 1073) (by decide +kernel))), good_of_word (by decide +kernel)⟩
theorem tw_383 : q_g (.selects RX6 yX6_howManyAre yX6_howManyAre) := ⟨(List.mem_append_right _ (List.mem_of_getElem? (i := 1071) (by decide +kernel))), good_of_word (by decide +kernel)⟩
theorem tw_384 : q_g (.instanceMethod yX6_howManyAre) := ⟨(List.mem_append_right _ (List.mem_of_getElem? (i := 1070) (by decide +kernel))), good_of_word (by decide +kernel)⟩
theorem tw_385 : q_g (.methodLink RX11 336 yX6_howManyAre) := ⟨(List.mem_append_right _ (List.mem_of_getElem? (i := 1069) (by decide +kernel))), good_of_word (by decide +kernel)⟩
theorem tw_386 : q_g (.code yX11_count cX11_count 2 (some .int)) := ⟨(List.mem_append_right _ (List.mem_of_getElem? (i := 1068) (by decide +kernel))), good_of_word (by decide +kernel)⟩
theorem tw_387 : q_g (.fieldLink RX11 354 "DeadlineShare$Refusals" "latest" "I") := ⟨(List.mem_append_right _ (List.mem_of_getElem? (i := 314) (by decide +kernel))), good_of_word (by decide +kernel)⟩
theorem tw_388 : q_g (.code yX11_status cX11_status 1 (some .int)) := ⟨(List.mem_append_right _ (List.mem_of_getElem? (i := 1084) (by decide +kernel))), good_of_word (by decide +kernel)⟩
theorem tw_389 : q_g (.fieldLink RX0 24 "DeadlineShare$Chooser" "drawn" "J") := ⟨(List.mem_append_right _ (List.mem_of_getElem? (i := 274) (by decide +kernel))), good_of_word (by decide +kernel)⟩
theorem tw_390 : q_g (.fieldLink RX0 19 "DeadlineShare$Terms" "seed" "I") := ⟨(List.mem_append_right _ (List.mem_of_getElem? (i := 41) (by decide +kernel))), good_of_word (by decide +kernel)⟩
theorem tw_391 : q_g (.code yX0_start cX0_start 2 none) := ⟨(List.mem_append_right _ (List.mem_of_getElem? (i := 1054) (by decide +kernel))), good_of_word (by decide +kernel)⟩
theorem tw_392 : q_g (.selects RX6 yX6_tick yX6_tick) := ⟨(List.mem_append_right _ (List.mem_of_getElem? (i := 785) (by decide +kernel))), good_of_word (by decide +kernel)⟩
theorem tw_393 : q_g (.instanceMethod yX6_tick) := ⟨(List.mem_append_right _ (List.mem_of_getElem? (i := 784) (by decide +kernel))), good_of_word (by decide +kernel)⟩
theorem tw_394 : q_g (.methodLink RX11 226 yX6_tick) := ⟨(List.mem_append_right _ (List.mem_of_getElem? (i := 783) (by decide +kernel))), good_of_word (by decide +kernel)⟩
theorem tw_395 : q_g (.code yX11_ticks cX11_ticks 4 (some .int)) := ⟨(List.mem_append_right _ (List.mem_of_getElem? (i := 782) (by decide +kernel))), good_of_word (by decide +kernel)⟩
theorem tw_396 : q_g (.selects RX11 yX11_canTick yX11_canTick) := ⟨(List.mem_append_left _ (List.mem_of_getElem? (i := 19) (by decide +kernel))), good_of_word (by decide +kernel)⟩
theorem tw_397 : q_g (.instanceMethod yX11_canTick) := ⟨(List.mem_append_right _ (List.mem_of_getElem? (i := 1028) (by decide +kernel))), good_of_word (by decide +kernel)⟩
theorem tw_398 : q_g (.methodLink RX11 314 yX11_canTick) := ⟨(List.mem_append_right _ (List.mem_of_getElem? (i := 1026) (by decide +kernel))), good_of_word (by decide +kernel)⟩
theorem tw_399 : q_g (.code yX11_ahead cX11_ahead 4 (some .int)) := ⟨(List.mem_append_right _ (List.mem_of_getElem? (i := 1025) (by decide +kernel))), good_of_word (by decide +kernel)⟩
theorem tw_400 : q_g (.selects RX6 yX6_lagEdge yX6_lagEdge) := ⟨(List.mem_append_right _ (List.mem_of_getElem? (i := 1057) (by decide +kernel))), good_of_word (by decide +kernel)⟩
theorem tw_401 : q_g (.instanceMethod yX6_lagEdge) := ⟨(List.mem_append_right _ (List.mem_of_getElem? (i := 1056) (by decide +kernel))), good_of_word (by decide +kernel)⟩
theorem tw_402 : q_g (.methodLink RX11 332 yX6_lagEdge) := ⟨(List.mem_append_right _ (List.mem_of_getElem? (i := 1055) (by decide +kernel))), good_of_word (by decide +kernel)⟩
theorem tw_403 : q_g (.selects RX0 yX0_start yX0_start) := ⟨(List.mem_append_right _ (List.mem_of_getElem? (i := 1053) (by decide +kernel))), good_of_word (by decide +kernel)⟩
theorem tw_404 : q_g (.instanceMethod yX0_start) := ⟨(List.mem_append_right _ (List.mem_of_getElem? (i := 1052) (by decide +kernel))), good_of_word (by decide +kernel)⟩
theorem tw_405 : q_g (.methodLink RX11 326 yX0_start) := ⟨(List.mem_append_right _ (List.mem_of_getElem? (i := 1051) (by decide +kernel))), good_of_word (by decide +kernel)⟩
theorem tw_406 : q_g (.constant RX11 325 (-2147483648)) := ⟨(List.mem_append_right _ (List.mem_of_getElem? (i := 1050) (by decide +kernel))), good_of_word (by decide +kernel)⟩
theorem tw_407 : q_g (.code yX11_would cX11_would 11 (some .int)) := ⟨(List.mem_append_right _ (List.mem_of_getElem? (i := 1049) (by decide +kernel))), good_of_word (by decide +kernel)⟩
theorem tw_408 : q_g (.constantLong RX12 65 (-1)) := ⟨(List.mem_append_right _ (List.mem_of_getElem? (i := 1096) (by decide +kernel))), good_of_word (by decide +kernel)⟩
theorem tw_409 : q_g (.fieldLink RX12 62 "DeadlineShareModel" "numbers" "[I") := ⟨(List.mem_append_right _ (List.mem_of_getElem? (i := 1119) (by decide +kernel))), good_of_word (by decide +kernel)⟩
theorem tw_410 : q_g (.fieldLink RX12 59 "DeadlineShareModel" "kinds" "[I") := ⟨(List.mem_append_right _ (List.mem_of_getElem? (i := 1118) (by decide +kernel))), good_of_word (by decide +kernel)⟩
theorem tw_411 : q_g (.fieldLink RX12 56 "DeadlineShareModel" "most" "[I") := ⟨(List.mem_append_right _ (List.mem_of_getElem? (i := 1117) (by decide +kernel))), good_of_word (by decide +kernel)⟩
theorem tw_412 : q_g (.fieldLink RX12 53 "DeadlineShareModel" "words" "[J") := ⟨(List.mem_append_right _ (List.mem_of_getElem? (i := 1116) (by decide +kernel))), good_of_word (by decide +kernel)⟩
theorem tw_413 : q_g (.constantLong RX12 51 (1279278)) := ⟨(List.mem_append_right _ (List.mem_of_getElem? (i := 1095) (by decide +kernel))), good_of_word (by decide +kernel)⟩
theorem tw_414 : q_g (.constantLong RX12 49 (20325477)) := ⟨(List.mem_append_right _ (List.mem_of_getElem? (i := 1094) (by decide +kernel))), good_of_word (by decide +kernel)⟩
theorem tw_415 : q_g (.constantLong RX12 47 (24290536)) := ⟨(List.mem_append_right _ (List.mem_of_getElem? (i := 1093) (by decide +kernel))), good_of_word (by decide +kernel)⟩
theorem tw_416 : q_g (.constantLong RX12 45 (14384)) := ⟨(List.mem_append_right _ (List.mem_of_getElem? (i := 1092) (by decide +kernel))), good_of_word (by decide +kernel)⟩
theorem tw_417 : q_g (.constantLong RX12 43 (19118)) := ⟨(List.mem_append_right _ (List.mem_of_getElem? (i := 1091) (by decide +kernel))), good_of_word (by decide +kernel)⟩
theorem tw_418 : q_g (.fieldLink RX12 39 "DeadlineShareModel" "fault" "I") := ⟨(List.mem_append_right _ (List.mem_of_getElem? (i := 1114) (by decide +kernel))), good_of_word (by decide +kernel)⟩
theorem tw_419 : q_g (.fieldLink RX12 36 "DeadlineShareModel" "tape" "[I") := ⟨(List.mem_append_right _ (List.mem_of_getElem? (i := 1108) (by decide +kernel))), good_of_word (by decide +kernel)⟩
theorem tw_420 : q_g (.fieldLink RX12 33 "DeadlineShareModel" "sorts" "[I") := ⟨(List.mem_append_right _ (List.mem_of_getElem? (i := 1106) (by decide +kernel))), good_of_word (by decide +kernel)⟩
theorem tw_421 : q_g (.fieldLink RX12 29 "DeadlineShareModel" "isKept" "[Z") := ⟨(List.mem_append_right _ (List.mem_of_getElem? (i := 1105) (by decide +kernel))), good_of_word (by decide +kernel)⟩
theorem tw_422 : q_g (.fieldLink RX12 26 "DeadlineShareModel" "images" "[J") := ⟨(List.mem_append_right _ (List.mem_of_getElem? (i := 1104) (by decide +kernel))), good_of_word (by decide +kernel)⟩
theorem tw_423 : q_g (.fieldLink RX12 23 "DeadlineShareModel" "paper" "[J") := ⟨(List.mem_append_right _ (List.mem_of_getElem? (i := 1103) (by decide +kernel))), good_of_word (by decide +kernel)⟩
theorem tw_424 : q_g (.fieldLink RX12 20 "DeadlineShareModel" "undos" "[J") := ⟨(List.mem_append_right _ (List.mem_of_getElem? (i := 1102) (by decide +kernel))), good_of_word (by decide +kernel)⟩
theorem tw_425 : q_g (.fieldLink RX12 16 "DeadlineShareModel" "row" "[J") := ⟨(List.mem_append_right _ (List.mem_of_getElem? (i := 1101) (by decide +kernel))), good_of_word (by decide +kernel)⟩
theorem tw_426 : q_g (.fieldLink RX12 13 "DeadlineShareModel" "term" "[I") := ⟨(List.mem_append_right _ (List.mem_of_getElem? (i := 1100) (by decide +kernel))), good_of_word (by decide +kernel)⟩
theorem tw_427 : q_g (.fieldLink RX12 7 "DeadlineShareModel" "refusals" "[I") := ⟨(List.mem_append_right _ (List.mem_of_getElem? (i := 1099) (by decide +kernel))), good_of_word (by decide +kernel)⟩
theorem tw_428 : q_g (.methodLink RX12 1 objectInit) := ⟨(List.mem_append_right _ (List.mem_of_getElem? (i := 1090) (by decide +kernel))), good_of_word (by decide +kernel)⟩
theorem tw_429 : q_g (.code yX12_init cX12_init 1 none) := ⟨(List.mem_append_right _ (List.mem_of_getElem? (i := 1089) (by decide +kernel))), good_of_word (by decide +kernel)⟩
theorem tw_430 : q_g (.code yX12_in cX12_in 6 (some .boolean)) := ⟨(List.mem_append_right _ (List.mem_of_getElem? (i := 1198) (by decide +kernel))), good_of_word (by decide +kernel)⟩
theorem tw_431 : q_g (.fieldLink RX12 70 "DeadlineShareModel" "status" "I") := ⟨(List.mem_append_right _ (List.mem_of_getElem? (i := 1098) (by decide +kernel))), good_of_word (by decide +kernel)⟩
theorem tw_432 : q_g (.code yX12_tell cX12_tell 2 (some .int)) := ⟨(List.mem_append_right _ (List.mem_of_getElem? (i := 1190) (by decide +kernel))), good_of_word (by decide +kernel)⟩
theorem tw_433 : q_g (.code yX12_refuse cX12_refuse 2 (some .int)) := ⟨(List.mem_append_right _ (List.mem_of_getElem? (i := 1186) (by decide +kernel))), good_of_word (by decide +kernel)⟩
theorem tw_434 : q_g (.code yX12_at cX12_at 1 (some .int)) := ⟨(List.mem_append_right _ (List.mem_of_getElem? (i := 1229) (by decide +kernel))), good_of_word (by decide +kernel)⟩
theorem tw_435 : q_g (.initialized RX12) := ⟨(List.mem_append_right _ (List.mem_of_getElem? (i := 13) (by decide +kernel))), good_of_word (by decide +kernel)⟩
theorem tw_436 : q_g (.static yX12_in) := ⟨(List.mem_append_right _ (List.mem_of_getElem? (i := 1197) (by decide +kernel))), good_of_word (by decide +kernel)⟩
theorem tw_437 : q_g (.methodLink RX12 83 yX12_in) := ⟨(List.mem_append_right _ (List.mem_of_getElem? (i := 1196) (by decide +kernel))), good_of_word (by decide +kernel)⟩
theorem tw_438 : q_g (.code yX12_isTask cX12_isTask 2 (some .boolean)) := ⟨(List.mem_append_right _ (List.mem_of_getElem? (i := 1237) (by decide +kernel))), good_of_word (by decide +kernel)⟩
theorem tw_439 : q_g (.code yX12_heavy cX12_heavy 4 (some .long)) := ⟨(List.mem_append_right _ (List.mem_of_getElem? (i := 1249) (by decide +kernel))), good_of_word (by decide +kernel)⟩
theorem tw_440 : q_g (.fieldLink RX12 73 "DeadlineShareModel" "nUndo" "I") := ⟨(List.mem_append_right _ (List.mem_of_getElem? (i := 1107) (by decide +kernel))), good_of_word (by decide +kernel)⟩
theorem tw_441 : q_g (.code yX12_remember cX12_remember 3 none) := ⟨(List.mem_append_right _ (List.mem_of_getElem? (i := 1226) (by decide +kernel))), good_of_word (by decide +kernel)⟩
theorem tw_442 : q_g (.code yX12_begin cX12_begin 2 none) := ⟨(List.mem_append_right _ (List.mem_of_getElem? (i := 1507) (by decide +kernel))), good_of_word (by decide +kernel)⟩
theorem tw_443 : q_g (.code yX12_over cX12_over 2 none) := ⟨(List.mem_append_right _ (List.mem_of_getElem? (i := 1511) (by decide +kernel))), good_of_word (by decide +kernel)⟩
theorem tw_444 : q_g (.fieldLink RX12 128 "DeadlineShareModel" "taped" "I") := ⟨(List.mem_append_right _ (List.mem_of_getElem? (i := 1109) (by decide +kernel))), good_of_word (by decide +kernel)⟩
theorem tw_445 : q_g (.code yX12_four cX12_four 3 none) := ⟨(List.mem_append_right _ (List.mem_of_getElem? (i := 1208) (by decide +kernel))), good_of_word (by decide +kernel)⟩
theorem tw_446 : q_g (.code yX12_logAt cX12_logAt 5 (some .int)) := ⟨(List.mem_append_right _ (List.mem_of_getElem? (i := 1478) (by decide +kernel))), good_of_word (by decide +kernel)⟩
theorem tw_447 : q_g (.code yX12_inState cX12_inState 4 (some .int)) := ⟨(List.mem_append_right _ (List.mem_of_getElem? (i := 1545) (by decide +kernel))), good_of_word (by decide +kernel)⟩
theorem tw_448 : q_g (.code yX12_scripted cX12_scripted 3 (some .int)) := ⟨(List.mem_append_right _ (List.mem_of_getElem? (i := 1549) (by decide +kernel))), good_of_word (by decide +kernel)⟩
theorem tw_449 : q_g (.code yX12_byDeadline cX12_byDeadline 4 (some .int)) := ⟨(List.mem_append_right _ (List.mem_of_getElem? (i := 1416) (by decide +kernel))), good_of_word (by decide +kernel)⟩
theorem tw_450 : q_g (.code yX12_byVirtual cX12_byVirtual 3 (some .int)) := ⟨(List.mem_append_right _ (List.mem_of_getElem? (i := 1412) (by decide +kernel))), good_of_word (by decide +kernel)⟩
theorem tw_451 : q_g (.code yX12_inTurn cX12_inTurn 6 (some .int)) := ⟨(List.mem_append_right _ (List.mem_of_getElem? (i := 1424) (by decide +kernel))), good_of_word (by decide +kernel)⟩
theorem tw_452 : q_g (.selects RX12 yX12_heavy yX12_heavy) := ⟨(List.mem_append_left _ (List.mem_of_getElem? (i := 28) (by decide +kernel))), good_of_word (by decide +kernel)⟩
theorem tw_453 : q_g (.instanceMethod yX12_heavy) := ⟨(List.mem_append_right _ (List.mem_of_getElem? (i := 1248) (by decide +kernel))), good_of_word (by decide +kernel)⟩
theorem tw_454 : q_g (.methodLink RX12 105 yX12_heavy) := ⟨(List.mem_append_right _ (List.mem_of_getElem? (i := 1246) (by decide +kernel))), good_of_word (by decide +kernel)⟩
theorem tw_455 : q_g (.code yX12_byDraws cX12_byDraws 7 (some .int)) := ⟨(List.mem_append_right _ (List.mem_of_getElem? (i := 1428) (by decide +kernel))), good_of_word (by decide +kernel)⟩
theorem tw_456 : q_g (.selects RX12 yX12_byDraws yX12_byDraws) := ⟨(List.mem_append_left _ (List.mem_of_getElem? (i := 55) (by decide +kernel))), good_of_word (by decide +kernel)⟩
theorem tw_457 : q_g (.instanceMethod yX12_byDraws) := ⟨(List.mem_append_right _ (List.mem_of_getElem? (i := 1427) (by decide +kernel))), good_of_word (by decide +kernel)⟩
theorem tw_458 : q_g (.methodLink RX12 267 yX12_byDraws) := ⟨(List.mem_append_right _ (List.mem_of_getElem? (i := 1425) (by decide +kernel))), good_of_word (by decide +kernel)⟩
theorem tw_459 : q_g (.selects RX12 yX12_inTurn yX12_inTurn) := ⟨(List.mem_append_left _ (List.mem_of_getElem? (i := 54) (by decide +kernel))), good_of_word (by decide +kernel)⟩
theorem tw_460 : q_g (.instanceMethod yX12_inTurn) := ⟨(List.mem_append_right _ (List.mem_of_getElem? (i := 1423) (by decide +kernel))), good_of_word (by decide +kernel)⟩
theorem tw_461 : q_g (.methodLink RX12 264 yX12_inTurn) := ⟨(List.mem_append_right _ (List.mem_of_getElem? (i := 1421) (by decide +kernel))), good_of_word (by decide +kernel)⟩
theorem tw_462 : q_g (.selects RX12 yX12_byDeadline yX12_byDeadline) := ⟨(List.mem_append_left _ (List.mem_of_getElem? (i := 52) (by decide +kernel))), good_of_word (by decide +kernel)⟩
theorem tw_463 : q_g (.instanceMethod yX12_byDeadline) := ⟨(List.mem_append_right _ (List.mem_of_getElem? (i := 1415) (by decide +kernel))), good_of_word (by decide +kernel)⟩
theorem tw_464 : q_g (.methodLink RX12 260 yX12_byDeadline) := ⟨(List.mem_append_right _ (List.mem_of_getElem? (i := 1413) (by decide +kernel))), good_of_word (by decide +kernel)⟩
theorem tw_465 : q_g (.selects RX12 yX12_byVirtual yX12_byVirtual) := ⟨(List.mem_append_left _ (List.mem_of_getElem? (i := 51) (by decide +kernel))), good_of_word (by decide +kernel)⟩
theorem tw_466 : q_g (.instanceMethod yX12_byVirtual) := ⟨(List.mem_append_right _ (List.mem_of_getElem? (i := 1411) (by decide +kernel))), good_of_word (by decide +kernel)⟩
theorem tw_467 : q_g (.methodLink RX12 256 yX12_byVirtual) := ⟨(List.mem_append_right _ (List.mem_of_getElem? (i := 1409) (by decide +kernel))), good_of_word (by decide +kernel)⟩
theorem tw_468 : q_g (.code yX12_chosen cX12_chosen 3 (some .int)) := ⟨(List.mem_append_right _ (List.mem_of_getElem? (i := 1408) (by decide +kernel))), good_of_word (by decide +kernel)⟩
theorem tw_469 : q_g (.code yX12_lookAtLags cX12_lookAtLags 4 none) := ⟨(List.mem_append_right _ (List.mem_of_getElem? (i := 1536) (by decide +kernel))), good_of_word (by decide +kernel)⟩
theorem tw_470 : q_g (.constantLong RX12 270 (128)) := ⟨(List.mem_append_right _ (List.mem_of_getElem? (i := 1436) (by decide +kernel))), good_of_word (by decide +kernel)⟩
theorem tw_471 : q_g (.code yX12_log cX12_log 4 none) := ⟨(List.mem_append_right _ (List.mem_of_getElem? (i := 1435) (by decide +kernel))), good_of_word (by decide +kernel)⟩
theorem tw_472 : q_g (.selects RX12 yX12_log yX12_log) := ⟨(List.mem_append_left _ (List.mem_of_getElem? (i := 56) (by decide +kernel))), good_of_word (by decide +kernel)⟩
theorem tw_473 : q_g (.instanceMethod yX12_log) := ⟨(List.mem_append_right _ (List.mem_of_getElem? (i := 1434) (by decide +kernel))), good_of_word (by decide +kernel)⟩
theorem tw_474 : q_g (.methodLink RX12 280 yX12_log) := ⟨(List.mem_append_right _ (List.mem_of_getElem? (i := 1432) (by decide +kernel))), good_of_word (by decide +kernel)⟩
theorem tw_475 : q_g (.selects RX12 yX12_chosen yX12_chosen) := ⟨(List.mem_append_left _ (List.mem_of_getElem? (i := 50) (by decide +kernel))), good_of_word (by decide +kernel)⟩
theorem tw_476 : q_g (.instanceMethod yX12_chosen) := ⟨(List.mem_append_right _ (List.mem_of_getElem? (i := 1407) (by decide +kernel))), good_of_word (by decide +kernel)⟩
theorem tw_477 : q_g (.methodLink RX12 277 yX12_chosen) := ⟨(List.mem_append_right _ (List.mem_of_getElem? (i := 1405) (by decide +kernel))), good_of_word (by decide +kernel)⟩
theorem tw_478 : q_g (.code yX12_tick cX12_tick 4 (some .int)) := ⟨(List.mem_append_right _ (List.mem_of_getElem? (i := 1400) (by decide +kernel))), good_of_word (by decide +kernel)⟩
theorem tw_479 : q_g (.constantLong RX12 126 (1000000)) := ⟨(List.mem_append_right _ (List.mem_of_getElem? (i := 1200) (by decide +kernel))), good_of_word (by decide +kernel)⟩
theorem tw_480 : q_g (.constantLong RX12 124 (3)) := ⟨(List.mem_append_right _ (List.mem_of_getElem? (i := 1199) (by decide +kernel))), good_of_word (by decide +kernel)⟩
theorem tw_481 : q_g (.selects RX12 yX12_refuse yX12_refuse) := ⟨(List.mem_append_left _ (List.mem_of_getElem? (i := 21) (by decide +kernel))), good_of_word (by decide +kernel)⟩
theorem tw_482 : q_g (.instanceMethod yX12_refuse) := ⟨(List.mem_append_right _ (List.mem_of_getElem? (i := 1185) (by decide +kernel))), good_of_word (by decide +kernel)⟩
theorem tw_483 : q_g (.methodLink RX12 76 yX12_refuse) := ⟨(List.mem_append_right _ (List.mem_of_getElem? (i := 1183) (by decide +kernel))), good_of_word (by decide +kernel)⟩
theorem tw_484 : q_g (.selects RX12 yX12_tell yX12_tell) := ⟨(List.mem_append_left _ (List.mem_of_getElem? (i := 22) (by decide +kernel))), good_of_word (by decide +kernel)⟩
theorem tw_485 : q_g (.instanceMethod yX12_tell) := ⟨(List.mem_append_right _ (List.mem_of_getElem? (i := 1189) (by decide +kernel))), good_of_word (by decide +kernel)⟩
theorem tw_486 : q_g (.methodLink RX12 80 yX12_tell) := ⟨(List.mem_append_right _ (List.mem_of_getElem? (i := 1187) (by decide +kernel))), good_of_word (by decide +kernel)⟩
theorem tw_487 : q_g (.constantLong RX12 122 (2)) := ⟨(List.mem_append_right _ (List.mem_of_getElem? (i := 1195) (by decide +kernel))), good_of_word (by decide +kernel)⟩
theorem tw_488 : q_g (.fieldLink RX12 67 "DeadlineShareModel" "thrown" "I") := ⟨(List.mem_append_right _ (List.mem_of_getElem? (i := 1097) (by decide +kernel))), good_of_word (by decide +kernel)⟩
theorem tw_489 : q_g (.code yX12_terms cX12_terms 4 (some .int)) := ⟨(List.mem_append_right _ (List.mem_of_getElem? (i := 1194) (by decide +kernel))), good_of_word (by decide +kernel)⟩
theorem tw_490 : q_g (.selects RX12 yX12_four yX12_four) := ⟨(List.mem_append_left _ (List.mem_of_getElem? (i := 23) (by decide +kernel))), good_of_word (by decide +kernel)⟩
theorem tw_491 : q_g (.instanceMethod yX12_four) := ⟨(List.mem_append_right _ (List.mem_of_getElem? (i := 1207) (by decide +kernel))), good_of_word (by decide +kernel)⟩
theorem tw_492 : q_g (.methodLink RX12 131 yX12_four) := ⟨(List.mem_append_right _ (List.mem_of_getElem? (i := 1205) (by decide +kernel))), good_of_word (by decide +kernel)⟩
theorem tw_493 : q_g (.code yX12_feed cX12_feed 6 (some .int)) := ⟨(List.mem_append_right _ (List.mem_of_getElem? (i := 1204) (by decide +kernel))), good_of_word (by decide +kernel)⟩
theorem tw_494 : q_g (.code yX12_end cX12_end 2 (some .int)) := ⟨(List.mem_append_right _ (List.mem_of_getElem? (i := 1212) (by decide +kernel))), good_of_word (by decide +kernel)⟩
theorem tw_495 : q_g (.code yX12_tape cX12_tape 2 (some .int)) := ⟨(List.mem_append_right _ (List.mem_of_getElem? (i := 1216) (by decide +kernel))), good_of_word (by decide +kernel)⟩
theorem tw_496 : q_g (.static yX12_at) := ⟨(List.mem_append_right _ (List.mem_of_getElem? (i := 1228) (by decide +kernel))), good_of_word (by decide +kernel)⟩
theorem tw_497 : q_g (.methodLink RX12 87 yX12_at) := ⟨(List.mem_append_right _ (List.mem_of_getElem? (i := 1227) (by decide +kernel))), good_of_word (by decide +kernel)⟩
theorem tw_498 : q_g (.selects RX12 yX12_remember yX12_remember) := ⟨(List.mem_append_left _ (List.mem_of_getElem? (i := 24) (by decide +kernel))), good_of_word (by decide +kernel)⟩
theorem tw_499 : q_g (.instanceMethod yX12_remember) := ⟨(List.mem_append_right _ (List.mem_of_getElem? (i := 1225) (by decide +kernel))), good_of_word (by decide +kernel)⟩
theorem tw_500 : q_g (.methodLink RX12 139 yX12_remember) := ⟨(List.mem_append_right _ (List.mem_of_getElem? (i := 1223) (by decide +kernel))), good_of_word (by decide +kernel)⟩
theorem tw_501 : q_g (.constantLong RX12 137 (20)) := ⟨(List.mem_append_right _ (List.mem_of_getElem? (i := 1222) (by decide +kernel))), good_of_word (by decide +kernel)⟩
theorem tw_502 : q_g (.constantLong RX12 135 (8)) := ⟨(List.mem_append_right _ (List.mem_of_getElem? (i := 1221) (by decide +kernel))), good_of_word (by decide +kernel)⟩
theorem tw_503 : q_g (.code yX12_task cX12_task 5 (some .int)) := ⟨(List.mem_append_right _ (List.mem_of_getElem? (i := 1220) (by decide +kernel))), good_of_word (by decide +kernel)⟩
theorem tw_504 : q_g (.selects RX12 yX12_isTask yX12_isTask) := ⟨(List.mem_append_left _ (List.mem_of_getElem? (i := 25) (by decide +kernel))), good_of_word (by decide +kernel)⟩
theorem tw_505 : q_g (.instanceMethod yX12_isTask) := ⟨(List.mem_append_right _ (List.mem_of_getElem? (i := 1236) (by decide +kernel))), good_of_word (by decide +kernel)⟩
theorem tw_506 : q_g (.methodLink RX12 142 yX12_isTask) := ⟨(List.mem_append_right _ (List.mem_of_getElem? (i := 1234) (by decide +kernel))), good_of_word (by decide +kernel)⟩
theorem tw_507 : q_g (.code yX12_join cX12_join 2 (some .int)) := ⟨(List.mem_append_right _ (List.mem_of_getElem? (i := 1233) (by decide +kernel))), good_of_word (by decide +kernel)⟩
theorem tw_508 : q_g (.code yX12_leave cX12_leave 2 (some .int)) := ⟨(List.mem_append_right _ (List.mem_of_getElem? (i := 1282) (by decide +kernel))), good_of_word (by decide +kernel)⟩
theorem tw_509 : q_g (.code yX12_yields cX12_yields 4 (some .int)) := ⟨(List.mem_append_right _ (List.mem_of_getElem? (i := 1315) (by decide +kernel))), good_of_word (by decide +kernel)⟩
theorem tw_510 : q_g (.code yX12_script cX12_script 5 (some .int)) := ⟨(List.mem_append_right _ (List.mem_of_getElem? (i := 1337) (by decide +kernel))), good_of_word (by decide +kernel)⟩
theorem tw_511 : q_g (.code yX12_listing cX12_listing 6 (some .int)) := ⟨(List.mem_append_right _ (List.mem_of_getElem? (i := 1377) (by decide +kernel))), good_of_word (by decide +kernel)⟩
theorem tw_512 : q_g (.code yX12_weigh cX12_weigh 4 (some .int)) := ⟨(List.mem_append_right _ (List.mem_of_getElem? (i := 1294) (by decide +kernel))), good_of_word (by decide +kernel)⟩
theorem tw_513 : q_g (.code yX12_slice cX12_slice 4 (some .int)) := ⟨(List.mem_append_right _ (List.mem_of_getElem? (i := 1302) (by decide +kernel))), good_of_word (by decide +kernel)⟩
theorem tw_514 : q_g (.constantLong RX12 165 (99)) := ⟨(List.mem_append_right _ (List.mem_of_getElem? (i := 1311) (by decide +kernel))), good_of_word (by decide +kernel)⟩
theorem tw_515 : q_g (.code yX12_wish cX12_wish 7 (some .int)) := ⟨(List.mem_append_right _ (List.mem_of_getElem? (i := 1310) (by decide +kernel))), good_of_word (by decide +kernel)⟩
theorem tw_516 : q_g (.constantLong RX12 172 (60)) := ⟨(List.mem_append_right _ (List.mem_of_getElem? (i := 1325) (by decide +kernel))), good_of_word (by decide +kernel)⟩
theorem tw_517 : q_g (.constantLong RX12 170 (50)) := ⟨(List.mem_append_right _ (List.mem_of_getElem? (i := 1324) (by decide +kernel))), good_of_word (by decide +kernel)⟩
theorem tw_518 : q_g (.code yX12_quota cX12_quota 6 (some .int)) := ⟨(List.mem_append_right _ (List.mem_of_getElem? (i := 1323) (by decide +kernel))), good_of_word (by decide +kernel)⟩
theorem tw_519 : q_g (.code yX12_fault cX12_fault 1 (some .int)) := ⟨(List.mem_append_right _ (List.mem_of_getElem? (i := 1391) (by decide +kernel))), good_of_word (by decide +kernel)⟩
theorem tw_520 : q_g (.code yX12_undo cX12_undo 2 (some .int)) := ⟨(List.mem_append_right _ (List.mem_of_getElem? (i := 1182) (by decide +kernel))), good_of_word (by decide +kernel)⟩
theorem tw_521 : q_g (.code yX12_image cX12_image 3 (some .int)) := ⟨(List.mem_append_right _ (List.mem_of_getElem? (i := 1329) (by decide +kernel))), good_of_word (by decide +kernel)⟩
theorem tw_522 : q_g (.code yX12_back cX12_back 3 (some .int)) := ⟨(List.mem_append_right _ (List.mem_of_getElem? (i := 1333) (by decide +kernel))), good_of_word (by decide +kernel)⟩
theorem tw_523 : q_g (.code yX12_of cX12_of 6 (some .int)) := ⟨(List.mem_append_right _ (List.mem_of_getElem? (i := 1445) (by decide +kernel))), good_of_word (by decide +kernel)⟩
theorem tw_524 : q_g (.constantLong RX12 291 (-9223372036854775808)) := ⟨(List.mem_append_right _ (List.mem_of_getElem? (i := 1450) (by decide +kernel))), good_of_word (by decide +kernel)⟩
theorem tw_525 : q_g (.code yX12_exact cX12_exact 3 (some .long)) := ⟨(List.mem_append_right _ (List.mem_of_getElem? (i := 1449) (by decide +kernel))), good_of_word (by decide +kernel)⟩
theorem tw_526 : q_g (.code yX12_time cX12_time 4 (some .long)) := ⟨(List.mem_append_right _ (List.mem_of_getElem? (i := 1454) (by decide +kernel))), good_of_word (by decide +kernel)⟩
theorem tw_527 : q_g (.code yX12_eligible cX12_eligible 3 (some .int)) := ⟨(List.mem_append_right _ (List.mem_of_getElem? (i := 1458) (by decide +kernel))), good_of_word (by decide +kernel)⟩
theorem tw_528 : q_g (.code yX12_earliest cX12_earliest 4 (some .int)) := ⟨(List.mem_append_right _ (List.mem_of_getElem? (i := 1462) (by decide +kernel))), good_of_word (by decide +kernel)⟩
theorem tw_529 : q_g (.code yX12_rank cX12_rank 4 (some .int)) := ⟨(List.mem_append_right _ (List.mem_of_getElem? (i := 1470) (by decide +kernel))), good_of_word (by decide +kernel)⟩
theorem tw_530 : q_g (.selects RX12 yX12_logAt yX12_logAt) := ⟨(List.mem_append_left _ (List.mem_of_getElem? (i := 59) (by decide +kernel))), good_of_word (by decide +kernel)⟩
theorem tw_531 : q_g (.instanceMethod yX12_logAt) := ⟨(List.mem_append_right _ (List.mem_of_getElem? (i := 1477) (by decide +kernel))), good_of_word (by decide +kernel)⟩
theorem tw_532 : q_g (.methodLink RX12 296 yX12_logAt) := ⟨(List.mem_append_right _ (List.mem_of_getElem? (i := 1475) (by decide +kernel))), good_of_word (by decide +kernel)⟩
theorem tw_533 : q_g (.code yX12_ran cX12_ran 3 (some .int)) := ⟨(List.mem_append_right _ (List.mem_of_getElem? (i := 1474) (by decide +kernel))), good_of_word (by decide +kernel)⟩
theorem tw_534 : q_g (.code yX12_service cX12_service 7 (some .int)) := ⟨(List.mem_append_right _ (List.mem_of_getElem? (i := 1482) (by decide +kernel))), good_of_word (by decide +kernel)⟩
theorem tw_535 : q_g (.code yX12_share cX12_share 8 (some .long)) := ⟨(List.mem_append_right _ (List.mem_of_getElem? (i := 1490) (by decide +kernel))), good_of_word (by decide +kernel)⟩
theorem tw_536 : q_g (.code yX12_worst cX12_worst 10 (some .long)) := ⟨(List.mem_append_right _ (List.mem_of_getElem? (i := 1499) (by decide +kernel))), good_of_word (by decide +kernel)⟩
theorem tw_537 : q_g (.code yX12_finish cX12_finish 4 (some .int)) := ⟨(List.mem_append_right _ (List.mem_of_getElem? (i := 1515) (by decide +kernel))), good_of_word (by decide +kernel)⟩
theorem tw_538 : q_g (.code yX12_due cX12_due 6 (some .int)) := ⟨(List.mem_append_right _ (List.mem_of_getElem? (i := 1519) (by decide +kernel))), good_of_word (by decide +kernel)⟩
theorem tw_539 : q_g (.code yX12_least cX12_least 6 (some .int)) := ⟨(List.mem_append_right _ (List.mem_of_getElem? (i := 1523) (by decide +kernel))), good_of_word (by decide +kernel)⟩
theorem tw_540 : q_g (.constantLong RX12 304 (15)) := ⟨(List.mem_append_right _ (List.mem_of_getElem? (i := 1495) (by decide +kernel))), good_of_word (by decide +kernel)⟩
theorem tw_541 : q_g (.constantLong RX12 340 (13)) := ⟨(List.mem_append_right _ (List.mem_of_getElem? (i := 1550) (by decide +kernel))), good_of_word (by decide +kernel)⟩
theorem tw_542 : q_g (.selects RX12 yX12_scripted yX12_scripted) := ⟨(List.mem_append_left _ (List.mem_of_getElem? (i := 67) (by decide +kernel))), good_of_word (by decide +kernel)⟩
theorem tw_543 : q_g (.instanceMethod yX12_scripted) := ⟨(List.mem_append_right _ (List.mem_of_getElem? (i := 1548) (by decide +kernel))), good_of_word (by decide +kernel)⟩
theorem tw_544 : q_g (.methodLink RX12 337 yX12_scripted) := ⟨(List.mem_append_right _ (List.mem_of_getElem? (i := 1546) (by decide +kernel))), good_of_word (by decide +kernel)⟩
theorem tw_545 : q_g (.selects RX12 yX12_inState yX12_inState) := ⟨(List.mem_append_left _ (List.mem_of_getElem? (i := 66) (by decide +kernel))), good_of_word (by decide +kernel)⟩
theorem tw_546 : q_g (.instanceMethod yX12_inState) := ⟨(List.mem_append_right _ (List.mem_of_getElem? (i := 1544) (by decide +kernel))), good_of_word (by decide +kernel)⟩
theorem tw_547 : q_g (.methodLink RX12 334 yX12_inState) := ⟨(List.mem_append_right _ (List.mem_of_getElem? (i := 1542) (by decide +kernel))), good_of_word (by decide +kernel)⟩
theorem tw_548 : q_g (.code yX12_count cX12_count 2 (some .int)) := ⟨(List.mem_append_right _ (List.mem_of_getElem? (i := 1541) (by decide +kernel))), good_of_word (by decide +kernel)⟩
theorem tw_549 : q_g (.code yX12_status cX12_status 1 (some .int)) := ⟨(List.mem_append_right _ (List.mem_of_getElem? (i := 1554) (by decide +kernel))), good_of_word (by decide +kernel)⟩
theorem tw_550 : q_g (.selects RX12 yX12_tick yX12_tick) := ⟨(List.mem_append_left _ (List.mem_of_getElem? (i := 48) (by decide +kernel))), good_of_word (by decide +kernel)⟩
theorem tw_551 : q_g (.instanceMethod yX12_tick) := ⟨(List.mem_append_right _ (List.mem_of_getElem? (i := 1399) (by decide +kernel))), good_of_word (by decide +kernel)⟩
theorem tw_552 : q_g (.methodLink RX12 288 yX12_tick) := ⟨(List.mem_append_right _ (List.mem_of_getElem? (i := 1397) (by decide +kernel))), good_of_word (by decide +kernel)⟩
theorem tw_553 : q_g (.constantLong RX12 286 (9999)) := ⟨(List.mem_append_right _ (List.mem_of_getElem? (i := 1396) (by decide +kernel))), good_of_word (by decide +kernel)⟩
theorem tw_554 : q_g (.code yX12_ticks cX12_ticks 4 (some .int)) := ⟨(List.mem_append_right _ (List.mem_of_getElem? (i := 1395) (by decide +kernel))), good_of_word (by decide +kernel)⟩
theorem tw_555 : q_g (.selects RX12 yX12_over yX12_over) := ⟨(List.mem_append_left _ (List.mem_of_getElem? (i := 63) (by decide +kernel))), good_of_word (by decide +kernel)⟩
theorem tw_556 : q_g (.instanceMethod yX12_over) := ⟨(List.mem_append_right _ (List.mem_of_getElem? (i := 1510) (by decide +kernel))), good_of_word (by decide +kernel)⟩
theorem tw_557 : q_g (.methodLink RX12 313 yX12_over) := ⟨(List.mem_append_right _ (List.mem_of_getElem? (i := 1508) (by decide +kernel))), good_of_word (by decide +kernel)⟩
theorem tw_558 : q_g (.selects RX12 yX12_begin yX12_begin) := ⟨(List.mem_append_left _ (List.mem_of_getElem? (i := 62) (by decide +kernel))), good_of_word (by decide +kernel)⟩
theorem tw_559 : q_g (.instanceMethod yX12_begin) := ⟨(List.mem_append_right _ (List.mem_of_getElem? (i := 1506) (by decide +kernel))), good_of_word (by decide +kernel)⟩
theorem tw_560 : q_g (.methodLink RX12 310 yX12_begin) := ⟨(List.mem_append_right _ (List.mem_of_getElem? (i := 1504) (by decide +kernel))), good_of_word (by decide +kernel)⟩
theorem tw_561 : q_g (.code yX12_ahead cX12_ahead 4 (some .int)) := ⟨(List.mem_append_right _ (List.mem_of_getElem? (i := 1503) (by decide +kernel))), good_of_word (by decide +kernel)⟩
theorem tw_562 : q_g (.selects RX12 yX12_lookAtLags yX12_lookAtLags) := ⟨(List.mem_append_left _ (List.mem_of_getElem? (i := 65) (by decide +kernel))), good_of_word (by decide +kernel)⟩
theorem tw_563 : q_g (.instanceMethod yX12_lookAtLags) := ⟨(List.mem_append_right _ (List.mem_of_getElem? (i := 1535) (by decide +kernel))), good_of_word (by decide +kernel)⟩
theorem tw_564 : q_g (.methodLink RX12 331 yX12_lookAtLags) := ⟨(List.mem_append_right _ (List.mem_of_getElem? (i := 1533) (by decide +kernel))), good_of_word (by decide +kernel)⟩
theorem tw_565 : q_g (.fieldLink RX12 325 "DeadlineShareModel" "least1" "J") := ⟨(List.mem_append_right _ (List.mem_of_getElem? (i := 1123) (by decide +kernel))), good_of_word (by decide +kernel)⟩
theorem tw_566 : q_g (.fieldLink RX12 322 "DeadlineShareModel" "most1" "J") := ⟨(List.mem_append_right _ (List.mem_of_getElem? (i := 1122) (by decide +kernel))), good_of_word (by decide +kernel)⟩
theorem tw_567 : q_g (.fieldLink RX12 249 "DeadlineShareModel" "state" "J") := ⟨(List.mem_append_right _ (List.mem_of_getElem? (i := 1121) (by decide +kernel))), good_of_word (by decide +kernel)⟩
theorem tw_568 : q_g (.constant RX12 330 (-2147483648)) := ⟨(List.mem_append_right _ (List.mem_of_getElem? (i := 1532) (by decide +kernel))), good_of_word (by decide +kernel)⟩
theorem tw_569 : q_g (.constantLong RX12 227 (4)) := ⟨(List.mem_append_right _ (List.mem_of_getElem? (i := 1373) (by decide +kernel))), good_of_word (by decide +kernel)⟩
theorem tw_570 : q_g (.code yX12_would cX12_would 10 (some .int)) := ⟨(List.mem_append_right _ (List.mem_of_getElem? (i := 1531) (by decide +kernel))), good_of_word (by decide +kernel)⟩
theorem tw_571 : q_g (.methodLink RL 13 yX11_terms) := ⟨(List.mem_append_right _ (List.mem_of_getElem? (i := 357) (by decide +kernel))), good_of_word (by decide +kernel)⟩
theorem tw_572 : q_g (.instanceMethod yX11_terms) := ⟨(List.mem_append_right _ (List.mem_of_getElem? (i := 358) (by decide +kernel))), good_of_word (by decide +kernel)⟩
theorem tw_573 : q_g (.selects RX11 yX11_terms yX11_terms) := ⟨(List.mem_append_right _ (List.mem_of_getElem? (i := 359) (by decide +kernel))), good_of_word (by decide +kernel)⟩
theorem tw_574 : q_g (.methodLink RL 17 yX12_terms) := ⟨(List.mem_append_right _ (List.mem_of_getElem? (i := 1191) (by decide +kernel))), good_of_word (by decide +kernel)⟩
theorem tw_575 : q_g (.instanceMethod yX12_terms) := ⟨(List.mem_append_right _ (List.mem_of_getElem? (i := 1192) (by decide +kernel))), good_of_word (by decide +kernel)⟩
theorem tw_576 : q_g (.selects RX12 yX12_terms yX12_terms) := ⟨(List.mem_append_right _ (List.mem_of_getElem? (i := 1193) (by decide +kernel))), good_of_word (by decide +kernel)⟩
theorem tw_577 : q_g (.methodLink RL 18 yX11_feed) := ⟨(List.mem_append_right _ (List.mem_of_getElem? (i := 385) (by decide +kernel))), good_of_word (by decide +kernel)⟩
theorem tw_578 : q_g (.instanceMethod yX11_feed) := ⟨(List.mem_append_right _ (List.mem_of_getElem? (i := 386) (by decide +kernel))), good_of_word (by decide +kernel)⟩
theorem tw_579 : q_g (.selects RX11 yX11_feed yX11_feed) := ⟨(List.mem_append_right _ (List.mem_of_getElem? (i := 387) (by decide +kernel))), good_of_word (by decide +kernel)⟩
theorem tw_580 : q_g (.methodLink RL 22 yX12_feed) := ⟨(List.mem_append_right _ (List.mem_of_getElem? (i := 1201) (by decide +kernel))), good_of_word (by decide +kernel)⟩
theorem tw_581 : q_g (.instanceMethod yX12_feed) := ⟨(List.mem_append_right _ (List.mem_of_getElem? (i := 1202) (by decide +kernel))), good_of_word (by decide +kernel)⟩
theorem tw_582 : q_g (.selects RX12 yX12_feed yX12_feed) := ⟨(List.mem_append_right _ (List.mem_of_getElem? (i := 1203) (by decide +kernel))), good_of_word (by decide +kernel)⟩
theorem tw_583 : q_g (.methodLink RL 23 yX11_end) := ⟨(List.mem_append_right _ (List.mem_of_getElem? (i := 401) (by decide +kernel))), good_of_word (by decide +kernel)⟩
theorem tw_584 : q_g (.instanceMethod yX11_end) := ⟨(List.mem_append_right _ (List.mem_of_getElem? (i := 402) (by decide +kernel))), good_of_word (by decide +kernel)⟩
theorem tw_585 : q_g (.selects RX11 yX11_end yX11_end) := ⟨(List.mem_append_right _ (List.mem_of_getElem? (i := 403) (by decide +kernel))), good_of_word (by decide +kernel)⟩
theorem tw_586 : q_g (.methodLink RL 27 yX12_end) := ⟨(List.mem_append_right _ (List.mem_of_getElem? (i := 1209) (by decide +kernel))), good_of_word (by decide +kernel)⟩
theorem tw_587 : q_g (.instanceMethod yX12_end) := ⟨(List.mem_append_right _ (List.mem_of_getElem? (i := 1210) (by decide +kernel))), good_of_word (by decide +kernel)⟩
theorem tw_588 : q_g (.selects RX12 yX12_end yX12_end) := ⟨(List.mem_append_right _ (List.mem_of_getElem? (i := 1211) (by decide +kernel))), good_of_word (by decide +kernel)⟩
theorem tw_589 : q_g (.methodLink RL 28 yX11_tape) := ⟨(List.mem_append_right _ (List.mem_of_getElem? (i := 405) (by decide +kernel))), good_of_word (by decide +kernel)⟩
theorem tw_590 : q_g (.instanceMethod yX11_tape) := ⟨(List.mem_append_right _ (List.mem_of_getElem? (i := 406) (by decide +kernel))), good_of_word (by decide +kernel)⟩
theorem tw_591 : q_g (.selects RX11 yX11_tape yX11_tape) := ⟨(List.mem_append_right _ (List.mem_of_getElem? (i := 407) (by decide +kernel))), good_of_word (by decide +kernel)⟩
theorem tw_592 : q_g (.methodLink RL 31 yX12_tape) := ⟨(List.mem_append_right _ (List.mem_of_getElem? (i := 1213) (by decide +kernel))), good_of_word (by decide +kernel)⟩
theorem tw_593 : q_g (.instanceMethod yX12_tape) := ⟨(List.mem_append_right _ (List.mem_of_getElem? (i := 1214) (by decide +kernel))), good_of_word (by decide +kernel)⟩
theorem tw_594 : q_g (.selects RX12 yX12_tape yX12_tape) := ⟨(List.mem_append_right _ (List.mem_of_getElem? (i := 1215) (by decide +kernel))), good_of_word (by decide +kernel)⟩
theorem tw_595 : q_g (.methodLink RL 32 yX11_task) := ⟨(List.mem_append_right _ (List.mem_of_getElem? (i := 413) (by decide +kernel))), good_of_word (by decide +kernel)⟩
theorem tw_596 : q_g (.instanceMethod yX11_task) := ⟨(List.mem_append_right _ (List.mem_of_getElem? (i := 414) (by decide +kernel))), good_of_word (by decide +kernel)⟩
theorem tw_597 : q_g (.selects RX11 yX11_task yX11_task) := ⟨(List.mem_append_right _ (List.mem_of_getElem? (i := 415) (by decide +kernel))), good_of_word (by decide +kernel)⟩
theorem tw_598 : q_g (.methodLink RL 35 yX12_task) := ⟨(List.mem_append_right _ (List.mem_of_getElem? (i := 1217) (by decide +kernel))), good_of_word (by decide +kernel)⟩
theorem tw_599 : q_g (.instanceMethod yX12_task) := ⟨(List.mem_append_right _ (List.mem_of_getElem? (i := 1218) (by decide +kernel))), good_of_word (by decide +kernel)⟩
theorem tw_600 : q_g (.selects RX12 yX12_task yX12_task) := ⟨(List.mem_append_right _ (List.mem_of_getElem? (i := 1219) (by decide +kernel))), good_of_word (by decide +kernel)⟩
theorem tw_601 : q_g (.methodLink RL 36 yX11_join) := ⟨(List.mem_append_right _ (List.mem_of_getElem? (i := 475) (by decide +kernel))), good_of_word (by decide +kernel)⟩
theorem tw_602 : q_g (.instanceMethod yX11_join) := ⟨(List.mem_append_right _ (List.mem_of_getElem? (i := 476) (by decide +kernel))), good_of_word (by decide +kernel)⟩
theorem tw_603 : q_g (.selects RX11 yX11_join yX11_join) := ⟨(List.mem_append_right _ (List.mem_of_getElem? (i := 477) (by decide +kernel))), good_of_word (by decide +kernel)⟩
theorem tw_604 : q_g (.methodLink RL 39 yX12_join) := ⟨(List.mem_append_right _ (List.mem_of_getElem? (i := 1230) (by decide +kernel))), good_of_word (by decide +kernel)⟩
theorem tw_605 : q_g (.instanceMethod yX12_join) := ⟨(List.mem_append_right _ (List.mem_of_getElem? (i := 1231) (by decide +kernel))), good_of_word (by decide +kernel)⟩
theorem tw_606 : q_g (.selects RX12 yX12_join yX12_join) := ⟨(List.mem_append_right _ (List.mem_of_getElem? (i := 1232) (by decide +kernel))), good_of_word (by decide +kernel)⟩
theorem tw_607 : q_g (.methodLink RL 40 yX11_leave) := ⟨(List.mem_append_right _ (List.mem_of_getElem? (i := 546) (by decide +kernel))), good_of_word (by decide +kernel)⟩
theorem tw_608 : q_g (.instanceMethod yX11_leave) := ⟨(List.mem_append_right _ (List.mem_of_getElem? (i := 547) (by decide +kernel))), good_of_word (by decide +kernel)⟩
theorem tw_609 : q_g (.selects RX11 yX11_leave yX11_leave) := ⟨(List.mem_append_right _ (List.mem_of_getElem? (i := 548) (by decide +kernel))), good_of_word (by decide +kernel)⟩
theorem tw_610 : q_g (.methodLink RL 43 yX12_leave) := ⟨(List.mem_append_right _ (List.mem_of_getElem? (i := 1279) (by decide +kernel))), good_of_word (by decide +kernel)⟩
theorem tw_611 : q_g (.instanceMethod yX12_leave) := ⟨(List.mem_append_right _ (List.mem_of_getElem? (i := 1280) (by decide +kernel))), good_of_word (by decide +kernel)⟩
theorem tw_612 : q_g (.selects RX12 yX12_leave yX12_leave) := ⟨(List.mem_append_right _ (List.mem_of_getElem? (i := 1281) (by decide +kernel))), good_of_word (by decide +kernel)⟩
theorem tw_613 : q_g (.methodLink RL 44 yX11_weigh) := ⟨(List.mem_append_right _ (List.mem_of_getElem? (i := 563) (by decide +kernel))), good_of_word (by decide +kernel)⟩
theorem tw_614 : q_g (.instanceMethod yX11_weigh) := ⟨(List.mem_append_right _ (List.mem_of_getElem? (i := 564) (by decide +kernel))), good_of_word (by decide +kernel)⟩
theorem tw_615 : q_g (.selects RX11 yX11_weigh yX11_weigh) := ⟨(List.mem_append_right _ (List.mem_of_getElem? (i := 565) (by decide +kernel))), good_of_word (by decide +kernel)⟩
theorem tw_616 : q_g (.methodLink RL 47 yX12_weigh) := ⟨(List.mem_append_right _ (List.mem_of_getElem? (i := 1291) (by decide +kernel))), good_of_word (by decide +kernel)⟩
theorem tw_617 : q_g (.instanceMethod yX12_weigh) := ⟨(List.mem_append_right _ (List.mem_of_getElem? (i := 1292) (by decide +kernel))), good_of_word (by decide +kernel)⟩
theorem tw_618 : q_g (.selects RX12 yX12_weigh yX12_weigh) := ⟨(List.mem_append_right _ (List.mem_of_getElem? (i := 1293) (by decide +kernel))), good_of_word (by decide +kernel)⟩
theorem tw_619 : q_g (.methodLink RL 48 yX11_slice) := ⟨(List.mem_append_right _ (List.mem_of_getElem? (i := 576) (by decide +kernel))), good_of_word (by decide +kernel)⟩
theorem tw_620 : q_g (.instanceMethod yX11_slice) := ⟨(List.mem_append_right _ (List.mem_of_getElem? (i := 577) (by decide +kernel))), good_of_word (by decide +kernel)⟩
theorem tw_621 : q_g (.selects RX11 yX11_slice yX11_slice) := ⟨(List.mem_append_right _ (List.mem_of_getElem? (i := 578) (by decide +kernel))), good_of_word (by decide +kernel)⟩
theorem tw_622 : q_g (.methodLink RL 51 yX12_slice) := ⟨(List.mem_append_right _ (List.mem_of_getElem? (i := 1299) (by decide +kernel))), good_of_word (by decide +kernel)⟩
theorem tw_623 : q_g (.instanceMethod yX12_slice) := ⟨(List.mem_append_right _ (List.mem_of_getElem? (i := 1300) (by decide +kernel))), good_of_word (by decide +kernel)⟩
theorem tw_624 : q_g (.selects RX12 yX12_slice yX12_slice) := ⟨(List.mem_append_right _ (List.mem_of_getElem? (i := 1301) (by decide +kernel))), good_of_word (by decide +kernel)⟩
theorem tw_625 : q_g (.methodLink RL 52 yX11_wish) := ⟨(List.mem_append_right _ (List.mem_of_getElem? (i := 585) (by decide +kernel))), good_of_word (by decide +kernel)⟩
theorem tw_626 : q_g (.instanceMethod yX11_wish) := ⟨(List.mem_append_right _ (List.mem_of_getElem? (i := 586) (by decide +kernel))), good_of_word (by decide +kernel)⟩
theorem tw_627 : q_g (.selects RX11 yX11_wish yX11_wish) := ⟨(List.mem_append_right _ (List.mem_of_getElem? (i := 587) (by decide +kernel))), good_of_word (by decide +kernel)⟩
theorem tw_628 : q_g (.methodLink RL 55 yX12_wish) := ⟨(List.mem_append_right _ (List.mem_of_getElem? (i := 1307) (by decide +kernel))), good_of_word (by decide +kernel)⟩
theorem tw_629 : q_g (.instanceMethod yX12_wish) := ⟨(List.mem_append_right _ (List.mem_of_getElem? (i := 1308) (by decide +kernel))), good_of_word (by decide +kernel)⟩
theorem tw_630 : q_g (.selects RX12 yX12_wish yX12_wish) := ⟨(List.mem_append_right _ (List.mem_of_getElem? (i := 1309) (by decide +kernel))), good_of_word (by decide +kernel)⟩
theorem tw_631 : q_g (.methodLink RL 56 yX11_yields) := ⟨(List.mem_append_right _ (List.mem_of_getElem? (i := 597) (by decide +kernel))), good_of_word (by decide +kernel)⟩
theorem tw_632 : q_g (.instanceMethod yX11_yields) := ⟨(List.mem_append_right _ (List.mem_of_getElem? (i := 598) (by decide +kernel))), good_of_word (by decide +kernel)⟩
theorem tw_633 : q_g (.selects RX11 yX11_yields yX11_yields) := ⟨(List.mem_append_right _ (List.mem_of_getElem? (i := 599) (by decide +kernel))), good_of_word (by decide +kernel)⟩
theorem tw_634 : q_g (.methodLink RL 59 yX12_yields) := ⟨(List.mem_append_right _ (List.mem_of_getElem? (i := 1312) (by decide +kernel))), good_of_word (by decide +kernel)⟩
theorem tw_635 : q_g (.instanceMethod yX12_yields) := ⟨(List.mem_append_right _ (List.mem_of_getElem? (i := 1313) (by decide +kernel))), good_of_word (by decide +kernel)⟩
theorem tw_636 : q_g (.selects RX12 yX12_yields yX12_yields) := ⟨(List.mem_append_right _ (List.mem_of_getElem? (i := 1314) (by decide +kernel))), good_of_word (by decide +kernel)⟩
theorem tw_637 : q_g (.methodLink RL 60 yX11_quota) := ⟨(List.mem_append_right _ (List.mem_of_getElem? (i := 613) (by decide +kernel))), good_of_word (by decide +kernel)⟩
theorem tw_638 : q_g (.instanceMethod yX11_quota) := ⟨(List.mem_append_right _ (List.mem_of_getElem? (i := 614) (by decide +kernel))), good_of_word (by decide +kernel)⟩
theorem tw_639 : q_g (.selects RX11 yX11_quota yX11_quota) := ⟨(List.mem_append_right _ (List.mem_of_getElem? (i := 615) (by decide +kernel))), good_of_word (by decide +kernel)⟩
theorem tw_640 : q_g (.methodLink RL 64 yX12_quota) := ⟨(List.mem_append_right _ (List.mem_of_getElem? (i := 1320) (by decide +kernel))), good_of_word (by decide +kernel)⟩
theorem tw_641 : q_g (.instanceMethod yX12_quota) := ⟨(List.mem_append_right _ (List.mem_of_getElem? (i := 1321) (by decide +kernel))), good_of_word (by decide +kernel)⟩
theorem tw_642 : q_g (.selects RX12 yX12_quota yX12_quota) := ⟨(List.mem_append_right _ (List.mem_of_getElem? (i := 1322) (by decide +kernel))), good_of_word (by decide +kernel)⟩
theorem tw_643 : q_g (.methodLink RL 65 yX11_script) := ⟨(List.mem_append_right _ (List.mem_of_getElem? (i := 618) (by decide +kernel))), good_of_word (by decide +kernel)⟩
theorem tw_644 : q_g (.instanceMethod yX11_script) := ⟨(List.mem_append_right _ (List.mem_of_getElem? (i := 619) (by decide +kernel))), good_of_word (by decide +kernel)⟩
theorem tw_645 : q_g (.selects RX11 yX11_script yX11_script) := ⟨(List.mem_append_right _ (List.mem_of_getElem? (i := 620) (by decide +kernel))), good_of_word (by decide +kernel)⟩
theorem tw_646 : q_g (.methodLink RL 68 yX12_script) := ⟨(List.mem_append_right _ (List.mem_of_getElem? (i := 1334) (by decide +kernel))), good_of_word (by decide +kernel)⟩
theorem tw_647 : q_g (.instanceMethod yX12_script) := ⟨(List.mem_append_right _ (List.mem_of_getElem? (i := 1335) (by decide +kernel))), good_of_word (by decide +kernel)⟩
theorem tw_648 : q_g (.selects RX12 yX12_script yX12_script) := ⟨(List.mem_append_right _ (List.mem_of_getElem? (i := 1336) (by decide +kernel))), good_of_word (by decide +kernel)⟩
theorem tw_649 : q_g (.methodLink RL 69 yX11_listing) := ⟨(List.mem_append_right _ (List.mem_of_getElem? (i := 751) (by decide +kernel))), good_of_word (by decide +kernel)⟩
theorem tw_650 : q_g (.instanceMethod yX11_listing) := ⟨(List.mem_append_right _ (List.mem_of_getElem? (i := 752) (by decide +kernel))), good_of_word (by decide +kernel)⟩
theorem tw_651 : q_g (.selects RX11 yX11_listing yX11_listing) := ⟨(List.mem_append_right _ (List.mem_of_getElem? (i := 753) (by decide +kernel))), good_of_word (by decide +kernel)⟩
theorem tw_652 : q_g (.methodLink RL 72 yX12_listing) := ⟨(List.mem_append_right _ (List.mem_of_getElem? (i := 1374) (by decide +kernel))), good_of_word (by decide +kernel)⟩
theorem tw_653 : q_g (.instanceMethod yX12_listing) := ⟨(List.mem_append_right _ (List.mem_of_getElem? (i := 1375) (by decide +kernel))), good_of_word (by decide +kernel)⟩
theorem tw_654 : q_g (.selects RX12 yX12_listing yX12_listing) := ⟨(List.mem_append_right _ (List.mem_of_getElem? (i := 1376) (by decide +kernel))), good_of_word (by decide +kernel)⟩
theorem tw_655 : q_g (.methodLink RL 73 yX11_fault) := ⟨(List.mem_append_right _ (List.mem_of_getElem? (i := 775) (by decide +kernel))), good_of_word (by decide +kernel)⟩
theorem tw_656 : q_g (.instanceMethod yX11_fault) := ⟨(List.mem_append_right _ (List.mem_of_getElem? (i := 776) (by decide +kernel))), good_of_word (by decide +kernel)⟩
theorem tw_657 : q_g (.selects RX11 yX11_fault yX11_fault) := ⟨(List.mem_append_right _ (List.mem_of_getElem? (i := 777) (by decide +kernel))), good_of_word (by decide +kernel)⟩
theorem tw_658 : q_g (.methodLink RL 77 yX12_fault) := ⟨(List.mem_append_right _ (List.mem_of_getElem? (i := 1388) (by decide +kernel))), good_of_word (by decide +kernel)⟩
theorem tw_659 : q_g (.instanceMethod yX12_fault) := ⟨(List.mem_append_right _ (List.mem_of_getElem? (i := 1389) (by decide +kernel))), good_of_word (by decide +kernel)⟩
theorem tw_660 : q_g (.selects RX12 yX12_fault yX12_fault) := ⟨(List.mem_append_right _ (List.mem_of_getElem? (i := 1390) (by decide +kernel))), good_of_word (by decide +kernel)⟩
theorem tw_661 : q_g (.methodLink RL 78 yX11_ticks) := ⟨(List.mem_append_right _ (List.mem_of_getElem? (i := 779) (by decide +kernel))), good_of_word (by decide +kernel)⟩
theorem tw_662 : q_g (.instanceMethod yX11_ticks) := ⟨(List.mem_append_right _ (List.mem_of_getElem? (i := 780) (by decide +kernel))), good_of_word (by decide +kernel)⟩
theorem tw_663 : q_g (.selects RX11 yX11_ticks yX11_ticks) := ⟨(List.mem_append_right _ (List.mem_of_getElem? (i := 781) (by decide +kernel))), good_of_word (by decide +kernel)⟩
theorem tw_664 : q_g (.methodLink RL 81 yX12_ticks) := ⟨(List.mem_append_right _ (List.mem_of_getElem? (i := 1392) (by decide +kernel))), good_of_word (by decide +kernel)⟩
theorem tw_665 : q_g (.instanceMethod yX12_ticks) := ⟨(List.mem_append_right _ (List.mem_of_getElem? (i := 1393) (by decide +kernel))), good_of_word (by decide +kernel)⟩
theorem tw_666 : q_g (.selects RX12 yX12_ticks yX12_ticks) := ⟨(List.mem_append_right _ (List.mem_of_getElem? (i := 1394) (by decide +kernel))), good_of_word (by decide +kernel)⟩
theorem tw_667 : q_g (.methodLink RL 82 yX11_undo) := ⟨(List.mem_append_right _ (List.mem_of_getElem? (i := 875) (by decide +kernel))), good_of_word (by decide +kernel)⟩
theorem tw_668 : q_g (.instanceMethod yX11_undo) := ⟨(List.mem_append_right _ (List.mem_of_getElem? (i := 876) (by decide +kernel))), good_of_word (by decide +kernel)⟩
theorem tw_669 : q_g (.selects RX11 yX11_undo yX11_undo) := ⟨(List.mem_append_right _ (List.mem_of_getElem? (i := 877) (by decide +kernel))), good_of_word (by decide +kernel)⟩
theorem tw_670 : q_g (.methodLink RL 85 yX12_undo) := ⟨(List.mem_append_right _ (List.mem_of_getElem? (i := 1179) (by decide +kernel))), good_of_word (by decide +kernel)⟩
theorem tw_671 : q_g (.instanceMethod yX12_undo) := ⟨(List.mem_append_right _ (List.mem_of_getElem? (i := 1180) (by decide +kernel))), good_of_word (by decide +kernel)⟩
theorem tw_672 : q_g (.selects RX12 yX12_undo yX12_undo) := ⟨(List.mem_append_right _ (List.mem_of_getElem? (i := 1181) (by decide +kernel))), good_of_word (by decide +kernel)⟩
theorem tw_673 : q_g (.methodLink RL 86 yX11_image) := ⟨(List.mem_append_right _ (List.mem_of_getElem? (i := 883) (by decide +kernel))), good_of_word (by decide +kernel)⟩
theorem tw_674 : q_g (.instanceMethod yX11_image) := ⟨(List.mem_append_right _ (List.mem_of_getElem? (i := 884) (by decide +kernel))), good_of_word (by decide +kernel)⟩
theorem tw_675 : q_g (.selects RX11 yX11_image yX11_image) := ⟨(List.mem_append_right _ (List.mem_of_getElem? (i := 885) (by decide +kernel))), good_of_word (by decide +kernel)⟩
theorem tw_676 : q_g (.methodLink RL 89 yX12_image) := ⟨(List.mem_append_right _ (List.mem_of_getElem? (i := 1326) (by decide +kernel))), good_of_word (by decide +kernel)⟩
theorem tw_677 : q_g (.instanceMethod yX12_image) := ⟨(List.mem_append_right _ (List.mem_of_getElem? (i := 1327) (by decide +kernel))), good_of_word (by decide +kernel)⟩
theorem tw_678 : q_g (.selects RX12 yX12_image yX12_image) := ⟨(List.mem_append_right _ (List.mem_of_getElem? (i := 1328) (by decide +kernel))), good_of_word (by decide +kernel)⟩
theorem tw_679 : q_g (.methodLink RL 90 yX11_back) := ⟨(List.mem_append_right _ (List.mem_of_getElem? (i := 891) (by decide +kernel))), good_of_word (by decide +kernel)⟩
theorem tw_680 : q_g (.instanceMethod yX11_back) := ⟨(List.mem_append_right _ (List.mem_of_getElem? (i := 892) (by decide +kernel))), good_of_word (by decide +kernel)⟩
theorem tw_681 : q_g (.selects RX11 yX11_back yX11_back) := ⟨(List.mem_append_right _ (List.mem_of_getElem? (i := 893) (by decide +kernel))), good_of_word (by decide +kernel)⟩
theorem tw_682 : q_g (.methodLink RL 93 yX12_back) := ⟨(List.mem_append_right _ (List.mem_of_getElem? (i := 1330) (by decide +kernel))), good_of_word (by decide +kernel)⟩
theorem tw_683 : q_g (.instanceMethod yX12_back) := ⟨(List.mem_append_right _ (List.mem_of_getElem? (i := 1331) (by decide +kernel))), good_of_word (by decide +kernel)⟩
theorem tw_684 : q_g (.selects RX12 yX12_back yX12_back) := ⟨(List.mem_append_right _ (List.mem_of_getElem? (i := 1332) (by decide +kernel))), good_of_word (by decide +kernel)⟩
theorem tw_685 : q_g (.methodLink RL 94 yX11_of) := ⟨(List.mem_append_right _ (List.mem_of_getElem? (i := 895) (by decide +kernel))), good_of_word (by decide +kernel)⟩
theorem tw_686 : q_g (.instanceMethod yX11_of) := ⟨(List.mem_append_right _ (List.mem_of_getElem? (i := 896) (by decide +kernel))), good_of_word (by decide +kernel)⟩
theorem tw_687 : q_g (.selects RX11 yX11_of yX11_of) := ⟨(List.mem_append_right _ (List.mem_of_getElem? (i := 897) (by decide +kernel))), good_of_word (by decide +kernel)⟩
theorem tw_688 : q_g (.methodLink RL 97 yX12_of) := ⟨(List.mem_append_right _ (List.mem_of_getElem? (i := 1442) (by decide +kernel))), good_of_word (by decide +kernel)⟩
theorem tw_689 : q_g (.instanceMethod yX12_of) := ⟨(List.mem_append_right _ (List.mem_of_getElem? (i := 1443) (by decide +kernel))), good_of_word (by decide +kernel)⟩
theorem tw_690 : q_g (.selects RX12 yX12_of yX12_of) := ⟨(List.mem_append_right _ (List.mem_of_getElem? (i := 1444) (by decide +kernel))), good_of_word (by decide +kernel)⟩
theorem tw_691 : q_g (.methodLink RL 98 yX11_exact) := ⟨(List.mem_append_right _ (List.mem_of_getElem? (i := 909) (by decide +kernel))), good_of_word (by decide +kernel)⟩
theorem tw_692 : q_g (.instanceMethod yX11_exact) := ⟨(List.mem_append_right _ (List.mem_of_getElem? (i := 910) (by decide +kernel))), good_of_word (by decide +kernel)⟩
theorem tw_693 : q_g (.selects RX11 yX11_exact yX11_exact) := ⟨(List.mem_append_right _ (List.mem_of_getElem? (i := 911) (by decide +kernel))), good_of_word (by decide +kernel)⟩
theorem tw_694 : q_g (.methodLink RL 102 yX12_exact) := ⟨(List.mem_append_right _ (List.mem_of_getElem? (i := 1446) (by decide +kernel))), good_of_word (by decide +kernel)⟩
theorem tw_695 : q_g (.instanceMethod yX12_exact) := ⟨(List.mem_append_right _ (List.mem_of_getElem? (i := 1447) (by decide +kernel))), good_of_word (by decide +kernel)⟩
theorem tw_696 : q_g (.selects RX12 yX12_exact yX12_exact) := ⟨(List.mem_append_right _ (List.mem_of_getElem? (i := 1448) (by decide +kernel))), good_of_word (by decide +kernel)⟩
theorem tw_697 : q_g (.methodLink RL 103 yX11_time) := ⟨(List.mem_append_right _ (List.mem_of_getElem? (i := 920) (by decide +kernel))), good_of_word (by decide +kernel)⟩
theorem tw_698 : q_g (.instanceMethod yX11_time) := ⟨(List.mem_append_right _ (List.mem_of_getElem? (i := 921) (by decide +kernel))), good_of_word (by decide +kernel)⟩
theorem tw_699 : q_g (.selects RX11 yX11_time yX11_time) := ⟨(List.mem_append_right _ (List.mem_of_getElem? (i := 922) (by decide +kernel))), good_of_word (by decide +kernel)⟩
theorem tw_700 : q_g (.methodLink RL 107 yX12_time) := ⟨(List.mem_append_right _ (List.mem_of_getElem? (i := 1451) (by decide +kernel))), good_of_word (by decide +kernel)⟩
theorem tw_701 : q_g (.instanceMethod yX12_time) := ⟨(List.mem_append_right _ (List.mem_of_getElem? (i := 1452) (by decide +kernel))), good_of_word (by decide +kernel)⟩
theorem tw_702 : q_g (.selects RX12 yX12_time yX12_time) := ⟨(List.mem_append_right _ (List.mem_of_getElem? (i := 1453) (by decide +kernel))), good_of_word (by decide +kernel)⟩
theorem tw_703 : q_g (.methodLink RL 108 yX11_eligible) := ⟨(List.mem_append_right _ (List.mem_of_getElem? (i := 933) (by decide +kernel))), good_of_word (by decide +kernel)⟩
theorem tw_704 : q_g (.instanceMethod yX11_eligible) := ⟨(List.mem_append_right _ (List.mem_of_getElem? (i := 934) (by decide +kernel))), good_of_word (by decide +kernel)⟩
theorem tw_705 : q_g (.selects RX11 yX11_eligible yX11_eligible) := ⟨(List.mem_append_right _ (List.mem_of_getElem? (i := 935) (by decide +kernel))), good_of_word (by decide +kernel)⟩
theorem tw_706 : q_g (.methodLink RL 111 yX12_eligible) := ⟨(List.mem_append_right _ (List.mem_of_getElem? (i := 1455) (by decide +kernel))), good_of_word (by decide +kernel)⟩
theorem tw_707 : q_g (.instanceMethod yX12_eligible) := ⟨(List.mem_append_right _ (List.mem_of_getElem? (i := 1456) (by decide +kernel))), good_of_word (by decide +kernel)⟩
theorem tw_708 : q_g (.selects RX12 yX12_eligible yX12_eligible) := ⟨(List.mem_append_right _ (List.mem_of_getElem? (i := 1457) (by decide +kernel))), good_of_word (by decide +kernel)⟩
theorem tw_709 : q_g (.methodLink RL 112 yX11_earliest) := ⟨(List.mem_append_right _ (List.mem_of_getElem? (i := 941) (by decide +kernel))), good_of_word (by decide +kernel)⟩
theorem tw_710 : q_g (.instanceMethod yX11_earliest) := ⟨(List.mem_append_right _ (List.mem_of_getElem? (i := 942) (by decide +kernel))), good_of_word (by decide +kernel)⟩
theorem tw_711 : q_g (.selects RX11 yX11_earliest yX11_earliest) := ⟨(List.mem_append_right _ (List.mem_of_getElem? (i := 943) (by decide +kernel))), good_of_word (by decide +kernel)⟩
theorem tw_712 : q_g (.methodLink RL 115 yX12_earliest) := ⟨(List.mem_append_right _ (List.mem_of_getElem? (i := 1459) (by decide +kernel))), good_of_word (by decide +kernel)⟩
theorem tw_713 : q_g (.instanceMethod yX12_earliest) := ⟨(List.mem_append_right _ (List.mem_of_getElem? (i := 1460) (by decide +kernel))), good_of_word (by decide +kernel)⟩
theorem tw_714 : q_g (.selects RX12 yX12_earliest yX12_earliest) := ⟨(List.mem_append_right _ (List.mem_of_getElem? (i := 1461) (by decide +kernel))), good_of_word (by decide +kernel)⟩
theorem tw_715 : q_g (.methodLink RL 116 yX11_rank) := ⟨(List.mem_append_right _ (List.mem_of_getElem? (i := 954) (by decide +kernel))), good_of_word (by decide +kernel)⟩
theorem tw_716 : q_g (.instanceMethod yX11_rank) := ⟨(List.mem_append_right _ (List.mem_of_getElem? (i := 955) (by decide +kernel))), good_of_word (by decide +kernel)⟩
theorem tw_717 : q_g (.selects RX11 yX11_rank yX11_rank) := ⟨(List.mem_append_right _ (List.mem_of_getElem? (i := 956) (by decide +kernel))), good_of_word (by decide +kernel)⟩
theorem tw_718 : q_g (.methodLink RL 119 yX12_rank) := ⟨(List.mem_append_right _ (List.mem_of_getElem? (i := 1467) (by decide +kernel))), good_of_word (by decide +kernel)⟩
theorem tw_719 : q_g (.instanceMethod yX12_rank) := ⟨(List.mem_append_right _ (List.mem_of_getElem? (i := 1468) (by decide +kernel))), good_of_word (by decide +kernel)⟩
theorem tw_720 : q_g (.selects RX12 yX12_rank yX12_rank) := ⟨(List.mem_append_right _ (List.mem_of_getElem? (i := 1469) (by decide +kernel))), good_of_word (by decide +kernel)⟩
theorem tw_721 : q_g (.methodLink RL 120 yX11_ran) := ⟨(List.mem_append_right _ (List.mem_of_getElem? (i := 962) (by decide +kernel))), good_of_word (by decide +kernel)⟩
theorem tw_722 : q_g (.instanceMethod yX11_ran) := ⟨(List.mem_append_right _ (List.mem_of_getElem? (i := 963) (by decide +kernel))), good_of_word (by decide +kernel)⟩
theorem tw_723 : q_g (.selects RX11 yX11_ran yX11_ran) := ⟨(List.mem_append_right _ (List.mem_of_getElem? (i := 964) (by decide +kernel))), good_of_word (by decide +kernel)⟩
theorem tw_724 : q_g (.methodLink RL 123 yX12_ran) := ⟨(List.mem_append_right _ (List.mem_of_getElem? (i := 1471) (by decide +kernel))), good_of_word (by decide +kernel)⟩
theorem tw_725 : q_g (.instanceMethod yX12_ran) := ⟨(List.mem_append_right _ (List.mem_of_getElem? (i := 1472) (by decide +kernel))), good_of_word (by decide +kernel)⟩
theorem tw_726 : q_g (.selects RX12 yX12_ran yX12_ran) := ⟨(List.mem_append_right _ (List.mem_of_getElem? (i := 1473) (by decide +kernel))), good_of_word (by decide +kernel)⟩
theorem tw_727 : q_g (.methodLink RL 124 yX11_service) := ⟨(List.mem_append_right _ (List.mem_of_getElem? (i := 978) (by decide +kernel))), good_of_word (by decide +kernel)⟩
theorem tw_728 : q_g (.instanceMethod yX11_service) := ⟨(List.mem_append_right _ (List.mem_of_getElem? (i := 979) (by decide +kernel))), good_of_word (by decide +kernel)⟩
theorem tw_729 : q_g (.selects RX11 yX11_service yX11_service) := ⟨(List.mem_append_right _ (List.mem_of_getElem? (i := 980) (by decide +kernel))), good_of_word (by decide +kernel)⟩
theorem tw_730 : q_g (.methodLink RL 127 yX12_service) := ⟨(List.mem_append_right _ (List.mem_of_getElem? (i := 1479) (by decide +kernel))), good_of_word (by decide +kernel)⟩
theorem tw_731 : q_g (.instanceMethod yX12_service) := ⟨(List.mem_append_right _ (List.mem_of_getElem? (i := 1480) (by decide +kernel))), good_of_word (by decide +kernel)⟩
theorem tw_732 : q_g (.selects RX12 yX12_service yX12_service) := ⟨(List.mem_append_right _ (List.mem_of_getElem? (i := 1481) (by decide +kernel))), good_of_word (by decide +kernel)⟩
theorem tw_733 : q_g (.methodLink RL 128 yX11_share) := ⟨(List.mem_append_right _ (List.mem_of_getElem? (i := 991) (by decide +kernel))), good_of_word (by decide +kernel)⟩
theorem tw_734 : q_g (.instanceMethod yX11_share) := ⟨(List.mem_append_right _ (List.mem_of_getElem? (i := 992) (by decide +kernel))), good_of_word (by decide +kernel)⟩
theorem tw_735 : q_g (.selects RX11 yX11_share yX11_share) := ⟨(List.mem_append_right _ (List.mem_of_getElem? (i := 993) (by decide +kernel))), good_of_word (by decide +kernel)⟩
theorem tw_736 : q_g (.methodLink RL 132 yX12_share) := ⟨(List.mem_append_right _ (List.mem_of_getElem? (i := 1487) (by decide +kernel))), good_of_word (by decide +kernel)⟩
theorem tw_737 : q_g (.instanceMethod yX12_share) := ⟨(List.mem_append_right _ (List.mem_of_getElem? (i := 1488) (by decide +kernel))), good_of_word (by decide +kernel)⟩
theorem tw_738 : q_g (.selects RX12 yX12_share yX12_share) := ⟨(List.mem_append_right _ (List.mem_of_getElem? (i := 1489) (by decide +kernel))), good_of_word (by decide +kernel)⟩
theorem tw_739 : q_g (.methodLink RL 133 yX11_worst) := ⟨(List.mem_append_right _ (List.mem_of_getElem? (i := 1008) (by decide +kernel))), good_of_word (by decide +kernel)⟩
theorem tw_740 : q_g (.instanceMethod yX11_worst) := ⟨(List.mem_append_right _ (List.mem_of_getElem? (i := 1009) (by decide +kernel))), good_of_word (by decide +kernel)⟩
theorem tw_741 : q_g (.selects RX11 yX11_worst yX11_worst) := ⟨(List.mem_append_right _ (List.mem_of_getElem? (i := 1010) (by decide +kernel))), good_of_word (by decide +kernel)⟩
theorem tw_742 : q_g (.methodLink RL 136 yX12_worst) := ⟨(List.mem_append_right _ (List.mem_of_getElem? (i := 1496) (by decide +kernel))), good_of_word (by decide +kernel)⟩
theorem tw_743 : q_g (.instanceMethod yX12_worst) := ⟨(List.mem_append_right _ (List.mem_of_getElem? (i := 1497) (by decide +kernel))), good_of_word (by decide +kernel)⟩
theorem tw_744 : q_g (.selects RX12 yX12_worst yX12_worst) := ⟨(List.mem_append_right _ (List.mem_of_getElem? (i := 1498) (by decide +kernel))), good_of_word (by decide +kernel)⟩
theorem tw_745 : q_g (.methodLink RL 137 yX11_ahead) := ⟨(List.mem_append_right _ (List.mem_of_getElem? (i := 1022) (by decide +kernel))), good_of_word (by decide +kernel)⟩
theorem tw_746 : q_g (.instanceMethod yX11_ahead) := ⟨(List.mem_append_right _ (List.mem_of_getElem? (i := 1023) (by decide +kernel))), good_of_word (by decide +kernel)⟩
theorem tw_747 : q_g (.selects RX11 yX11_ahead yX11_ahead) := ⟨(List.mem_append_right _ (List.mem_of_getElem? (i := 1024) (by decide +kernel))), good_of_word (by decide +kernel)⟩
theorem tw_748 : q_g (.methodLink RL 140 yX12_ahead) := ⟨(List.mem_append_right _ (List.mem_of_getElem? (i := 1500) (by decide +kernel))), good_of_word (by decide +kernel)⟩
theorem tw_749 : q_g (.instanceMethod yX12_ahead) := ⟨(List.mem_append_right _ (List.mem_of_getElem? (i := 1501) (by decide +kernel))), good_of_word (by decide +kernel)⟩
theorem tw_750 : q_g (.selects RX12 yX12_ahead yX12_ahead) := ⟨(List.mem_append_right _ (List.mem_of_getElem? (i := 1502) (by decide +kernel))), good_of_word (by decide +kernel)⟩
theorem tw_751 : q_g (.methodLink RL 141 yX11_finish) := ⟨(List.mem_append_right _ (List.mem_of_getElem? (i := 1030) (by decide +kernel))), good_of_word (by decide +kernel)⟩
theorem tw_752 : q_g (.instanceMethod yX11_finish) := ⟨(List.mem_append_right _ (List.mem_of_getElem? (i := 1031) (by decide +kernel))), good_of_word (by decide +kernel)⟩
theorem tw_753 : q_g (.selects RX11 yX11_finish yX11_finish) := ⟨(List.mem_append_right _ (List.mem_of_getElem? (i := 1032) (by decide +kernel))), good_of_word (by decide +kernel)⟩
theorem tw_754 : q_g (.methodLink RL 144 yX12_finish) := ⟨(List.mem_append_right _ (List.mem_of_getElem? (i := 1512) (by decide +kernel))), good_of_word (by decide +kernel)⟩
theorem tw_755 : q_g (.instanceMethod yX12_finish) := ⟨(List.mem_append_right _ (List.mem_of_getElem? (i := 1513) (by decide +kernel))), good_of_word (by decide +kernel)⟩
theorem tw_756 : q_g (.selects RX12 yX12_finish yX12_finish) := ⟨(List.mem_append_right _ (List.mem_of_getElem? (i := 1514) (by decide +kernel))), good_of_word (by decide +kernel)⟩
theorem tw_757 : q_g (.methodLink RL 145 yX11_due) := ⟨(List.mem_append_right _ (List.mem_of_getElem? (i := 1034) (by decide +kernel))), good_of_word (by decide +kernel)⟩
theorem tw_758 : q_g (.instanceMethod yX11_due) := ⟨(List.mem_append_right _ (List.mem_of_getElem? (i := 1035) (by decide +kernel))), good_of_word (by decide +kernel)⟩
theorem tw_759 : q_g (.selects RX11 yX11_due yX11_due) := ⟨(List.mem_append_right _ (List.mem_of_getElem? (i := 1036) (by decide +kernel))), good_of_word (by decide +kernel)⟩
theorem tw_760 : q_g (.methodLink RL 148 yX12_due) := ⟨(List.mem_append_right _ (List.mem_of_getElem? (i := 1516) (by decide +kernel))), good_of_word (by decide +kernel)⟩
theorem tw_761 : q_g (.instanceMethod yX12_due) := ⟨(List.mem_append_right _ (List.mem_of_getElem? (i := 1517) (by decide +kernel))), good_of_word (by decide +kernel)⟩
theorem tw_762 : q_g (.selects RX12 yX12_due yX12_due) := ⟨(List.mem_append_right _ (List.mem_of_getElem? (i := 1518) (by decide +kernel))), good_of_word (by decide +kernel)⟩
theorem tw_763 : q_g (.methodLink RL 149 yX11_least) := ⟨(List.mem_append_right _ (List.mem_of_getElem? (i := 1038) (by decide +kernel))), good_of_word (by decide +kernel)⟩
theorem tw_764 : q_g (.instanceMethod yX11_least) := ⟨(List.mem_append_right _ (List.mem_of_getElem? (i := 1039) (by decide +kernel))), good_of_word (by decide +kernel)⟩
theorem tw_765 : q_g (.selects RX11 yX11_least yX11_least) := ⟨(List.mem_append_right _ (List.mem_of_getElem? (i := 1040) (by decide +kernel))), good_of_word (by decide +kernel)⟩
theorem tw_766 : q_g (.methodLink RL 152 yX12_least) := ⟨(List.mem_append_right _ (List.mem_of_getElem? (i := 1520) (by decide +kernel))), good_of_word (by decide +kernel)⟩
theorem tw_767 : q_g (.instanceMethod yX12_least) := ⟨(List.mem_append_right _ (List.mem_of_getElem? (i := 1521) (by decide +kernel))), good_of_word (by decide +kernel)⟩
theorem tw_768 : q_g (.selects RX12 yX12_least yX12_least) := ⟨(List.mem_append_right _ (List.mem_of_getElem? (i := 1522) (by decide +kernel))), good_of_word (by decide +kernel)⟩
theorem tw_769 : q_g (.methodLink RL 153 yX11_would) := ⟨(List.mem_append_right _ (List.mem_of_getElem? (i := 1046) (by decide +kernel))), good_of_word (by decide +kernel)⟩
theorem tw_770 : q_g (.instanceMethod yX11_would) := ⟨(List.mem_append_right _ (List.mem_of_getElem? (i := 1047) (by decide +kernel))), good_of_word (by decide +kernel)⟩
theorem tw_771 : q_g (.selects RX11 yX11_would yX11_would) := ⟨(List.mem_append_right _ (List.mem_of_getElem? (i := 1048) (by decide +kernel))), good_of_word (by decide +kernel)⟩
theorem tw_772 : q_g (.methodLink RL 156 yX12_would) := ⟨(List.mem_append_right _ (List.mem_of_getElem? (i := 1528) (by decide +kernel))), good_of_word (by decide +kernel)⟩
theorem tw_773 : q_g (.instanceMethod yX12_would) := ⟨(List.mem_append_right _ (List.mem_of_getElem? (i := 1529) (by decide +kernel))), good_of_word (by decide +kernel)⟩
theorem tw_774 : q_g (.selects RX12 yX12_would yX12_would) := ⟨(List.mem_append_right _ (List.mem_of_getElem? (i := 1530) (by decide +kernel))), good_of_word (by decide +kernel)⟩
theorem tw_775 : q_g (.methodLink RL 157 yX11_count) := ⟨(List.mem_append_right _ (List.mem_of_getElem? (i := 1065) (by decide +kernel))), good_of_word (by decide +kernel)⟩
theorem tw_776 : q_g (.instanceMethod yX11_count) := ⟨(List.mem_append_right _ (List.mem_of_getElem? (i := 1066) (by decide +kernel))), good_of_word (by decide +kernel)⟩
theorem tw_777 : q_g (.selects RX11 yX11_count yX11_count) := ⟨(List.mem_append_right _ (List.mem_of_getElem? (i := 1067) (by decide +kernel))), good_of_word (by decide +kernel)⟩
theorem tw_778 : q_g (.methodLink RL 160 yX12_count) := ⟨(List.mem_append_right _ (List.mem_of_getElem? (i := 1538) (by decide +kernel))), good_of_word (by decide +kernel)⟩
theorem tw_779 : q_g (.instanceMethod yX12_count) := ⟨(List.mem_append_right _ (List.mem_of_getElem? (i := 1539) (by decide +kernel))), good_of_word (by decide +kernel)⟩
theorem tw_780 : q_g (.selects RX12 yX12_count yX12_count) := ⟨(List.mem_append_right _ (List.mem_of_getElem? (i := 1540) (by decide +kernel))), good_of_word (by decide +kernel)⟩
theorem tw_781 : q_g (.methodLink RL 161 yX11_status) := ⟨(List.mem_append_right _ (List.mem_of_getElem? (i := 1081) (by decide +kernel))), good_of_word (by decide +kernel)⟩
theorem tw_782 : q_g (.instanceMethod yX11_status) := ⟨(List.mem_append_right _ (List.mem_of_getElem? (i := 1082) (by decide +kernel))), good_of_word (by decide +kernel)⟩
theorem tw_783 : q_g (.selects RX11 yX11_status yX11_status) := ⟨(List.mem_append_right _ (List.mem_of_getElem? (i := 1083) (by decide +kernel))), good_of_word (by decide +kernel)⟩
theorem tw_784 : q_g (.methodLink RL 164 yX12_status) := ⟨(List.mem_append_right _ (List.mem_of_getElem? (i := 1551) (by decide +kernel))), good_of_word (by decide +kernel)⟩
theorem tw_785 : q_g (.instanceMethod yX12_status) := ⟨(List.mem_append_right _ (List.mem_of_getElem? (i := 1552) (by decide +kernel))), good_of_word (by decide +kernel)⟩
theorem tw_786 : q_g (.selects RX12 yX12_status yX12_status) := ⟨(List.mem_append_right _ (List.mem_of_getElem? (i := 1553) (by decide +kernel))), good_of_word (by decide +kernel)⟩
theorem tw_787 : q_g (.instantiable RX11 12) := ⟨(List.mem_append_right _ (List.mem_of_getElem? (i := 21) (by decide +kernel))), good_of_word (by decide +kernel)⟩
theorem tw_788 : q_g (.instantiable RX12 27) := ⟨(List.mem_append_right _ (List.mem_of_getElem? (i := 1086) (by decide +kernel))), good_of_word (by decide +kernel)⟩
theorem tw_789 : q_g (.classLink RL 7 RX11) := ⟨(List.mem_append_right _ (List.mem_of_getElem? (i := 20) (by decide +kernel))), good_of_word (by decide +kernel)⟩
theorem tw_790 : q_g (.methodLink RL 9 yX11_init) := ⟨(List.mem_append_right _ (List.mem_of_getElem? (i := 22) (by decide +kernel))), good_of_word (by decide +kernel)⟩
theorem tw_791 : q_g (.instanceMethod yX11_init) := ⟨(List.mem_append_right _ (List.mem_of_getElem? (i := 23) (by decide +kernel))), good_of_word (by decide +kernel)⟩
theorem tw_792 : q_g (.classLink RL 10 RX12) := ⟨(List.mem_append_right _ (List.mem_of_getElem? (i := 1085) (by decide +kernel))), good_of_word (by decide +kernel)⟩
theorem tw_793 : q_g (.methodLink RL 12 yX12_init) := ⟨(List.mem_append_right _ (List.mem_of_getElem? (i := 1087) (by decide +kernel))), good_of_word (by decide +kernel)⟩
theorem tw_794 : q_g (.instanceMethod yX12_init) := ⟨(List.mem_append_right _ (List.mem_of_getElem? (i := 1088) (by decide +kernel))), good_of_word (by decide +kernel)⟩
