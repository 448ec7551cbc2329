/-! ===== classes and methods (printed by program) ===== -/
theorem lwF0 : ∀ w ∈ u_ws RX0 TX0 15, w ∈ lw_gd := by
  intro w hw
  obtain ⟨k, hk, rfl⟩ := List.mem_map.mp hw
  have hk := List.mem_range.mp hk
  match k, hk with
  | 0, _ => exact kw_263
  | 1, _ => exact kw_265
  | 2, _ => exact kw_267
  | 3, _ => exact kw_269
  | 4, _ => exact kw_271
  | 5, _ => exact kw_273
  | 6, _ => exact kw_275
  | 7, _ => exact kw_277
  | 8, _ => exact kw_279
  | 9, _ => exact kw_281
  | 10, _ => exact kw_283
  | 11, _ => exact kw_285
  | 12, _ => exact kw_287
  | 13, _ => exact kw_289
  | 14, _ => exact kw_291
  | k + 15, hk => omega
theorem lnF0 : ∀ a, ck a = 10 + 0 → ln a = 15 := by
  intro a h
  by_cases ha : a < 134
  · have h2 : ∀ b, b < 134 → ck b = 10 + 0 → ln b = 15 := by decide +kernel
    exact h2 a ha h
  · have h2 : ck a = 0 := by
      unfold ck
      rw [List.getD_eq_getElem?_getD, List.getElem?_eq_none (by simp [layL]; omega)]
      rfl
    omega
theorem cOk0 : clsOk 0 RX0 TX0 15 tyX0 := ⟨rfl, lwF0, tyX0_ok, nmX0, lnF0, by decide +kernel⟩
theorem lwF1 : ∀ w ∈ u_ws RX1 TX1 8, w ∈ lw_gd := by
  intro w hw
  obtain ⟨k, hk, rfl⟩ := List.mem_map.mp hw
  have hk := List.mem_range.mp hk
  match k, hk with
  | 0, _ => exact kw_155
  | 1, _ => exact kw_157
  | 2, _ => exact kw_159
  | 3, _ => exact kw_161
  | 4, _ => exact kw_163
  | 5, _ => exact kw_165
  | 6, _ => exact kw_167
  | 7, _ => exact kw_169
  | k + 8, hk => omega
theorem lnF1 : ∀ a, ck a = 10 + 1 → ln a = 8 := by
  intro a h
  by_cases ha : a < 134
  · have h2 : ∀ b, b < 134 → ck b = 10 + 1 → ln b = 8 := by decide +kernel
    exact h2 a ha h
  · have h2 : ck a = 0 := by
      unfold ck
      rw [List.getD_eq_getElem?_getD, List.getElem?_eq_none (by simp [layL]; omega)]
      rfl
    omega
theorem cOk1 : clsOk 1 RX1 TX1 8 tyX1 := ⟨rfl, lwF1, tyX1_ok, nmX1, lnF1, by decide +kernel⟩
theorem lwF2 : ∀ w ∈ u_ws RX2 TX2 1, w ∈ lw_gd := by
  intro w hw
  obtain ⟨k, hk, rfl⟩ := List.mem_map.mp hw
  have hk := List.mem_range.mp hk
  match k, hk with
  | 0, _ => exact kw_301
  | k + 1, hk => omega
theorem lnF2 : ∀ a, ck a = 10 + 2 → ln a = 1 := by
  intro a h
  by_cases ha : a < 134
  · have h2 : ∀ b, b < 134 → ck b = 10 + 2 → ln b = 1 := by decide +kernel
    exact h2 a ha h
  · have h2 : ck a = 0 := by
      unfold ck
      rw [List.getD_eq_getElem?_getD, List.getElem?_eq_none (by simp [layL]; omega)]
      rfl
    omega
theorem cOk2 : clsOk 2 RX2 TX2 1 tyX2 := ⟨rfl, lwF2, tyX2_ok, nmX2, lnF2, by decide +kernel⟩
theorem lwF3 : ∀ w ∈ u_ws RX3 TX3 3, w ∈ lw_gd := by
  intro w hw
  obtain ⟨k, hk, rfl⟩ := List.mem_map.mp hw
  have hk := List.mem_range.mp hk
  match k, hk with
  | 0, _ => exact kw_182
  | 1, _ => exact kw_184
  | 2, _ => exact kw_186
  | k + 3, hk => omega
theorem lnF3 : ∀ a, ck a = 10 + 3 → ln a = 3 := by
  intro a h
  by_cases ha : a < 134
  · have h2 : ∀ b, b < 134 → ck b = 10 + 3 → ln b = 3 := by decide +kernel
    exact h2 a ha h
  · have h2 : ck a = 0 := by
      unfold ck
      rw [List.getD_eq_getElem?_getD, List.getElem?_eq_none (by simp [layL]; omega)]
      rfl
    omega
theorem cOk3 : clsOk 3 RX3 TX3 3 tyX3 := ⟨rfl, lwF3, tyX3_ok, nmX3, lnF3, by decide +kernel⟩
theorem lwF4 : ∀ w ∈ u_ws RX4 TX4 4, w ∈ lw_gd := by
  intro w hw
  obtain ⟨k, hk, rfl⟩ := List.mem_map.mp hw
  have hk := List.mem_range.mp hk
  match k, hk with
  | 0, _ => exact kw_322
  | 1, _ => exact kw_324
  | 2, _ => exact kw_326
  | 3, _ => exact kw_328
  | k + 4, hk => omega
theorem lnF4 : ∀ a, ck a = 10 + 4 → ln a = 4 := by
  intro a h
  by_cases ha : a < 134
  · have h2 : ∀ b, b < 134 → ck b = 10 + 4 → ln b = 4 := by decide +kernel
    exact h2 a ha h
  · have h2 : ck a = 0 := by
      unfold ck
      rw [List.getD_eq_getElem?_getD, List.getElem?_eq_none (by simp [layL]; omega)]
      rfl
    omega
theorem cOk4 : clsOk 4 RX4 TX4 4 tyX4 := ⟨rfl, lwF4, tyX4_ok, nmX4, lnF4, by decide +kernel⟩
theorem lwF5 : ∀ w ∈ u_ws RX5 TX5 4, w ∈ lw_gd := by
  intro w hw
  obtain ⟨k, hk, rfl⟩ := List.mem_map.mp hw
  have hk := List.mem_range.mp hk
  match k, hk with
  | 0, _ => exact kw_109
  | 1, _ => exact kw_111
  | 2, _ => exact kw_113
  | 3, _ => exact kw_115
  | k + 4, hk => omega
theorem lnF5 : ∀ a, ck a = 10 + 5 → ln a = 4 := by
  intro a h
  by_cases ha : a < 134
  · have h2 : ∀ b, b < 134 → ck b = 10 + 5 → ln b = 4 := by decide +kernel
    exact h2 a ha h
  · have h2 : ck a = 0 := by
      unfold ck
      rw [List.getD_eq_getElem?_getD, List.getElem?_eq_none (by simp [layL]; omega)]
      rfl
    omega
theorem cOk5 : clsOk 5 RX5 TX5 4 tyX5 := ⟨rfl, lwF5, tyX5_ok, nmX5, lnF5, by decide +kernel⟩
theorem lwF6 : ∀ w ∈ u_ws RX6 TX6 3, w ∈ lw_gd := by
  intro w hw
  obtain ⟨k, hk, rfl⟩ := List.mem_map.mp hw
  have hk := List.mem_range.mp hk
  match k, hk with
  | 0, _ => exact kw_546
  | 1, _ => exact kw_548
  | 2, _ => exact kw_550
  | k + 3, hk => omega
theorem lnF6 : ∀ a, ck a = 10 + 6 → ln a = 3 := by
  intro a h
  by_cases ha : a < 134
  · have h2 : ∀ b, b < 134 → ck b = 10 + 6 → ln b = 3 := by decide +kernel
    exact h2 a ha h
  · have h2 : ck a = 0 := by
      unfold ck
      rw [List.getD_eq_getElem?_getD, List.getElem?_eq_none (by simp [layL]; omega)]
      rfl
    omega
theorem cOk6 : clsOk 6 RX6 TX6 3 tyX6 := ⟨rfl, lwF6, tyX6_ok, nmX6, lnF6, by decide +kernel⟩
theorem lwF7 : ∀ w ∈ u_ws RX7 TX7 16, w ∈ lw_gd := by
  intro w hw
  obtain ⟨k, hk, rfl⟩ := List.mem_map.mp hw
  have hk := List.mem_range.mp hk
  match k, hk with
  | 0, _ => exact kw_577
  | 1, _ => exact kw_579
  | 2, _ => exact kw_581
  | 3, _ => exact kw_583
  | 4, _ => exact kw_585
  | 5, _ => exact kw_587
  | 6, _ => exact kw_589
  | 7, _ => exact kw_591
  | 8, _ => exact kw_593
  | 9, _ => exact kw_595
  | 10, _ => exact kw_597
  | 11, _ => exact kw_599
  | 12, _ => exact kw_601
  | 13, _ => exact kw_603
  | 14, _ => exact kw_605
  | 15, _ => exact kw_607
  | k + 16, hk => omega
theorem lnF7 : ∀ a, ck a = 10 + 7 → ln a = 16 := by
  intro a h
  by_cases ha : a < 134
  · have h2 : ∀ b, b < 134 → ck b = 10 + 7 → ln b = 16 := by decide +kernel
    exact h2 a ha h
  · have h2 : ck a = 0 := by
      unfold ck
      rw [List.getD_eq_getElem?_getD, List.getElem?_eq_none (by simp [layL]; omega)]
      rfl
    omega
theorem cOk7 : clsOk 7 RX7 TX7 16 tyX7 := ⟨rfl, lwF7, tyX7_ok, nmX7, lnF7, by decide +kernel⟩
theorem lwF8 : ∀ w ∈ u_ws RX8 TX8 2, w ∈ lw_gd := by
  intro w hw
  obtain ⟨k, hk, rfl⟩ := List.mem_map.mp hw
  have hk := List.mem_range.mp hk
  match k, hk with
  | 0, _ => exact kw_342
  | 1, _ => exact kw_344
  | k + 2, hk => omega
theorem lnF8 : ∀ a, ck a = 10 + 8 → ln a = 2 := by
  intro a h
  by_cases ha : a < 134
  · have h2 : ∀ b, b < 134 → ck b = 10 + 8 → ln b = 2 := by decide +kernel
    exact h2 a ha h
  · have h2 : ck a = 0 := by
      unfold ck
      rw [List.getD_eq_getElem?_getD, List.getElem?_eq_none (by simp [layL]; omega)]
      rfl
    omega
theorem cOk8 : clsOk 8 RX8 TX8 2 tyX8 := ⟨rfl, lwF8, tyX8_ok, nmX8, lnF8, by decide +kernel⟩
theorem lwF9 : ∀ w ∈ u_ws RX9 TX9 17, w ∈ lw_gd := by
  intro w hw
  obtain ⟨k, hk, rfl⟩ := List.mem_map.mp hw
  have hk := List.mem_range.mp hk
  match k, hk with
  | 0, _ => exact kw_364
  | 1, _ => exact kw_366
  | 2, _ => exact kw_368
  | 3, _ => exact kw_370
  | 4, _ => exact kw_372
  | 5, _ => exact kw_374
  | 6, _ => exact kw_376
  | 7, _ => exact kw_378
  | 8, _ => exact kw_380
  | 9, _ => exact kw_382
  | 10, _ => exact kw_384
  | 11, _ => exact kw_386
  | 12, _ => exact kw_388
  | 13, _ => exact kw_390
  | 14, _ => exact kw_392
  | 15, _ => exact kw_394
  | 16, _ => exact kw_396
  | k + 17, hk => omega
theorem lnF9 : ∀ a, ck a = 10 + 9 → ln a = 17 := by
  intro a h
  by_cases ha : a < 134
  · have h2 : ∀ b, b < 134 → ck b = 10 + 9 → ln b = 17 := by decide +kernel
    exact h2 a ha h
  · have h2 : ck a = 0 := by
      unfold ck
      rw [List.getD_eq_getElem?_getD, List.getElem?_eq_none (by simp [layL]; omega)]
      rfl
    omega
theorem cOk9 : clsOk 9 RX9 TX9 17 tyX9 := ⟨rfl, lwF9, tyX9_ok, nmX9, lnF9, by decide +kernel⟩
theorem lwF10 : ∀ w ∈ u_ws RX10 TX10 57, w ∈ lw_gd := by
  intro w hw
  obtain ⟨k, hk, rfl⟩ := List.mem_map.mp hw
  have hk := List.mem_range.mp hk
  match k, hk with
  | 0, _ => exact kw_1122
  | 1, _ => exact kw_1124
  | 2, _ => exact kw_1126
  | 3, _ => exact kw_1128
  | 4, _ => exact kw_1130
  | 5, _ => exact kw_1132
  | 6, _ => exact kw_1134
  | 7, _ => exact kw_1136
  | 8, _ => exact kw_1138
  | 9, _ => exact kw_1140
  | 10, _ => exact kw_1142
  | 11, _ => exact kw_1144
  | 12, _ => exact kw_1146
  | 13, _ => exact kw_1148
  | 14, _ => exact kw_1150
  | 15, _ => exact kw_1152
  | 16, _ => exact kw_1154
  | 17, _ => exact kw_1156
  | 18, _ => exact kw_1158
  | 19, _ => exact kw_1160
  | 20, _ => exact kw_1162
  | 21, _ => exact kw_1164
  | 22, _ => exact kw_1166
  | 23, _ => exact kw_1168
  | 24, _ => exact kw_1170
  | 25, _ => exact kw_1172
  | 26, _ => exact kw_1174
  | 27, _ => exact kw_1176
  | 28, _ => exact kw_1178
  | 29, _ => exact kw_1180
  | 30, _ => exact kw_1182
  | 31, _ => exact kw_1184
  | 32, _ => exact kw_1186
  | 33, _ => exact kw_1188
  | 34, _ => exact kw_1190
  | 35, _ => exact kw_1192
  | 36, _ => exact kw_1194
  | 37, _ => exact kw_1196
  | 38, _ => exact kw_1198
  | 39, _ => exact kw_1200
  | 40, _ => exact kw_1202
  | 41, _ => exact kw_1204
  | 42, _ => exact kw_1206
  | 43, _ => exact kw_1208
  | 44, _ => exact kw_1210
  | 45, _ => exact kw_1212
  | 46, _ => exact kw_1214
  | 47, _ => exact kw_1216
  | 48, _ => exact kw_1218
  | 49, _ => exact kw_1220
  | 50, _ => exact kw_1222
  | 51, _ => exact kw_1224
  | 52, _ => exact kw_1226
  | 53, _ => exact kw_1228
  | 54, _ => exact kw_1230
  | 55, _ => exact kw_1232
  | 56, _ => exact kw_1234
  | k + 57, hk => omega
theorem lnF10 : ∀ a, ck a = 10 + 10 → ln a = 57 := by
  intro a h
  by_cases ha : a < 134
  · have h2 : ∀ b, b < 134 → ck b = 10 + 10 → ln b = 57 := by decide +kernel
    exact h2 a ha h
  · have h2 : ck a = 0 := by
      unfold ck
      rw [List.getD_eq_getElem?_getD, List.getElem?_eq_none (by simp [layL]; omega)]
      rfl
    omega
theorem cOk10 : clsOk 10 RX10 TX10 57 tyX10 := ⟨rfl, lwF10, tyX10_ok, nmX10, lnF10, by decide +kernel⟩
def mi_X0_init : MI := (yX0_init, cX0_init, 2, none, 0, fun _ => 0)
theorem ok_X0_init : mOkI mi_X0_init 1 := ⟨⟨kw_124, kw_76, by decide, by decide⟩, kw_123, rfl, rfl⟩
def mi_X0_empty : MI := (yX0_empty, cX0_empty, 2, none, 0, fun _ => 0)
theorem ok_X0_empty : mOkV mi_X0_empty 0 := ⟨⟨kw_192, kw_76, by decide, by decide⟩, kw_190, kw_191⟩
def mi_X0_become : MI := (yX0_become, cX0_become, 2, none, 0, fun _ => 0)
theorem ok_X0_become : mOkV mi_X0_become 1 := ⟨⟨kw_514, kw_76, by decide, by decide⟩, kw_512, kw_513⟩
def mi_X0_layRow : MI := (yX0_layRow, cX0_layRow, 4, none, 0, fun _ => 0)
theorem ok_X0_layRow : mOkV mi_X0_layRow 2 := ⟨⟨kw_204, kw_76, by decide, by decide⟩, kw_202, kw_203⟩
def mi_X0_put : MI := (yX0_put, cX0_put, 5, none, 0, fun _ => 0)
theorem ok_X0_put : mOkV mi_X0_put 4 := ⟨⟨kw_448, kw_76, by decide, by decide⟩, kw_446, kw_447⟩
def mi_X0_remove : MI := (yX0_remove, cX0_remove, 2, none, 0, fun _ => 0)
theorem ok_X0_remove : mOkV mi_X0_remove 1 := ⟨⟨kw_460, kw_76, by decide, by decide⟩, kw_458, kw_459⟩
def mi_X0_setPart : MI := (yX0_setPart, cX0_setPart, 5, none, 0, fun _ => 0)
theorem ok_X0_setPart : mOkV mi_X0_setPart 4 := ⟨⟨kw_208, kw_76, by decide, by decide⟩, kw_207, kw_1⟩
def mi_X0_addCondition : MI := (yX0_addCondition, cX0_addCondition, 4, (some .int), 0, fun _ => 0)
theorem ok_X0_addCondition : mOkV mi_X0_addCondition 3 := ⟨⟨kw_468, kw_76, by decide, by decide⟩, kw_466, kw_467⟩
def mi_X0_setTruths : MI := (yX0_setTruths, cX0_setTruths, 5, none, 0, fun _ => 0)
theorem ok_X0_setTruths : mOkV mi_X0_setTruths 4 := ⟨⟨kw_489, kw_76, by decide, by decide⟩, kw_487, kw_488⟩
def mi_X0_settle : MI := (yX0_settle, cX0_settle, 2, none, 0, fun _ => 0)
theorem ok_X0_settle : mOkV mi_X0_settle 0 := ⟨⟨kw_212, kw_76, by decide, by decide⟩, kw_211, kw_2⟩
def mi_X0_placesWhereHolds : MI := (yX0_placesWhereHolds, cX0_placesWhereHolds, 6, (some .int), 0, fun _ => 0)
theorem ok_X0_placesWhereHolds : mOkV mi_X0_placesWhereHolds 1 := ⟨⟨kw_219, kw_76, by decide, by decide⟩, kw_218, kw_3⟩
def mi_X0_productWith : MI := (yX0_productWith, cX0_productWith, 5, (some .int), 0, fun _ => 0)
theorem ok_X0_productWith : mOkV mi_X0_productWith 2 := ⟨⟨kw_444, kw_76, by decide, by decide⟩, kw_442, kw_443⟩
def mi_X0_findingAt : MI := (yX0_findingAt, cX0_findingAt, 4, (some .int), 0, fun _ => 0)
theorem ok_X0_findingAt : mOkV mi_X0_findingAt 2 := ⟨⟨kw_440, kw_76, by decide, by decide⟩, kw_438, kw_439⟩
def mi_X0_number : MI := (yX0_number, cX0_number, 3, (some .int), 0, fun _ => 0)
theorem ok_X0_number : mOkV mi_X0_number 0 := ⟨⟨kw_649, kw_76, by decide, by decide⟩, kw_647, kw_648⟩
def mi_X0_standAt : MI := (yX0_standAt, cX0_standAt, 4, none, 0, fun _ => 0)
theorem ok_X0_standAt : mOkV mi_X0_standAt 1 := ⟨⟨kw_694, kw_76, by decide, by decide⟩, kw_692, kw_693⟩
def mi_X0_numberTold : MI := (yX0_numberTold, cX0_numberTold, 3, (some .int), 0, fun _ => 0)
theorem ok_X0_numberTold : mOkS mi_X0_numberTold 3 := ⟨⟨kw_222, kw_76, by decide, by decide⟩, kw_221⟩
def mi_X0_judge : MI := (yX0_judge, cX0_judge, 6, (some .int), 0, fun _ => 0)
theorem ok_X0_judge : mOkV mi_X0_judge 2 := ⟨⟨kw_673, kw_76, by decide, by decide⟩, kw_671, kw_672⟩
def mi_X0_firstThatFails : MI := (yX0_firstThatFails, cX0_firstThatFails, 6, (some .int), 0, fun _ => 0)
theorem ok_X0_firstThatFails : mOkV mi_X0_firstThatFails 2 := ⟨⟨kw_669, kw_76, by decide, by decide⟩, kw_668, kw_16⟩
def mi_X0_opens : MI := (yX0_opens, cX0_opens, 2, (some .boolean), 0, fun _ => 0)
theorem ok_X0_opens : mOkV mi_X0_opens 1 := ⟨⟨kw_661, kw_76, by decide, by decide⟩, kw_659, kw_660⟩
def mi_X0_isHandled : MI := (yX0_isHandled, cX0_isHandled, 1, (some .boolean), 0, fun _ => 0)
theorem ok_X0_isHandled : mOkS mi_X0_isHandled 1 := ⟨⟨kw_718, kw_76, by decide, by decide⟩, kw_717⟩
def mi_X0_isFaller : MI := (yX0_isFaller, cX0_isFaller, 1, (some .boolean), 0, fun _ => 0)
theorem ok_X0_isFaller : mOkS mi_X0_isFaller 1 := ⟨⟨kw_215, kw_76, by decide, by decide⟩, kw_214⟩
def mi_X0_bodyOfGoing : MI := (yX0_bodyOfGoing, cX0_bodyOfGoing, 1, (some .int), 0, fun _ => 0)
theorem ok_X0_bodyOfGoing : mOkS mi_X0_bodyOfGoing 1 := ⟨⟨kw_771, kw_76, by decide, by decide⟩, kw_770⟩
def mi_X0_goalOf : MI := (yX0_goalOf, cX0_goalOf, 4, (some .int), 0, fun _ => 0)
theorem ok_X0_goalOf : mOkV mi_X0_goalOf 1 := ⟨⟨kw_722, kw_76, by decide, by decide⟩, kw_721, kw_21⟩
def mi_X0_barOf : MI := (yX0_barOf, cX0_barOf, 4, (some .int), 0, fun _ => 0)
theorem ok_X0_barOf : mOkV mi_X0_barOf 1 := ⟨⟨kw_768, kw_76, by decide, by decide⟩, kw_766, kw_767⟩
def mi_X0_perform : MI := (yX0_perform, cX0_perform, 3, (some .int), 0, fun _ => 0)
theorem ok_X0_perform : mOkV mi_X0_perform 1 := ⟨⟨kw_806, kw_76, by decide, by decide⟩, kw_804, kw_805⟩
def mi_X0_numberBehind : MI := (yX0_numberBehind, cX0_numberBehind, 5, (some .int), 0, fun _ => 0)
theorem ok_X0_numberBehind : mOkV mi_X0_numberBehind 2 := ⟨⟨kw_698, kw_76, by decide, by decide⟩, kw_696, kw_697⟩
def mi_X0_tilt : MI := (yX0_tilt, cX0_tilt, 8, none, 0, fun _ => 0)
theorem ok_X0_tilt : mOkV mi_X0_tilt 2 := ⟨⟨kw_702, kw_76, by decide, by decide⟩, kw_701, kw_18⟩
def mi_X0_stepOfFall : MI := (yX0_stepOfFall, cX0_stepOfFall, 3, (some .int), 0, fun _ => 0)
theorem ok_X0_stepOfFall : mOkV mi_X0_stepOfFall 2 := ⟨⟨kw_706, kw_76, by decide, by decide⟩, kw_705, kw_19⟩
def mi_X0_beginsToFall : MI := (yX0_beginsToFall, cX0_beginsToFall, 3, (some .boolean), 0, fun _ => 0)
theorem ok_X0_beginsToFall : mOkV mi_X0_beginsToFall 2 := ⟨⟨kw_710, kw_76, by decide, by decide⟩, kw_709, kw_20⟩
def mi_X1_init : MI := (yX1_init, cX1_init, 1, none, 0, fun _ => 0)
theorem ok_X1_init : mOkI mi_X1_init 0 := ⟨⟨kw_130, kw_77, by decide, by decide⟩, kw_129, rfl, rfl⟩
def mi_X1_add : MI := (yX1_add, cX1_add, 4, none, 0, fun _ => 0)
theorem ok_X1_add : mOkV mi_X1_add 3 := ⟨⟨kw_472, kw_77, by decide, by decide⟩, kw_470, kw_471⟩
def mi_X1_become : MI := (yX1_become, cX1_become, 2, none, 0, fun _ => 0)
theorem ok_X1_become : mOkV mi_X1_become 1 := ⟨⟨kw_521, kw_77, by decide, by decide⟩, kw_519, kw_520⟩
def mi_X1_letGo : MI := (yX1_letGo, cX1_letGo, 1, none, 0, fun _ => 0)
theorem ok_X1_letGo : mOkV mi_X1_letGo 0 := ⟨⟨kw_196, kw_77, by decide, by decide⟩, kw_194, kw_195⟩
def mi_X1_sort : MI := (yX1_sort, cX1_sort, 4, none, 0, fun _ => 0)
theorem ok_X1_sort : mOkV mi_X1_sort 0 := ⟨⟨kw_200, kw_77, by decide, by decide⟩, kw_199, kw_0⟩
def mi_X1_truthAt : MI := (yX1_truthAt, cX1_truthAt, 3, (some .int), 0, fun _ => 0)
theorem ok_X1_truthAt : mOkV mi_X1_truthAt 2 := ⟨⟨kw_226, kw_77, by decide, by decide⟩, kw_224, kw_225⟩
def mi_X1_findingOfTruths : MI := (yX1_findingOfTruths, cX1_findingOfTruths, 4, (some .int), 0, fun _ => 0)
theorem ok_X1_findingOfTruths : mOkV mi_X1_findingOfTruths 3 := ⟨⟨kw_484, kw_77, by decide, by decide⟩, kw_482, kw_483⟩
def mi_X1_setBits : MI := (yX1_setBits, cX1_setBits, 6, none, 0, fun _ => 0)
theorem ok_X1_setBits : mOkV mi_X1_setBits 4 := ⟨⟨kw_493, kw_77, by decide, by decide⟩, kw_491, kw_492⟩
def mi_X1_anyOf : MI := (yX1_anyOf, cX1_anyOf, 2, (some .boolean), 0, fun _ => 0)
theorem ok_X1_anyOf : mOkV mi_X1_anyOf 1 := ⟨⟨kw_665, kw_77, by decide, by decide⟩, kw_663, kw_664⟩
def mi_X2_init : MI := (yX2_init, cX2_init, 1, none, 0, fun _ => 0)
theorem ok_X2_init : mOkI mi_X2_init 0 := ⟨⟨kw_298, kw_79, by decide, by decide⟩, kw_297, rfl, rfl⟩
def mi_X2_drawChest : MI := (yX2_drawChest, cX2_drawChest, 6, none, 0, fun _ => 0)
theorem ok_X2_drawChest : mOkV mi_X2_drawChest 2 := ⟨⟨kw_613, kw_79, by decide, by decide⟩, kw_611, kw_612⟩
def mi_X2_drawCondition : MI := (yX2_drawCondition, cX2_drawCondition, 9, none, 0, fun _ => 0)
theorem ok_X2_drawCondition : mOkV mi_X2_drawCondition 2 := ⟨⟨kw_627, kw_79, by decide, by decide⟩, kw_626, kw_12⟩
def mi_X2_drawSeat : MI := (yX2_drawSeat, cX2_drawSeat, 2, (some .int), 0, fun _ => 0)
theorem ok_X2_drawSeat : mOkV mi_X2_drawSeat 0 := ⟨⟨kw_631, kw_79, by decide, by decide⟩, kw_630, kw_13⟩
def mi_X2_below : MI := (yX2_below, cX2_below, 2, (some .int), 0, fun _ => 0)
theorem ok_X2_below : mOkV mi_X2_below 1 := ⟨⟨kw_621, kw_79, by decide, by decide⟩, kw_620, kw_11⟩
def mi_X3_init : MI := (yX3_init, cX3_init, 1, none, 0, fun _ => 0)
theorem ok_X3_init : mOkI mi_X3_init 0 := ⟨⟨kw_176, kw_78, by decide, by decide⟩, kw_175, rfl, rfl⟩
def mi_X3_push : MI := (yX3_push, cX3_push, 2, none, 0, fun _ => 0)
theorem ok_X3_push : mOkV mi_X3_push 1 := ⟨⟨kw_811, kw_78, by decide, by decide⟩, kw_809, kw_810⟩
def mi_X3_pushAll : MI := (yX3_pushAll, cX3_pushAll, 4, none, 0, fun _ => 0)
theorem ok_X3_pushAll : mOkV mi_X3_pushAll 2 := ⟨⟨kw_834, kw_78, by decide, by decide⟩, kw_832, kw_833⟩
def mi_X3_pop : MI := (yX3_pop, cX3_pop, 1, (some .int), 0, fun _ => 0)
theorem ok_X3_pop : mOkV mi_X3_pop 0 := ⟨⟨kw_851, kw_78, by decide, by decide⟩, kw_849, kw_850⟩
def mi_X3_letGo : MI := (yX3_letGo, cX3_letGo, 1, none, 0, fun _ => 0)
theorem ok_X3_letGo : mOkV mi_X3_letGo 0 := ⟨⟨kw_422, kw_78, by decide, by decide⟩, kw_420, kw_421⟩
def mi_X4_init : MI := (yX4_init, cX4_init, 1, none, 0, fun _ => 0)
theorem ok_X4_init : mOkI mi_X4_init 0 := ⟨⟨kw_308, kw_80, by decide, by decide⟩, kw_307, rfl, rfl⟩
def mi_X4_put : MI := (yX4_put, cX4_put, 6, (some .int), 0, fun _ => 0)
theorem ok_X4_put : mOkV mi_X4_put 3 := ⟨⟨kw_959, kw_80, by decide, by decide⟩, kw_957, kw_958⟩
def mi_X4_number : MI := (yX4_number, cX4_number, 3, (some .int), 0, fun _ => 0)
theorem ok_X4_number : mOkV mi_X4_number 0 := ⟨⟨kw_1049, kw_80, by decide, by decide⟩, kw_1047, kw_1048⟩
def mi_X4_prove : MI := (yX4_prove, cX4_prove, 5, (some .boolean), 0, fun _ => 0)
theorem ok_X4_prove : mOkV mi_X4_prove 1 := ⟨⟨kw_975, kw_80, by decide, by decide⟩, kw_973, kw_974⟩
def mi_X4_staysAmongMarked : MI := (yX4_staysAmongMarked, cX4_staysAmongMarked, 5, (some .boolean), 0, fun _ => 0)
theorem ok_X4_staysAmongMarked : mOkV mi_X4_staysAmongMarked 2 := ⟨⟨kw_980, kw_80, by decide, by decide⟩, kw_979, kw_27⟩
def mi_X4_noteLook : MI := (yX4_noteLook, cX4_noteLook, 4, none, 0, fun _ => 0)
theorem ok_X4_noteLook : mOkV mi_X4_noteLook 3 := ⟨⟨kw_313, kw_80, by decide, by decide⟩, kw_312, kw_4⟩
def mi_X5_init : MI := (yX5_init, cX5_init, 1, none, 0, fun _ => 0)
theorem ok_X5_init : mOkI mi_X5_init 0 := ⟨⟨kw_100, kw_75, by decide, by decide⟩, kw_99, rfl, rfl⟩
def mi_X5_emptyTrace : MI := (yX5_emptyTrace, cX5_emptyTrace, 1, none, 0, fun _ => 0)
theorem ok_X5_emptyTrace : mOkV mi_X5_emptyTrace 0 := ⟨⟨kw_746, kw_75, by decide, by decide⟩, kw_744, kw_745⟩
def mi_X5_write : MI := (yX5_write, cX5_write, 2, none, 0, fun _ => 0)
theorem ok_X5_write : mOkV mi_X5_write 1 := ⟨⟨kw_714, kw_75, by decide, by decide⟩, kw_712, kw_713⟩
def mi_X5_writeTelling : MI := (yX5_writeTelling, cX5_writeTelling, 4, none, 0, fun _ => 0)
theorem ok_X5_writeTelling : mOkV mi_X5_writeTelling 1 := ⟨⟨kw_678, kw_75, by decide, by decide⟩, kw_676, kw_677⟩
def mi_X5_tracedAt : MI := (yX5_tracedAt, cX5_tracedAt, 2, (some .int), 0, fun _ => 0)
theorem ok_X5_tracedAt : mOkV mi_X5_tracedAt 1 := ⟨⟨kw_1038, kw_75, by decide, by decide⟩, kw_1036, kw_1037⟩
def mi_X5_met : MI := (yX5_met, cX5_met, 2, (some .int), 0, fun _ => 0)
theorem ok_X5_met : mOkV mi_X5_met 1 := ⟨⟨kw_413, kw_75, by decide, by decide⟩, kw_411, kw_412⟩
def mi_X6_init : MI := (yX6_init, cX6_init, 1, none, 0, fun _ => 0)
theorem ok_X6_init : mOkI mi_X6_init 0 := ⟨⟨kw_541, kw_85, by decide, by decide⟩, kw_540, rfl, rfl⟩
def mi_X6_letGo : MI := (yX6_letGo, cX6_letGo, 1, none, 0, fun _ => 0)
theorem ok_X6_letGo : mOkV mi_X6_letGo 0 := ⟨⟨kw_644, kw_85, by decide, by decide⟩, kw_642, kw_643⟩
def mi_X6_add : MI := (yX6_add, cX6_add, 5, none, 0, fun _ => 0)
theorem ok_X6_add : mOkV mi_X6_add 2 := ⟨⟨kw_726, kw_85, by decide, by decide⟩, kw_724, kw_725⟩
def mi_X6_latestTo : MI := (yX6_latestTo, cX6_latestTo, 2, (some .int), 0, fun _ => 0)
theorem ok_X6_latestTo : mOkV mi_X6_latestTo 1 := ⟨⟨kw_929, kw_85, by decide, by decide⟩, kw_927, kw_928⟩
def mi_X6_from : MI := (yX6_from, cX6_from, 2, (some .int), 0, fun _ => 0)
theorem ok_X6_from : mOkV mi_X6_from 1 := ⟨⟨kw_730, kw_85, by decide, by decide⟩, kw_728, kw_729⟩
def mi_X6_before : MI := (yX6_before, cX6_before, 2, (some .int), 0, fun _ => 0)
theorem ok_X6_before : mOkV mi_X6_before 1 := ⟨⟨kw_934, kw_85, by decide, by decide⟩, kw_932, kw_933⟩
def mi_X7_init : MI := (yX7_init, cX7_init, 2, none, 0, fun _ => 0)
theorem ok_X7_init : mOkI mi_X7_init 1 := ⟨⟨kw_535, kw_84, by decide, by decide⟩, kw_534, rfl, rfl⟩
def mi_X7_begin : MI := (yX7_begin, cX7_begin, 3, none, 0, fun _ => 0)
theorem ok_X7_begin : mOkV mi_X7_begin 2 := ⟨⟨kw_637, kw_84, by decide, by decide⟩, kw_635, kw_636⟩
def mi_X7_takeMore : MI := (yX7_takeMore, cX7_takeMore, 4, none, 0, fun _ => 0)
theorem ok_X7_takeMore : mOkV mi_X7_takeMore 1 := ⟨⟨kw_686, kw_84, by decide, by decide⟩, kw_684, kw_685⟩
def mi_X7_takeNext : MI := (yX7_takeNext, cX7_takeNext, 5, none, 0, fun _ => 0)
theorem ok_X7_takeNext : mOkV mi_X7_takeNext 0 := ⟨⟨kw_690, kw_84, by decide, by decide⟩, kw_689, kw_17⟩
def mi_X7_comeTo : MI := (yX7_comeTo, cX7_comeTo, 4, none, 0, fun _ => 0)
theorem ok_X7_comeTo : mOkV mi_X7_comeTo 3 := ⟨⟨kw_653, kw_84, by decide, by decide⟩, kw_652, kw_14⟩
def mi_X7_lookForOpen : MI := (yX7_lookForOpen, cX7_lookForOpen, 3, none, 0, fun _ => 0)
theorem ok_X7_lookForOpen : mOkV mi_X7_lookForOpen 1 := ⟨⟨kw_657, kw_84, by decide, by decide⟩, kw_656, kw_15⟩
def mi_X7_isWhole : MI := (yX7_isWhole, cX7_isWhole, 1, (some .boolean), 0, fun _ => 0)
theorem ok_X7_isWhole : mOkV mi_X7_isWhole 0 := ⟨⟨kw_859, kw_84, by decide, by decide⟩, kw_857, kw_858⟩
def mi_X7_orderOf : MI := (yX7_orderOf, cX7_orderOf, 2, (some .int), 0, fun _ => 0)
theorem ok_X7_orderOf : mOkV mi_X7_orderOf 1 := ⟨⟨kw_892, kw_84, by decide, by decide⟩, kw_890, kw_891⟩
def mi_X7_about : MI := (yX7_about, cX7_about, 2, (some .int), 0, fun _ => 0)
theorem ok_X7_about : mOkV mi_X7_about 1 := ⟨⟨kw_879, kw_84, by decide, by decide⟩, kw_877, kw_878⟩
def mi_X7_wayLength : MI := (yX7_wayLength, cX7_wayLength, 1, (some .int), 0, fun _ => 0)
theorem ok_X7_wayLength : mOkV mi_X7_wayLength 0 := ⟨⟨kw_734, kw_84, by decide, by decide⟩, kw_732, kw_733⟩
def mi_X7_orderOnWay : MI := (yX7_orderOnWay, cX7_orderOnWay, 4, (some .int), 0, fun _ => 0)
theorem ok_X7_orderOnWay : mOkV mi_X7_orderOnWay 1 := ⟨⟨kw_904, kw_84, by decide, by decide⟩, kw_902, kw_903⟩
def mi_X7_measure : MI := (yX7_measure, cX7_measure, 3, none, 0, fun _ => 0)
theorem ok_X7_measure : mOkV mi_X7_measure 0 := ⟨⟨kw_921, kw_84, by decide, by decide⟩, kw_919, kw_920⟩
def mi_X7_queueThoseBefore : MI := (yX7_queueThoseBefore, cX7_queueThoseBefore, 7, (some .int), 0, fun _ => 0)
theorem ok_X7_queueThoseBefore : mOkV mi_X7_queueThoseBefore 2 := ⟨⟨kw_925, kw_84, by decide, by decide⟩, kw_924, kw_26⟩
def mi_X7_numberOfTraps : MI := (yX7_numberOfTraps, cX7_numberOfTraps, 3, (some .int), 0, fun _ => 0)
theorem ok_X7_numberOfTraps : mOkV mi_X7_numberOfTraps 0 := ⟨⟨kw_942, kw_84, by decide, by decide⟩, kw_940, kw_941⟩
def mi_X7_moveNearer : MI := (yX7_moveNearer, cX7_moveNearer, 5, (some .int), 0, fun _ => 0)
theorem ok_X7_moveNearer : mOkV mi_X7_moveNearer 0 := ⟨⟨kw_950, kw_84, by decide, by decide⟩, kw_948, kw_949⟩
def mi_X8_init : MI := (yX8_init, cX8_init, 1, none, 0, fun _ => 0)
theorem ok_X8_init : mOkI mi_X8_init 0 := ⟨⟨kw_336, kw_81, by decide, by decide⟩, kw_335, rfl, rfl⟩
def mi_X8_write : MI := (yX8_write, cX8_write, 4, none, 0, fun _ => 0)
theorem ok_X8_write : mOkV mi_X8_write 1 := ⟨⟨kw_995, kw_81, by decide, by decide⟩, kw_993, kw_994⟩
def mi_X8_writeRow : MI := (yX8_writeRow, cX8_writeRow, 5, none, 0, fun _ => 0)
theorem ok_X8_writeRow : mOkV mi_X8_writeRow 2 := ⟨⟨kw_999, kw_81, by decide, by decide⟩, kw_998, kw_28⟩
def mi_X8_writeCondition : MI := (yX8_writeCondition, cX8_writeCondition, 5, none, 0, fun _ => 0)
theorem ok_X8_writeCondition : mOkV mi_X8_writeCondition 2 := ⟨⟨kw_1007, kw_81, by decide, by decide⟩, kw_1006, kw_30⟩
def mi_X8_add : MI := (yX8_add, cX8_add, 2, none, 0, fun _ => 0)
theorem ok_X8_add : mOkV mi_X8_add 1 := ⟨⟨kw_1003, kw_81, by decide, by decide⟩, kw_1002, kw_29⟩
def mi_X8_isLike : MI := (yX8_isLike, cX8_isLike, 4, (some .boolean), 0, fun _ => 0)
theorem ok_X8_isLike : mOkV mi_X8_isLike 1 := ⟨⟨kw_1012, kw_81, by decide, by decide⟩, kw_1010, kw_1011⟩
def mi_X8_hash : MI := (yX8_hash, cX8_hash, 4, (some .long), 0, fun _ => 0)
theorem ok_X8_hash : mOkV mi_X8_hash 0 := ⟨⟨kw_1028, kw_81, by decide, by decide⟩, kw_1026, kw_1027⟩
def mi_X9_init : MI := (yX9_init, cX9_init, 2, none, 0, fun _ => 0)
theorem ok_X9_init : mOkI mi_X9_init 0 := ⟨⟨kw_92, kw_74, by decide, by decide⟩, kw_91, rfl, rfl⟩
def mi_X9_row : MI := (yX9_row, cX9_row, 4, (some .int), 0, fun _ => 0)
theorem ok_X9_row : mOkV mi_X9_row 3 := ⟨⟨kw_402, kw_74, by decide, by decide⟩, kw_400, kw_401⟩
def mi_X9_part : MI := (yX9_part, cX9_part, 8, (some .int), 0, fun _ => 0)
theorem ok_X9_part : mOkV mi_X9_part 5 := ⟨⟨kw_430, kw_74, by decide, by decide⟩, kw_428, kw_429⟩
def mi_X9_take : MI := (yX9_take, cX9_take, 4, (some .int), 0, fun _ => 0)
theorem ok_X9_take : mOkV mi_X9_take 2 := ⟨⟨kw_452, kw_74, by decide, by decide⟩, kw_450, kw_451⟩
def mi_X9_condition : MI := (yX9_condition, cX9_condition, 6, (some .int), 0, fun _ => 0)
theorem ok_X9_condition : mOkV mi_X9_condition 4 := ⟨⟨kw_464, kw_74, by decide, by decide⟩, kw_462, kw_463⟩
def mi_X9_truth : MI := (yX9_truth, cX9_truth, 8, (some .int), 0, fun _ => 0)
theorem ok_X9_truth : mOkV mi_X9_truth 4 := ⟨⟨kw_476, kw_74, by decide, by decide⟩, kw_474, kw_475⟩
def mi_X9_copyTruths : MI := (yX9_copyTruths, cX9_copyTruths, 8, (some .int), 0, fun _ => 0)
theorem ok_X9_copyTruths : mOkV mi_X9_copyTruths 6 := ⟨⟨kw_497, kw_74, by decide, by decide⟩, kw_495, kw_496⟩
def mi_X9_jam : MI := (yX9_jam, cX9_jam, 6, (some .int), 0, fun _ => 0)
theorem ok_X9_jam : mOkV mi_X9_jam 3 := ⟨⟨kw_501, kw_74, by decide, by decide⟩, kw_499, kw_500⟩
def mi_X9_clear : MI := (yX9_clear, cX9_clear, 4, (some .int), 0, fun _ => 0)
theorem ok_X9_clear : mOkV mi_X9_clear 1 := ⟨⟨kw_505, kw_74, by decide, by decide⟩, kw_503, kw_504⟩
def mi_X9_copy : MI := (yX9_copy, cX9_copy, 4, (some .int), 0, fun _ => 0)
theorem ok_X9_copy : mOkV mi_X9_copy 2 := ⟨⟨kw_510, kw_74, by decide, by decide⟩, kw_508, kw_509⟩
def mi_X9_make : MI := (yX9_make, cX9_make, 7, (some .int), 0, fun _ => 0)
theorem ok_X9_make : mOkV mi_X9_make 3 := ⟨⟨kw_526, kw_74, by decide, by decide⟩, kw_524, kw_525⟩
def mi_X9_told : MI := (yX9_told, cX9_told, 6, (some .int), 0, fun _ => 0)
theorem ok_X9_told : mOkV mi_X9_told 3 := ⟨⟨kw_738, kw_74, by decide, by decide⟩, kw_736, kw_737⟩
def mi_X9_tell : MI := (yX9_tell, cX9_tell, 5, (some .int), 0, fun _ => 0)
theorem ok_X9_tell : mOkV mi_X9_tell 2 := ⟨⟨kw_742, kw_74, by decide, by decide⟩, kw_740, kw_741⟩
def mi_X9_conditionTold : MI := (yX9_conditionTold, cX9_conditionTold, 5, (some .int), 0, fun _ => 0)
theorem ok_X9_conditionTold : mOkV mi_X9_conditionTold 3 := ⟨⟨kw_752, kw_74, by decide, by decide⟩, kw_750, kw_751⟩
def mi_X9_holds : MI := (yX9_holds, cX9_holds, 4, (some .int), 0, fun _ => 0)
theorem ok_X9_holds : mOkV mi_X9_holds 2 := ⟨⟨kw_756, kw_74, by decide, by decide⟩, kw_754, kw_755⟩
def mi_X9_may : MI := (yX9_may, cX9_may, 3, (some .int), 0, fun _ => 0)
theorem ok_X9_may : mOkV mi_X9_may 2 := ⟨⟨kw_761, kw_74, by decide, by decide⟩, kw_759, kw_760⟩
def mi_X9_barredBy : MI := (yX9_barredBy, cX9_barredBy, 4, (some .int), 0, fun _ => 0)
theorem ok_X9_barredBy : mOkV mi_X9_barredBy 2 := ⟨⟨kw_775, kw_74, by decide, by decide⟩, kw_773, kw_774⟩
def mi_X9_isOpen : MI := (yX9_isOpen, cX9_isOpen, 2, (some .int), 0, fun _ => 0)
theorem ok_X9_isOpen : mOkV mi_X9_isOpen 1 := ⟨⟨kw_779, kw_74, by decide, by decide⟩, kw_777, kw_778⟩
def mi_X9_product : MI := (yX9_product, cX9_product, 2, (some .int), 0, fun _ => 0)
theorem ok_X9_product : mOkV mi_X9_product 1 := ⟨⟨kw_784, kw_74, by decide, by decide⟩, kw_782, kw_783⟩
def mi_X9_state : MI := (yX9_state, cX9_state, 2, (some .int), 0, fun _ => 0)
theorem ok_X9_state : mOkV mi_X9_state 1 := ⟨⟨kw_788, kw_74, by decide, by decide⟩, kw_786, kw_787⟩
def mi_X9_ofNumber : MI := (yX9_ofNumber, cX9_ofNumber, 5, (some .int), 0, fun _ => 0)
theorem ok_X9_ofNumber : mOkV mi_X9_ofNumber 2 := ⟨⟨kw_793, kw_74, by decide, by decide⟩, kw_791, kw_792⟩
def mi_X9_place : MI := (yX9_place, cX9_place, 7, (some .int), 0, fun _ => 0)
theorem ok_X9_place : mOkV mi_X9_place 3 := ⟨⟨kw_798, kw_74, by decide, by decide⟩, kw_796, kw_797⟩
def mi_X9_move : MI := (yX9_move, cX9_move, 6, (some .int), 0, fun _ => 0)
theorem ok_X9_move : mOkV mi_X9_move 2 := ⟨⟨kw_802, kw_74, by decide, by decide⟩, kw_800, kw_801⟩
def mi_X9_type : MI := (yX9_type, cX9_type, 2, (some .int), 0, fun _ => 0)
theorem ok_X9_type : mOkV mi_X9_type 1 := ⟨⟨kw_818, kw_74, by decide, by decide⟩, kw_816, kw_817⟩
def mi_X9_untype : MI := (yX9_untype, cX9_untype, 2, (some .int), 0, fun _ => 0)
theorem ok_X9_untype : mOkV mi_X9_untype 0 := ⟨⟨kw_822, kw_74, by decide, by decide⟩, kw_820, kw_821⟩
def mi_X9_play : MI := (yX9_play, cX9_play, 3, (some .int), 0, fun _ => 0)
theorem ok_X9_play : mOkV mi_X9_play 1 := ⟨⟨kw_826, kw_74, by decide, by decide⟩, kw_824, kw_825⟩
def mi_X9_attempt : MI := (yX9_attempt, cX9_attempt, 5, (some .int), 0, fun _ => 0)
theorem ok_X9_attempt : mOkV mi_X9_attempt 1 := ⟨⟨kw_839, kw_74, by decide, by decide⟩, kw_837, kw_838⟩
def mi_X9_attempted : MI := (yX9_attempted, cX9_attempted, 2, (some .int), 0, fun _ => 0)
theorem ok_X9_attempted : mOkV mi_X9_attempted 1 := ⟨⟨kw_843, kw_74, by decide, by decide⟩, kw_841, kw_842⟩
def mi_X9_back : MI := (yX9_back, cX9_back, 4, (some .int), 0, fun _ => 0)
theorem ok_X9_back : mOkV mi_X9_back 1 := ⟨⟨kw_847, kw_74, by decide, by decide⟩, kw_845, kw_846⟩
def mi_X9_search : MI := (yX9_search, cX9_search, 4, (some .int), 0, fun _ => 0)
theorem ok_X9_search : mOkV mi_X9_search 2 := ⟨⟨kw_855, kw_74, by decide, by decide⟩, kw_853, kw_854⟩
def mi_X9_goOn : MI := (yX9_goOn, cX9_goOn, 3, (some .int), 0, fun _ => 0)
theorem ok_X9_goOn : mOkV mi_X9_goOn 1 := ⟨⟨kw_863, kw_74, by decide, by decide⟩, kw_861, kw_862⟩
def mi_X9_searched : MI := (yX9_searched, cX9_searched, 3, (some .int), 0, fun _ => 0)
theorem ok_X9_searched : mOkV mi_X9_searched 1 := ⟨⟨kw_875, kw_74, by decide, by decide⟩, kw_873, kw_874⟩
def mi_X9_ordered : MI := (yX9_ordered, cX9_ordered, 3, (some .int), 0, fun _ => 0)
theorem ok_X9_ordered : mOkV mi_X9_ordered 1 := ⟨⟨kw_884, kw_74, by decide, by decide⟩, kw_882, kw_883⟩
def mi_X9_layer : MI := (yX9_layer, cX9_layer, 4, (some .int), 0, fun _ => 0)
theorem ok_X9_layer : mOkV mi_X9_layer 1 := ⟨⟨kw_888, kw_74, by decide, by decide⟩, kw_886, kw_887⟩
def mi_X9_shortest : MI := (yX9_shortest, cX9_shortest, 3, (some .int), 0, fun _ => 0)
theorem ok_X9_shortest : mOkV mi_X9_shortest 0 := ⟨⟨kw_896, kw_74, by decide, by decide⟩, kw_894, kw_895⟩
def mi_X9_way : MI := (yX9_way, cX9_way, 3, (some .int), 0, fun _ => 0)
theorem ok_X9_way : mOkV mi_X9_way 1 := ⟨⟨kw_900, kw_74, by decide, by decide⟩, kw_898, kw_899⟩
def mi_X9_along : MI := (yX9_along, cX9_along, 3, (some .int), 0, fun _ => 0)
theorem ok_X9_along : mOkV mi_X9_along 1 := ⟨⟨kw_909, kw_74, by decide, by decide⟩, kw_907, kw_908⟩
def mi_X9_trap : MI := (yX9_trap, cX9_trap, 4, (some .int), 0, fun _ => 0)
theorem ok_X9_trap : mOkV mi_X9_trap 1 := ⟨⟨kw_913, kw_74, by decide, by decide⟩, kw_911, kw_912⟩
def mi_X9_traps : MI := (yX9_traps, cX9_traps, 2, (some .int), 0, fun _ => 0)
theorem ok_X9_traps : mOkV mi_X9_traps 0 := ⟨⟨kw_938, kw_74, by decide, by decide⟩, kw_936, kw_937⟩
def mi_X9_hint : MI := (yX9_hint, cX9_hint, 3, (some .int), 0, fun _ => 0)
theorem ok_X9_hint : mOkV mi_X9_hint 1 := ⟨⟨kw_946, kw_74, by decide, by decide⟩, kw_944, kw_945⟩
def mi_X9_mark : MI := (yX9_mark, cX9_mark, 4, (some .int), 0, fun _ => 0)
theorem ok_X9_mark : mOkV mi_X9_mark 3 := ⟨⟨kw_955, kw_74, by decide, by decide⟩, kw_953, kw_954⟩
def mi_X9_markAll : MI := (yX9_markAll, cX9_markAll, 3, (some .int), 0, fun _ => 0)
theorem ok_X9_markAll : mOkV mi_X9_markAll 0 := ⟨⟨kw_963, kw_74, by decide, by decide⟩, kw_961, kw_962⟩
def mi_X9_marked : MI := (yX9_marked, cX9_marked, 2, (some .int), 0, fun _ => 0)
theorem ok_X9_marked : mOkV mi_X9_marked 1 := ⟨⟨kw_967, kw_74, by decide, by decide⟩, kw_965, kw_966⟩
def mi_X9_shows : MI := (yX9_shows, cX9_shows, 2, (some .int), 0, fun _ => 0)
theorem ok_X9_shows : mOkV mi_X9_shows 1 := ⟨⟨kw_971, kw_74, by decide, by decide⟩, kw_969, kw_970⟩
def mi_X9_shown : MI := (yX9_shown, cX9_shown, 2, (some .int), 0, fun _ => 0)
theorem ok_X9_shown : mOkV mi_X9_shown 1 := ⟨⟨kw_987, kw_74, by decide, by decide⟩, kw_985, kw_986⟩
def mi_X9_alike : MI := (yX9_alike, cX9_alike, 3, (some .int), 0, fun _ => 0)
theorem ok_X9_alike : mOkV mi_X9_alike 2 := ⟨⟨kw_991, kw_74, by decide, by decide⟩, kw_989, kw_990⟩
def mi_X9_export : MI := (yX9_export, cX9_export, 2, (some .int), 0, fun _ => 0)
theorem ok_X9_export : mOkV mi_X9_export 1 := ⟨⟨kw_1016, kw_74, by decide, by decide⟩, kw_1014, kw_1015⟩
def mi_X9_out : MI := (yX9_out, cX9_out, 2, (some .int), 0, fun _ => 0)
theorem ok_X9_out : mOkV mi_X9_out 1 := ⟨⟨kw_1020, kw_74, by decide, by decide⟩, kw_1018, kw_1019⟩
def mi_X9_digest : MI := (yX9_digest, cX9_digest, 2, (some .long), 0, fun _ => 0)
theorem ok_X9_digest : mOkV mi_X9_digest 1 := ⟨⟨kw_1024, kw_74, by decide, by decide⟩, kw_1022, kw_1023⟩
def mi_X9_trace : MI := (yX9_trace, cX9_trace, 2, (some .int), 0, fun _ => 0)
theorem ok_X9_trace : mOkV mi_X9_trace 1 := ⟨⟨kw_1034, kw_74, by decide, by decide⟩, kw_1032, kw_1033⟩
def mi_X9_count : MI := (yX9_count, cX9_count, 2, (some .int), 0, fun _ => 0)
theorem ok_X9_count : mOkV mi_X9_count 1 := ⟨⟨kw_1042, kw_74, by decide, by decide⟩, kw_1040, kw_1041⟩
def mi_X9_status : MI := (yX9_status, cX9_status, 1, (some .int), 0, fun _ => 0)
theorem ok_X9_status : mOkV mi_X9_status 0 := ⟨⟨kw_1053, kw_74, by decide, by decide⟩, kw_1051, kw_1052⟩
def mi_X9_refused : MI := (yX9_refused, cX9_refused, 2, (some .int), 0, fun _ => 0)
theorem ok_X9_refused : mOkV mi_X9_refused 1 := ⟨⟨kw_409, kw_74, by decide, by decide⟩, kw_408, kw_5⟩
def mi_X9_answered : MI := (yX9_answered, cX9_answered, 2, (some .int), 0, fun _ => 0)
theorem ok_X9_answered : mOkV mi_X9_answered 1 := ⟨⟨kw_426, kw_74, by decide, by decide⟩, kw_425, kw_7⟩
def mi_X9_built : MI := (yX9_built, cX9_built, 3, (some .int), 0, fun _ => 0)
theorem ok_X9_built : mOkV mi_X9_built 2 := ⟨⟨kw_418, kw_74, by decide, by decide⟩, kw_417, kw_6⟩
def mi_X9_isChest : MI := (yX9_isChest, cX9_isChest, 1, (some .boolean), 0, fun _ => 0)
theorem ok_X9_isChest : mOkS mi_X9_isChest 1 := ⟨⟨kw_405, kw_74, by decide, by decide⟩, kw_404⟩
def mi_X9_isSeat : MI := (yX9_isSeat, cX9_isSeat, 1, (some .boolean), 0, fun _ => 0)
theorem ok_X9_isSeat : mOkS mi_X9_isSeat 1 := ⟨⟨kw_433, kw_74, by decide, by decide⟩, kw_432⟩
def mi_X9_isMove : MI := (yX9_isMove, cX9_isMove, 1, (some .boolean), 0, fun _ => 0)
theorem ok_X9_isMove : mOkS mi_X9_isMove 1 := ⟨⟨kw_764, kw_74, by decide, by decide⟩, kw_763⟩
def mi_X9_isPart : MI := (yX9_isPart, cX9_isPart, 3, (some .boolean), 0, fun _ => 0)
theorem ok_X9_isPart : mOkS mi_X9_isPart 3 := ⟨⟨kw_436, kw_74, by decide, by decide⟩, kw_435⟩
def mi_X9_isCondition : MI := (yX9_isCondition, cX9_isCondition, 3, (some .boolean), 0, fun _ => 0)
theorem ok_X9_isCondition : mOkV mi_X9_isCondition 2 := ⟨⟨kw_480, kw_74, by decide, by decide⟩, kw_479, kw_9⟩
def mi_X9_refusalOfPart : MI := (yX9_refusalOfPart, cX9_refusalOfPart, 4, (some .int), 0, fun _ => 0)
theorem ok_X9_refusalOfPart : mOkV mi_X9_refusalOfPart 2 := ⟨⟨kw_456, kw_74, by decide, by decide⟩, kw_455, kw_8⟩
def mi_X9_countOfChest : MI := (yX9_countOfChest, cX9_countOfChest, 2, (some .int), 0, fun _ => 0)
theorem ok_X9_countOfChest : mOkS mi_X9_countOfChest 2 := ⟨⟨kw_1045, kw_74, by decide, by decide⟩, kw_1044⟩
def mi_X9_performTyped : MI := (yX9_performTyped, cX9_performTyped, 3, (some .int), 0, fun _ => 0)
theorem ok_X9_performTyped : mOkV mi_X9_performTyped 1 := ⟨⟨kw_830, kw_74, by decide, by decide⟩, kw_829, kw_22⟩
def mi_X9_searchToUse : MI := (yX9_searchToUse, cX9_searchToUse, 1, (some (.object "PuzzleChests$Search")), 0, fun _ => 0)
theorem ok_X9_searchToUse : mOkV mi_X9_searchToUse 0 := ⟨⟨kw_530, kw_74, by decide, by decide⟩, kw_529, kw_10⟩
def mi_X9_searchThere : MI := (yX9_searchThere, cX9_searchThere, 1, (some (.object "PuzzleChests$Search")), 0, fun _ => 0)
theorem ok_X9_searchThere : mOkV mi_X9_searchThere 0 := ⟨⟨kw_871, kw_74, by decide, by decide⟩, kw_870, kw_24⟩
def mi_X9_searchNotOver : MI := (yX9_searchNotOver, cX9_searchNotOver, 2, (some (.object "PuzzleChests$Search")), 0, fun _ => 0)
theorem ok_X9_searchNotOver : mOkV mi_X9_searchNotOver 0 := ⟨⟨kw_867, kw_74, by decide, by decide⟩, kw_866, kw_23⟩
def mi_X9_searchFinished : MI := (yX9_searchFinished, cX9_searchFinished, 2, (some (.object "PuzzleChests$Search")), 0, fun _ => 0)
theorem ok_X9_searchFinished : mOkV mi_X9_searchFinished 0 := ⟨⟨kw_917, kw_74, by decide, by decide⟩, kw_916, kw_25⟩
def mi_X10_init : MI := (yX10_init, cX10_init, 2, none, 0, fun _ => 0)
theorem ok_X10_init : mOkI mi_X10_init 0 := ⟨⟨kw_1058, kw_82, by decide, by decide⟩, kw_1057, rfl, rfl⟩
def mi_X10_empty : MI := (yX10_empty, cX10_empty, 3, none, 0, fun _ => 0)
theorem ok_X10_empty : mOkV mi_X10_empty 1 := ⟨⟨kw_1064, kw_82, by decide, by decide⟩, kw_1063, kw_31⟩
def mi_X10_in : MI := (yX10_in, cX10_in, 6, (some .boolean), 0, fun _ => 0)
theorem ok_X10_in : mOkS mi_X10_in 3 := ⟨⟨kw_1247, kw_82, by decide, by decide⟩, kw_1246⟩
def mi_X10_says : MI := (yX10_says, cX10_says, 2, (some .int), 0, fun _ => 0)
theorem ok_X10_says : mOkV mi_X10_says 1 := ⟨⟨kw_1268, kw_82, by decide, by decide⟩, kw_1267, kw_36⟩
def mi_X10_refuses : MI := (yX10_refuses, cX10_refuses, 2, (some .int), 0, fun _ => 0)
theorem ok_X10_refuses : mOkV mi_X10_refuses 1 := ⟨⟨kw_1252, kw_82, by decide, by decide⟩, kw_1251, kw_32⟩
def mi_X10_notes : MI := (yX10_notes, cX10_notes, 2, none, 0, fun _ => 0)
theorem ok_X10_notes : mOkV mi_X10_notes 1 := ⟨⟨kw_1260, kw_82, by decide, by decide⟩, kw_1259, kw_34⟩
def mi_X10_meets : MI := (yX10_meets, cX10_meets, 2, (some .int), 0, fun _ => 0)
theorem ok_X10_meets : mOkV mi_X10_meets 1 := ⟨⟨kw_1256, kw_82, by decide, by decide⟩, kw_1255, kw_33⟩
def mi_X10_writes : MI := (yX10_writes, cX10_writes, 2, none, 0, fun _ => 0)
theorem ok_X10_writes : mOkV mi_X10_writes 1 := ⟨⟨kw_1389, kw_82, by decide, by decide⟩, kw_1388, kw_54⟩
def mi_X10_isChest : MI := (yX10_isChest, cX10_isChest, 1, (some .boolean), 0, fun _ => 0)
theorem ok_X10_isChest : mOkS mi_X10_isChest 1 := ⟨⟨kw_1243, kw_82, by decide, by decide⟩, kw_1242⟩
def mi_X10_isSeat : MI := (yX10_isSeat, cX10_isSeat, 1, (some .boolean), 0, fun _ => 0)
theorem ok_X10_isSeat : mOkS mi_X10_isSeat 1 := ⟨⟨kw_1275, kw_82, by decide, by decide⟩, kw_1274⟩
def mi_X10_comes : MI := (yX10_comes, cX10_comes, 4, (some .int), 0, fun _ => 0)
theorem ok_X10_comes : mOkV mi_X10_comes 2 := ⟨⟨kw_1298, kw_82, by decide, by decide⟩, kw_1297, kw_40⟩
def mi_X10_parts : MI := (yX10_parts, cX10_parts, 4, (some .int), 0, fun _ => 0)
theorem ok_X10_parts : mOkV mi_X10_parts 1 := ⟨⟨kw_1290, kw_82, by decide, by decide⟩, kw_1289, kw_39⟩
def mi_X10_multiplied : MI := (yX10_multiplied, cX10_multiplied, 5, (some .int), 0, fun _ => 0)
theorem ok_X10_multiplied : mOkV mi_X10_multiplied 2 := ⟨⟨kw_1282, kw_82, by decide, by decide⟩, kw_1281, kw_37⟩
def mi_X10_numberOf : MI := (yX10_numberOf, cX10_numberOf, 6, (some .int), 0, fun _ => 0)
theorem ok_X10_numberOf : mOkV mi_X10_numberOf 1 := ⟨⟨kw_1365, kw_82, by decide, by decide⟩, kw_1364, kw_48⟩
def mi_X10_setNumber : MI := (yX10_setNumber, cX10_setNumber, 6, none, 0, fun _ => 0)
theorem ok_X10_setNumber : mOkV mi_X10_setNumber 2 := ⟨⟨kw_1397, kw_82, by decide, by decide⟩, kw_1396, kw_56⟩
def mi_X10_changed : MI := (yX10_changed, cX10_changed, 2, none, 0, fun _ => 0)
theorem ok_X10_changed : mOkV mi_X10_changed 1 := ⟨⟨kw_1264, kw_82, by decide, by decide⟩, kw_1263, kw_35⟩
def mi_X10_row : MI := (yX10_row, cX10_row, 5, (some .int), 0, fun _ => 0)
theorem ok_X10_row : mOkV mi_X10_row 3 := ⟨⟨kw_1240, kw_82, by decide, by decide⟩, kw_1238, kw_1239⟩
def mi_X10_part : MI := (yX10_part, cX10_part, 7, (some .int), 0, fun _ => 0)
theorem ok_X10_part : mOkV mi_X10_part 5 := ⟨⟨kw_1272, kw_82, by decide, by decide⟩, kw_1270, kw_1271⟩
def mi_X10_stand : MI := (yX10_stand, cX10_stand, 7, none, 0, fun _ => 0)
theorem ok_X10_stand : mOkV mi_X10_stand 5 := ⟨⟨kw_1286, kw_82, by decide, by decide⟩, kw_1285, kw_38⟩
def mi_X10_take : MI := (yX10_take, cX10_take, 4, (some .int), 0, fun _ => 0)
theorem ok_X10_take : mOkV mi_X10_take 2 := ⟨⟨kw_1294, kw_82, by decide, by decide⟩, kw_1292, kw_1293⟩
def mi_X10_conditionMore : MI := (yX10_conditionMore, cX10_conditionMore, 7, (some .int), 0, fun _ => 0)
theorem ok_X10_conditionMore : mOkV mi_X10_conditionMore 4 := ⟨⟨kw_1307, kw_82, by decide, by decide⟩, kw_1306, kw_41⟩
def mi_X10_condition : MI := (yX10_condition, cX10_condition, 6, (some .int), 0, fun _ => 0)
theorem ok_X10_condition : mOkV mi_X10_condition 4 := ⟨⟨kw_1302, kw_82, by decide, by decide⟩, kw_1300, kw_1301⟩
def mi_X10_isCondition : MI := (yX10_isCondition, cX10_isCondition, 3, (some .boolean), 0, fun _ => 0)
theorem ok_X10_isCondition : mOkV mi_X10_isCondition 2 := ⟨⟨kw_1315, kw_82, by decide, by decide⟩, kw_1314, kw_42⟩
def mi_X10_truth : MI := (yX10_truth, cX10_truth, 7, (some .int), 0, fun _ => 0)
theorem ok_X10_truth : mOkV mi_X10_truth 4 := ⟨⟨kw_1311, kw_82, by decide, by decide⟩, kw_1309, kw_1310⟩
def mi_X10_copyTruths : MI := (yX10_copyTruths, cX10_copyTruths, 10, (some .int), 0, fun _ => 0)
theorem ok_X10_copyTruths : mOkV mi_X10_copyTruths 6 := ⟨⟨kw_1319, kw_82, by decide, by decide⟩, kw_1317, kw_1318⟩
def mi_X10_jam : MI := (yX10_jam, cX10_jam, 5, (some .int), 0, fun _ => 0)
theorem ok_X10_jam : mOkV mi_X10_jam 3 := ⟨⟨kw_1323, kw_82, by decide, by decide⟩, kw_1321, kw_1322⟩
def mi_X10_clear : MI := (yX10_clear, cX10_clear, 3, (some .int), 0, fun _ => 0)
theorem ok_X10_clear : mOkV mi_X10_clear 1 := ⟨⟨kw_1328, kw_82, by decide, by decide⟩, kw_1326, kw_1327⟩
def mi_X10_copy : MI := (yX10_copy, cX10_copy, 3, (some .int), 0, fun _ => 0)
theorem ok_X10_copy : mOkV mi_X10_copy 2 := ⟨⟨kw_1332, kw_82, by decide, by decide⟩, kw_1330, kw_1331⟩
def mi_X10_copyTo : MI := (yX10_copyTo, cX10_copyTo, 5, none, 0, fun _ => 0)
theorem ok_X10_copyTo : mOkV mi_X10_copyTo 3 := ⟨⟨kw_1336, kw_82, by decide, by decide⟩, kw_1335, kw_43⟩
def mi_X10_draw : MI := (yX10_draw, cX10_draw, 2, (some .int), 0, fun _ => 0)
theorem ok_X10_draw : mOkV mi_X10_draw 1 := ⟨⟨kw_1353, kw_82, by decide, by decide⟩, kw_1352, kw_46⟩
def mi_X10_seatBy : MI := (yX10_seatBy, cX10_seatBy, 1, (some .int), 0, fun _ => 0)
theorem ok_X10_seatBy : mOkS mi_X10_seatBy 1 := ⟨⟨kw_1357, kw_82, by decide, by decide⟩, kw_1356⟩
def mi_X10_byNumber : MI := (yX10_byNumber, cX10_byNumber, 9, none, 0, fun _ => 0)
theorem ok_X10_byNumber : mOkV mi_X10_byNumber 2 := ⟨⟨kw_1349, kw_82, by decide, by decide⟩, kw_1348, kw_45⟩
def mi_X10_putAside : MI := (yX10_putAside, cX10_putAside, 3, none, 0, fun _ => 0)
theorem ok_X10_putAside : mOkV mi_X10_putAside 1 := ⟨⟨kw_1345, kw_82, by decide, by decide⟩, kw_1344, kw_44⟩
def mi_X10_takeBack : MI := (yX10_takeBack, cX10_takeBack, 3, none, 0, fun _ => 0)
theorem ok_X10_takeBack : mOkV mi_X10_takeBack 1 := ⟨⟨kw_1417, kw_82, by decide, by decide⟩, kw_1416, kw_61⟩
def mi_X10_make : MI := (yX10_make, cX10_make, 6, (some .int), 0, fun _ => 0)
theorem ok_X10_make : mOkV mi_X10_make 3 := ⟨⟨kw_1340, kw_82, by decide, by decide⟩, kw_1338, kw_1339⟩
def mi_X10_tells : MI := (yX10_tells, cX10_tells, 4, (some .int), 0, fun _ => 0)
theorem ok_X10_tells : mOkV mi_X10_tells 1 := ⟨⟨kw_1385, kw_82, by decide, by decide⟩, kw_1384, kw_53⟩
def mi_X10_holding : MI := (yX10_holding, cX10_holding, 6, (some .boolean), 0, fun _ => 0)
theorem ok_X10_holding : mOkV mi_X10_holding 2 := ⟨⟨kw_1381, kw_82, by decide, by decide⟩, kw_1380, kw_52⟩
def mi_X10_failing : MI := (yX10_failing, cX10_failing, 5, (some .int), 0, fun _ => 0)
theorem ok_X10_failing : mOkV mi_X10_failing 2 := ⟨⟨kw_1377, kw_82, by decide, by decide⟩, kw_1376, kw_51⟩
def mi_X10_opens : MI := (yX10_opens, cX10_opens, 4, (some .boolean), 0, fun _ => 0)
theorem ok_X10_opens : mOkV mi_X10_opens 1 := ⟨⟨kw_1373, kw_82, by decide, by decide⟩, kw_1372, kw_50⟩
def mi_X10_told : MI := (yX10_told, cX10_told, 6, (some .int), 0, fun _ => 0)
theorem ok_X10_told : mOkV mi_X10_told 3 := ⟨⟨kw_1421, kw_82, by decide, by decide⟩, kw_1419, kw_1420⟩
def mi_X10_tell : MI := (yX10_tell, cX10_tell, 4, (some .int), 0, fun _ => 0)
theorem ok_X10_tell : mOkV mi_X10_tell 2 := ⟨⟨kw_1425, kw_82, by decide, by decide⟩, kw_1423, kw_1424⟩
def mi_X10_conditionTold : MI := (yX10_conditionTold, cX10_conditionTold, 5, (some .int), 0, fun _ => 0)
theorem ok_X10_conditionTold : mOkV mi_X10_conditionTold 3 := ⟨⟨kw_1429, kw_82, by decide, by decide⟩, kw_1427, kw_1428⟩
def mi_X10_holds : MI := (yX10_holds, cX10_holds, 4, (some .int), 0, fun _ => 0)
theorem ok_X10_holds : mOkV mi_X10_holds 2 := ⟨⟨kw_1434, kw_82, by decide, by decide⟩, kw_1432, kw_1433⟩
def mi_X10_bars : MI := (yX10_bars, cX10_bars, 7, (some .int), 0, fun _ => 0)
theorem ok_X10_bars : mOkV mi_X10_bars 2 := ⟨⟨kw_1405, kw_82, by decide, by decide⟩, kw_1404, kw_58⟩
def mi_X10_isFree : MI := (yX10_isFree, cX10_isFree, 4, (some .boolean), 0, fun _ => 0)
theorem ok_X10_isFree : mOkV mi_X10_isFree 2 := ⟨⟨kw_1401, kw_82, by decide, by decide⟩, kw_1400, kw_57⟩
def mi_X10_may : MI := (yX10_may, cX10_may, 3, (some .int), 0, fun _ => 0)
theorem ok_X10_may : mOkV mi_X10_may 2 := ⟨⟨kw_1438, kw_82, by decide, by decide⟩, kw_1436, kw_1437⟩
def mi_X10_barredBy : MI := (yX10_barredBy, cX10_barredBy, 4, (some .int), 0, fun _ => 0)
theorem ok_X10_barredBy : mOkV mi_X10_barredBy 2 := ⟨⟨kw_1443, kw_82, by decide, by decide⟩, kw_1441, kw_1442⟩
def mi_X10_isOpen : MI := (yX10_isOpen, cX10_isOpen, 2, (some .int), 0, fun _ => 0)
theorem ok_X10_isOpen : mOkV mi_X10_isOpen 1 := ⟨⟨kw_1447, kw_82, by decide, by decide⟩, kw_1445, kw_1446⟩
def mi_X10_product : MI := (yX10_product, cX10_product, 2, (some .int), 0, fun _ => 0)
theorem ok_X10_product : mOkV mi_X10_product 1 := ⟨⟨kw_1451, kw_82, by decide, by decide⟩, kw_1449, kw_1450⟩
def mi_X10_state : MI := (yX10_state, cX10_state, 2, (some .int), 0, fun _ => 0)
theorem ok_X10_state : mOkV mi_X10_state 1 := ⟨⟨kw_1455, kw_82, by decide, by decide⟩, kw_1453, kw_1454⟩
def mi_X10_ofNumber : MI := (yX10_ofNumber, cX10_ofNumber, 4, (some .int), 0, fun _ => 0)
theorem ok_X10_ofNumber : mOkV mi_X10_ofNumber 2 := ⟨⟨kw_1459, kw_82, by decide, by decide⟩, kw_1457, kw_1458⟩
def mi_X10_place : MI := (yX10_place, cX10_place, 7, (some .int), 0, fun _ => 0)
theorem ok_X10_place : mOkV mi_X10_place 3 := ⟨⟨kw_1463, kw_82, by decide, by decide⟩, kw_1461, kw_1462⟩
def mi_X10_tilts : MI := (yX10_tilts, cX10_tilts, 6, none, 0, fun _ => 0)
theorem ok_X10_tilts : mOkV mi_X10_tilts 2 := ⟨⟨kw_1413, kw_82, by decide, by decide⟩, kw_1412, kw_60⟩
def mi_X10_does : MI := (yX10_does, cX10_does, 4, none, 0, fun _ => 0)
theorem ok_X10_does : mOkV mi_X10_does 2 := ⟨⟨kw_1409, kw_82, by decide, by decide⟩, kw_1408, kw_59⟩
def mi_X10_keeps : MI := (yX10_keeps, cX10_keeps, 4, none, 0, fun _ => 0)
theorem ok_X10_keeps : mOkV mi_X10_keeps 2 := ⟨⟨kw_1475, kw_82, by decide, by decide⟩, kw_1474, kw_63⟩
def mi_X10_stuck : MI := (yX10_stuck, cX10_stuck, 3, (some .int), 0, fun _ => 0)
theorem ok_X10_stuck : mOkV mi_X10_stuck 2 := ⟨⟨kw_1471, kw_82, by decide, by decide⟩, kw_1470, kw_62⟩
def mi_X10_move : MI := (yX10_move, cX10_move, 4, (some .int), 0, fun _ => 0)
theorem ok_X10_move : mOkV mi_X10_move 2 := ⟨⟨kw_1467, kw_82, by decide, by decide⟩, kw_1465, kw_1466⟩
def mi_X10_type : MI := (yX10_type, cX10_type, 2, (some .int), 0, fun _ => 0)
theorem ok_X10_type : mOkV mi_X10_type 1 := ⟨⟨kw_1479, kw_82, by decide, by decide⟩, kw_1477, kw_1478⟩
def mi_X10_untype : MI := (yX10_untype, cX10_untype, 2, (some .int), 0, fun _ => 0)
theorem ok_X10_untype : mOkV mi_X10_untype 0 := ⟨⟨kw_1483, kw_82, by decide, by decide⟩, kw_1481, kw_1482⟩
def mi_X10_runs : MI := (yX10_runs, cX10_runs, 3, (some .int), 0, fun _ => 0)
theorem ok_X10_runs : mOkV mi_X10_runs 1 := ⟨⟨kw_1491, kw_82, by decide, by decide⟩, kw_1490, kw_64⟩
def mi_X10_keepAll : MI := (yX10_keepAll, cX10_keepAll, 4, none, 0, fun _ => 0)
theorem ok_X10_keepAll : mOkV mi_X10_keepAll 2 := ⟨⟨kw_1495, kw_82, by decide, by decide⟩, kw_1494, kw_65⟩
def mi_X10_play : MI := (yX10_play, cX10_play, 3, (some .int), 0, fun _ => 0)
theorem ok_X10_play : mOkV mi_X10_play 1 := ⟨⟨kw_1487, kw_82, by decide, by decide⟩, kw_1485, kw_1486⟩
def mi_X10_attempt : MI := (yX10_attempt, cX10_attempt, 4, (some .int), 0, fun _ => 0)
theorem ok_X10_attempt : mOkV mi_X10_attempt 1 := ⟨⟨kw_1499, kw_82, by decide, by decide⟩, kw_1497, kw_1498⟩
def mi_X10_attempted : MI := (yX10_attempted, cX10_attempted, 2, (some .int), 0, fun _ => 0)
theorem ok_X10_attempted : mOkV mi_X10_attempted 1 := ⟨⟨kw_1503, kw_82, by decide, by decide⟩, kw_1501, kw_1502⟩
def mi_X10_back : MI := (yX10_back, cX10_back, 3, (some .int), 0, fun _ => 0)
theorem ok_X10_back : mOkV mi_X10_back 1 := ⟨⟨kw_1507, kw_82, by decide, by decide⟩, kw_1505, kw_1506⟩
def mi_X10_come : MI := (yX10_come, cX10_come, 5, (some .int), 0, fun _ => 0)
theorem ok_X10_come : mOkV mi_X10_come 4 := ⟨⟨kw_1369, kw_82, by decide, by decide⟩, kw_1368, kw_49⟩
def mi_X10_begin : MI := (yX10_begin, cX10_begin, 3, none, 0, fun _ => 0)
theorem ok_X10_begin : mOkV mi_X10_begin 1 := ⟨⟨kw_1361, kw_82, by decide, by decide⟩, kw_1360, kw_47⟩
def mi_X10_goesOn : MI := (yX10_goesOn, cX10_goesOn, 8, none, 0, fun _ => 0)
theorem ok_X10_goesOn : mOkV mi_X10_goesOn 1 := ⟨⟨kw_1393, kw_82, by decide, by decide⟩, kw_1392, kw_55⟩
def mi_X10_isWhole : MI := (yX10_isWhole, cX10_isWhole, 1, (some .boolean), 0, fun _ => 0)
theorem ok_X10_isWhole : mOkV mi_X10_isWhole 0 := ⟨⟨kw_1516, kw_82, by decide, by decide⟩, kw_1515, kw_66⟩
def mi_X10_search : MI := (yX10_search, cX10_search, 3, (some .int), 0, fun _ => 0)
theorem ok_X10_search : mOkV mi_X10_search 2 := ⟨⟨kw_1511, kw_82, by decide, by decide⟩, kw_1509, kw_1510⟩
def mi_X10_goOn : MI := (yX10_goOn, cX10_goOn, 2, (some .int), 0, fun _ => 0)
theorem ok_X10_goOn : mOkV mi_X10_goOn 1 := ⟨⟨kw_1520, kw_82, by decide, by decide⟩, kw_1518, kw_1519⟩
def mi_X10_searched : MI := (yX10_searched, cX10_searched, 2, (some .int), 0, fun _ => 0)
theorem ok_X10_searched : mOkV mi_X10_searched 1 := ⟨⟨kw_1524, kw_82, by decide, by decide⟩, kw_1522, kw_1523⟩
def mi_X10_ordered : MI := (yX10_ordered, cX10_ordered, 2, (some .int), 0, fun _ => 0)
theorem ok_X10_ordered : mOkV mi_X10_ordered 1 := ⟨⟨kw_1528, kw_82, by decide, by decide⟩, kw_1526, kw_1527⟩
def mi_X10_layer : MI := (yX10_layer, cX10_layer, 2, (some .int), 0, fun _ => 0)
theorem ok_X10_layer : mOkV mi_X10_layer 1 := ⟨⟨kw_1532, kw_82, by decide, by decide⟩, kw_1530, kw_1531⟩
def mi_X10_shortest : MI := (yX10_shortest, cX10_shortest, 1, (some .int), 0, fun _ => 0)
theorem ok_X10_shortest : mOkV mi_X10_shortest 0 := ⟨⟨kw_1537, kw_82, by decide, by decide⟩, kw_1535, kw_1536⟩
def mi_X10_onWay : MI := (yX10_onWay, cX10_onWay, 5, (some .int), 0, fun _ => 0)
theorem ok_X10_onWay : mOkV mi_X10_onWay 1 := ⟨⟨kw_1546, kw_82, by decide, by decide⟩, kw_1545, kw_67⟩
def mi_X10_way : MI := (yX10_way, cX10_way, 3, (some .int), 0, fun _ => 0)
theorem ok_X10_way : mOkV mi_X10_way 1 := ⟨⟨kw_1541, kw_82, by decide, by decide⟩, kw_1539, kw_1540⟩
def mi_X10_along : MI := (yX10_along, cX10_along, 3, (some .int), 0, fun _ => 0)
theorem ok_X10_along : mOkV mi_X10_along 1 := ⟨⟨kw_1550, kw_82, by decide, by decide⟩, kw_1548, kw_1549⟩
def mi_X10_measure : MI := (yX10_measure, cX10_measure, 5, none, 0, fun _ => 0)
theorem ok_X10_measure : mOkV mi_X10_measure 0 := ⟨⟨kw_1562, kw_82, by decide, by decide⟩, kw_1561, kw_69⟩
def mi_X10_isReady : MI := (yX10_isReady, cX10_isReady, 1, (some .boolean), 0, fun _ => 0)
theorem ok_X10_isReady : mOkV mi_X10_isReady 0 := ⟨⟨kw_1558, kw_82, by decide, by decide⟩, kw_1557, kw_68⟩
def mi_X10_trap : MI := (yX10_trap, cX10_trap, 2, (some .int), 0, fun _ => 0)
theorem ok_X10_trap : mOkV mi_X10_trap 1 := ⟨⟨kw_1554, kw_82, by decide, by decide⟩, kw_1552, kw_1553⟩
def mi_X10_traps : MI := (yX10_traps, cX10_traps, 3, (some .int), 0, fun _ => 0)
theorem ok_X10_traps : mOkV mi_X10_traps 0 := ⟨⟨kw_1566, kw_82, by decide, by decide⟩, kw_1564, kw_1565⟩
def mi_X10_hint : MI := (yX10_hint, cX10_hint, 5, (some .int), 0, fun _ => 0)
theorem ok_X10_hint : mOkV mi_X10_hint 1 := ⟨⟨kw_1570, kw_82, by decide, by decide⟩, kw_1568, kw_1569⟩
def mi_X10_mark : MI := (yX10_mark, cX10_mark, 6, (some .int), 0, fun _ => 0)
theorem ok_X10_mark : mOkV mi_X10_mark 3 := ⟨⟨kw_1574, kw_82, by decide, by decide⟩, kw_1572, kw_1573⟩
def mi_X10_markAll : MI := (yX10_markAll, cX10_markAll, 2, (some .int), 0, fun _ => 0)
theorem ok_X10_markAll : mOkV mi_X10_markAll 0 := ⟨⟨kw_1579, kw_82, by decide, by decide⟩, kw_1577, kw_1578⟩
def mi_X10_marked : MI := (yX10_marked, cX10_marked, 2, (some .int), 0, fun _ => 0)
theorem ok_X10_marked : mOkV mi_X10_marked 1 := ⟨⟨kw_1583, kw_82, by decide, by decide⟩, kw_1581, kw_1582⟩
def mi_X10_lookedAt : MI := (yX10_lookedAt, cX10_lookedAt, 4, (some .int), 0, fun _ => 0)
theorem ok_X10_lookedAt : mOkV mi_X10_lookedAt 3 := ⟨⟨kw_1595, kw_82, by decide, by decide⟩, kw_1594, kw_71⟩
def mi_X10_goesOver : MI := (yX10_goesOver, cX10_goesOver, 7, (some .int), 0, fun _ => 0)
theorem ok_X10_goesOver : mOkV mi_X10_goesOver 2 := ⟨⟨kw_1591, kw_82, by decide, by decide⟩, kw_1590, kw_70⟩
def mi_X10_shows : MI := (yX10_shows, cX10_shows, 4, (some .int), 0, fun _ => 0)
theorem ok_X10_shows : mOkV mi_X10_shows 1 := ⟨⟨kw_1587, kw_82, by decide, by decide⟩, kw_1585, kw_1586⟩
def mi_X10_shown : MI := (yX10_shown, cX10_shown, 2, (some .int), 0, fun _ => 0)
theorem ok_X10_shown : mOkV mi_X10_shown 1 := ⟨⟨kw_1599, kw_82, by decide, by decide⟩, kw_1597, kw_1598⟩
def mi_X10_writesOut : MI := (yX10_writesOut, cX10_writesOut, 7, (some .int), 0, fun _ => 0)
theorem ok_X10_writesOut : mOkV mi_X10_writesOut 1 := ⟨⟨kw_1607, kw_82, by decide, by decide⟩, kw_1606, kw_72⟩
def mi_X10_alike : MI := (yX10_alike, cX10_alike, 6, (some .int), 0, fun _ => 0)
theorem ok_X10_alike : mOkV mi_X10_alike 2 := ⟨⟨kw_1603, kw_82, by decide, by decide⟩, kw_1601, kw_1602⟩
def mi_X10_export : MI := (yX10_export, cX10_export, 3, (some .int), 0, fun _ => 0)
theorem ok_X10_export : mOkV mi_X10_export 1 := ⟨⟨kw_1611, kw_82, by decide, by decide⟩, kw_1609, kw_1610⟩
def mi_X10_out : MI := (yX10_out, cX10_out, 2, (some .int), 0, fun _ => 0)
theorem ok_X10_out : mOkV mi_X10_out 1 := ⟨⟨kw_1615, kw_82, by decide, by decide⟩, kw_1613, kw_1614⟩
def mi_X10_digest : MI := (yX10_digest, cX10_digest, 6, (some .long), 0, fun _ => 0)
theorem ok_X10_digest : mOkV mi_X10_digest 1 := ⟨⟨kw_1619, kw_82, by decide, by decide⟩, kw_1617, kw_1618⟩
def mi_X10_trace : MI := (yX10_trace, cX10_trace, 2, (some .int), 0, fun _ => 0)
theorem ok_X10_trace : mOkV mi_X10_trace 1 := ⟨⟨kw_1625, kw_82, by decide, by decide⟩, kw_1623, kw_1624⟩
def mi_X10_count : MI := (yX10_count, cX10_count, 4, (some .int), 0, fun _ => 0)
theorem ok_X10_count : mOkV mi_X10_count 1 := ⟨⟨kw_1629, kw_82, by decide, by decide⟩, kw_1627, kw_1628⟩
def mi_X10_status : MI := (yX10_status, cX10_status, 1, (some .int), 0, fun _ => 0)
theorem ok_X10_status : mOkV mi_X10_status 0 := ⟨⟨kw_1633, kw_82, by decide, by decide⟩, kw_1631, kw_1632⟩
def mi_J7_fill_53178 : MI := (yJ7_fill_53178, cJ7_fill_53178, 4, none, 0, fun _ => 0)
theorem ok_J7_fill_53178 : mOkS mi_J7_fill_53178 2 := ⟨⟨kw_640, kw_86, by decide, by decide⟩, kw_639⟩
