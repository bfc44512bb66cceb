/-! What the tables say, by the places in them: fields, methods, calls, constants. -/
theorem ct_1 {i : Nat} {w : Cond} (h : tables_1_1[i]? = some w) (g : goodWord w = true) : w ∈ ALL := by
  have h := List.mem_of_getElem? h
  exact List.mem_filter.mpr ⟨List.mem_append_right _ (List.mem_append_left _ h), g⟩
theorem ct_2 {i : Nat} {w : Cond} (h : tables_1_2[i]? = some w) (g : goodWord w = true) : w ∈ ALL := by
  have h := List.mem_of_getElem? h
  exact List.mem_filter.mpr ⟨List.mem_append_right _ (List.mem_append_right _ (List.mem_append_left _ h)), g⟩
theorem ct_3 {i : Nat} {w : Cond} (h : tables_1_3[i]? = some w) (g : goodWord w = true) : w ∈ ALL := by
  have h := List.mem_of_getElem? h
  exact List.mem_filter.mpr ⟨List.mem_append_right _ (List.mem_append_right _ (List.mem_append_right _ (List.mem_append_left _ h))), g⟩
theorem ct_4 {i : Nat} {w : Cond} (h : tables_1_4[i]? = some w) (g : goodWord w = true) : w ∈ ALL := by
  have h := List.mem_of_getElem? h
  exact List.mem_filter.mpr ⟨List.mem_append_right _ (List.mem_append_right _ (List.mem_append_right _ (List.mem_append_right _ (List.mem_append_left _ h)))), g⟩
theorem ct_5 {i : Nat} {w : Cond} (h : tables_1_5[i]? = some w) (g : goodWord w = true) : w ∈ ALL := by
  have h := List.mem_of_getElem? h
  exact List.mem_filter.mpr ⟨List.mem_append_right _ (List.mem_append_right _ (List.mem_append_right _ (List.mem_append_right _ (List.mem_append_right _ (List.mem_append_left _ h))))), g⟩
theorem ct_6 {i : Nat} {w : Cond} (h : tables_1_6[i]? = some w) (g : goodWord w = true) : w ∈ ALL := by
  have h := List.mem_of_getElem? h
  exact List.mem_filter.mpr ⟨List.mem_append_right _ (List.mem_append_right _ (List.mem_append_right _ (List.mem_append_right _ (List.mem_append_right _ (List.mem_append_right _ (h)))))), g⟩
theorem ix0 : ∀ w ∈ u_ws RX0 TX0 5, w ∈ ALL := by
  intro w hw
  obtain ⟨k, hk, rfl⟩ := List.mem_map.mp hw
  have hk := List.mem_range.mp hk
  match k, hk with
  | 0, _ => exact ct_1 (i := 137) rfl rfl
  | 1, _ => exact ct_1 (i := 139) rfl rfl
  | 2, _ => exact ct_1 (i := 141) rfl rfl
  | 3, _ => exact ct_1 (i := 143) rfl rfl
  | 4, _ => exact ct_1 (i := 145) rfl rfl
  | k + 5, h => omega
theorem ix1 : ∀ w ∈ u_ws RX1 TX1 12, w ∈ ALL := by
  intro w hw
  obtain ⟨k, hk, rfl⟩ := List.mem_map.mp hw
  have hk := List.mem_range.mp hk
  match k, hk with
  | 0, _ => exact ct_1 (i := 210) rfl rfl
  | 1, _ => exact ct_1 (i := 212) rfl rfl
  | 2, _ => exact ct_1 (i := 214) rfl rfl
  | 3, _ => exact ct_1 (i := 216) rfl rfl
  | 4, _ => exact ct_1 (i := 218) rfl rfl
  | 5, _ => exact ct_1 (i := 220) rfl rfl
  | 6, _ => exact ct_1 (i := 222) rfl rfl
  | 7, _ => exact ct_1 (i := 224) rfl rfl
  | 8, _ => exact ct_1 (i := 226) rfl rfl
  | 9, _ => exact ct_1 (i := 228) rfl rfl
  | 10, _ => exact ct_1 (i := 230) rfl rfl
  | 11, _ => exact ct_1 (i := 232) rfl rfl
  | k + 12, h => omega
theorem ix2 : ∀ w ∈ u_ws RX2 TX2 4, w ∈ ALL := by
  intro w hw
  obtain ⟨k, hk, rfl⟩ := List.mem_map.mp hw
  have hk := List.mem_range.mp hk
  match k, hk with
  | 0, _ => exact ct_1 (i := 72) rfl rfl
  | 1, _ => exact ct_1 (i := 74) rfl rfl
  | 2, _ => exact ct_1 (i := 76) rfl rfl
  | 3, _ => exact ct_1 (i := 78) rfl rfl
  | k + 4, h => omega
theorem ix3 : ∀ w ∈ u_ws RX3 TX3 2, w ∈ ALL := by
  intro w hw
  obtain ⟨k, hk, rfl⟩ := List.mem_map.mp hw
  have hk := List.mem_range.mp hk
  match k, hk with
  | 0, _ => exact ct_1 (i := 41) rfl rfl
  | 1, _ => exact ct_1 (i := 43) rfl rfl
  | k + 2, h => omega
theorem ix5 : ∀ w ∈ u_ws RX5 TX5 4, w ∈ ALL := by
  intro w hw
  obtain ⟨k, hk, rfl⟩ := List.mem_map.mp hw
  have hk := List.mem_range.mp hk
  match k, hk with
  | 0, _ => exact ct_1 (i := 123) rfl rfl
  | 1, _ => exact ct_1 (i := 125) rfl rfl
  | 2, _ => exact ct_1 (i := 127) rfl rfl
  | 3, _ => exact ct_1 (i := 129) rfl rfl
  | k + 4, h => omega
theorem ix6 : ∀ w ∈ u_ws RX6 TX6 8, w ∈ ALL := by
  intro w hw
  obtain ⟨k, hk, rfl⟩ := List.mem_map.mp hw
  have hk := List.mem_range.mp hk
  match k, hk with
  | 0, _ => exact ct_1 (i := 170) rfl rfl
  | 1, _ => exact ct_1 (i := 172) rfl rfl
  | 2, _ => exact ct_1 (i := 174) rfl rfl
  | 3, _ => exact ct_1 (i := 176) rfl rfl
  | 4, _ => exact ct_1 (i := 178) rfl rfl
  | 5, _ => exact ct_1 (i := 180) rfl rfl
  | 6, _ => exact ct_1 (i := 182) rfl rfl
  | 7, _ => exact ct_1 (i := 184) rfl rfl
  | k + 8, h => omega
theorem ix7 : ∀ w ∈ u_ws RX7 TX7 2, w ∈ ALL := by
  intro w hw
  obtain ⟨k, hk, rfl⟩ := List.mem_map.mp hw
  have hk := List.mem_range.mp hk
  match k, hk with
  | 0, _ => exact ct_1 (i := 103) rfl rfl
  | 1, _ => exact ct_1 (i := 105) rfl rfl
  | k + 2, h => omega
theorem ix8 : ∀ w ∈ u_ws RX8 TX8 9, w ∈ ALL := by
  intro w hw
  obtain ⟨k, hk, rfl⟩ := List.mem_map.mp hw
  have hk := List.mem_range.mp hk
  match k, hk with
  | 0, _ => exact ct_2 (i := 4) rfl rfl
  | 1, _ => exact ct_2 (i := 6) rfl rfl
  | 2, _ => exact ct_2 (i := 8) rfl rfl
  | 3, _ => exact ct_2 (i := 10) rfl rfl
  | 4, _ => exact ct_2 (i := 12) rfl rfl
  | 5, _ => exact ct_2 (i := 14) rfl rfl
  | 6, _ => exact ct_2 (i := 16) rfl rfl
  | 7, _ => exact ct_2 (i := 18) rfl rfl
  | 8, _ => exact ct_2 (i := 20) rfl rfl
  | k + 9, h => omega
theorem ix9 : ∀ w ∈ u_ws RX9 TX9 2, w ∈ ALL := by
  intro w hw
  obtain ⟨k, hk, rfl⟩ := List.mem_map.mp hw
  have hk := List.mem_range.mp hk
  match k, hk with
  | 0, _ => exact ct_4 (i := 212) rfl rfl
  | 1, _ => exact ct_4 (i := 214) rfl rfl
  | k + 2, h => omega
theorem ix10 : ∀ w ∈ u_ws RX10 TX10 3, w ∈ ALL := by
  intro w hw
  obtain ⟨k, hk, rfl⟩ := List.mem_map.mp hw
  have hk := List.mem_range.mp hk
  match k, hk with
  | 0, _ => exact ct_4 (i := 232) rfl rfl
  | 1, _ => exact ct_4 (i := 234) rfl rfl
  | 2, _ => exact ct_4 (i := 236) rfl rfl
  | k + 3, h => omega
theorem ix11 : ∀ w ∈ u_ws RX11 TX11 33, w ∈ ALL := by
  intro w hw
  obtain ⟨k, hk, rfl⟩ := List.mem_map.mp hw
  have hk := List.mem_range.mp hk
  match k, hk with
  | 0, _ => exact ct_5 (i := 32) rfl rfl
  | 1, _ => exact ct_5 (i := 34) rfl rfl
  | 2, _ => exact ct_5 (i := 36) rfl rfl
  | 3, _ => exact ct_5 (i := 38) rfl rfl
  | 4, _ => exact ct_5 (i := 40) rfl rfl
  | 5, _ => exact ct_5 (i := 42) rfl rfl
  | 6, _ => exact ct_5 (i := 44) rfl rfl
  | 7, _ => exact ct_5 (i := 46) rfl rfl
  | 8, _ => exact ct_5 (i := 48) rfl rfl
  | 9, _ => exact ct_5 (i := 50) rfl rfl
  | 10, _ => exact ct_5 (i := 52) rfl rfl
  | 11, _ => exact ct_5 (i := 54) rfl rfl
  | 12, _ => exact ct_5 (i := 56) rfl rfl
  | 13, _ => exact ct_5 (i := 58) rfl rfl
  | 14, _ => exact ct_5 (i := 60) rfl rfl
  | 15, _ => exact ct_5 (i := 62) rfl rfl
  | 16, _ => exact ct_5 (i := 64) rfl rfl
  | 17, _ => exact ct_5 (i := 66) rfl rfl
  | 18, _ => exact ct_5 (i := 68) rfl rfl
  | 19, _ => exact ct_5 (i := 70) rfl rfl
  | 20, _ => exact ct_5 (i := 72) rfl rfl
  | 21, _ => exact ct_5 (i := 74) rfl rfl
  | 22, _ => exact ct_5 (i := 76) rfl rfl
  | 23, _ => exact ct_5 (i := 78) rfl rfl
  | 24, _ => exact ct_5 (i := 80) rfl rfl
  | 25, _ => exact ct_5 (i := 82) rfl rfl
  | 26, _ => exact ct_5 (i := 84) rfl rfl
  | 27, _ => exact ct_5 (i := 86) rfl rfl
  | 28, _ => exact ct_5 (i := 88) rfl rfl
  | 29, _ => exact ct_5 (i := 90) rfl rfl
  | 30, _ => exact ct_5 (i := 92) rfl rfl
  | 31, _ => exact ct_5 (i := 94) rfl rfl
  | 32, _ => exact ct_5 (i := 96) rfl rfl
  | k + 33, h => omega
theorem fX3_9 : zF RX3 9 3 0 (.array .int) true := ⟨RX3, TX3, 2, tyX3, rfl, by decide, ix3, ct_1 (i := 38) rfl rfl, tyX3_ok, nmX3, rfl, rfl⟩
theorem ffX3_9 : zFF RX3 9 3 0 (.array .int) := ⟨RX3, TX3, 2, tyX3, rfl, by decide, ix3, ct_1 (i := 38) rfl rfl, tyX3_ok, nmX3, rfl, rfl, rfl⟩
theorem fX3_13 : zF RX3 13 3 1 .boolean false := ⟨RX3, TX3, 2, tyX3, rfl, by decide, ix3, ct_1 (i := 39) rfl rfl, tyX3_ok, nmX3, rfl, rfl⟩
theorem fX0_68 : zF RX0 68 3 1 .boolean false := ⟨RX3, TX3, 2, tyX3, rfl, by decide, ix3, ct_1 (i := 40) rfl rfl, tyX3_ok, nmX3, rfl, rfl⟩
theorem fX0_43 : zF RX0 43 2 0 .boolean false := ⟨RX2, TX2, 4, tyX2, rfl, by decide, ix2, ct_1 (i := 54) rfl rfl, tyX2_ok, nmX2, rfl, rfl⟩
theorem fX2_7 : zF RX2 7 2 0 .boolean false := ⟨RX2, TX2, 4, tyX2, rfl, by decide, ix2, ct_1 (i := 55) rfl rfl, tyX2_ok, nmX2, rfl, rfl⟩
theorem fX3_17 : zF RX3 17 2 0 .boolean false := ⟨RX2, TX2, 4, tyX2, rfl, by decide, ix2, ct_1 (i := 56) rfl rfl, tyX2_ok, nmX2, rfl, rfl⟩
theorem fX8_83 : zF RX8 83 2 0 .boolean false := ⟨RX2, TX2, 4, tyX2, rfl, by decide, ix2, ct_1 (i := 57) rfl rfl, tyX2_ok, nmX2, rfl, rfl⟩
theorem fX0_53 : zF RX0 53 2 1 .boolean false := ⟨RX2, TX2, 4, tyX2, rfl, by decide, ix2, ct_1 (i := 58) rfl rfl, tyX2_ok, nmX2, rfl, rfl⟩
theorem fX2_13 : zF RX2 13 2 1 .boolean false := ⟨RX2, TX2, 4, tyX2, rfl, by decide, ix2, ct_1 (i := 59) rfl rfl, tyX2_ok, nmX2, rfl, rfl⟩
theorem fX3_28 : zF RX3 28 2 1 .boolean false := ⟨RX2, TX2, 4, tyX2, rfl, by decide, ix2, ct_1 (i := 60) rfl rfl, tyX2_ok, nmX2, rfl, rfl⟩
theorem fX1_81 : zF RX1 81 2 1 .boolean false := ⟨RX2, TX2, 4, tyX2, rfl, by decide, ix2, ct_1 (i := 61) rfl rfl, tyX2_ok, nmX2, rfl, rfl⟩
theorem fX8_242 : zF RX8 242 2 1 .boolean false := ⟨RX2, TX2, 4, tyX2, rfl, by decide, ix2, ct_1 (i := 62) rfl rfl, tyX2_ok, nmX2, rfl, rfl⟩
theorem fX0_56 : zF RX0 56 2 2 .long false := ⟨RX2, TX2, 4, tyX2, rfl, by decide, ix2, ct_1 (i := 63) rfl rfl, tyX2_ok, nmX2, rfl, rfl⟩
theorem fX2_16 : zF RX2 16 2 2 .long false := ⟨RX2, TX2, 4, tyX2, rfl, by decide, ix2, ct_1 (i := 64) rfl rfl, tyX2_ok, nmX2, rfl, rfl⟩
theorem fX3_20 : zF RX3 20 2 2 .long false := ⟨RX2, TX2, 4, tyX2, rfl, by decide, ix2, ct_1 (i := 65) rfl rfl, tyX2_ok, nmX2, rfl, rfl⟩
theorem fX1_56 : zF RX1 56 2 2 .long false := ⟨RX2, TX2, 4, tyX2, rfl, by decide, ix2, ct_1 (i := 66) rfl rfl, tyX2_ok, nmX2, rfl, rfl⟩
theorem fX8_214 : zF RX8 214 2 2 .long false := ⟨RX2, TX2, 4, tyX2, rfl, by decide, ix2, ct_1 (i := 67) rfl rfl, tyX2_ok, nmX2, rfl, rfl⟩
theorem fX0_60 : zF RX0 60 2 3 .int false := ⟨RX2, TX2, 4, tyX2, rfl, by decide, ix2, ct_1 (i := 68) rfl rfl, tyX2_ok, nmX2, rfl, rfl⟩
theorem fX2_20 : zF RX2 20 2 3 .int false := ⟨RX2, TX2, 4, tyX2, rfl, by decide, ix2, ct_1 (i := 69) rfl rfl, tyX2_ok, nmX2, rfl, rfl⟩
theorem fX3_24 : zF RX3 24 2 3 .int false := ⟨RX2, TX2, 4, tyX2, rfl, by decide, ix2, ct_1 (i := 70) rfl rfl, tyX2_ok, nmX2, rfl, rfl⟩
theorem fX1_47 : zF RX1 47 2 3 .int false := ⟨RX2, TX2, 4, tyX2, rfl, by decide, ix2, ct_1 (i := 71) rfl rfl, tyX2_ok, nmX2, rfl, rfl⟩
theorem fX7_9 : zF RX7 9 6 0 (.array .int) true := ⟨RX7, TX7, 2, tyX7, rfl, by decide, ix7, ct_1 (i := 101) rfl rfl, tyX7_ok, nmX7, rfl, rfl⟩
theorem ffX7_9 : zFF RX7 9 6 0 (.array .int) := ⟨RX7, TX7, 2, tyX7, rfl, by decide, ix7, ct_1 (i := 101) rfl rfl, tyX7_ok, nmX7, rfl, rfl, rfl⟩
theorem fX7_13 : zF RX7 13 6 1 .int false := ⟨RX7, TX7, 2, tyX7, rfl, by decide, ix7, ct_1 (i := 102) rfl rfl, tyX7_ok, nmX7, rfl, rfl⟩
theorem fX5_10 : zF RX5 10 4 0 (.object "PositHouse$Wide") true := ⟨RX5, TX5, 4, tyX5, rfl, by decide, ix5, ct_1 (i := 116) rfl rfl, tyX5_ok, nmX5, rfl, rfl⟩
theorem ffX5_10 : zFF RX5 10 4 0 (.object "PositHouse$Wide") := ⟨RX5, TX5, 4, tyX5, rfl, by decide, ix5, ct_1 (i := 116) rfl rfl, tyX5_ok, nmX5, rfl, rfl, rfl⟩
theorem fX0_113 : zF RX0 113 4 0 (.object "PositHouse$Wide") true := ⟨RX5, TX5, 4, tyX5, rfl, by decide, ix5, ct_1 (i := 117) rfl rfl, tyX5_ok, nmX5, rfl, rfl⟩
theorem fX5_16 : zF RX5 16 4 1 (.object "PositHouse$Wide") true := ⟨RX5, TX5, 4, tyX5, rfl, by decide, ix5, ct_1 (i := 118) rfl rfl, tyX5_ok, nmX5, rfl, rfl⟩
theorem ffX5_16 : zFF RX5 16 4 1 (.object "PositHouse$Wide") := ⟨RX5, TX5, 4, tyX5, rfl, by decide, ix5, ct_1 (i := 118) rfl rfl, tyX5_ok, nmX5, rfl, rfl, rfl⟩
theorem fX0_116 : zF RX0 116 4 1 (.object "PositHouse$Wide") true := ⟨RX5, TX5, 4, tyX5, rfl, by decide, ix5, ct_1 (i := 119) rfl rfl, tyX5_ok, nmX5, rfl, rfl⟩
theorem fX5_19 : zF RX5 19 4 2 (.object "PositHouse$Wide") true := ⟨RX5, TX5, 4, tyX5, rfl, by decide, ix5, ct_1 (i := 120) rfl rfl, tyX5_ok, nmX5, rfl, rfl⟩
theorem ffX5_19 : zFF RX5 19 4 2 (.object "PositHouse$Wide") := ⟨RX5, TX5, 4, tyX5, rfl, by decide, ix5, ct_1 (i := 120) rfl rfl, tyX5_ok, nmX5, rfl, rfl, rfl⟩
theorem fX5_22 : zF RX5 22 4 3 .boolean false := ⟨RX5, TX5, 4, tyX5, rfl, by decide, ix5, ct_1 (i := 121) rfl rfl, tyX5_ok, nmX5, rfl, rfl⟩
theorem fX0_126 : zF RX0 126 4 3 .boolean false := ⟨RX5, TX5, 4, tyX5, rfl, by decide, ix5, ct_1 (i := 122) rfl rfl, tyX5_ok, nmX5, rfl, rfl⟩
theorem fX0_10 : zF RX0 10 0 0 (.object "PositHouse$Quire") true := ⟨RX0, TX0, 5, tyX0, rfl, by decide, ix0, ct_1 (i := 132) rfl rfl, tyX0_ok, nmX0, rfl, rfl⟩
theorem ffX0_10 : zFF RX0 10 0 0 (.object "PositHouse$Quire") := ⟨RX0, TX0, 5, tyX0, rfl, by decide, ix0, ct_1 (i := 132) rfl rfl, tyX0_ok, nmX0, rfl, rfl, rfl⟩
theorem fX0_19 : zF RX0 19 0 1 (.object "PositHouse$Posit") true := ⟨RX0, TX0, 5, tyX0, rfl, by decide, ix0, ct_1 (i := 133) rfl rfl, tyX0_ok, nmX0, rfl, rfl⟩
theorem ffX0_19 : zFF RX0 19 0 1 (.object "PositHouse$Posit") := ⟨RX0, TX0, 5, tyX0, rfl, by decide, ix0, ct_1 (i := 133) rfl rfl, tyX0_ok, nmX0, rfl, rfl, rfl⟩
theorem fX0_29 : zF RX0 29 0 2 (.object "PositHouse$Wide") true := ⟨RX0, TX0, 5, tyX0, rfl, by decide, ix0, ct_1 (i := 134) rfl rfl, tyX0_ok, nmX0, rfl, rfl⟩
theorem ffX0_29 : zFF RX0 29 0 2 (.object "PositHouse$Wide") := ⟨RX0, TX0, 5, tyX0, rfl, by decide, ix0, ct_1 (i := 134) rfl rfl, tyX0_ok, nmX0, rfl, rfl, rfl⟩
theorem fX0_33 : zF RX0 33 0 3 (.object "PositHouse$Wide") true := ⟨RX0, TX0, 5, tyX0, rfl, by decide, ix0, ct_1 (i := 135) rfl rfl, tyX0_ok, nmX0, rfl, rfl⟩
theorem ffX0_33 : zFF RX0 33 0 3 (.object "PositHouse$Wide") := ⟨RX0, TX0, 5, tyX0, rfl, by decide, ix0, ct_1 (i := 135) rfl rfl, tyX0_ok, nmX0, rfl, rfl, rfl⟩
theorem fX0_39 : zF RX0 39 0 4 (.object "PositHouse$Seeker") true := ⟨RX0, TX0, 5, tyX0, rfl, by decide, ix0, ct_1 (i := 136) rfl rfl, tyX0_ok, nmX0, rfl, rfl⟩
theorem ffX0_39 : zFF RX0 39 0 4 (.object "PositHouse$Seeker") := ⟨RX0, TX0, 5, tyX0, rfl, by decide, ix0, ct_1 (i := 136) rfl rfl, tyX0_ok, nmX0, rfl, rfl, rfl⟩
theorem fX6_9 : zF RX6 9 5 0 (.array .int) true := ⟨RX6, TX6, 8, tyX6, rfl, by decide, ix6, ct_1 (i := 156) rfl rfl, tyX6_ok, nmX6, rfl, rfl⟩
theorem ffX6_9 : zFF RX6 9 5 0 (.array .int) := ⟨RX6, TX6, 8, tyX6, rfl, by decide, ix6, ct_1 (i := 156) rfl rfl, tyX6_ok, nmX6, rfl, rfl, rfl⟩
theorem fX6_27 : zF RX6 27 5 1 .int false := ⟨RX6, TX6, 8, tyX6, rfl, by decide, ix6, ct_1 (i := 157) rfl rfl, tyX6_ok, nmX6, rfl, rfl⟩
theorem fX6_16 : zF RX6 16 5 2 (.object "PositHouse$Wide") true := ⟨RX6, TX6, 8, tyX6, rfl, by decide, ix6, ct_1 (i := 158) rfl rfl, tyX6_ok, nmX6, rfl, rfl⟩
theorem ffX6_16 : zFF RX6 16 5 2 (.object "PositHouse$Wide") := ⟨RX6, TX6, 8, tyX6, rfl, by decide, ix6, ct_1 (i := 158) rfl rfl, tyX6_ok, nmX6, rfl, rfl, rfl⟩
theorem fX8_197 : zF RX8 197 5 2 (.object "PositHouse$Wide") true := ⟨RX6, TX6, 8, tyX6, rfl, by decide, ix6, ct_1 (i := 159) rfl rfl, tyX6_ok, nmX6, rfl, rfl⟩
theorem fX6_20 : zF RX6 20 5 3 .int false := ⟨RX6, TX6, 8, tyX6, rfl, by decide, ix6, ct_1 (i := 160) rfl rfl, tyX6_ok, nmX6, rfl, rfl⟩
theorem fX8_178 : zF RX8 178 5 3 .int false := ⟨RX6, TX6, 8, tyX6, rfl, by decide, ix6, ct_1 (i := 161) rfl rfl, tyX6_ok, nmX6, rfl, rfl⟩
theorem fX6_24 : zF RX6 24 5 4 .int false := ⟨RX6, TX6, 8, tyX6, rfl, by decide, ix6, ct_1 (i := 162) rfl rfl, tyX6_ok, nmX6, rfl, rfl⟩
theorem fX8_190 : zF RX8 190 5 4 .int false := ⟨RX6, TX6, 8, tyX6, rfl, by decide, ix6, ct_1 (i := 163) rfl rfl, tyX6_ok, nmX6, rfl, rfl⟩
theorem fX6_30 : zF RX6 30 5 5 .int false := ⟨RX6, TX6, 8, tyX6, rfl, by decide, ix6, ct_1 (i := 164) rfl rfl, tyX6_ok, nmX6, rfl, rfl⟩
theorem fX8_201 : zF RX8 201 5 5 .int false := ⟨RX6, TX6, 8, tyX6, rfl, by decide, ix6, ct_1 (i := 165) rfl rfl, tyX6_ok, nmX6, rfl, rfl⟩
theorem fX6_49 : zF RX6 49 5 6 .boolean false := ⟨RX6, TX6, 8, tyX6, rfl, by decide, ix6, ct_1 (i := 166) rfl rfl, tyX6_ok, nmX6, rfl, rfl⟩
theorem fX8_204 : zF RX8 204 5 6 .boolean false := ⟨RX6, TX6, 8, tyX6, rfl, by decide, ix6, ct_1 (i := 167) rfl rfl, tyX6_ok, nmX6, rfl, rfl⟩
theorem fX6_41 : zF RX6 41 5 7 .boolean false := ⟨RX6, TX6, 8, tyX6, rfl, by decide, ix6, ct_1 (i := 168) rfl rfl, tyX6_ok, nmX6, rfl, rfl⟩
theorem fX8_193 : zF RX8 193 5 7 .boolean false := ⟨RX6, TX6, 8, tyX6, rfl, by decide, ix6, ct_1 (i := 169) rfl rfl, tyX6_ok, nmX6, rfl, rfl⟩
theorem fX1_9 : zF RX1 9 1 0 (.array .int) true := ⟨RX1, TX1, 12, tyX1, rfl, by decide, ix1, ct_1 (i := 197) rfl rfl, tyX1_ok, nmX1, rfl, rfl⟩
theorem ffX1_9 : zFF RX1 9 1 0 (.array .int) := ⟨RX1, TX1, 12, tyX1, rfl, by decide, ix1, ct_1 (i := 197) rfl rfl, tyX1_ok, nmX1, rfl, rfl, rfl⟩
theorem fX1_16 : zF RX1 16 1 1 (.object "PositHouse$Posit") true := ⟨RX1, TX1, 12, tyX1, rfl, by decide, ix1, ct_1 (i := 198) rfl rfl, tyX1_ok, nmX1, rfl, rfl⟩
theorem ffX1_16 : zFF RX1 16 1 1 (.object "PositHouse$Posit") := ⟨RX1, TX1, 12, tyX1, rfl, by decide, ix1, ct_1 (i := 198) rfl rfl, tyX1_ok, nmX1, rfl, rfl, rfl⟩
theorem fX1_23 : zF RX1 23 1 2 (.object "PositHouse$Wide") true := ⟨RX1, TX1, 12, tyX1, rfl, by decide, ix1, ct_1 (i := 199) rfl rfl, tyX1_ok, nmX1, rfl, rfl⟩
theorem ffX1_23 : zFF RX1 23 1 2 (.object "PositHouse$Wide") := ⟨RX1, TX1, 12, tyX1, rfl, by decide, ix1, ct_1 (i := 199) rfl rfl, tyX1_ok, nmX1, rfl, rfl, rfl⟩
theorem fX1_27 : zF RX1 27 1 3 (.object "PositHouse$Wide") true := ⟨RX1, TX1, 12, tyX1, rfl, by decide, ix1, ct_1 (i := 200) rfl rfl, tyX1_ok, nmX1, rfl, rfl⟩
theorem ffX1_27 : zFF RX1 27 1 3 (.object "PositHouse$Wide") := ⟨RX1, TX1, 12, tyX1, rfl, by decide, ix1, ct_1 (i := 200) rfl rfl, tyX1_ok, nmX1, rfl, rfl, rfl⟩
theorem fX1_30 : zF RX1 30 1 4 (.object "PositHouse$Wide") true := ⟨RX1, TX1, 12, tyX1, rfl, by decide, ix1, ct_1 (i := 201) rfl rfl, tyX1_ok, nmX1, rfl, rfl⟩
theorem ffX1_30 : zFF RX1 30 1 4 (.object "PositHouse$Wide") := ⟨RX1, TX1, 12, tyX1, rfl, by decide, ix1, ct_1 (i := 201) rfl rfl, tyX1_ok, nmX1, rfl, rfl, rfl⟩
theorem fX1_33 : zF RX1 33 1 5 (.object "PositHouse$Wide") true := ⟨RX1, TX1, 12, tyX1, rfl, by decide, ix1, ct_1 (i := 202) rfl rfl, tyX1_ok, nmX1, rfl, rfl⟩
theorem ffX1_33 : zFF RX1 33 1 5 (.object "PositHouse$Wide") := ⟨RX1, TX1, 12, tyX1, rfl, by decide, ix1, ct_1 (i := 202) rfl rfl, tyX1_ok, nmX1, rfl, rfl, rfl⟩
theorem fX1_36 : zF RX1 36 1 6 (.object "PositHouse$Wide") true := ⟨RX1, TX1, 12, tyX1, rfl, by decide, ix1, ct_1 (i := 203) rfl rfl, tyX1_ok, nmX1, rfl, rfl⟩
theorem ffX1_36 : zFF RX1 36 1 6 (.object "PositHouse$Wide") := ⟨RX1, TX1, 12, tyX1, rfl, by decide, ix1, ct_1 (i := 203) rfl rfl, tyX1_ok, nmX1, rfl, rfl, rfl⟩
theorem fX1_108 : zF RX1 108 1 7 .boolean false := ⟨RX1, TX1, 12, tyX1, rfl, by decide, ix1, ct_1 (i := 204) rfl rfl, tyX1_ok, nmX1, rfl, rfl⟩
theorem fX1_117 : zF RX1 117 1 8 .boolean false := ⟨RX1, TX1, 12, tyX1, rfl, by decide, ix1, ct_1 (i := 205) rfl rfl, tyX1_ok, nmX1, rfl, rfl⟩
theorem fX1_105 : zF RX1 105 1 9 .boolean false := ⟨RX1, TX1, 12, tyX1, rfl, by decide, ix1, ct_1 (i := 206) rfl rfl, tyX1_ok, nmX1, rfl, rfl⟩
theorem fX1_136 : zF RX1 136 1 10 .int false := ⟨RX1, TX1, 12, tyX1, rfl, by decide, ix1, ct_1 (i := 207) rfl rfl, tyX1_ok, nmX1, rfl, rfl⟩
theorem fX1_39 : zF RX1 39 1 11 .int false := ⟨RX1, TX1, 12, tyX1, rfl, by decide, ix1, ct_1 (i := 208) rfl rfl, tyX1_ok, nmX1, rfl, rfl⟩
theorem fX8_229 : zF RX8 229 1 11 .int false := ⟨RX1, TX1, 12, tyX1, rfl, by decide, ix1, ct_1 (i := 209) rfl rfl, tyX1_ok, nmX1, rfl, rfl⟩
theorem fX8_9 : zF RX8 9 7 0 (.array .int) true := ⟨RX8, TX8, 9, tyX8, rfl, by decide, ix8, ct_1 (i := 235) rfl rfl, tyX8_ok, nmX8, rfl, rfl⟩
theorem ffX8_9 : zFF RX8 9 7 0 (.array .int) := ⟨RX8, TX8, 9, tyX8, rfl, by decide, ix8, ct_1 (i := 235) rfl rfl, tyX8_ok, nmX8, rfl, rfl, rfl⟩
theorem fX8_13 : zF RX8 13 7 1 (.array .long) true := ⟨RX8, TX8, 9, tyX8, rfl, by decide, ix8, ct_1 (i := 236) rfl rfl, tyX8_ok, nmX8, rfl, rfl⟩
theorem ffX8_13 : zFF RX8 13 7 1 (.array .long) := ⟨RX8, TX8, 9, tyX8, rfl, by decide, ix8, ct_1 (i := 236) rfl rfl, tyX8_ok, nmX8, rfl, rfl, rfl⟩
theorem fX8_19 : zF RX8 19 7 2 (.array (.object "PositHouse$Quire")) true := ⟨RX8, TX8, 9, tyX8, rfl, by decide, ix8, ct_1 (i := 237) rfl rfl, tyX8_ok, nmX8, rfl, rfl⟩
theorem ffX8_19 : zFF RX8 19 7 2 (.array (.object "PositHouse$Quire")) := ⟨RX8, TX8, 9, tyX8, rfl, by decide, ix8, ct_1 (i := 237) rfl rfl, tyX8_ok, nmX8, rfl, rfl, rfl⟩
theorem fX8_27 : zF RX8 27 7 3 (.object "PositHouse$Posit") true := ⟨RX8, TX8, 9, tyX8, rfl, by decide, ix8, ct_1 (i := 238) rfl rfl, tyX8_ok, nmX8, rfl, rfl⟩
theorem ffX8_27 : zFF RX8 27 7 3 (.object "PositHouse$Posit") := ⟨RX8, TX8, 9, tyX8, rfl, by decide, ix8, ct_1 (i := 238) rfl rfl, tyX8_ok, nmX8, rfl, rfl, rfl⟩
theorem fX8_31 : zF RX8 31 7 4 (.object "PositHouse$Posit") true := ⟨RX8, TX8, 9, tyX8, rfl, by decide, ix8, ct_1 (i := 239) rfl rfl, tyX8_ok, nmX8, rfl, rfl⟩
theorem ffX8_31 : zFF RX8 31 7 4 (.object "PositHouse$Posit") := ⟨RX8, TX8, 9, tyX8, rfl, by decide, ix8, ct_1 (i := 239) rfl rfl, tyX8_ok, nmX8, rfl, rfl, rfl⟩
theorem fX8_34 : zF RX8 34 7 5 (.object "PositHouse$Posit") true := ⟨RX8, TX8, 9, tyX8, rfl, by decide, ix8, ct_2 (i := 0) rfl rfl, tyX8_ok, nmX8, rfl, rfl⟩
theorem ffX8_34 : zFF RX8 34 7 5 (.object "PositHouse$Posit") := ⟨RX8, TX8, 9, tyX8, rfl, by decide, ix8, ct_2 (i := 0) rfl rfl, tyX8_ok, nmX8, rfl, rfl, rfl⟩
theorem fX8_40 : zF RX8 40 7 6 (.object "PositHouse$Acts") true := ⟨RX8, TX8, 9, tyX8, rfl, by decide, ix8, ct_2 (i := 1) rfl rfl, tyX8_ok, nmX8, rfl, rfl⟩
theorem ffX8_40 : zFF RX8 40 7 6 (.object "PositHouse$Acts") := ⟨RX8, TX8, 9, tyX8, rfl, by decide, ix8, ct_2 (i := 1) rfl rfl, tyX8_ok, nmX8, rfl, rfl, rfl⟩
theorem fX8_47 : zF RX8 47 7 7 (.object "PositHouse$Tape") true := ⟨RX8, TX8, 9, tyX8, rfl, by decide, ix8, ct_2 (i := 2) rfl rfl, tyX8_ok, nmX8, rfl, rfl⟩
theorem ffX8_47 : zFF RX8 47 7 7 (.object "PositHouse$Tape") := ⟨RX8, TX8, 9, tyX8, rfl, by decide, ix8, ct_2 (i := 2) rfl rfl, tyX8_ok, nmX8, rfl, rfl, rfl⟩
theorem fX8_54 : zF RX8 54 7 8 (.object "PositHouse$Page") true := ⟨RX8, TX8, 9, tyX8, rfl, by decide, ix8, ct_2 (i := 3) rfl rfl, tyX8_ok, nmX8, rfl, rfl⟩
theorem ffX8_54 : zFF RX8 54 7 8 (.object "PositHouse$Page") := ⟨RX8, TX8, 9, tyX8, rfl, by decide, ix8, ct_2 (i := 3) rfl rfl, tyX8_ok, nmX8, rfl, rfl, rfl⟩
theorem kX2_24 : Cond.constantLong RX2 24 (-1) ∈ ALL := ct_2 (i := 158) rfl rfl
theorem kJ6_264 : Cond.constant RJ6 264 (65536) ∈ ALL := ct_2 (i := 165) rfl rfl
theorem kX2_32 : Cond.constantLong RX2 32 (268435456) ∈ ALL := ct_2 (i := 166) rfl rfl
theorem kX7_26 : Cond.constantLong RX7 26 (4294967295) ∈ ALL := ct_2 (i := 238) rfl rfl
theorem kX3_35 : Cond.constantLong RX3 35 (4294967295) ∈ ALL := ct_3 (i := 104) rfl rfl
theorem kX3_49 : Cond.constant RX3 49 (-2147483648) ∈ ALL := ct_4 (i := 58) rfl rfl
theorem kX6_62 : Cond.constantLong RX6 62 (10) ∈ ALL := ct_4 (i := 99) rfl rfl
theorem kX0_149 : Cond.constantLong RX0 149 (10) ∈ ALL := ct_4 (i := 113) rfl rfl
theorem kX1_124 : Cond.constantLong RX1 124 (2) ∈ ALL := ct_4 (i := 147) rfl rfl
theorem kX1_139 : Cond.constantLong RX1 139 (10) ∈ ALL := ct_4 (i := 158) rfl rfl
theorem kX1_67 : Cond.constantLong RX1 67 (5) ∈ ALL := ct_4 (i := 183) rfl rfl
theorem kX7_42 : Cond.constantLong RX7 42 (10) ∈ ALL := ct_4 (i := 190) rfl rfl
theorem fX9_9 : zF RX9 9 8 0 (.array .int) true := ⟨RX9, TX9, 2, tyX9, rfl, by decide, ix9, ct_4 (i := 207) rfl rfl, tyX9_ok, nmX9, rfl, rfl⟩
theorem ffX9_9 : zFF RX9 9 8 0 (.array .int) := ⟨RX9, TX9, 2, tyX9, rfl, by decide, ix9, ct_4 (i := 207) rfl rfl, tyX9_ok, nmX9, rfl, rfl, rfl⟩
theorem fX11_209 : zG RX11 209 8 0 (.array .int) true := ⟨RX9, TX9, 2, tyX9, "PositHouseModel", rfl, by decide, ix9, by decide +kernel, tyX9_ok, nmX9, rfl, rfl⟩
theorem fX9_15 : zF RX9 15 8 1 .int false := ⟨RX9, TX9, 2, tyX9, rfl, by decide, ix9, ct_4 (i := 209) rfl rfl, tyX9_ok, nmX9, rfl, rfl⟩
theorem fX10_16 : zG RX10 16 8 1 .int false := ⟨RX9, TX9, 2, tyX9, "PositHouseModel", rfl, by decide, ix9, by decide +kernel, tyX9_ok, nmX9, rfl, rfl⟩
theorem fX11_206 : zG RX11 206 8 1 .int false := ⟨RX9, TX9, 2, tyX9, "PositHouseModel", rfl, by decide, ix9, by decide +kernel, tyX9_ok, nmX9, rfl, rfl⟩
theorem fX10_10 : zF RX10 10 9 0 (.object "PositHouseModel$Nat") true := ⟨RX10, TX10, 3, tyX10, rfl, by decide, ix10, ct_4 (i := 226) rfl rfl, tyX10_ok, nmX10, rfl, rfl⟩
theorem ffX10_10 : zFF RX10 10 9 0 (.object "PositHouseModel$Nat") := ⟨RX10, TX10, 3, tyX10, rfl, by decide, ix10, ct_4 (i := 226) rfl rfl, tyX10_ok, nmX10, rfl, rfl, rfl⟩
theorem fX11_97 : zG RX11 97 9 0 (.object "PositHouseModel$Nat") true := ⟨RX10, TX10, 3, tyX10, "PositHouseModel", rfl, by decide, ix10, by decide +kernel, tyX10_ok, nmX10, rfl, rfl⟩
theorem fX10_20 : zF RX10 20 9 1 .int false := ⟨RX10, TX10, 3, tyX10, rfl, by decide, ix10, ct_4 (i := 228) rfl rfl, tyX10_ok, nmX10, rfl, rfl⟩
theorem fX11_94 : zG RX11 94 9 1 .int false := ⟨RX10, TX10, 3, tyX10, "PositHouseModel", rfl, by decide, ix10, by decide +kernel, tyX10_ok, nmX10, rfl, rfl⟩
theorem fX10_23 : zF RX10 23 9 2 .boolean false := ⟨RX10, TX10, 3, tyX10, rfl, by decide, ix10, ct_4 (i := 230) rfl rfl, tyX10_ok, nmX10, rfl, rfl⟩
theorem fX11_246 : zG RX11 246 9 2 .boolean false := ⟨RX10, TX10, 3, tyX10, "PositHouseModel", rfl, by decide, ix10, by decide +kernel, tyX10_ok, nmX10, rfl, rfl⟩
theorem fX11_17 : zF RX11 17 10 0 .int false := ⟨RX11, TX11, 33, tyX11, rfl, by decide, ix11, ct_4 (i := 239) rfl rfl, tyX11_ok, nmX11, rfl, rfl⟩
theorem fX11_7 : zF RX11 7 10 1 .long false := ⟨RX11, TX11, 33, tyX11, rfl, by decide, ix11, ct_5 (i := 0) rfl rfl, tyX11_ok, nmX11, rfl, rfl⟩
theorem fX11_13 : zF RX11 13 10 2 .int false := ⟨RX11, TX11, 33, tyX11, rfl, by decide, ix11, ct_5 (i := 1) rfl rfl, tyX11_ok, nmX11, rfl, rfl⟩
theorem fX11_24 : zF RX11 24 10 3 (.array .int) true := ⟨RX11, TX11, 33, tyX11, rfl, by decide, ix11, ct_5 (i := 2) rfl rfl, tyX11_ok, nmX11, rfl, rfl⟩
theorem ffX11_24 : zFF RX11 24 10 3 (.array .int) := ⟨RX11, TX11, 33, tyX11, rfl, by decide, ix11, ct_5 (i := 2) rfl rfl, tyX11_ok, nmX11, rfl, rfl, rfl⟩
theorem fX11_20 : zF RX11 20 10 4 (.array .long) true := ⟨RX11, TX11, 33, tyX11, rfl, by decide, ix11, ct_5 (i := 3) rfl rfl, tyX11_ok, nmX11, rfl, rfl⟩
theorem ffX11_20 : zFF RX11 20 10 4 (.array .long) := ⟨RX11, TX11, 33, tyX11, rfl, by decide, ix11, ct_5 (i := 3) rfl rfl, tyX11_ok, nmX11, rfl, rfl, rfl⟩
theorem fX11_32 : zF RX11 32 10 5 .int false := ⟨RX11, TX11, 33, tyX11, rfl, by decide, ix11, ct_5 (i := 4) rfl rfl, tyX11_ok, nmX11, rfl, rfl⟩
theorem fX11_35 : zF RX11 35 10 6 (.object "PositHouseModel$Nat") true := ⟨RX11, TX11, 33, tyX11, rfl, by decide, ix11, ct_5 (i := 5) rfl rfl, tyX11_ok, nmX11, rfl, rfl⟩
theorem ffX11_35 : zFF RX11 35 10 6 (.object "PositHouseModel$Nat") := ⟨RX11, TX11, 33, tyX11, rfl, by decide, ix11, ct_5 (i := 5) rfl rfl, tyX11_ok, nmX11, rfl, rfl, rfl⟩
theorem fX11_45 : zF RX11 45 10 7 (.object "PositHouseModel$Nat") true := ⟨RX11, TX11, 33, tyX11, rfl, by decide, ix11, ct_5 (i := 6) rfl rfl, tyX11_ok, nmX11, rfl, rfl⟩
theorem ffX11_45 : zFF RX11 45 10 7 (.object "PositHouseModel$Nat") := ⟨RX11, TX11, 33, tyX11, rfl, by decide, ix11, ct_5 (i := 6) rfl rfl, tyX11_ok, nmX11, rfl, rfl, rfl⟩
theorem fX11_48 : zF RX11 48 10 8 .int false := ⟨RX11, TX11, 33, tyX11, rfl, by decide, ix11, ct_5 (i := 7) rfl rfl, tyX11_ok, nmX11, rfl, rfl⟩
theorem fX11_51 : zF RX11 51 10 9 .int false := ⟨RX11, TX11, 33, tyX11, rfl, by decide, ix11, ct_5 (i := 8) rfl rfl, tyX11_ok, nmX11, rfl, rfl⟩
theorem fX11_54 : zF RX11 54 10 10 (.object "PositHouseModel$Nat") true := ⟨RX11, TX11, 33, tyX11, rfl, by decide, ix11, ct_5 (i := 9) rfl rfl, tyX11_ok, nmX11, rfl, rfl⟩
theorem ffX11_54 : zFF RX11 54 10 10 (.object "PositHouseModel$Nat") := ⟨RX11, TX11, 33, tyX11, rfl, by decide, ix11, ct_5 (i := 9) rfl rfl, tyX11_ok, nmX11, rfl, rfl, rfl⟩
theorem fX11_61 : zF RX11 61 10 11 (.object "PositHouseModel$Nat") true := ⟨RX11, TX11, 33, tyX11, rfl, by decide, ix11, ct_5 (i := 10) rfl rfl, tyX11_ok, nmX11, rfl, rfl⟩
theorem ffX11_61 : zFF RX11 61 10 11 (.object "PositHouseModel$Nat") := ⟨RX11, TX11, 33, tyX11, rfl, by decide, ix11, ct_5 (i := 10) rfl rfl, tyX11_ok, nmX11, rfl, rfl, rfl⟩
theorem fX11_129 : zF RX11 129 10 12 (.array (.object "PositHouseModel$Sum")) true := ⟨RX11, TX11, 33, tyX11, rfl, by decide, ix11, ct_5 (i := 11) rfl rfl, tyX11_ok, nmX11, rfl, rfl⟩
theorem ffX11_129 : zFF RX11 129 10 12 (.array (.object "PositHouseModel$Sum")) := ⟨RX11, TX11, 33, tyX11, rfl, by decide, ix11, ct_5 (i := 11) rfl rfl, tyX11_ok, nmX11, rfl, rfl, rfl⟩
theorem fX11_134 : zF RX11 134 10 13 (.object "PositHouseModel$Sum") true := ⟨RX11, TX11, 33, tyX11, rfl, by decide, ix11, ct_5 (i := 12) rfl rfl, tyX11_ok, nmX11, rfl, rfl⟩
theorem ffX11_134 : zFF RX11 134 10 13 (.object "PositHouseModel$Sum") := ⟨RX11, TX11, 33, tyX11, rfl, by decide, ix11, ct_5 (i := 12) rfl rfl, tyX11_ok, nmX11, rfl, rfl, rfl⟩
theorem fX11_100 : zF RX11 100 10 14 (.object "PositHouseModel$Nat") true := ⟨RX11, TX11, 33, tyX11, rfl, by decide, ix11, ct_5 (i := 13) rfl rfl, tyX11_ok, nmX11, rfl, rfl⟩
theorem ffX11_100 : zFF RX11 100 10 14 (.object "PositHouseModel$Nat") := ⟨RX11, TX11, 33, tyX11, rfl, by decide, ix11, ct_5 (i := 13) rfl rfl, tyX11_ok, nmX11, rfl, rfl, rfl⟩
theorem fX11_106 : zF RX11 106 10 15 (.object "PositHouseModel$Nat") true := ⟨RX11, TX11, 33, tyX11, rfl, by decide, ix11, ct_5 (i := 14) rfl rfl, tyX11_ok, nmX11, rfl, rfl⟩
theorem ffX11_106 : zFF RX11 106 10 15 (.object "PositHouseModel$Nat") := ⟨RX11, TX11, 33, tyX11, rfl, by decide, ix11, ct_5 (i := 14) rfl rfl, tyX11_ok, nmX11, rfl, rfl, rfl⟩
theorem fX11_162 : zF RX11 162 10 16 .int false := ⟨RX11, TX11, 33, tyX11, rfl, by decide, ix11, ct_5 (i := 15) rfl rfl, tyX11_ok, nmX11, rfl, rfl⟩
theorem fX11_138 : zF RX11 138 10 17 (.array .int) true := ⟨RX11, TX11, 33, tyX11, rfl, by decide, ix11, ct_5 (i := 16) rfl rfl, tyX11_ok, nmX11, rfl, rfl⟩
theorem ffX11_138 : zFF RX11 138 10 17 (.array .int) := ⟨RX11, TX11, 33, tyX11, rfl, by decide, ix11, ct_5 (i := 16) rfl rfl, tyX11_ok, nmX11, rfl, rfl, rfl⟩
theorem fX11_254 : zF RX11 254 10 18 .int false := ⟨RX11, TX11, 33, tyX11, rfl, by decide, ix11, ct_5 (i := 17) rfl rfl, tyX11_ok, nmX11, rfl, rfl⟩
theorem fX11_141 : zF RX11 141 10 19 (.array .int) true := ⟨RX11, TX11, 33, tyX11, rfl, by decide, ix11, ct_5 (i := 18) rfl rfl, tyX11_ok, nmX11, rfl, rfl⟩
theorem ffX11_141 : zFF RX11 141 10 19 (.array .int) := ⟨RX11, TX11, 33, tyX11, rfl, by decide, ix11, ct_5 (i := 18) rfl rfl, tyX11_ok, nmX11, rfl, rfl, rfl⟩
theorem fX11_291 : zF RX11 291 10 20 .int false := ⟨RX11, TX11, 33, tyX11, rfl, by decide, ix11, ct_5 (i := 19) rfl rfl, tyX11_ok, nmX11, rfl, rfl⟩
theorem fX11_259 : zF RX11 259 10 21 .int false := ⟨RX11, TX11, 33, tyX11, rfl, by decide, ix11, ct_5 (i := 20) rfl rfl, tyX11_ok, nmX11, rfl, rfl⟩
theorem fX11_262 : zF RX11 262 10 22 .int false := ⟨RX11, TX11, 33, tyX11, rfl, by decide, ix11, ct_5 (i := 21) rfl rfl, tyX11_ok, nmX11, rfl, rfl⟩
theorem fX11_271 : zF RX11 271 10 23 .int false := ⟨RX11, TX11, 33, tyX11, rfl, by decide, ix11, ct_5 (i := 22) rfl rfl, tyX11_ok, nmX11, rfl, rfl⟩
theorem fX11_276 : zF RX11 276 10 24 .int false := ⟨RX11, TX11, 33, tyX11, rfl, by decide, ix11, ct_5 (i := 23) rfl rfl, tyX11_ok, nmX11, rfl, rfl⟩
theorem fX11_144 : zF RX11 144 10 25 (.array .int) true := ⟨RX11, TX11, 33, tyX11, rfl, by decide, ix11, ct_5 (i := 24) rfl rfl, tyX11_ok, nmX11, rfl, rfl⟩
theorem ffX11_144 : zFF RX11 144 10 25 (.array .int) := ⟨RX11, TX11, 33, tyX11, rfl, by decide, ix11, ct_5 (i := 24) rfl rfl, tyX11_ok, nmX11, rfl, rfl, rfl⟩
theorem fX11_147 : zF RX11 147 10 26 (.object "PositHouseModel$Nat") true := ⟨RX11, TX11, 33, tyX11, rfl, by decide, ix11, ct_5 (i := 25) rfl rfl, tyX11_ok, nmX11, rfl, rfl⟩
theorem ffX11_147 : zFF RX11 147 10 26 (.object "PositHouseModel$Nat") := ⟨RX11, TX11, 33, tyX11, rfl, by decide, ix11, ct_5 (i := 25) rfl rfl, tyX11_ok, nmX11, rfl, rfl, rfl⟩
theorem fX11_150 : zF RX11 150 10 27 (.object "PositHouseModel$Nat") true := ⟨RX11, TX11, 33, tyX11, rfl, by decide, ix11, ct_5 (i := 26) rfl rfl, tyX11_ok, nmX11, rfl, rfl⟩
theorem ffX11_150 : zFF RX11 150 10 27 (.object "PositHouseModel$Nat") := ⟨RX11, TX11, 33, tyX11, rfl, by decide, ix11, ct_5 (i := 26) rfl rfl, tyX11_ok, nmX11, rfl, rfl, rfl⟩
theorem fX11_303 : zF RX11 303 10 28 .int false := ⟨RX11, TX11, 33, tyX11, rfl, by decide, ix11, ct_5 (i := 27) rfl rfl, tyX11_ok, nmX11, rfl, rfl⟩
theorem fX11_153 : zF RX11 153 10 29 (.array .int) true := ⟨RX11, TX11, 33, tyX11, rfl, by decide, ix11, ct_5 (i := 28) rfl rfl, tyX11_ok, nmX11, rfl, rfl⟩
theorem ffX11_153 : zFF RX11 153 10 29 (.array .int) := ⟨RX11, TX11, 33, tyX11, rfl, by decide, ix11, ct_5 (i := 28) rfl rfl, tyX11_ok, nmX11, rfl, rfl, rfl⟩
theorem fX11_309 : zF RX11 309 10 30 .int false := ⟨RX11, TX11, 33, tyX11, rfl, by decide, ix11, ct_5 (i := 29) rfl rfl, tyX11_ok, nmX11, rfl, rfl⟩
theorem fX11_156 : zF RX11 156 10 31 (.object "PositHouseModel$Nat") true := ⟨RX11, TX11, 33, tyX11, rfl, by decide, ix11, ct_5 (i := 30) rfl rfl, tyX11_ok, nmX11, rfl, rfl⟩
theorem ffX11_156 : zFF RX11 156 10 31 (.object "PositHouseModel$Nat") := ⟨RX11, TX11, 33, tyX11, rfl, by decide, ix11, ct_5 (i := 30) rfl rfl, tyX11_ok, nmX11, rfl, rfl, rfl⟩
theorem fX11_159 : zF RX11 159 10 32 (.object "PositHouseModel$Nat") true := ⟨RX11, TX11, 33, tyX11, rfl, by decide, ix11, ct_5 (i := 31) rfl rfl, tyX11_ok, nmX11, rfl, rfl⟩
theorem ffX11_159 : zFF RX11 159 10 32 (.object "PositHouseModel$Nat") := ⟨RX11, TX11, 33, tyX11, rfl, by decide, ix11, ct_5 (i := 31) rfl rfl, tyX11_ok, nmX11, rfl, rfl, rfl⟩
theorem kX9_19 : Cond.constantLong RX9 19 (1073741823) ∈ ALL := ct_5 (i := 154) rfl rfl
theorem kX11_89 : Cond.constantLong RX11 89 (2) ∈ ALL := ct_5 (i := 204) rfl rfl
theorem kX11_188 : Cond.constantLong RX11 188 (-1) ∈ ALL := ct_5 (i := 217) rfl rfl
theorem kJ6_265 : Cond.constant RJ6 265 (1431655765) ∈ ALL := ct_5 (i := 229) rfl rfl
theorem kJ6_266 : Cond.constant RJ6 266 (858993459) ∈ ALL := ct_5 (i := 230) rfl rfl
theorem kJ6_267 : Cond.constant RJ6 267 (252645135) ∈ ALL := ct_5 (i := 231) rfl rfl
theorem kX9_37 : Cond.constant RX9 37 (1073741823) ∈ ALL := ct_6 (i := 17) rfl rfl
theorem kX11_253 : Cond.constant RX11 253 (-2147483648) ∈ ALL := ct_6 (i := 102) rfl rfl
theorem kX11_257 : Cond.constantLong RX11 257 (255) ∈ ALL := ct_6 (i := 107) rfl rfl
theorem kX11_274 : Cond.constantLong RX11 274 (10) ∈ ALL := ct_6 (i := 132) rfl rfl
theorem kL_125 : Cond.constantLong RL 125 (4294967295) ∈ ALL := ct_6 (i := 177) rfl rfl
theorem zcX8 : Cond.initialized RX8 ∈ ALL ∧ RX8 ≠ "java/lang/invoke/MethodHandle" ∧ RX8 ≠ "java/lang/invoke/VarHandle" := ⟨ct_1 (i := 1) rfl rfl, by decide +kernel, by decide +kernel⟩
theorem zpX8 : plainName RX8 = true := by decide +kernel
theorem zcX0 : Cond.initialized RX0 ∈ ALL ∧ RX0 ≠ "java/lang/invoke/MethodHandle" ∧ RX0 ≠ "java/lang/invoke/VarHandle" := ⟨ct_1 (i := 4) rfl rfl, by decide +kernel, by decide +kernel⟩
theorem zpX0 : plainName RX0 = true := by decide +kernel
theorem zcX1 : Cond.initialized RX1 ∈ ALL ∧ RX1 ≠ "java/lang/invoke/MethodHandle" ∧ RX1 ≠ "java/lang/invoke/VarHandle" := ⟨ct_1 (i := 8) rfl rfl, by decide +kernel, by decide +kernel⟩
theorem zpX1 : plainName RX1 = true := by decide +kernel
theorem zcX2 : Cond.initialized RX2 ∈ ALL ∧ RX2 ≠ "java/lang/invoke/MethodHandle" ∧ RX2 ≠ "java/lang/invoke/VarHandle" := ⟨ct_1 (i := 3) rfl rfl, by decide +kernel, by decide +kernel⟩
theorem zpX2 : plainName RX2 = true := by decide +kernel
theorem zcX3 : Cond.initialized RX3 ∈ ALL ∧ RX3 ≠ "java/lang/invoke/MethodHandle" ∧ RX3 ≠ "java/lang/invoke/VarHandle" := ⟨ct_1 (i := 2) rfl rfl, by decide +kernel, by decide +kernel⟩
theorem zpX3 : plainName RX3 = true := by decide +kernel
theorem zcX4 : Cond.initialized RX4 ∈ ALL ∧ RX4 ≠ "java/lang/invoke/MethodHandle" ∧ RX4 ≠ "java/lang/invoke/VarHandle" := ⟨ct_1 (i := 17) rfl rfl, by decide +kernel, by decide +kernel⟩
theorem zpX4 : plainName RX4 = true := by decide +kernel
theorem zcX5 : Cond.initialized RX5 ∈ ALL ∧ RX5 ≠ "java/lang/invoke/MethodHandle" ∧ RX5 ≠ "java/lang/invoke/VarHandle" := ⟨ct_1 (i := 6) rfl rfl, by decide +kernel, by decide +kernel⟩
theorem zpX5 : plainName RX5 = true := by decide +kernel
theorem zcX6 : Cond.initialized RX6 ∈ ALL ∧ RX6 ≠ "java/lang/invoke/MethodHandle" ∧ RX6 ≠ "java/lang/invoke/VarHandle" := ⟨ct_1 (i := 7) rfl rfl, by decide +kernel, by decide +kernel⟩
theorem zpX6 : plainName RX6 = true := by decide +kernel
theorem zcX7 : Cond.initialized RX7 ∈ ALL ∧ RX7 ≠ "java/lang/invoke/MethodHandle" ∧ RX7 ≠ "java/lang/invoke/VarHandle" := ⟨ct_1 (i := 5) rfl rfl, by decide +kernel, by decide +kernel⟩
theorem zpX7 : plainName RX7 = true := by decide +kernel
theorem zcL : Cond.initialized RL ∈ ALL ∧ RL ≠ "java/lang/invoke/MethodHandle" ∧ RL ≠ "java/lang/invoke/VarHandle" := ⟨ct_1 (i := 0) rfl rfl, by decide +kernel, by decide +kernel⟩
theorem zpL : plainName RL = true := by decide +kernel
theorem zcX11 : Cond.initialized RX11 ∈ ALL ∧ RX11 ≠ "java/lang/invoke/MethodHandle" ∧ RX11 ≠ "java/lang/invoke/VarHandle" := ⟨ct_1 (i := 9) rfl rfl, by decide +kernel, by decide +kernel⟩
theorem zpX11 : plainName RX11 = true := by decide +kernel
theorem zcX9 : Cond.initialized RX9 ∈ ALL ∧ RX9 ≠ "java/lang/invoke/MethodHandle" ∧ RX9 ≠ "java/lang/invoke/VarHandle" := ⟨ct_1 (i := 10) rfl rfl, by decide +kernel, by decide +kernel⟩
theorem zpX9 : plainName RX9 = true := by decide +kernel
theorem zcX10 : Cond.initialized RX10 ∈ ALL ∧ RX10 ≠ "java/lang/invoke/MethodHandle" ∧ RX10 ≠ "java/lang/invoke/VarHandle" := ⟨ct_1 (i := 11) rfl rfl, by decide +kernel, by decide +kernel⟩
theorem zpX10 : plainName RX10 = true := by decide +kernel
theorem zcJ6 : Cond.initialized RJ6 ∈ ALL ∧ RJ6 ≠ "java/lang/invoke/MethodHandle" ∧ RJ6 ≠ "java/lang/invoke/VarHandle" := ⟨ct_1 (i := 19) rfl rfl, by decide +kernel, by decide +kernel⟩
theorem zpJ6 : plainName RJ6 = true := by decide +kernel
theorem zcJ13 : Cond.initialized RJ13 ∈ ALL ∧ RJ13 ≠ "java/lang/invoke/MethodHandle" ∧ RJ13 ≠ "java/lang/invoke/VarHandle" := ⟨ct_1 (i := 18) rfl rfl, by decide +kernel, by decide +kernel⟩
theorem zpJ13 : plainName RJ13 = true := by decide +kernel
theorem zcJ9 : Cond.initialized RJ9 ∈ ALL ∧ RJ9 ≠ "java/lang/invoke/MethodHandle" ∧ RJ9 ≠ "java/lang/invoke/VarHandle" := ⟨ct_1 (i := 20) rfl rfl, by decide +kernel, by decide +kernel⟩
theorem zyX8_init : zY yX8_init cX8_init 2 none 0 := ⟨ct_1 (i := 27) rfl rfl, zcX8.1, ⟨zcX8.2.1, zcX8.2.2, by decide +kernel⟩, Or.inl zpX8, by decide⟩
theorem zyX3_init : zY yX3_init cX3_init 1 none 0 := ⟨ct_1 (i := 36) rfl rfl, zcX3.1, ⟨zcX3.2.1, zcX3.2.2, by decide +kernel⟩, Or.inl zpX3, by decide⟩
theorem zyX2_init : zY yX2_init cX2_init 1 none 0 := ⟨ct_1 (i := 52) rfl rfl, zcX2.1, ⟨zcX2.2.1, zcX2.2.2, by decide +kernel⟩, Or.inl zpX2, by decide⟩
theorem zyX0_init : zY yX0_init cX0_init 1 none 0 := ⟨ct_1 (i := 85) rfl rfl, zcX0.1, ⟨zcX0.2.1, zcX0.2.2, by decide +kernel⟩, Or.inl zpX0, by decide⟩
theorem zyX2_loadOne : zY yX2_loadOne cX2_loadOne 1 none 0 := ⟨ct_1 (i := 94) rfl rfl, zcX2.1, ⟨zcX2.2.1, zcX2.2.2, by decide +kernel⟩, Or.inl zpX2, by decide⟩
theorem zyX7_init : zY yX7_init cX7_init 1 none 0 := ⟨ct_1 (i := 99) rfl rfl, zcX7.1, ⟨zcX7.2.1, zcX7.2.2, by decide +kernel⟩, Or.inl zpX7, by decide⟩
theorem zyX5_init : zY yX5_init cX5_init 1 none 0 := ⟨ct_1 (i := 112) rfl rfl, zcX5.1, ⟨zcX5.2.1, zcX5.2.2, by decide +kernel⟩, Or.inl zpX5, by decide⟩
theorem zyX6_init : zY yX6_init cX6_init 1 none 0 := ⟨ct_1 (i := 152) rfl rfl, zcX6.1, ⟨zcX6.2.1, zcX6.2.2, by decide +kernel⟩, Or.inl zpX6, by decide⟩
theorem zyX1_init : zY yX1_init cX1_init 1 none 0 := ⟨ct_1 (i := 191) rfl rfl, zcX1.1, ⟨zcX1.2.1, zcX1.2.2, by decide +kernel⟩, Or.inl zpX1, by decide⟩
theorem zyX8_letter : zY yX8_letter cX8_letter 2 (some .int) 1 := ⟨ct_2 (i := 26) rfl rfl, zcX8.1, ⟨zcX8.2.1, zcX8.2.2, by decide +kernel⟩, Or.inl zpX8, by decide⟩
theorem zyX1_byteAt : zY yX1_byteAt cX1_byteAt 2 (some .int) 1 := ⟨ct_2 (i := 30) rfl rfl, zcX1.1, ⟨zcX1.2.1, zcX1.2.2, by decide +kernel⟩, Or.inl zpX1, by decide⟩
theorem zyX8_set : zY yX8_set cX8_set 4 none 3 := ⟨ct_2 (i := 39) rfl rfl, zcX8.1, ⟨zcX8.2.1, zcX8.2.2, by decide +kernel⟩, Or.inl zpX8, by decide⟩
theorem zyX8_checkPlace : zY yX8_checkPlace cX8_checkPlace 1 none 1 := ⟨ct_2 (i := 42) rfl rfl, zcX8.1, ⟨zcX8.2.1, zcX8.2.2, by decide +kernel⟩, Or.inl zpX8, by decide⟩
theorem zyX8_checkWidth : zY yX8_checkWidth cX8_checkWidth 1 none 1 := ⟨ct_2 (i := 113) rfl rfl, zcX8.1, ⟨zcX8.2.1, zcX8.2.2, by decide +kernel⟩, Or.inl zpX8, by decide⟩
theorem zyX4_greatest : zY yX4_greatest cX4_greatest 1 (some .long) 1 := ⟨ct_2 (i := 132) rfl rfl, zcX4.1, ⟨zcX4.2.1, zcX4.2.2, by decide +kernel⟩, Or.inl zpX4, by decide⟩
theorem zyX8_pattern : zY yX8_pattern cX8_pattern 2 (some .long) 1 := ⟨ct_2 (i := 139) rfl rfl, zcX8.1, ⟨zcX8.2.1, zcX8.2.2, by decide +kernel⟩, Or.inl zpX8, by decide⟩
theorem zyX8_width : zY yX8_width cX8_width 2 (some .int) 1 := ⟨ct_2 (i := 146) rfl rfl, zcX8.1, ⟨zcX8.2.1, zcX8.2.2, by decide +kernel⟩, Or.inl zpX8, by decide⟩
theorem zyX8_take : zY yX8_take cX8_take 4 none 3 := ⟨ct_2 (i := 153) rfl rfl, zcX8.1, ⟨zcX8.2.1, zcX8.2.2, by decide +kernel⟩, Or.inl zpX8, by decide⟩
theorem zyX2_load : zY yX2_load cX2_load 16 none 2 := ⟨ct_2 (i := 157) rfl rfl, zcX2.1, ⟨zcX2.2.1, zcX2.2.2, by decide +kernel⟩, Or.inl zpX2, by decide⟩
theorem zyJ13_numberOfLeadingZeros_95d88 : zY yJ13_numberOfLeadingZeros_95d88 cJ13_numberOfLeadingZeros_95d88 3 (some .int) 1 := ⟨ct_2 (i := 161) rfl rfl, zcJ13.1, ⟨zcJ13.2.1, zcJ13.2.2, by decide +kernel⟩, Or.inl zpJ13, by decide⟩
theorem zyJ6_numberOfLeadingZeros_0f7a4 : zY yJ6_numberOfLeadingZeros_0f7a4 cJ6_numberOfLeadingZeros_0f7a4 2 (some .int) 1 := ⟨ct_2 (i := 164) rfl rfl, zcJ6.1, ⟨zcJ6.2.1, zcJ6.2.2, by decide +kernel⟩, Or.inl zpJ6, by decide⟩
theorem zyJ13_numberOfTrailingZeros_95d88 : zY yJ13_numberOfTrailingZeros_95d88 cJ13_numberOfTrailingZeros_95d88 3 (some .int) 1 := ⟨ct_2 (i := 169) rfl rfl, zcJ13.1, ⟨zcJ13.2.1, zcJ13.2.2, by decide +kernel⟩, Or.inl zpJ13, by decide⟩
theorem zyJ6_numberOfTrailingZeros_0f7a4 : zY yJ6_numberOfTrailingZeros_0f7a4 cJ6_numberOfTrailingZeros_0f7a4 2 (some .int) 1 := ⟨ct_2 (i := 172) rfl rfl, zcJ6.1, ⟨zcJ6.2.1, zcJ6.2.2, by decide +kernel⟩, Or.inl zpJ6, by decide⟩
theorem zyX0_same : zY yX0_same cX0_same 3 (some .long) 2 := ⟨ct_2 (i := 176) rfl rfl, zcX0.1, ⟨zcX0.2.1, zcX0.2.2, by decide +kernel⟩, Or.inl zpX0, by decide⟩
theorem zyX4_notReal : zY yX4_notReal cX4_notReal 1 (some .long) 1 := ⟨ct_2 (i := 179) rfl rfl, zcX4.1, ⟨zcX4.2.1, zcX4.2.2, by decide +kernel⟩, Or.inl zpX4, by decide⟩
theorem zyX4_ofLong : zY yX4_ofLong cX4_ofLong 13 (some .long) 5 := ⟨ct_2 (i := 182) rfl rfl, zcX4.1, ⟨zcX4.2.1, zcX4.2.2, by decide +kernel⟩, Or.inl zpX4, by decide⟩
theorem zyX4_ofSize : zY yX4_ofSize cX4_ofSize 21 (some .long) 4 := ⟨ct_2 (i := 186) rfl rfl, zcX4.1, ⟨zcX4.2.1, zcX4.2.2, by decide +kernel⟩, Or.inl zpX4, by decide⟩
theorem zyX8_ratio : zY yX8_ratio cX8_ratio 6 none 3 := ⟨ct_2 (i := 194) rfl rfl, zcX8.1, ⟨zcX8.2.1, zcX8.2.2, by decide +kernel⟩, Or.inl zpX8, by decide⟩
theorem zyX0_ratioOf : zY yX0_ratioOf cX0_ratioOf 6 (some .long) 3 := ⟨ct_2 (i := 198) rfl rfl, zcX0.1, ⟨zcX0.2.1, zcX0.2.2, by decide +kernel⟩, Or.inl zpX0, by decide⟩
theorem zyX7_put : zY yX7_put cX7_put 3 none 1 := ⟨ct_2 (i := 202) rfl rfl, zcX7.1, ⟨zcX7.2.1, zcX7.2.2, by decide +kernel⟩, Or.inl zpX7, by decide⟩
theorem zyX7_trim : zY yX7_trim cX7_trim 2 none 0 := ⟨ct_2 (i := 206) rfl rfl, zcX7.1, ⟨zcX7.2.1, zcX7.2.2, by decide +kernel⟩, Or.inl zpX7, by decide⟩
theorem zyX0_divided : zY yX0_divided cX0_divided 7 (some .long) 3 := ⟨ct_2 (i := 210) rfl rfl, zcX0.1, ⟨zcX0.2.1, zcX0.2.2, by decide +kernel⟩, Or.inl zpX0, by decide⟩
theorem zyX7_isNought : zY yX7_isNought cX7_isNought 1 (some .boolean) 0 := ⟨ct_2 (i := 214) rfl rfl, zcX7.1, ⟨zcX7.2.1, zcX7.2.2, by decide +kernel⟩, Or.inl zpX7, by decide⟩
theorem zyX7_bits : zY yX7_bits cX7_bits 1 (some .int) 0 := ⟨ct_2 (i := 218) rfl rfl, zcX7.1, ⟨zcX7.2.1, zcX7.2.2, by decide +kernel⟩, Or.inl zpX7, by decide⟩
theorem zyX7_copy : zY yX7_copy cX7_copy 2 none 1 := ⟨ct_2 (i := 223) rfl rfl, zcX7.1, ⟨zcX7.2.1, zcX7.2.2, by decide +kernel⟩, Or.inl zpX7, by decide⟩
theorem zyJ9_max_7cf53 : zY yJ9_max_7cf53 cJ9_max_7cf53 2 (some .int) 2 := ⟨ct_2 (i := 229) rfl rfl, zcJ9.1, ⟨zcJ9.2.1, zcJ9.2.2, by decide +kernel⟩, Or.inr (by decide +kernel), by decide⟩
theorem zyX7_shiftUp : zY yX7_shiftUp cX7_shiftUp 7 none 1 := ⟨ct_2 (i := 233) rfl rfl, zcX7.1, ⟨zcX7.2.1, zcX7.2.2, by decide +kernel⟩, Or.inl zpX7, by decide⟩
theorem zyX7_wordAt : zY yX7_wordAt cX7_wordAt 2 (some .long) 1 := ⟨ct_2 (i := 237) rfl rfl, zcX7.1, ⟨zcX7.2.1, zcX7.2.2, by decide +kernel⟩, Or.inl zpX7, by decide⟩
theorem zyX5_seek : zY yX5_seek cX5_seek 8 (some .long) 1 := ⟨ct_3 (i := 2) rfl rfl, zcX5.1, ⟨zcX5.2.1, zcX5.2.2, by decide +kernel⟩, Or.inl zpX5, by decide⟩
theorem zyX7_growOften : zY yX7_growOften cX7_growOften 5 none 2 := ⟨ct_3 (i := 7) rfl rfl, zcX7.1, ⟨zcX7.2.1, zcX7.2.2, by decide +kernel⟩, Or.inl zpX7, by decide⟩
theorem zyX7_grow : zY yX7_grow cX7_grow 10 none 2 := ⟨ct_3 (i := 11) rfl rfl, zcX7.1, ⟨zcX7.2.1, zcX7.2.2, by decide +kernel⟩, Or.inl zpX7, by decide⟩
theorem zyX7_against : zY yX7_against cX7_against 7 (some .int) 1 := ⟨ct_3 (i := 15) rfl rfl, zcX7.1, ⟨zcX7.2.1, zcX7.2.2, by decide +kernel⟩, Or.inl zpX7, by decide⟩
theorem zyX8_whole : zY yX8_whole cX8_whole 2 (some .long) 1 := ⟨ct_3 (i := 23) rfl rfl, zcX8.1, ⟨zcX8.2.1, zcX8.2.2, by decide +kernel⟩, Or.inl zpX8, by decide⟩
theorem zyX2_passesLong : zY yX2_passesLong cX2_passesLong 2 (some .boolean) 0 := ⟨ct_3 (i := 27) rfl rfl, zcX2.1, ⟨zcX2.2.1, zcX2.2.2, by decide +kernel⟩, Or.inl zpX2, by decide⟩
theorem zyX2_scale : zY yX2_scale cX2_scale 1 (some .int) 0 := ⟨ct_3 (i := 31) rfl rfl, zcX2.1, ⟨zcX2.2.1, zcX2.2.2, by decide +kernel⟩, Or.inl zpX2, by decide⟩
theorem zyX2_nearestLong : zY yX2_nearestLong cX2_nearestLong 3 (some .long) 0 := ⟨ct_3 (i := 51) rfl rfl, zcX2.1, ⟨zcX2.2.1, zcX2.2.2, by decide +kernel⟩, Or.inl zpX2, by decide⟩
theorem zyX2_isWhole : zY yX2_isWhole cX2_isWhole 1 (some .boolean) 0 := ⟨ct_3 (i := 55) rfl rfl, zcX2.1, ⟨zcX2.2.1, zcX2.2.2, by decide +kernel⟩, Or.inl zpX2, by decide⟩
theorem zyX2_nearestSize : zY yX2_nearestSize cX2_nearestSize 7 (some .long) 0 := ⟨ct_3 (i := 59) rfl rfl, zcX2.1, ⟨zcX2.2.1, zcX2.2.2, by decide +kernel⟩, Or.inl zpX2, by decide⟩
theorem zyX2_sizeDown : zY yX2_sizeDown cX2_sizeDown 1 (some .long) 0 := ⟨ct_3 (i := 63) rfl rfl, zcX2.1, ⟨zcX2.2.1, zcX2.2.2, by decide +kernel⟩, Or.inl zpX2, by decide⟩
theorem zyX8_order : zY yX8_order cX8_order 3 (some .int) 2 := ⟨ct_3 (i := 70) rfl rfl, zcX8.1, ⟨zcX8.2.1, zcX8.2.2, by decide +kernel⟩, Or.inl zpX8, by decide⟩
theorem zyX8_rank : zY yX8_rank cX8_rank 2 (some .long) 1 := ⟨ct_3 (i := 74) rfl rfl, zcX8.1, ⟨zcX8.2.1, zcX8.2.2, by decide +kernel⟩, Or.inl zpX8, by decide⟩
theorem zyJ13_compare_74951 : zY yJ13_compare_74951 cJ13_compare_74951 4 (some .int) 2 := ⟨ct_3 (i := 77) rfl rfl, zcJ13.1, ⟨zcJ13.2.1, zcJ13.2.2, by decide +kernel⟩, Or.inl zpJ13, by decide⟩
theorem zyX8_add : zY yX8_add cX8_add 4 none 3 := ⟨ct_3 (i := 84) rfl rfl, zcX8.1, ⟨zcX8.2.1, zcX8.2.2, by decide +kernel⟩, Or.inl zpX8, by decide⟩
theorem zyX8_loadBoth : zY yX8_loadBoth cX8_loadBoth 4 none 3 := ⟨ct_3 (i := 88) rfl rfl, zcX8.1, ⟨zcX8.2.1, zcX8.2.2, by decide +kernel⟩, Or.inl zpX8, by decide⟩
theorem zyX0_sumOf : zY yX0_sumOf cX0_sumOf 5 (some .long) 4 := ⟨ct_3 (i := 92) rfl rfl, zcX0.1, ⟨zcX0.2.1, zcX0.2.2, by decide +kernel⟩, Or.inl zpX0, by decide⟩
theorem zyX3_empty : zY yX3_empty cX3_empty 2 none 0 := ⟨ct_3 (i := 96) rfl rfl, zcX3.1, ⟨zcX3.2.1, zcX3.2.2, by decide +kernel⟩, Or.inl zpX3, by decide⟩
theorem zyX3_bring : zY yX3_bring cX3_bring 15 none 3 := ⟨ct_3 (i := 100) rfl rfl, zcX3.1, ⟨zcX3.2.1, zcX3.2.2, by decide +kernel⟩, Or.inl zpX3, by decide⟩
theorem zyX3_partOf : zY yX3_partOf cX3_partOf 3 (some .long) 2 := ⟨ct_3 (i := 103) rfl rfl, zcX3.1, ⟨zcX3.2.1, zcX3.2.2, by decide +kernel⟩, Or.inl zpX3, by decide⟩
theorem zyX0_settled : zY yX0_settled cX0_settled 3 (some .long) 2 := ⟨ct_3 (i := 108) rfl rfl, zcX0.1, ⟨zcX0.2.1, zcX0.2.2, by decide +kernel⟩, Or.inl zpX0, by decide⟩
theorem zyX3_copySize : zY yX3_copySize cX3_copySize 2 none 1 := ⟨ct_3 (i := 112) rfl rfl, zcX3.1, ⟨zcX3.2.1, zcX3.2.2, by decide +kernel⟩, Or.inl zpX3, by decide⟩
theorem zyX3_isMinus : zY yX3_isMinus cX3_isMinus 1 (some .boolean) 0 := ⟨ct_3 (i := 116) rfl rfl, zcX3.1, ⟨zcX3.2.1, zcX3.2.2, by decide +kernel⟩, Or.inl zpX3, by decide⟩
theorem zyX7_copyWords : zY yX7_copyWords cX7_copyWords 8 none 2 := ⟨ct_3 (i := 120) rfl rfl, zcX7.1, ⟨zcX7.2.1, zcX7.2.2, by decide +kernel⟩, Or.inl zpX7, by decide⟩
theorem zyX4_ofWide : zY yX4_ofWide cX4_ofWide 5 (some .long) 4 := ⟨ct_3 (i := 124) rfl rfl, zcX4.1, ⟨zcX4.2.1, zcX4.2.2, by decide +kernel⟩, Or.inl zpX4, by decide⟩
theorem zyX7_window : zY yX7_window cX7_window 6 (some .long) 1 := ⟨ct_3 (i := 130) rfl rfl, zcX7.1, ⟨zcX7.2.1, zcX7.2.2, by decide +kernel⟩, Or.inl zpX7, by decide⟩
theorem zyX7_anyBelow : zY yX7_anyBelow cX7_anyBelow 4 (some .boolean) 1 := ⟨ct_3 (i := 134) rfl rfl, zcX7.1, ⟨zcX7.2.1, zcX7.2.2, by decide +kernel⟩, Or.inl zpX7, by decide⟩
theorem zyX8_less : zY yX8_less cX8_less 4 none 3 := ⟨ct_3 (i := 142) rfl rfl, zcX8.1, ⟨zcX8.2.1, zcX8.2.2, by decide +kernel⟩, Or.inl zpX8, by decide⟩
theorem zyX8_times : zY yX8_times cX8_times 4 none 3 := ⟨ct_3 (i := 149) rfl rfl, zcX8.1, ⟨zcX8.2.1, zcX8.2.2, by decide +kernel⟩, Or.inl zpX8, by decide⟩
theorem zyX0_productOf : zY yX0_productOf cX0_productOf 5 (some .long) 3 := ⟨ct_3 (i := 153) rfl rfl, zcX0.1, ⟨zcX0.2.1, zcX0.2.2, by decide +kernel⟩, Or.inl zpX0, by decide⟩
theorem zyX8_over : zY yX8_over cX8_over 4 none 3 := ⟨ct_3 (i := 160) rfl rfl, zcX8.1, ⟨zcX8.2.1, zcX8.2.2, by decide +kernel⟩, Or.inl zpX8, by decide⟩
theorem zyX0_quotientOf : zY yX0_quotientOf cX0_quotientOf 4 (some .long) 3 := ⟨ct_3 (i := 164) rfl rfl, zcX0.1, ⟨zcX0.2.1, zcX0.2.2, by decide +kernel⟩, Or.inl zpX0, by decide⟩
theorem zyX8_fused : zY yX8_fused cX8_fused 4 none 3 := ⟨ct_3 (i := 171) rfl rfl, zcX8.1, ⟨zcX8.2.1, zcX8.2.2, by decide +kernel⟩, Or.inl zpX8, by decide⟩
theorem zyX0_fusedOf : zY yX0_fusedOf cX0_fusedOf 5 (some .long) 4 := ⟨ct_3 (i := 175) rfl rfl, zcX0.1, ⟨zcX0.2.1, zcX0.2.2, by decide +kernel⟩, Or.inl zpX0, by decide⟩
theorem zyX8_root : zY yX8_root cX8_root 4 none 3 := ⟨ct_3 (i := 182) rfl rfl, zcX8.1, ⟨zcX8.2.1, zcX8.2.2, by decide +kernel⟩, Or.inl zpX8, by decide⟩
theorem zyX0_rootOf : zY yX0_rootOf cX0_rootOf 7 (some .long) 3 := ⟨ct_3 (i := 187) rfl rfl, zcX0.1, ⟨zcX0.2.1, zcX0.2.2, by decide +kernel⟩, Or.inl zpX0, by decide⟩
theorem zyJ9_floorDiv_7cf53 : zY yJ9_floorDiv_7cf53 cJ9_floorDiv_7cf53 3 (some .int) 2 := ⟨ct_3 (i := 191) rfl rfl, zcJ9.1, ⟨zcJ9.2.1, zcJ9.2.2, by decide +kernel⟩, Or.inr (by decide +kernel), by decide⟩
theorem zyX8_under : zY yX8_under cX8_under 3 none 2 := ⟨ct_3 (i := 198) rfl rfl, zcX8.1, ⟨zcX8.2.1, zcX8.2.2, by decide +kernel⟩, Or.inl zpX8, by decide⟩
theorem zyX0_inverseRootOf : zY yX0_inverseRootOf cX0_inverseRootOf 10 (some .long) 2 := ⟨ct_3 (i := 202) rfl rfl, zcX0.1, ⟨zcX0.2.1, zcX0.2.2, by decide +kernel⟩, Or.inl zpX0, by decide⟩
theorem zyX8_far : zY yX8_far cX8_far 4 none 3 := ⟨ct_3 (i := 209) rfl rfl, zcX8.1, ⟨zcX8.2.1, zcX8.2.2, by decide +kernel⟩, Or.inl zpX8, by decide⟩
theorem zyX0_distanceOf : zY yX0_distanceOf cX0_distanceOf 7 (some .long) 3 := ⟨ct_3 (i := 213) rfl rfl, zcX0.1, ⟨zcX0.2.1, zcX0.2.2, by decide +kernel⟩, Or.inl zpX0, by decide⟩
theorem zyX8_power : zY yX8_power cX8_power 4 none 3 := ⟨ct_3 (i := 220) rfl rfl, zcX8.1, ⟨zcX8.2.1, zcX8.2.2, by decide +kernel⟩, Or.inl zpX8, by decide⟩
theorem zyX0_powerOf : zY yX0_powerOf cX0_powerOf 5 (some .long) 3 := ⟨ct_3 (i := 225) rfl rfl, zcX0.1, ⟨zcX0.2.1, zcX0.2.2, by decide +kernel⟩, Or.inl zpX0, by decide⟩
theorem zyJ9_abs_0f7a4 : zY yJ9_abs_0f7a4 cJ9_abs_0f7a4 1 (some .int) 1 := ⟨ct_3 (i := 228) rfl rfl, zcJ9.1, ⟨zcJ9.2.1, zcJ9.2.2, by decide +kernel⟩, Or.inr (by decide +kernel), by decide⟩
theorem zyX8_turn : zY yX8_turn cX8_turn 3 none 2 := ⟨ct_3 (i := 236) rfl rfl, zcX8.1, ⟨zcX8.2.1, zcX8.2.2, by decide +kernel⟩, Or.inl zpX8, by decide⟩
theorem zyX8_turned : zY yX8_turned cX8_turned 7 (some .long) 3 := ⟨ct_4 (i := 1) rfl rfl, zcX8.1, ⟨zcX8.2.1, zcX8.2.2, by decide +kernel⟩, Or.inl zpX8, by decide⟩
theorem zyX8_turnedWhole : zY yX8_turnedWhole cX8_turnedWhole 8 (some .long) 3 := ⟨ct_4 (i := 6) rfl rfl, zcX8.1, ⟨zcX8.2.1, zcX8.2.2, by decide +kernel⟩, Or.inl zpX8, by decide⟩
theorem zyX8_clear : zY yX8_clear cX8_clear 2 none 1 := ⟨ct_4 (i := 16) rfl rfl, zcX8.1, ⟨zcX8.2.1, zcX8.2.2, by decide +kernel⟩, Or.inl zpX8, by decide⟩
theorem zyX8_checkQuire : zY yX8_checkQuire cX8_checkQuire 1 none 1 := ⟨ct_4 (i := 19) rfl rfl, zcX8.1, ⟨zcX8.2.1, zcX8.2.2, by decide +kernel⟩, Or.inl zpX8, by decide⟩
theorem zyX8_gather : zY yX8_gather cX8_gather 5 none 4 := ⟨ct_4 (i := 28) rfl rfl, zcX8.1, ⟨zcX8.2.1, zcX8.2.2, by decide +kernel⟩, Or.inl zpX8, by decide⟩
theorem zyX8_dot : zY yX8_dot cX8_dot 6 none 4 := ⟨ct_4 (i := 36) rfl rfl, zcX8.1, ⟨zcX8.2.1, zcX8.2.2, by decide +kernel⟩, Or.inl zpX8, by decide⟩
theorem zyX8_settle : zY yX8_settle cX8_settle 3 none 2 := ⟨ct_4 (i := 44) rfl rfl, zcX8.1, ⟨zcX8.2.1, zcX8.2.2, by decide +kernel⟩, Or.inl zpX8, by decide⟩
theorem zyX8_image : zY yX8_image cX8_image 3 (some .int) 2 := ⟨ct_4 (i := 52) rfl rfl, zcX8.1, ⟨zcX8.2.1, zcX8.2.2, by decide +kernel⟩, Or.inl zpX8, by decide⟩
theorem zyX3_wordOfImage : zY yX3_wordOfImage cX3_wordOfImage 2 (some .int) 1 := ⟨ct_4 (i := 57) rfl rfl, zcX3.1, ⟨zcX3.2.1, zcX3.2.2, by decide +kernel⟩, Or.inl zpX3, by decide⟩
theorem zyX8_feed : zY yX8_feed cX8_feed 5 (some .int) 2 := ⟨ct_4 (i := 65) rfl rfl, zcX8.1, ⟨zcX8.2.1, zcX8.2.2, by decide +kernel⟩, Or.inl zpX8, by decide⟩
theorem zyX6_append : zY yX6_append cX6_append 2 none 1 := ⟨ct_4 (i := 70) rfl rfl, zcX6.1, ⟨zcX6.2.1, zcX6.2.2, by decide +kernel⟩, Or.inl zpX6, by decide⟩
theorem zyX8_read : zY yX8_read cX8_read 4 (some .int) 1 := ⟨ct_4 (i := 77) rfl rfl, zcX8.1, ⟨zcX8.2.1, zcX8.2.2, by decide +kernel⟩, Or.inl zpX8, by decide⟩
theorem zyX6_scan : zY yX6_scan cX6_scan 2 (some .boolean) 0 := ⟨ct_4 (i := 81) rfl rfl, zcX6.1, ⟨zcX6.2.1, zcX6.2.2, by decide +kernel⟩, Or.inl zpX6, by decide⟩
theorem zyX6_here : zY yX6_here cX6_here 1 (some .int) 0 := ⟨ct_4 (i := 86) rfl rfl, zcX6.1, ⟨zcX6.2.1, zcX6.2.2, by decide +kernel⟩, Or.inl zpX6, by decide⟩
theorem zyX6_pass : zY yX6_pass cX6_pass 3 (some .boolean) 1 := ⟨ct_4 (i := 90) rfl rfl, zcX6.1, ⟨zcX6.2.1, zcX6.2.2, by decide +kernel⟩, Or.inl zpX6, by decide⟩
theorem zyX6_scanDigits : zY yX6_scanDigits cX6_scanDigits 3 (some .boolean) 0 := ⟨ct_4 (i := 94) rfl rfl, zcX6.1, ⟨zcX6.2.1, zcX6.2.2, by decide +kernel⟩, Or.inl zpX6, by decide⟩
theorem zyX6_isDigit : zY yX6_isDigit cX6_isDigit 1 (some .boolean) 0 := ⟨ct_4 (i := 98) rfl rfl, zcX6.1, ⟨zcX6.2.1, zcX6.2.2, by decide +kernel⟩, Or.inl zpX6, by decide⟩
theorem zyX6_scanPower : zY yX6_scanPower cX6_scanPower 4 (some .boolean) 0 := ⟨ct_4 (i := 104) rfl rfl, zcX6.1, ⟨zcX6.2.1, zcX6.2.2, by decide +kernel⟩, Or.inl zpX6, by decide⟩
theorem zyX0_decimalOf : zY yX0_decimalOf cX0_decimalOf 6 (some .long) 4 := ⟨ct_4 (i := 109) rfl rfl, zcX0.1, ⟨zcX0.2.1, zcX0.2.2, by decide +kernel⟩, Or.inl zpX0, by decide⟩
theorem zyJ9_min_7cf53 : zY yJ9_min_7cf53 cJ9_min_7cf53 2 (some .int) 2 := ⟨ct_4 (i := 112) rfl rfl, zcJ9.1, ⟨zcJ9.2.1, zcJ9.2.2, by decide +kernel⟩, Or.inr (by decide +kernel), by decide⟩
theorem zyX8_write : zY yX8_write cX8_write 3 (some .int) 2 := ⟨ct_4 (i := 120) rfl rfl, zcX8.1, ⟨zcX8.2.1, zcX8.2.2, by decide +kernel⟩, Or.inl zpX8, by decide⟩
theorem zyX1_putNaR : zY yX1_putNaR cX1_putNaR 1 none 0 := ⟨ct_4 (i := 124) rfl rfl, zcX1.1, ⟨zcX1.2.1, zcX1.2.2, by decide +kernel⟩, Or.inl zpX1, by decide⟩
theorem zyX1_append : zY yX1_append cX1_append 2 none 1 := ⟨ct_4 (i := 128) rfl rfl, zcX1.1, ⟨zcX1.2.1, zcX1.2.2, by decide +kernel⟩, Or.inl zpX1, by decide⟩
theorem zyX1_putNought : zY yX1_putNought cX1_putNought 1 none 0 := ⟨ct_4 (i := 132) rfl rfl, zcX1.1, ⟨zcX1.2.1, zcX1.2.2, by decide +kernel⟩, Or.inl zpX1, by decide⟩
theorem zyX1_putShort : zY yX1_putShort cX1_putShort 7 none 3 := ⟨ct_4 (i := 136) rfl rfl, zcX1.1, ⟨zcX1.2.1, zcX1.2.2, by decide +kernel⟩, Or.inl zpX1, by decide⟩
theorem zyX1_loadBounds : zY yX1_loadBounds cX1_loadBounds 5 none 3 := ⟨ct_4 (i := 140) rfl rfl, zcX1.1, ⟨zcX1.2.1, zcX1.2.2, by decide +kernel⟩, Or.inl zpX1, by decide⟩
theorem zyX1_loadUnits : zY yX1_loadUnits cX1_loadUnits 2 none 2 := ⟨ct_4 (i := 144) rfl rfl, zcX1.1, ⟨zcX1.2.1, zcX1.2.2, by decide +kernel⟩, Or.inl zpX1, by decide⟩
theorem zyX7_lower : zY yX7_lower cX7_lower 7 none 1 := ⟨ct_4 (i := 153) rfl rfl, zcX7.1, ⟨zcX7.2.1, zcX7.2.2, by decide +kernel⟩, Or.inl zpX7, by decide⟩
theorem zyX1_scaleToOneDigit : zY yX1_scaleToOneDigit cX1_scaleToOneDigit 2 none 0 := ⟨ct_4 (i := 157) rfl rfl, zcX1.1, ⟨zcX1.2.1, zcX1.2.2, by decide +kernel⟩, Or.inl zpX1, by decide⟩
theorem zyX1_growParts : zY yX1_growParts cX1_growParts 1 none 0 := ⟨ct_4 (i := 164) rfl rfl, zcX1.1, ⟨zcX1.2.1, zcX1.2.2, by decide +kernel⟩, Or.inl zpX1, by decide⟩
theorem zyX1_putDigit : zY yX1_putDigit cX1_putDigit 6 (some .boolean) 1 := ⟨ct_4 (i := 168) rfl rfl, zcX1.1, ⟨zcX1.2.1, zcX1.2.2, by decide +kernel⟩, Or.inl zpX1, by decide⟩
theorem zyX1_fits : zY yX1_fits cX1_fits 4 (some .boolean) 2 := ⟨ct_4 (i := 172) rfl rfl, zcX1.1, ⟨zcX1.2.1, zcX1.2.2, by decide +kernel⟩, Or.inl zpX1, by decide⟩
theorem zyX1_putPower : zY yX1_putPower cX1_putPower 2 none 0 := ⟨ct_4 (i := 176) rfl rfl, zcX1.1, ⟨zcX1.2.1, zcX1.2.2, by decide +kernel⟩, Or.inl zpX1, by decide⟩
theorem zyX1_putFull : zY yX1_putFull cX1_putFull 4 none 1 := ⟨ct_4 (i := 181) rfl rfl, zcX1.1, ⟨zcX1.2.1, zcX1.2.2, by decide +kernel⟩, Or.inl zpX1, by decide⟩
theorem zyX7_cutDigit : zY yX7_cutDigit cX7_cutDigit 6 (some .int) 0 := ⟨ct_4 (i := 189) rfl rfl, zcX7.1, ⟨zcX7.2.1, zcX7.2.2, by decide +kernel⟩, Or.inl zpX7, by decide⟩
theorem zyX1_reverse : zY yX1_reverse cX1_reverse 3 none 0 := ⟨ct_4 (i := 194) rfl rfl, zcX1.1, ⟨zcX1.2.1, zcX1.2.2, by decide +kernel⟩, Or.inl zpX1, by decide⟩
theorem zyX11_init : zY yX11_init cX11_init 2 none 0 := ⟨ct_4 (i := 199) rfl rfl, zcX11.1, ⟨zcX11.2.1, zcX11.2.2, by decide +kernel⟩, Or.inl zpX11, by decide⟩
theorem zyX9_init : zY yX9_init cX9_init 1 none 0 := ⟨ct_4 (i := 205) rfl rfl, zcX9.1, ⟨zcX9.2.1, zcX9.2.2, by decide +kernel⟩, Or.inl zpX9, by decide⟩
theorem zyX10_init : zY yX10_init cX10_init 1 none 0 := ⟨ct_4 (i := 222) rfl rfl, zcX10.1, ⟨zcX10.2.1, zcX10.2.2, by decide +kernel⟩, Or.inl zpX10, by decide⟩
theorem zyX11_thrown : zY yX11_thrown cX11_thrown 1 (some .int) 0 := ⟨ct_5 (i := 102) rfl rfl, zcX11.1, ⟨zcX11.2.1, zcX11.2.2, by decide +kernel⟩, Or.inl zpX11, by decide⟩
theorem zyX11_set : zY yX11_set cX11_set 4 none 3 := ⟨ct_5 (i := 106) rfl rfl, zcX11.1, ⟨zcX11.2.1, zcX11.2.2, by decide +kernel⟩, Or.inl zpX11, by decide⟩
theorem zyX11_isPlace : zY yX11_isPlace cX11_isPlace 1 (some .boolean) 1 := ⟨ct_5 (i := 109) rfl rfl, zcX11.1, ⟨zcX11.2.1, zcX11.2.2, by decide +kernel⟩, Or.inl zpX11, by decide⟩
theorem zyX11_isWidth : zY yX11_isWidth cX11_isWidth 1 (some .boolean) 1 := ⟨ct_5 (i := 112) rfl rfl, zcX11.1, ⟨zcX11.2.1, zcX11.2.2, by decide +kernel⟩, Or.inl zpX11, by decide⟩
theorem zyX11_goes : zY yX11_goes cX11_goes 3 (some .boolean) 2 := ⟨ct_5 (i := 116) rfl rfl, zcX11.1, ⟨zcX11.2.1, zcX11.2.2, by decide +kernel⟩, Or.inl zpX11, by decide⟩
theorem zyX11_pattern : zY yX11_pattern cX11_pattern 2 (some .long) 1 := ⟨ct_5 (i := 120) rfl rfl, zcX11.1, ⟨zcX11.2.1, zcX11.2.2, by decide +kernel⟩, Or.inl zpX11, by decide⟩
theorem zyX11_width : zY yX11_width cX11_width 2 (some .int) 1 := ⟨ct_5 (i := 124) rfl rfl, zcX11.1, ⟨zcX11.2.1, zcX11.2.2, by decide +kernel⟩, Or.inl zpX11, by decide⟩
theorem zyX11_take : zY yX11_take cX11_take 5 none 3 := ⟨ct_5 (i := 128) rfl rfl, zcX11.1, ⟨zcX11.2.1, zcX11.2.2, by decide +kernel⟩, Or.inl zpX11, by decide⟩
theorem zyX11_isNar : zY yX11_isNar cX11_isNar 2 (some .boolean) 1 := ⟨ct_5 (i := 132) rfl rfl, zcX11.1, ⟨zcX11.2.1, zcX11.2.2, by decide +kernel⟩, Or.inl zpX11, by decide⟩
theorem zyX11_takeValue : zY yX11_takeValue cX11_takeValue 2 none 1 := ⟨ct_5 (i := 136) rfl rfl, zcX11.1, ⟨zcX11.2.1, zcX11.2.2, by decide +kernel⟩, Or.inl zpX11, by decide⟩
theorem zyX11_look : zY yX11_look cX11_look 5 none 1 := ⟨ct_5 (i := 140) rfl rfl, zcX11.1, ⟨zcX11.2.1, zcX11.2.2, by decide +kernel⟩, Or.inl zpX11, by decide⟩
theorem zyX11_decode : zY yX11_decode cX11_decode 9 none 2 := ⟨ct_5 (i := 144) rfl rfl, zcX11.1, ⟨zcX11.2.1, zcX11.2.2, by decide +kernel⟩, Or.inl zpX11, by decide⟩
theorem zyX11_begin : zY yX11_begin cX11_begin 2 none 1 := ⟨ct_5 (i := 149) rfl rfl, zcX11.1, ⟨zcX11.2.1, zcX11.2.2, by decide +kernel⟩, Or.inl zpX11, by decide⟩
theorem zyX9_set : zY yX9_set cX9_set 5 none 1 := ⟨ct_5 (i := 153) rfl rfl, zcX9.1, ⟨zcX9.2.1, zcX9.2.2, by decide +kernel⟩, Or.inl zpX9, by decide⟩
theorem zyX11_becomeNar : zY yX11_becomeNar cX11_becomeNar 2 none 1 := ⟨ct_5 (i := 158) rfl rfl, zcX11.1, ⟨zcX11.2.1, zcX11.2.2, by decide +kernel⟩, Or.inl zpX11, by decide⟩
theorem zyX11_become : zY yX11_become cX11_become 2 none 1 := ⟨ct_5 (i := 162) rfl rfl, zcX11.1, ⟨zcX11.2.1, zcX11.2.2, by decide +kernel⟩, Or.inl zpX11, by decide⟩
theorem zyX11_rounded : zY yX11_rounded cX11_rounded 4 (some .long) 1 := ⟨ct_5 (i := 166) rfl rfl, zcX11.1, ⟨zcX11.2.1, zcX11.2.2, by decide +kernel⟩, Or.inl zpX11, by decide⟩
theorem zyX11_roundedSize : zY yX11_roundedSize cX11_roundedSize 10 (some .long) 1 := ⟨ct_5 (i := 170) rfl rfl, zcX11.1, ⟨zcX11.2.1, zcX11.2.2, by decide +kernel⟩, Or.inl zpX11, by decide⟩
theorem zyX11_compareTo : zY yX11_compareTo cX11_compareTo 4 (some .int) 2 := ⟨ct_5 (i := 174) rfl rfl, zcX11.1, ⟨zcX11.2.1, zcX11.2.2, by decide +kernel⟩, Or.inl zpX11, by decide⟩
theorem zyX11_compare : zY yX11_compare cX11_compare 6 (some .int) 2 := ⟨ct_5 (i := 178) rfl rfl, zcX11.1, ⟨zcX11.2.1, zcX11.2.2, by decide +kernel⟩, Or.inl zpX11, by decide⟩
theorem zyX9_copy : zY yX9_copy cX9_copy 3 none 1 := ⟨ct_5 (i := 182) rfl rfl, zcX9.1, ⟨zcX9.2.1, zcX9.2.2, by decide +kernel⟩, Or.inl zpX9, by decide⟩
theorem zyX9_times : zY yX9_times cX9_times 7 none 2 := ⟨ct_5 (i := 186) rfl rfl, zcX9.1, ⟨zcX9.2.1, zcX9.2.2, by decide +kernel⟩, Or.inl zpX9, by decide⟩
theorem zyX9_bits : zY yX9_bits cX9_bits 1 (some .int) 0 := ⟨ct_5 (i := 190) rfl rfl, zcX9.1, ⟨zcX9.2.1, zcX9.2.2, by decide +kernel⟩, Or.inl zpX9, by decide⟩
theorem zyX9_shift : zY yX9_shift cX9_shift 9 none 1 := ⟨ct_5 (i := 195) rfl rfl, zcX9.1, ⟨zcX9.2.1, zcX9.2.2, by decide +kernel⟩, Or.inl zpX9, by decide⟩
theorem zyX9_trim : zY yX9_trim cX9_trim 2 none 1 := ⟨ct_5 (i := 199) rfl rfl, zcX9.1, ⟨zcX9.2.1, zcX9.2.2, by decide +kernel⟩, Or.inl zpX9, by decide⟩
theorem zyX9_compare : zY yX9_compare cX9_compare 3 (some .int) 1 := ⟨ct_5 (i := 203) rfl rfl, zcX9.1, ⟨zcX9.2.1, zcX9.2.2, by decide +kernel⟩, Or.inl zpX9, by decide⟩
theorem zyX11_ratio : zY yX11_ratio cX11_ratio 6 none 3 := ⟨ct_5 (i := 208) rfl rfl, zcX11.1, ⟨zcX11.2.1, zcX11.2.2, by decide +kernel⟩, Or.inl zpX11, by decide⟩
theorem zyX11_whole : zY yX11_whole cX11_whole 6 (some .long) 1 := ⟨ct_5 (i := 212) rfl rfl, zcX11.1, ⟨zcX11.2.1, zcX11.2.2, by decide +kernel⟩, Or.inl zpX11, by decide⟩
theorem zyX11_wholeOf : zY yX11_wholeOf cX11_wholeOf 9 (some .int) 1 := ⟨ct_5 (i := 216) rfl rfl, zcX11.1, ⟨zcX11.2.1, zcX11.2.2, by decide +kernel⟩, Or.inl zpX11, by decide⟩
theorem zyX9_bit : zY yX9_bit cX9_bit 2 (some .int) 1 := ⟨ct_5 (i := 222) rfl rfl, zcX9.1, ⟨zcX9.2.1, zcX9.2.2, by decide +kernel⟩, Or.inl zpX9, by decide⟩
theorem zyX11_isPower : zY yX11_isPower cX11_isPower 3 (some .boolean) 1 := ⟨ct_5 (i := 225) rfl rfl, zcX11.1, ⟨zcX11.2.1, zcX11.2.2, by decide +kernel⟩, Or.inl zpX11, by decide⟩
theorem zyJ6_bitCount_0f7a4 : zY yJ6_bitCount_0f7a4 cJ6_bitCount_0f7a4 1 (some .int) 1 := ⟨ct_5 (i := 228) rfl rfl, zcJ6.1, ⟨zcJ6.2.1, zcJ6.2.2, by decide +kernel⟩, Or.inl zpJ6, by decide⟩
theorem zyX11_order : zY yX11_order cX11_order 3 (some .int) 2 := ⟨ct_5 (i := 235) rfl rfl, zcX11.1, ⟨zcX11.2.1, zcX11.2.2, by decide +kernel⟩, Or.inl zpX11, by decide⟩
theorem zyX10_clear : zY yX10_clear cX10_clear 1 none 0 := ⟨ct_5 (i := 239) rfl rfl, zcX10.1, ⟨zcX10.2.1, zcX10.2.2, by decide +kernel⟩, Or.inl zpX10, by decide⟩
theorem zyX11_gatherOne : zY yX11_gatherOne cX11_gatherOne 4 none 3 := ⟨ct_6 (i := 3) rfl rfl, zcX11.1, ⟨zcX11.2.1, zcX11.2.2, by decide +kernel⟩, Or.inl zpX11, by decide⟩
theorem zyX11_gather : zY yX11_gather cX11_gather 4 none 2 := ⟨ct_6 (i := 7) rfl rfl, zcX11.1, ⟨zcX11.2.1, zcX11.2.2, by decide +kernel⟩, Or.inl zpX11, by decide⟩
theorem zyX9_add : zY yX9_add cX9_add 7 none 1 := ⟨ct_6 (i := 11) rfl rfl, zcX9.1, ⟨zcX9.2.1, zcX9.2.2, by decide +kernel⟩, Or.inl zpX9, by decide⟩
theorem zyX9_less : zY yX9_less cX9_less 5 none 1 := ⟨ct_6 (i := 16) rfl rfl, zcX9.1, ⟨zcX9.2.1, zcX9.2.2, by decide +kernel⟩, Or.inl zpX9, by decide⟩
theorem zyX11_add : zY yX11_add cX11_add 4 none 3 := ⟨ct_6 (i := 21) rfl rfl, zcX11.1, ⟨zcX11.2.1, zcX11.2.2, by decide +kernel⟩, Or.inl zpX11, by decide⟩
theorem zyX11_joined : zY yX11_joined cX11_joined 5 none 4 := ⟨ct_6 (i := 25) rfl rfl, zcX11.1, ⟨zcX11.2.1, zcX11.2.2, by decide +kernel⟩, Or.inl zpX11, by decide⟩
theorem zyX11_goesThree : zY yX11_goesThree cX11_goesThree 4 (some .boolean) 3 := ⟨ct_6 (i := 29) rfl rfl, zcX11.1, ⟨zcX11.2.1, zcX11.2.2, by decide +kernel⟩, Or.inl zpX11, by decide⟩
theorem zyX11_takeSum : zY yX11_takeSum cX11_takeSum 2 none 1 := ⟨ct_6 (i := 33) rfl rfl, zcX11.1, ⟨zcX11.2.1, zcX11.2.2, by decide +kernel⟩, Or.inl zpX11, by decide⟩
theorem zyX11_less : zY yX11_less cX11_less 4 none 3 := ⟨ct_6 (i := 37) rfl rfl, zcX11.1, ⟨zcX11.2.1, zcX11.2.2, by decide +kernel⟩, Or.inl zpX11, by decide⟩
theorem zyX11_times : zY yX11_times cX11_times 4 none 3 := ⟨ct_6 (i := 41) rfl rfl, zcX11.1, ⟨zcX11.2.1, zcX11.2.2, by decide +kernel⟩, Or.inl zpX11, by decide⟩
theorem zyX11_gatherProduct : zY yX11_gatherProduct cX11_gatherProduct 9 none 4 := ⟨ct_6 (i := 45) rfl rfl, zcX11.1, ⟨zcX11.2.1, zcX11.2.2, by decide +kernel⟩, Or.inl zpX11, by decide⟩
theorem zyX11_over : zY yX11_over cX11_over 8 none 3 := ⟨ct_6 (i := 49) rfl rfl, zcX11.1, ⟨zcX11.2.1, zcX11.2.2, by decide +kernel⟩, Or.inl zpX11, by decide⟩
theorem zyX11_fused : zY yX11_fused cX11_fused 4 none 3 := ⟨ct_6 (i := 53) rfl rfl, zcX11.1, ⟨zcX11.2.1, zcX11.2.2, by decide +kernel⟩, Or.inl zpX11, by decide⟩
theorem zyX11_root : zY yX11_root cX11_root 4 none 3 := ⟨ct_6 (i := 57) rfl rfl, zcX11.1, ⟨zcX11.2.1, zcX11.2.2, by decide +kernel⟩, Or.inl zpX11, by decide⟩
theorem zyX11_under : zY yX11_under cX11_under 3 none 2 := ⟨ct_6 (i := 61) rfl rfl, zcX11.1, ⟨zcX11.2.1, zcX11.2.2, by decide +kernel⟩, Or.inl zpX11, by decide⟩
theorem zyX11_far : zY yX11_far cX11_far 4 none 3 := ⟨ct_6 (i := 65) rfl rfl, zcX11.1, ⟨zcX11.2.1, zcX11.2.2, by decide +kernel⟩, Or.inl zpX11, by decide⟩
theorem zyX11_power : zY yX11_power cX11_power 7 none 3 := ⟨ct_6 (i := 69) rfl rfl, zcX11.1, ⟨zcX11.2.1, zcX11.2.2, by decide +kernel⟩, Or.inl zpX11, by decide⟩
theorem zyX11_turn : zY yX11_turn cX11_turn 6 none 2 := ⟨ct_6 (i := 74) rfl rfl, zcX11.1, ⟨zcX11.2.1, zcX11.2.2, by decide +kernel⟩, Or.inl zpX11, by decide⟩
theorem zyX11_clear : zY yX11_clear cX11_clear 2 none 1 := ⟨ct_6 (i := 78) rfl rfl, zcX11.1, ⟨zcX11.2.1, zcX11.2.2, by decide +kernel⟩, Or.inl zpX11, by decide⟩
theorem zyX11_isQuire : zY yX11_isQuire cX11_isQuire 1 (some .boolean) 1 := ⟨ct_6 (i := 81) rfl rfl, zcX11.1, ⟨zcX11.2.1, zcX11.2.2, by decide +kernel⟩, Or.inl zpX11, by decide⟩
theorem zyX11_gather_ : zY yX11_gather_ cX11_gather_ 5 none 4 := ⟨ct_6 (i := 85) rfl rfl, zcX11.1, ⟨zcX11.2.1, zcX11.2.2, by decide +kernel⟩, Or.inl zpX11, by decide⟩
theorem zyX11_gatherInto : zY yX11_gatherInto cX11_gatherInto 5 none 4 := ⟨ct_6 (i := 89) rfl rfl, zcX11.1, ⟨zcX11.2.1, zcX11.2.2, by decide +kernel⟩, Or.inl zpX11, by decide⟩
theorem zyX11_dot : zY yX11_dot cX11_dot 6 none 4 := ⟨ct_6 (i := 93) rfl rfl, zcX11.1, ⟨zcX11.2.1, zcX11.2.2, by decide +kernel⟩, Or.inl zpX11, by decide⟩
theorem zyX11_settle : zY yX11_settle cX11_settle 3 none 2 := ⟨ct_6 (i := 97) rfl rfl, zcX11.1, ⟨zcX11.2.1, zcX11.2.2, by decide +kernel⟩, Or.inl zpX11, by decide⟩
theorem zyX11_image : zY yX11_image cX11_image 9 (some .int) 2 := ⟨ct_6 (i := 101) rfl rfl, zcX11.1, ⟨zcX11.2.1, zcX11.2.2, by decide +kernel⟩, Or.inl zpX11, by decide⟩
theorem zyX11_feed : zY yX11_feed cX11_feed 5 (some .int) 2 := ⟨ct_6 (i := 106) rfl rfl, zcX11.1, ⟨zcX11.2.1, zcX11.2.2, by decide +kernel⟩, Or.inl zpX11, by decide⟩
theorem zyX11_read : zY yX11_read cX11_read 4 (some .int) 1 := ⟨ct_6 (i := 111) rfl rfl, zcX11.1, ⟨zcX11.2.1, zcX11.2.2, by decide +kernel⟩, Or.inl zpX11, by decide⟩
theorem zyX11_here : zY yX11_here cX11_here 1 (some .int) 0 := ⟨ct_6 (i := 115) rfl rfl, zcX11.1, ⟨zcX11.2.1, zcX11.2.2, by decide +kernel⟩, Or.inl zpX11, by decide⟩
theorem zyX11_isNarTold : zY yX11_isNarTold cX11_isNarTold 3 (some .boolean) 0 := ⟨ct_6 (i := 119) rfl rfl, zcX11.1, ⟨zcX11.2.1, zcX11.2.2, by decide +kernel⟩, Or.inl zpX11, by decide⟩
theorem zyX11_isDecimal : zY yX11_isDecimal cX11_isDecimal 2 (some .boolean) 0 := ⟨ct_6 (i := 123) rfl rfl, zcX11.1, ⟨zcX11.2.1, zcX11.2.2, by decide +kernel⟩, Or.inl zpX11, by decide⟩
theorem zyX11_isNumber : zY yX11_isNumber cX11_isNumber 1 (some .boolean) 0 := ⟨ct_6 (i := 127) rfl rfl, zcX11.1, ⟨zcX11.2.1, zcX11.2.2, by decide +kernel⟩, Or.inl zpX11, by decide⟩
theorem zyX11_isDigit : zY yX11_isDigit cX11_isDigit 1 (some .boolean) 0 := ⟨ct_6 (i := 131) rfl rfl, zcX11.1, ⟨zcX11.2.1, zcX11.2.2, by decide +kernel⟩, Or.inl zpX11, by decide⟩
theorem zyX11_isPowerTold : zY yX11_isPowerTold cX11_isPowerTold 4 (some .boolean) 0 := ⟨ct_6 (i := 136) rfl rfl, zcX11.1, ⟨zcX11.2.1, zcX11.2.2, by decide +kernel⟩, Or.inl zpX11, by decide⟩
theorem zyX11_write : zY yX11_write cX11_write 5 (some .int) 2 := ⟨ct_6 (i := 140) rfl rfl, zcX11.1, ⟨zcX11.2.1, zcX11.2.2, by decide +kernel⟩, Or.inl zpX11, by decide⟩
theorem zyX11_put : zY yX11_put cX11_put 2 none 1 := ⟨ct_6 (i := 144) rfl rfl, zcX11.1, ⟨zcX11.2.1, zcX11.2.2, by decide +kernel⟩, Or.inl zpX11, by decide⟩
theorem zyX11_putShort : zY yX11_putShort cX11_putShort 9 none 2 := ⟨ct_6 (i := 148) rfl rfl, zcX11.1, ⟨zcX11.2.1, zcX11.2.2, by decide +kernel⟩, Or.inl zpX11, by decide⟩
theorem zyX11_scale : zY yX11_scale cX11_scale 4 none 2 := ⟨ct_6 (i := 152) rfl rfl, zcX11.1, ⟨zcX11.2.1, zcX11.2.2, by decide +kernel⟩, Or.inl zpX11, by decide⟩
theorem zyX11_isRounded : zY yX11_isRounded cX11_isRounded 8 (some .boolean) 4 := ⟨ct_6 (i := 156) rfl rfl, zcX11.1, ⟨zcX11.2.1, zcX11.2.2, by decide +kernel⟩, Or.inl zpX11, by decide⟩
theorem zyX11_putFew : zY yX11_putFew cX11_putFew 6 none 1 := ⟨ct_6 (i := 160) rfl rfl, zcX11.1, ⟨zcX11.2.1, zcX11.2.2, by decide +kernel⟩, Or.inl zpX11, by decide⟩
theorem zyX11_putWhole : zY yX11_putWhole cX11_putWhole 3 none 0 := ⟨ct_6 (i := 164) rfl rfl, zcX11.1, ⟨zcX11.2.1, zcX11.2.2, by decide +kernel⟩, Or.inl zpX11, by decide⟩
theorem zyX9_divide : zY yX9_divide cX9_divide 5 (some .int) 1 := ⟨ct_6 (i := 168) rfl rfl, zcX9.1, ⟨zcX9.2.1, zcX9.2.2, by decide +kernel⟩, Or.inl zpX9, by decide⟩
theorem zyX11_putExact : zY yX11_putExact cX11_putExact 4 none 0 := ⟨ct_6 (i := 172) rfl rfl, zcX11.1, ⟨zcX11.2.1, zcX11.2.2, by decide +kernel⟩, Or.inl zpX11, by decide⟩
theorem zyX11_letter : zY yX11_letter cX11_letter 2 (some .int) 1 := ⟨ct_6 (i := 176) rfl rfl, zcX11.1, ⟨zcX11.2.1, zcX11.2.2, by decide +kernel⟩, Or.inl zpX11, by decide⟩
theorem lL_101 : zKI RL 101 yX8_init := ⟨ct_1 (i := 25) rfl rfl, ct_1 (i := 26) rfl rfl, rfl⟩
theorem oX8_1 : Cond.methodLink RX8 1 objectInit ∈ ALL ∧ Cond.instanceMethod objectInit ∈ ALL ∧ Cond.code objectInit ⟨#[0xb1]⟩ 1 none ∈ ALL := ⟨ct_1 (i := 28) rfl rfl, ct_1 (i := 29) rfl rfl, ct_1 (i := 30) rfl rfl⟩
theorem lX8_23 : zKI RX8 23 yX3_init := ⟨ct_1 (i := 34) rfl rfl, ct_1 (i := 35) rfl rfl, rfl⟩
theorem oX3_1 : Cond.methodLink RX3 1 objectInit ∈ ALL ∧ Cond.instanceMethod objectInit ∈ ALL ∧ Cond.code objectInit ⟨#[0xb1]⟩ 1 none ∈ ALL := ⟨ct_1 (i := 37) rfl rfl, ct_1 (i := 29) rfl rfl, ct_1 (i := 30) rfl rfl⟩
theorem lX8_26 : zKI RX8 26 yX2_init := ⟨ct_1 (i := 50) rfl rfl, ct_1 (i := 51) rfl rfl, rfl⟩
theorem oX2_1 : Cond.methodLink RX2 1 objectInit ∈ ALL ∧ Cond.instanceMethod objectInit ∈ ALL ∧ Cond.code objectInit ⟨#[0xb1]⟩ 1 none ∈ ALL := ⟨ct_1 (i := 53) rfl rfl, ct_1 (i := 29) rfl rfl, ct_1 (i := 30) rfl rfl⟩
theorem lX8_39 : zKI RX8 39 yX0_init := ⟨ct_1 (i := 83) rfl rfl, ct_1 (i := 84) rfl rfl, rfl⟩
theorem oX0_3 : Cond.methodLink RX0 3 objectInit ∈ ALL ∧ Cond.instanceMethod objectInit ∈ ALL ∧ Cond.code objectInit ⟨#[0xb1]⟩ 1 none ∈ ALL := ⟨ct_1 (i := 86) rfl rfl, ct_1 (i := 29) rfl rfl, ct_1 (i := 30) rfl rfl⟩
theorem lX0_9 : zKI RX0 9 yX3_init := ⟨ct_1 (i := 88) rfl rfl, ct_1 (i := 35) rfl rfl, rfl⟩
theorem lX0_18 : zKI RX0 18 yX2_init := ⟨ct_1 (i := 90) rfl rfl, ct_1 (i := 51) rfl rfl, rfl⟩
theorem lX0_23 : zKV RX0 23 yX2_loadOne := ⟨ct_1 (i := 91) rfl rfl, ct_1 (i := 92) rfl rfl, ct_1 (i := 93) rfl rfl⟩
theorem lX0_28 : zKI RX0 28 yX7_init := ⟨ct_1 (i := 97) rfl rfl, ct_1 (i := 98) rfl rfl, rfl⟩
theorem oX7_1 : Cond.methodLink RX7 1 objectInit ∈ ALL ∧ Cond.instanceMethod objectInit ∈ ALL ∧ Cond.code objectInit ⟨#[0xb1]⟩ 1 none ∈ ALL := ⟨ct_1 (i := 100) rfl rfl, ct_1 (i := 29) rfl rfl, ct_1 (i := 30) rfl rfl⟩
theorem lX0_38 : zKI RX0 38 yX5_init := ⟨ct_1 (i := 110) rfl rfl, ct_1 (i := 111) rfl rfl, rfl⟩
theorem oX5_1 : Cond.methodLink RX5 1 objectInit ∈ ALL ∧ Cond.instanceMethod objectInit ∈ ALL ∧ Cond.code objectInit ⟨#[0xb1]⟩ 1 none ∈ ALL := ⟨ct_1 (i := 113) rfl rfl, ct_1 (i := 29) rfl rfl, ct_1 (i := 30) rfl rfl⟩
theorem lX5_9 : zKI RX5 9 yX7_init := ⟨ct_1 (i := 115) rfl rfl, ct_1 (i := 98) rfl rfl, rfl⟩
theorem lX8_46 : zKI RX8 46 yX6_init := ⟨ct_1 (i := 150) rfl rfl, ct_1 (i := 151) rfl rfl, rfl⟩
theorem oX6_1 : Cond.methodLink RX6 1 objectInit ∈ ALL ∧ Cond.instanceMethod objectInit ∈ ALL ∧ Cond.code objectInit ⟨#[0xb1]⟩ 1 none ∈ ALL := ⟨ct_1 (i := 153) rfl rfl, ct_1 (i := 29) rfl rfl, ct_1 (i := 30) rfl rfl⟩
theorem lX6_15 : zKI RX6 15 yX7_init := ⟨ct_1 (i := 155) rfl rfl, ct_1 (i := 98) rfl rfl, rfl⟩
theorem lX8_53 : zKI RX8 53 yX1_init := ⟨ct_1 (i := 189) rfl rfl, ct_1 (i := 190) rfl rfl, rfl⟩
theorem oX1_1 : Cond.methodLink RX1 1 objectInit ∈ ALL ∧ Cond.instanceMethod objectInit ∈ ALL ∧ Cond.code objectInit ⟨#[0xb1]⟩ 1 none ∈ ALL := ⟨ct_1 (i := 192) rfl rfl, ct_1 (i := 29) rfl rfl, ct_1 (i := 30) rfl rfl⟩
theorem lX1_15 : zKI RX1 15 yX2_init := ⟨ct_1 (i := 194) rfl rfl, ct_1 (i := 51) rfl rfl, rfl⟩
theorem lX1_22 : zKI RX1 22 yX7_init := ⟨ct_1 (i := 196) rfl rfl, ct_1 (i := 98) rfl rfl, rfl⟩
theorem lL_198 : zKV RL 198 yX8_letter := ⟨ct_2 (i := 23) rfl rfl, ct_2 (i := 24) rfl rfl, ct_2 (i := 25) rfl rfl⟩
theorem lX8_230 : zKV RX8 230 yX1_byteAt := ⟨ct_2 (i := 27) rfl rfl, ct_2 (i := 28) rfl rfl, ct_2 (i := 29) rfl rfl⟩
theorem lL_105 : zKS RL 105 yL_set := ⟨ct_2 (i := 31) rfl rfl, ct_2 (i := 32) rfl rfl⟩
theorem lL_7 : zKV RL 7 yX8_set := ⟨ct_2 (i := 36) rfl rfl, ct_2 (i := 37) rfl rfl, ct_2 (i := 38) rfl rfl⟩
theorem lX8_58 : zKS RX8 58 yX8_checkPlace := ⟨ct_2 (i := 40) rfl rfl, ct_2 (i := 41) rfl rfl⟩
theorem lX8_62 : zKS RX8 62 yX8_checkWidth := ⟨ct_2 (i := 111) rfl rfl, ct_2 (i := 112) rfl rfl⟩
theorem lX8_65 : zKS RX8 65 yX4_greatest := ⟨ct_2 (i := 130) rfl rfl, ct_2 (i := 131) rfl rfl⟩
theorem lL_115 : zKS RL 115 yL_pattern := ⟨ct_2 (i := 133) rfl rfl, ct_2 (i := 134) rfl rfl⟩
theorem lL_17 : zKV RL 17 yX8_pattern := ⟨ct_2 (i := 136) rfl rfl, ct_2 (i := 137) rfl rfl, ct_2 (i := 138) rfl rfl⟩
theorem lL_119 : zKS RL 119 yL_width := ⟨ct_2 (i := 140) rfl rfl, ct_2 (i := 141) rfl rfl⟩
theorem lL_21 : zKV RL 21 yX8_width := ⟨ct_2 (i := 143) rfl rfl, ct_2 (i := 144) rfl rfl, ct_2 (i := 145) rfl rfl⟩
theorem lL_122 : zKS RL 122 yL_take := ⟨ct_2 (i := 147) rfl rfl, ct_2 (i := 148) rfl rfl⟩
theorem lL_25 : zKV RL 25 yX8_take := ⟨ct_2 (i := 150) rfl rfl, ct_2 (i := 151) rfl rfl, ct_2 (i := 152) rfl rfl⟩
theorem lX8_71 : zKV RX8 71 yX2_load := ⟨ct_2 (i := 154) rfl rfl, ct_2 (i := 155) rfl rfl, ct_2 (i := 156) rfl rfl⟩
theorem lX2_26 : zKS RX2 26 yJ13_numberOfLeadingZeros_95d88 := ⟨ct_2 (i := 159) rfl rfl, ct_2 (i := 160) rfl rfl⟩
theorem lJ13_308 : zKS RJ13 308 yJ6_numberOfLeadingZeros_0f7a4 := ⟨ct_2 (i := 162) rfl rfl, ct_2 (i := 163) rfl rfl⟩
theorem lX2_34 : zKS RX2 34 yJ13_numberOfTrailingZeros_95d88 := ⟨ct_2 (i := 167) rfl rfl, ct_2 (i := 168) rfl rfl⟩
theorem lJ13_311 : zKS RJ13 311 yJ6_numberOfTrailingZeros_0f7a4 := ⟨ct_2 (i := 170) rfl rfl, ct_2 (i := 171) rfl rfl⟩
theorem lX8_75 : zKV RX8 75 yX0_same := ⟨ct_2 (i := 173) rfl rfl, ct_2 (i := 174) rfl rfl, ct_2 (i := 175) rfl rfl⟩
theorem lX0_47 : zKS RX0 47 yX4_notReal := ⟨ct_2 (i := 177) rfl rfl, ct_2 (i := 178) rfl rfl⟩
theorem lX0_64 : zKS RX0 64 yX4_ofLong := ⟨ct_2 (i := 180) rfl rfl, ct_2 (i := 181) rfl rfl⟩
theorem lX4_7 : zKS RX4 7 yJ13_numberOfLeadingZeros_95d88 := ⟨ct_2 (i := 183) rfl rfl, ct_2 (i := 160) rfl rfl⟩
theorem lX4_15 : zKS RX4 15 yX4_ofSize := ⟨ct_2 (i := 184) rfl rfl, ct_2 (i := 185) rfl rfl⟩
theorem lX4_43 : zKS RX4 43 yX4_greatest := ⟨ct_2 (i := 187) rfl rfl, ct_2 (i := 131) rfl rfl⟩
theorem lL_127 : zKS RL 127 yL_ratio := ⟨ct_2 (i := 188) rfl rfl, ct_2 (i := 189) rfl rfl⟩
theorem lL_28 : zKV RL 28 yX8_ratio := ⟨ct_2 (i := 191) rfl rfl, ct_2 (i := 192) rfl rfl, ct_2 (i := 193) rfl rfl⟩
theorem lX8_79 : zKV RX8 79 yX0_ratioOf := ⟨ct_2 (i := 195) rfl rfl, ct_2 (i := 196) rfl rfl, ct_2 (i := 197) rfl rfl⟩
theorem lX0_92 : zKV RX0 92 yX7_put := ⟨ct_2 (i := 199) rfl rfl, ct_2 (i := 200) rfl rfl, ct_2 (i := 201) rfl rfl⟩
theorem lX7_17 : zKV RX7 17 yX7_trim := ⟨ct_2 (i := 203) rfl rfl, ct_2 (i := 205) rfl rfl, all_p (i := 1) rfl rfl⟩
theorem lX0_96 : zKV RX0 96 yX0_divided := ⟨ct_2 (i := 207) rfl rfl, ct_2 (i := 209) rfl rfl, all_p (i := 2) rfl rfl⟩
theorem lX0_132 : zKV RX0 132 yX7_isNought := ⟨ct_2 (i := 211) rfl rfl, ct_2 (i := 212) rfl rfl, ct_2 (i := 213) rfl rfl⟩
theorem lX0_129 : zKV RX0 129 yX7_bits := ⟨ct_2 (i := 215) rfl rfl, ct_2 (i := 216) rfl rfl, ct_2 (i := 217) rfl rfl⟩
theorem lX7_28 : zKS RX7 28 yJ6_numberOfLeadingZeros_0f7a4 := ⟨ct_2 (i := 219) rfl rfl, ct_2 (i := 163) rfl rfl⟩
theorem lX0_146 : zKV RX0 146 yX7_copy := ⟨ct_2 (i := 220) rfl rfl, ct_2 (i := 221) rfl rfl, ct_2 (i := 222) rfl rfl⟩
theorem aX7_20 : Cond.methodLink RX7 20 arraycopyName ∈ ALL ∧ Cond.native arraycopyName ∈ ALL ∧ Cond.static arraycopyName ∈ ALL ∧ Cond.initialized "java/lang/System" ∈ ALL := ⟨ct_2 (i := 224) rfl rfl, ct_2 (i := 226) rfl rfl, ct_2 (i := 225) rfl rfl, ct_1 (i := 21) rfl rfl⟩
theorem lX0_104 : zKS RX0 104 yJ9_max_7cf53 := ⟨ct_2 (i := 227) rfl rfl, ct_2 (i := 228) rfl rfl⟩
theorem lX0_119 : zKV RX0 119 yX7_shiftUp := ⟨ct_2 (i := 230) rfl rfl, ct_2 (i := 231) rfl rfl, ct_2 (i := 232) rfl rfl⟩
theorem lX7_38 : zKV RX7 38 yX7_wordAt := ⟨ct_2 (i := 234) rfl rfl, ct_2 (i := 236) rfl rfl, all_p (i := 3) rfl rfl⟩
theorem lX0_123 : zKV RX0 123 yX5_seek := ⟨ct_2 (i := 239) rfl rfl, ct_3 (i := 0) rfl rfl, ct_3 (i := 1) rfl rfl⟩
theorem lX5_26 : zKV RX5 26 yX7_copy := ⟨ct_3 (i := 3) rfl rfl, ct_2 (i := 221) rfl rfl, ct_2 (i := 222) rfl rfl⟩
theorem lX5_30 : zKV RX5 30 yX7_growOften := ⟨ct_3 (i := 4) rfl rfl, ct_3 (i := 5) rfl rfl, ct_3 (i := 6) rfl rfl⟩
theorem lX7_34 : zKV RX7 34 yX7_grow := ⟨ct_3 (i := 8) rfl rfl, ct_3 (i := 9) rfl rfl, ct_3 (i := 10) rfl rfl⟩
theorem lX5_34 : zKV RX5 34 yX7_against := ⟨ct_3 (i := 12) rfl rfl, ct_3 (i := 13) rfl rfl, ct_3 (i := 14) rfl rfl⟩
theorem lL_131 : zKS RL 131 yL_whole := ⟨ct_3 (i := 16) rfl rfl, ct_3 (i := 17) rfl rfl⟩
theorem lL_32 : zKV RL 32 yX8_whole := ⟨ct_3 (i := 20) rfl rfl, ct_3 (i := 21) rfl rfl, ct_3 (i := 22) rfl rfl⟩
theorem lX8_87 : zKV RX8 87 yX2_passesLong := ⟨ct_3 (i := 24) rfl rfl, ct_3 (i := 25) rfl rfl, ct_3 (i := 26) rfl rfl⟩
theorem lX2_41 : zKV RX2 41 yX2_scale := ⟨ct_3 (i := 28) rfl rfl, ct_3 (i := 29) rfl rfl, ct_3 (i := 30) rfl rfl⟩
theorem lX8_98 : zKV RX8 98 yX2_nearestLong := ⟨ct_3 (i := 48) rfl rfl, ct_3 (i := 49) rfl rfl, ct_3 (i := 50) rfl rfl⟩
theorem lX2_45 : zKV RX2 45 yX2_isWhole := ⟨ct_3 (i := 52) rfl rfl, ct_3 (i := 53) rfl rfl, ct_3 (i := 54) rfl rfl⟩
theorem lX2_49 : zKV RX2 49 yX2_nearestSize := ⟨ct_3 (i := 56) rfl rfl, ct_3 (i := 57) rfl rfl, ct_3 (i := 58) rfl rfl⟩
theorem lX2_37 : zKV RX2 37 yX2_sizeDown := ⟨ct_3 (i := 60) rfl rfl, ct_3 (i := 61) rfl rfl, ct_3 (i := 62) rfl rfl⟩
theorem lL_134 : zKS RL 134 yL_order := ⟨ct_3 (i := 64) rfl rfl, ct_3 (i := 65) rfl rfl⟩
theorem lL_37 : zKV RL 37 yX8_order := ⟨ct_3 (i := 67) rfl rfl, ct_3 (i := 68) rfl rfl, ct_3 (i := 69) rfl rfl⟩
theorem lX8_102 : zKV RX8 102 yX8_rank := ⟨ct_3 (i := 71) rfl rfl, ct_3 (i := 73) rfl rfl, all_p (i := 4) rfl rfl⟩
theorem lX8_105 : zKS RX8 105 yJ13_compare_74951 := ⟨ct_3 (i := 75) rfl rfl, ct_3 (i := 76) rfl rfl⟩
theorem lL_138 : zKS RL 138 yL_add := ⟨ct_3 (i := 78) rfl rfl, ct_3 (i := 79) rfl rfl⟩
theorem lL_41 : zKV RL 41 yX8_add := ⟨ct_3 (i := 81) rfl rfl, ct_3 (i := 82) rfl rfl, ct_3 (i := 83) rfl rfl⟩
theorem lX8_111 : zKV RX8 111 yX8_loadBoth := ⟨ct_3 (i := 85) rfl rfl, ct_3 (i := 87) rfl rfl, all_p (i := 5) rfl rfl⟩
theorem lX8_115 : zKV RX8 115 yX0_sumOf := ⟨ct_3 (i := 89) rfl rfl, ct_3 (i := 90) rfl rfl, ct_3 (i := 91) rfl rfl⟩
theorem lX0_81 : zKV RX0 81 yX3_empty := ⟨ct_3 (i := 93) rfl rfl, ct_3 (i := 94) rfl rfl, ct_3 (i := 95) rfl rfl⟩
theorem lX0_84 : zKV RX0 84 yX3_bring := ⟨ct_3 (i := 97) rfl rfl, ct_3 (i := 98) rfl rfl, ct_3 (i := 99) rfl rfl⟩
theorem lX3_31 : zKS RX3 31 yX3_partOf := ⟨ct_3 (i := 101) rfl rfl, ct_3 (i := 102) rfl rfl⟩
theorem lX0_88 : zKV RX0 88 yX0_settled := ⟨ct_3 (i := 105) rfl rfl, ct_3 (i := 106) rfl rfl, ct_3 (i := 107) rfl rfl⟩
theorem lX0_69 : zKV RX0 69 yX3_copySize := ⟨ct_3 (i := 109) rfl rfl, ct_3 (i := 110) rfl rfl, ct_3 (i := 111) rfl rfl⟩
theorem lX3_37 : zKV RX3 37 yX3_isMinus := ⟨ct_3 (i := 113) rfl rfl, ct_3 (i := 114) rfl rfl, ct_3 (i := 115) rfl rfl⟩
theorem lX3_41 : zKV RX3 41 yX7_copyWords := ⟨ct_3 (i := 117) rfl rfl, ct_3 (i := 118) rfl rfl, ct_3 (i := 119) rfl rfl⟩
theorem lX0_73 : zKV RX0 73 yX3_isMinus := ⟨ct_3 (i := 121) rfl rfl, ct_3 (i := 114) rfl rfl, ct_3 (i := 115) rfl rfl⟩
theorem lX0_77 : zKS RX0 77 yX4_ofWide := ⟨ct_3 (i := 122) rfl rfl, ct_3 (i := 123) rfl rfl⟩
theorem lX4_19 : zKV RX4 19 yX7_bits := ⟨ct_3 (i := 125) rfl rfl, ct_2 (i := 216) rfl rfl, ct_2 (i := 217) rfl rfl⟩
theorem lX4_25 : zKS RX4 25 yJ9_max_7cf53 := ⟨ct_3 (i := 126) rfl rfl, ct_2 (i := 228) rfl rfl⟩
theorem lX4_31 : zKV RX4 31 yX7_window := ⟨ct_3 (i := 127) rfl rfl, ct_3 (i := 128) rfl rfl, ct_3 (i := 129) rfl rfl⟩
theorem lX4_35 : zKV RX4 35 yX7_anyBelow := ⟨ct_3 (i := 131) rfl rfl, ct_3 (i := 132) rfl rfl, ct_3 (i := 133) rfl rfl⟩
theorem lX4_39 : zKS RX4 39 yX4_ofLong := ⟨ct_3 (i := 135) rfl rfl, ct_2 (i := 181) rfl rfl⟩
theorem lL_141 : zKS RL 141 yL_less := ⟨ct_3 (i := 136) rfl rfl, ct_3 (i := 137) rfl rfl⟩
theorem lL_44 : zKV RL 44 yX8_less := ⟨ct_3 (i := 139) rfl rfl, ct_3 (i := 140) rfl rfl, ct_3 (i := 141) rfl rfl⟩
theorem lL_144 : zKS RL 144 yL_times := ⟨ct_3 (i := 143) rfl rfl, ct_3 (i := 144) rfl rfl⟩
theorem lL_47 : zKV RL 47 yX8_times := ⟨ct_3 (i := 146) rfl rfl, ct_3 (i := 147) rfl rfl, ct_3 (i := 148) rfl rfl⟩
theorem lX8_119 : zKV RX8 119 yX0_productOf := ⟨ct_3 (i := 150) rfl rfl, ct_3 (i := 151) rfl rfl, ct_3 (i := 152) rfl rfl⟩
theorem lL_147 : zKS RL 147 yL_over := ⟨ct_3 (i := 154) rfl rfl, ct_3 (i := 155) rfl rfl⟩
theorem lL_50 : zKV RL 50 yX8_over := ⟨ct_3 (i := 157) rfl rfl, ct_3 (i := 158) rfl rfl, ct_3 (i := 159) rfl rfl⟩
theorem lX8_123 : zKV RX8 123 yX0_quotientOf := ⟨ct_3 (i := 161) rfl rfl, ct_3 (i := 162) rfl rfl, ct_3 (i := 163) rfl rfl⟩
theorem lL_150 : zKS RL 150 yL_fused := ⟨ct_3 (i := 165) rfl rfl, ct_3 (i := 166) rfl rfl⟩
theorem lL_53 : zKV RL 53 yX8_fused := ⟨ct_3 (i := 168) rfl rfl, ct_3 (i := 169) rfl rfl, ct_3 (i := 170) rfl rfl⟩
theorem lX8_126 : zKV RX8 126 yX0_fusedOf := ⟨ct_3 (i := 172) rfl rfl, ct_3 (i := 173) rfl rfl, ct_3 (i := 174) rfl rfl⟩
theorem lL_153 : zKS RL 153 yL_root := ⟨ct_3 (i := 176) rfl rfl, ct_3 (i := 177) rfl rfl⟩
theorem lL_56 : zKV RL 56 yX8_root := ⟨ct_3 (i := 179) rfl rfl, ct_3 (i := 180) rfl rfl, ct_3 (i := 181) rfl rfl⟩
theorem lX8_135 : zKV RX8 135 yX0_rootOf := ⟨ct_3 (i := 184) rfl rfl, ct_3 (i := 185) rfl rfl, ct_3 (i := 186) rfl rfl⟩
theorem lX0_100 : zKV RX0 100 yX2_scale := ⟨ct_3 (i := 188) rfl rfl, ct_3 (i := 29) rfl rfl, ct_3 (i := 30) rfl rfl⟩
theorem lX0_110 : zKS RX0 110 yJ9_floorDiv_7cf53 := ⟨ct_3 (i := 189) rfl rfl, ct_3 (i := 190) rfl rfl⟩
theorem lL_156 : zKS RL 156 yL_under := ⟨ct_3 (i := 192) rfl rfl, ct_3 (i := 193) rfl rfl⟩
theorem lL_59 : zKV RL 59 yX8_under := ⟨ct_3 (i := 195) rfl rfl, ct_3 (i := 196) rfl rfl, ct_3 (i := 197) rfl rfl⟩
theorem lX8_139 : zKV RX8 139 yX0_inverseRootOf := ⟨ct_3 (i := 199) rfl rfl, ct_3 (i := 200) rfl rfl, ct_3 (i := 201) rfl rfl⟩
theorem lL_160 : zKS RL 160 yL_far := ⟨ct_3 (i := 203) rfl rfl, ct_3 (i := 204) rfl rfl⟩
theorem lL_63 : zKV RL 63 yX8_far := ⟨ct_3 (i := 206) rfl rfl, ct_3 (i := 207) rfl rfl, ct_3 (i := 208) rfl rfl⟩
theorem lX8_142 : zKV RX8 142 yX0_distanceOf := ⟨ct_3 (i := 210) rfl rfl, ct_3 (i := 211) rfl rfl, ct_3 (i := 212) rfl rfl⟩
theorem lL_163 : zKS RL 163 yL_power := ⟨ct_3 (i := 214) rfl rfl, ct_3 (i := 215) rfl rfl⟩
theorem lL_66 : zKV RL 66 yX8_power := ⟨ct_3 (i := 217) rfl rfl, ct_3 (i := 218) rfl rfl, ct_3 (i := 219) rfl rfl⟩
theorem lX8_147 : zKV RX8 147 yX0_powerOf := ⟨ct_3 (i := 222) rfl rfl, ct_3 (i := 223) rfl rfl, ct_3 (i := 224) rfl rfl⟩
theorem lX0_135 : zKS RX0 135 yJ9_abs_0f7a4 := ⟨ct_3 (i := 226) rfl rfl, ct_3 (i := 227) rfl rfl⟩
theorem lX0_139 : zKV RX0 139 yX7_growOften := ⟨ct_3 (i := 229) rfl rfl, ct_3 (i := 5) rfl rfl, ct_3 (i := 6) rfl rfl⟩
theorem lL_166 : zKS RL 166 yL_turn := ⟨ct_3 (i := 230) rfl rfl, ct_3 (i := 231) rfl rfl⟩
theorem lL_69 : zKV RL 69 yX8_turn := ⟨ct_3 (i := 233) rfl rfl, ct_3 (i := 234) rfl rfl, ct_3 (i := 235) rfl rfl⟩
theorem lX8_152 : zKV RX8 152 yX8_turned := ⟨ct_3 (i := 238) rfl rfl, ct_4 (i := 0) rfl rfl, all_p (i := 6) rfl rfl⟩
theorem lX8_243 : zKS RX8 243 yX4_ofLong := ⟨ct_4 (i := 2) rfl rfl, ct_2 (i := 181) rfl rfl⟩
theorem lX8_247 : zKV RX8 247 yX8_turnedWhole := ⟨ct_4 (i := 3) rfl rfl, ct_4 (i := 5) rfl rfl, all_p (i := 7) rfl rfl⟩
theorem lX8_250 : zKV RX8 250 yX2_isWhole := ⟨ct_4 (i := 7) rfl rfl, ct_3 (i := 53) rfl rfl, ct_3 (i := 54) rfl rfl⟩
theorem lX8_253 : zKV RX8 253 yX2_nearestSize := ⟨ct_4 (i := 8) rfl rfl, ct_3 (i := 57) rfl rfl, ct_3 (i := 58) rfl rfl⟩
theorem lX8_256 : zKV RX8 256 yX2_sizeDown := ⟨ct_4 (i := 9) rfl rfl, ct_3 (i := 61) rfl rfl, ct_3 (i := 62) rfl rfl⟩
theorem lL_169 : zKS RL 169 yL_clear := ⟨ct_4 (i := 10) rfl rfl, ct_4 (i := 11) rfl rfl⟩
theorem lL_72 : zKV RL 72 yX8_clear := ⟨ct_4 (i := 13) rfl rfl, ct_4 (i := 14) rfl rfl, ct_4 (i := 15) rfl rfl⟩
theorem lX8_156 : zKS RX8 156 yX8_checkQuire := ⟨ct_4 (i := 17) rfl rfl, ct_4 (i := 18) rfl rfl⟩
theorem lX8_159 : zKV RX8 159 yX3_empty := ⟨ct_4 (i := 21) rfl rfl, ct_3 (i := 94) rfl rfl, ct_3 (i := 95) rfl rfl⟩
theorem lL_173 : zKS RL 173 yL_gather := ⟨ct_4 (i := 22) rfl rfl, ct_4 (i := 23) rfl rfl⟩
theorem lL_76 : zKV RL 76 yX8_gather := ⟨ct_4 (i := 25) rfl rfl, ct_4 (i := 26) rfl rfl, ct_4 (i := 27) rfl rfl⟩
theorem lX8_162 : zKV RX8 162 yX3_bring := ⟨ct_4 (i := 29) rfl rfl, ct_3 (i := 98) rfl rfl, ct_3 (i := 99) rfl rfl⟩
theorem lL_177 : zKS RL 177 yL_dot := ⟨ct_4 (i := 30) rfl rfl, ct_4 (i := 31) rfl rfl⟩
theorem lL_80 : zKV RL 80 yX8_dot := ⟨ct_4 (i := 33) rfl rfl, ct_4 (i := 34) rfl rfl, ct_4 (i := 35) rfl rfl⟩
theorem lL_181 : zKS RL 181 yL_settle := ⟨ct_4 (i := 38) rfl rfl, ct_4 (i := 39) rfl rfl⟩
theorem lL_84 : zKV RL 84 yX8_settle := ⟨ct_4 (i := 41) rfl rfl, ct_4 (i := 42) rfl rfl, ct_4 (i := 43) rfl rfl⟩
theorem lX8_168 : zKV RX8 168 yX0_settled := ⟨ct_4 (i := 45) rfl rfl, ct_3 (i := 106) rfl rfl, ct_3 (i := 107) rfl rfl⟩
theorem lL_184 : zKS RL 184 yL_image := ⟨ct_4 (i := 46) rfl rfl, ct_4 (i := 47) rfl rfl⟩
theorem lL_87 : zKV RL 87 yX8_image := ⟨ct_4 (i := 49) rfl rfl, ct_4 (i := 50) rfl rfl, ct_4 (i := 51) rfl rfl⟩
theorem lX8_174 : zKV RX8 174 yX3_wordOfImage := ⟨ct_4 (i := 54) rfl rfl, ct_4 (i := 55) rfl rfl, ct_4 (i := 56) rfl rfl⟩
theorem lL_187 : zKS RL 187 yL_feed := ⟨ct_4 (i := 59) rfl rfl, ct_4 (i := 60) rfl rfl⟩
theorem lL_90 : zKV RL 90 yX8_feed := ⟨ct_4 (i := 62) rfl rfl, ct_4 (i := 63) rfl rfl, ct_4 (i := 64) rfl rfl⟩
theorem lX8_184 : zKV RX8 184 yX6_append := ⟨ct_4 (i := 67) rfl rfl, ct_4 (i := 68) rfl rfl, ct_4 (i := 69) rfl rfl⟩
theorem lL_191 : zKS RL 191 yL_read := ⟨ct_4 (i := 71) rfl rfl, ct_4 (i := 72) rfl rfl⟩
theorem lL_94 : zKV RL 94 yX8_read := ⟨ct_4 (i := 74) rfl rfl, ct_4 (i := 75) rfl rfl, ct_4 (i := 76) rfl rfl⟩
theorem lX8_187 : zKV RX8 187 yX6_scan := ⟨ct_4 (i := 78) rfl rfl, ct_4 (i := 79) rfl rfl, ct_4 (i := 80) rfl rfl⟩
theorem lX6_33 : zKV RX6 33 yX7_put := ⟨ct_4 (i := 82) rfl rfl, ct_2 (i := 200) rfl rfl, ct_2 (i := 201) rfl rfl⟩
theorem lX6_37 : zKV RX6 37 yX6_here := ⟨ct_4 (i := 83) rfl rfl, ct_4 (i := 85) rfl rfl, all_p (i := 8) rfl rfl⟩
theorem lX6_45 : zKV RX6 45 yX6_pass := ⟨ct_4 (i := 87) rfl rfl, ct_4 (i := 89) rfl rfl, all_p (i := 9) rfl rfl⟩
theorem lX6_52 : zKV RX6 52 yX6_scanDigits := ⟨ct_4 (i := 91) rfl rfl, ct_4 (i := 93) rfl rfl, all_p (i := 10) rfl rfl⟩
theorem lX6_59 : zKV RX6 59 yX6_isDigit := ⟨ct_4 (i := 95) rfl rfl, ct_4 (i := 97) rfl rfl, all_p (i := 11) rfl rfl⟩
theorem lX6_64 : zKV RX6 64 yX7_grow := ⟨ct_4 (i := 100) rfl rfl, ct_3 (i := 9) rfl rfl, ct_3 (i := 10) rfl rfl⟩
theorem lX6_56 : zKV RX6 56 yX6_scanPower := ⟨ct_4 (i := 101) rfl rfl, ct_4 (i := 103) rfl rfl, all_p (i := 12) rfl rfl⟩
theorem lX8_194 : zKS RX8 194 yX4_notReal := ⟨ct_4 (i := 105) rfl rfl, ct_2 (i := 178) rfl rfl⟩
theorem lX8_207 : zKV RX8 207 yX0_decimalOf := ⟨ct_4 (i := 106) rfl rfl, ct_4 (i := 107) rfl rfl, ct_4 (i := 108) rfl rfl⟩
theorem lX0_143 : zKS RX0 143 yJ9_min_7cf53 := ⟨ct_4 (i := 110) rfl rfl, ct_4 (i := 111) rfl rfl⟩
theorem lL_194 : zKS RL 194 yL_write := ⟨ct_4 (i := 114) rfl rfl, ct_4 (i := 115) rfl rfl⟩
theorem lL_97 : zKV RL 97 yX8_write := ⟨ct_4 (i := 117) rfl rfl, ct_4 (i := 118) rfl rfl, ct_4 (i := 119) rfl rfl⟩
theorem lX8_211 : zKV RX8 211 yX1_putNaR := ⟨ct_4 (i := 121) rfl rfl, ct_4 (i := 122) rfl rfl, ct_4 (i := 123) rfl rfl⟩
theorem lX1_43 : zKV RX1 43 yX1_append := ⟨ct_4 (i := 125) rfl rfl, ct_4 (i := 127) rfl rfl, all_p (i := 13) rfl rfl⟩
theorem lX8_218 : zKV RX8 218 yX1_putNought := ⟨ct_4 (i := 129) rfl rfl, ct_4 (i := 130) rfl rfl, ct_4 (i := 131) rfl rfl⟩
theorem lX8_221 : zKV RX8 221 yX1_putShort := ⟨ct_4 (i := 133) rfl rfl, ct_4 (i := 134) rfl rfl, ct_4 (i := 135) rfl rfl⟩
theorem lX1_88 : zKV RX1 88 yX1_loadBounds := ⟨ct_4 (i := 137) rfl rfl, ct_4 (i := 139) rfl rfl, all_p (i := 14) rfl rfl⟩
theorem lX1_111 : zKS RX1 111 yX4_greatest := ⟨ct_4 (i := 141) rfl rfl, ct_2 (i := 131) rfl rfl⟩
theorem lX1_120 : zKS RX1 120 yX1_loadUnits := ⟨ct_4 (i := 142) rfl rfl, ct_4 (i := 143) rfl rfl⟩
theorem lX1_60 : zKV RX1 60 yX7_put := ⟨ct_4 (i := 145) rfl rfl, ct_2 (i := 200) rfl rfl, ct_2 (i := 201) rfl rfl⟩
theorem lX1_64 : zKV RX1 64 yX7_shiftUp := ⟨ct_4 (i := 146) rfl rfl, ct_2 (i := 231) rfl rfl, ct_2 (i := 232) rfl rfl⟩
theorem lX1_126 : zKV RX1 126 yX2_load := ⟨ct_4 (i := 148) rfl rfl, ct_2 (i := 155) rfl rfl, ct_2 (i := 156) rfl rfl⟩
theorem lX1_129 : zKV RX1 129 yX7_copy := ⟨ct_4 (i := 149) rfl rfl, ct_2 (i := 221) rfl rfl, ct_2 (i := 222) rfl rfl⟩
theorem lX1_133 : zKV RX1 133 yX7_lower := ⟨ct_4 (i := 150) rfl rfl, ct_4 (i := 151) rfl rfl, ct_4 (i := 152) rfl rfl⟩
theorem lX1_92 : zKV RX1 92 yX1_scaleToOneDigit := ⟨ct_4 (i := 154) rfl rfl, ct_4 (i := 156) rfl rfl, all_p (i := 15) rfl rfl⟩
theorem lX1_141 : zKV RX1 141 yX7_grow := ⟨ct_4 (i := 159) rfl rfl, ct_3 (i := 9) rfl rfl, ct_3 (i := 10) rfl rfl⟩
theorem lX1_145 : zKV RX1 145 yX7_against := ⟨ct_4 (i := 160) rfl rfl, ct_3 (i := 13) rfl rfl, ct_3 (i := 14) rfl rfl⟩
theorem lX1_99 : zKV RX1 99 yX1_growParts := ⟨ct_4 (i := 161) rfl rfl, ct_4 (i := 163) rfl rfl, all_p (i := 16) rfl rfl⟩
theorem lX1_95 : zKV RX1 95 yX1_putDigit := ⟨ct_4 (i := 165) rfl rfl, ct_4 (i := 167) rfl rfl, all_p (i := 17) rfl rfl⟩
theorem lX1_149 : zKV RX1 149 yX1_fits := ⟨ct_4 (i := 169) rfl rfl, ct_4 (i := 171) rfl rfl, all_p (i := 18) rfl rfl⟩
theorem lX1_102 : zKV RX1 102 yX1_putPower := ⟨ct_4 (i := 173) rfl rfl, ct_4 (i := 175) rfl rfl, all_p (i := 19) rfl rfl⟩
theorem lX1_153 : zKS RX1 153 yJ9_abs_0f7a4 := ⟨ct_4 (i := 177) rfl rfl, ct_3 (i := 227) rfl rfl⟩
theorem lX8_225 : zKV RX8 225 yX1_putFull := ⟨ct_4 (i := 178) rfl rfl, ct_4 (i := 179) rfl rfl, ct_4 (i := 180) rfl rfl⟩
theorem lX1_50 : zKS RX1 50 yJ9_max_7cf53 := ⟨ct_4 (i := 182) rfl rfl, ct_2 (i := 228) rfl rfl⟩
theorem lX1_69 : zKV RX1 69 yX7_growOften := ⟨ct_4 (i := 184) rfl rfl, ct_3 (i := 5) rfl rfl, ct_3 (i := 6) rfl rfl⟩
theorem lX1_73 : zKV RX1 73 yX7_isNought := ⟨ct_4 (i := 185) rfl rfl, ct_2 (i := 212) rfl rfl, ct_2 (i := 213) rfl rfl⟩
theorem lX1_77 : zKV RX1 77 yX7_cutDigit := ⟨ct_4 (i := 186) rfl rfl, ct_4 (i := 187) rfl rfl, ct_4 (i := 188) rfl rfl⟩
theorem lX1_85 : zKV RX1 85 yX1_reverse := ⟨ct_4 (i := 191) rfl rfl, ct_4 (i := 193) rfl rfl, all_p (i := 20) rfl rfl⟩
theorem lL_104 : zKI RL 104 yX11_init := ⟨ct_4 (i := 197) rfl rfl, ct_4 (i := 198) rfl rfl, rfl⟩
theorem oX11_122 : Cond.methodLink RX11 122 objectInit ∈ ALL ∧ Cond.instanceMethod objectInit ∈ ALL ∧ Cond.code objectInit ⟨#[0xb1]⟩ 1 none ∈ ALL := ⟨ct_4 (i := 200) rfl rfl, ct_1 (i := 29) rfl rfl, ct_1 (i := 30) rfl rfl⟩
theorem lX11_128 : Cond.methodLinkNest RX11 128 yX9_init "PositHouseModel" ∈ NWL ∧ Cond.instanceMethod yX9_init ∈ ALL ∧ yX9_init.name = "<init>" := ⟨by decide +kernel, ct_4 (i := 204) rfl rfl, rfl⟩
theorem oX9_3 : Cond.methodLink RX9 3 objectInit ∈ ALL ∧ Cond.instanceMethod objectInit ∈ ALL ∧ Cond.code objectInit ⟨#[0xb1]⟩ 1 none ∈ ALL := ⟨ct_4 (i := 206) rfl rfl, ct_1 (i := 29) rfl rfl, ct_1 (i := 30) rfl rfl⟩
theorem lX11_133 : Cond.methodLinkNest RX11 133 yX10_init "PositHouseModel" ∈ NWL ∧ Cond.instanceMethod yX10_init ∈ ALL ∧ yX10_init.name = "<init>" := ⟨by decide +kernel, ct_4 (i := 221) rfl rfl, rfl⟩
theorem oX10_1 : Cond.methodLink RX10 1 objectInit ∈ ALL ∧ Cond.instanceMethod objectInit ∈ ALL ∧ Cond.code objectInit ⟨#[0xb1]⟩ 1 none ∈ ALL := ⟨ct_4 (i := 223) rfl rfl, ct_1 (i := 29) rfl rfl, ct_1 (i := 30) rfl rfl⟩
theorem lX10_9 : Cond.methodLinkNest RX10 9 yX9_init "PositHouseModel" ∈ NWL ∧ Cond.instanceMethod yX9_init ∈ ALL ∧ yX9_init.name = "<init>" := ⟨by decide +kernel, ct_4 (i := 204) rfl rfl, rfl⟩
theorem lL_111 : zKV RL 111 yX11_thrown := ⟨ct_5 (i := 99) rfl rfl, ct_5 (i := 100) rfl rfl, ct_5 (i := 101) rfl rfl⟩
theorem lL_110 : zKV RL 110 yX11_set := ⟨ct_5 (i := 103) rfl rfl, ct_5 (i := 104) rfl rfl, ct_5 (i := 105) rfl rfl⟩
theorem lX11_165 : zKS RX11 165 yX11_isPlace := ⟨ct_5 (i := 107) rfl rfl, ct_5 (i := 108) rfl rfl⟩
theorem lX11_169 : zKS RX11 169 yX11_isWidth := ⟨ct_5 (i := 110) rfl rfl, ct_5 (i := 111) rfl rfl⟩
theorem lX11_172 : zKV RX11 172 yX11_goes := ⟨ct_5 (i := 113) rfl rfl, ct_5 (i := 115) rfl rfl, all_p (i := 21) rfl rfl⟩
theorem lL_118 : zKV RL 118 yX11_pattern := ⟨ct_5 (i := 117) rfl rfl, ct_5 (i := 118) rfl rfl, ct_5 (i := 119) rfl rfl⟩
theorem lL_121 : zKV RL 121 yX11_width := ⟨ct_5 (i := 121) rfl rfl, ct_5 (i := 122) rfl rfl, ct_5 (i := 123) rfl rfl⟩
theorem lL_124 : zKV RL 124 yX11_take := ⟨ct_5 (i := 125) rfl rfl, ct_5 (i := 126) rfl rfl, ct_5 (i := 127) rfl rfl⟩
theorem lX11_176 : zKV RX11 176 yX11_isNar := ⟨ct_5 (i := 129) rfl rfl, ct_5 (i := 131) rfl rfl, all_p (i := 22) rfl rfl⟩
theorem lX11_179 : zKV RX11 179 yX11_takeValue := ⟨ct_5 (i := 133) rfl rfl, ct_5 (i := 135) rfl rfl, all_p (i := 23) rfl rfl⟩
theorem lX11_112 : zKV RX11 112 yX11_look := ⟨ct_5 (i := 137) rfl rfl, ct_5 (i := 139) rfl rfl, all_p (i := 24) rfl rfl⟩
theorem lX11_28 : zKV RX11 28 yX11_decode := ⟨ct_5 (i := 141) rfl rfl, ct_5 (i := 143) rfl rfl, all_p (i := 25) rfl rfl⟩
theorem lX11_1 : zKS RX11 1 yJ9_max_7cf53 := ⟨ct_5 (i := 145) rfl rfl, ct_2 (i := 228) rfl rfl⟩
theorem lX11_119 : zKV RX11 119 yX11_begin := ⟨ct_5 (i := 146) rfl rfl, ct_5 (i := 148) rfl rfl, all_p (i := 26) rfl rfl⟩
theorem lX11_39 : zKV RX11 39 yX9_set := ⟨ct_5 (i := 150) rfl rfl, ct_5 (i := 151) rfl rfl, ct_5 (i := 152) rfl rfl⟩
theorem lX11_182 : zKV RX11 182 yX11_becomeNar := ⟨ct_5 (i := 155) rfl rfl, ct_5 (i := 157) rfl rfl, all_p (i := 27) rfl rfl⟩
theorem lX11_185 : zKV RX11 185 yX11_become := ⟨ct_5 (i := 159) rfl rfl, ct_5 (i := 161) rfl rfl, all_p (i := 28) rfl rfl⟩
theorem lX11_91 : zKV RX11 91 yX11_rounded := ⟨ct_5 (i := 163) rfl rfl, ct_5 (i := 165) rfl rfl, all_p (i := 29) rfl rfl⟩
theorem lX11_82 : zKV RX11 82 yX11_roundedSize := ⟨ct_5 (i := 167) rfl rfl, ct_5 (i := 169) rfl rfl, all_p (i := 30) rfl rfl⟩
theorem lX11_86 : zKV RX11 86 yX11_compareTo := ⟨ct_5 (i := 171) rfl rfl, ct_5 (i := 173) rfl rfl, all_p (i := 31) rfl rfl⟩
theorem lX11_79 : zKV RX11 79 yX11_compare := ⟨ct_5 (i := 175) rfl rfl, ct_5 (i := 177) rfl rfl, all_p (i := 32) rfl rfl⟩
theorem lX11_57 : zKV RX11 57 yX9_copy := ⟨ct_5 (i := 179) rfl rfl, ct_5 (i := 180) rfl rfl, ct_5 (i := 181) rfl rfl⟩
theorem lX11_64 : zKV RX11 64 yX9_times := ⟨ct_5 (i := 183) rfl rfl, ct_5 (i := 184) rfl rfl, ct_5 (i := 185) rfl rfl⟩
theorem lX11_67 : zKV RX11 67 yX9_bits := ⟨ct_5 (i := 187) rfl rfl, ct_5 (i := 188) rfl rfl, ct_5 (i := 189) rfl rfl⟩
theorem lX9_21 : zKS RX9 21 yJ6_numberOfLeadingZeros_0f7a4 := ⟨ct_5 (i := 191) rfl rfl, ct_2 (i := 163) rfl rfl⟩
theorem lX11_71 : zKV RX11 71 yX9_shift := ⟨ct_5 (i := 192) rfl rfl, ct_5 (i := 193) rfl rfl, ct_5 (i := 194) rfl rfl⟩
theorem lX9_33 : zKV RX9 33 yX9_trim := ⟨ct_5 (i := 196) rfl rfl, ct_5 (i := 197) rfl rfl, ct_5 (i := 198) rfl rfl⟩
theorem lX11_75 : zKV RX11 75 yX9_compare := ⟨ct_5 (i := 200) rfl rfl, ct_5 (i := 201) rfl rfl, ct_5 (i := 202) rfl rfl⟩
theorem lL_130 : zKV RL 130 yX11_ratio := ⟨ct_5 (i := 205) rfl rfl, ct_5 (i := 206) rfl rfl, ct_5 (i := 207) rfl rfl⟩
theorem lL_133 : zKV RL 133 yX11_whole := ⟨ct_5 (i := 209) rfl rfl, ct_5 (i := 210) rfl rfl, ct_5 (i := 211) rfl rfl⟩
theorem lX11_195 : zKV RX11 195 yX11_wholeOf := ⟨ct_5 (i := 213) rfl rfl, ct_5 (i := 215) rfl rfl, all_p (i := 33) rfl rfl⟩
theorem lX11_190 : zKS RX11 190 yJ13_compare_74951 := ⟨ct_5 (i := 218) rfl rfl, ct_3 (i := 76) rfl rfl⟩
theorem lX11_199 : zKV RX11 199 yX9_bit := ⟨ct_5 (i := 219) rfl rfl, ct_5 (i := 220) rfl rfl, ct_5 (i := 221) rfl rfl⟩
theorem lX11_202 : zKS RX11 202 yX11_isPower := ⟨ct_5 (i := 223) rfl rfl, ct_5 (i := 224) rfl rfl⟩
theorem lX11_212 : zKS RX11 212 yJ6_bitCount_0f7a4 := ⟨ct_5 (i := 226) rfl rfl, ct_5 (i := 227) rfl rfl⟩
theorem lL_137 : zKV RL 137 yX11_order := ⟨ct_5 (i := 232) rfl rfl, ct_5 (i := 233) rfl rfl, ct_5 (i := 234) rfl rfl⟩
theorem lX11_217 : zKV RX11 217 yX10_clear := ⟨ct_5 (i := 236) rfl rfl, ct_5 (i := 237) rfl rfl, ct_5 (i := 238) rfl rfl⟩
theorem lX11_220 : zKV RX11 220 yX11_gatherOne := ⟨ct_6 (i := 0) rfl rfl, ct_6 (i := 2) rfl rfl, all_p (i := 34) rfl rfl⟩
theorem lX11_115 : zKV RX11 115 yX11_gather := ⟨ct_6 (i := 4) rfl rfl, ct_6 (i := 6) rfl rfl, all_p (i := 35) rfl rfl⟩
theorem lX11_103 : zKV RX11 103 yX9_add := ⟨ct_6 (i := 8) rfl rfl, ct_6 (i := 9) rfl rfl, ct_6 (i := 10) rfl rfl⟩
theorem lX9_27 : zKS RX9 27 yJ9_max_7cf53 := ⟨ct_6 (i := 12) rfl rfl, ct_2 (i := 228) rfl rfl⟩
theorem lX11_109 : zKV RX11 109 yX9_less := ⟨ct_6 (i := 13) rfl rfl, ct_6 (i := 14) rfl rfl, ct_6 (i := 15) rfl rfl⟩
theorem lL_140 : zKV RL 140 yX11_add := ⟨ct_6 (i := 18) rfl rfl, ct_6 (i := 19) rfl rfl, ct_6 (i := 20) rfl rfl⟩
theorem lX11_232 : zKV RX11 232 yX11_joined := ⟨ct_6 (i := 22) rfl rfl, ct_6 (i := 24) rfl rfl, all_p (i := 36) rfl rfl⟩
theorem lX11_224 : zKV RX11 224 yX11_goesThree := ⟨ct_6 (i := 26) rfl rfl, ct_6 (i := 28) rfl rfl, all_p (i := 37) rfl rfl⟩
theorem lX11_228 : zKV RX11 228 yX11_takeSum := ⟨ct_6 (i := 30) rfl rfl, ct_6 (i := 32) rfl rfl, all_p (i := 38) rfl rfl⟩
theorem lL_143 : zKV RL 143 yX11_less := ⟨ct_6 (i := 34) rfl rfl, ct_6 (i := 35) rfl rfl, ct_6 (i := 36) rfl rfl⟩
theorem lL_146 : zKV RL 146 yX11_times := ⟨ct_6 (i := 38) rfl rfl, ct_6 (i := 39) rfl rfl, ct_6 (i := 40) rfl rfl⟩
theorem lX11_236 : zKV RX11 236 yX11_gatherProduct := ⟨ct_6 (i := 42) rfl rfl, ct_6 (i := 44) rfl rfl, all_p (i := 39) rfl rfl⟩
theorem lL_149 : zKV RL 149 yX11_over := ⟨ct_6 (i := 46) rfl rfl, ct_6 (i := 47) rfl rfl, ct_6 (i := 48) rfl rfl⟩
theorem lL_152 : zKV RL 152 yX11_fused := ⟨ct_6 (i := 50) rfl rfl, ct_6 (i := 51) rfl rfl, ct_6 (i := 52) rfl rfl⟩
theorem lL_155 : zKV RL 155 yX11_root := ⟨ct_6 (i := 54) rfl rfl, ct_6 (i := 55) rfl rfl, ct_6 (i := 56) rfl rfl⟩
theorem lL_159 : zKV RL 159 yX11_under := ⟨ct_6 (i := 58) rfl rfl, ct_6 (i := 59) rfl rfl, ct_6 (i := 60) rfl rfl⟩
theorem lL_162 : zKV RL 162 yX11_far := ⟨ct_6 (i := 62) rfl rfl, ct_6 (i := 63) rfl rfl, ct_6 (i := 64) rfl rfl⟩
theorem lL_165 : zKV RL 165 yX11_power := ⟨ct_6 (i := 66) rfl rfl, ct_6 (i := 67) rfl rfl, ct_6 (i := 68) rfl rfl⟩
theorem lX11_240 : zKS RX11 240 yJ9_abs_0f7a4 := ⟨ct_6 (i := 70) rfl rfl, ct_3 (i := 227) rfl rfl⟩
theorem lL_168 : zKV RL 168 yX11_turn := ⟨ct_6 (i := 71) rfl rfl, ct_6 (i := 72) rfl rfl, ct_6 (i := 73) rfl rfl⟩
theorem lL_172 : zKV RL 172 yX11_clear := ⟨ct_6 (i := 75) rfl rfl, ct_6 (i := 76) rfl rfl, ct_6 (i := 77) rfl rfl⟩
theorem lX11_243 : zKS RX11 243 yX11_isQuire := ⟨ct_6 (i := 79) rfl rfl, ct_6 (i := 80) rfl rfl⟩
theorem lL_176 : zKV RL 176 yX11_gather_ := ⟨ct_6 (i := 82) rfl rfl, ct_6 (i := 83) rfl rfl, ct_6 (i := 84) rfl rfl⟩
theorem lX11_250 : zKV RX11 250 yX11_gatherInto := ⟨ct_6 (i := 86) rfl rfl, ct_6 (i := 88) rfl rfl, all_p (i := 40) rfl rfl⟩
theorem lL_180 : zKV RL 180 yX11_dot := ⟨ct_6 (i := 90) rfl rfl, ct_6 (i := 91) rfl rfl, ct_6 (i := 92) rfl rfl⟩
theorem lL_183 : zKV RL 183 yX11_settle := ⟨ct_6 (i := 94) rfl rfl, ct_6 (i := 95) rfl rfl, ct_6 (i := 96) rfl rfl⟩
theorem lL_186 : zKV RL 186 yX11_image := ⟨ct_6 (i := 98) rfl rfl, ct_6 (i := 99) rfl rfl, ct_6 (i := 100) rfl rfl⟩
theorem lL_190 : zKV RL 190 yX11_feed := ⟨ct_6 (i := 103) rfl rfl, ct_6 (i := 104) rfl rfl, ct_6 (i := 105) rfl rfl⟩
theorem lL_193 : zKV RL 193 yX11_read := ⟨ct_6 (i := 108) rfl rfl, ct_6 (i := 109) rfl rfl, ct_6 (i := 110) rfl rfl⟩
theorem lX11_264 : zKV RX11 264 yX11_here := ⟨ct_6 (i := 112) rfl rfl, ct_6 (i := 114) rfl rfl, all_p (i := 41) rfl rfl⟩
theorem lX11_285 : zKV RX11 285 yX11_isNarTold := ⟨ct_6 (i := 116) rfl rfl, ct_6 (i := 118) rfl rfl, all_p (i := 42) rfl rfl⟩
theorem lX11_288 : zKV RX11 288 yX11_isDecimal := ⟨ct_6 (i := 120) rfl rfl, ct_6 (i := 122) rfl rfl, all_p (i := 43) rfl rfl⟩
theorem lX11_279 : zKV RX11 279 yX11_isNumber := ⟨ct_6 (i := 124) rfl rfl, ct_6 (i := 126) rfl rfl, all_p (i := 44) rfl rfl⟩
theorem lX11_267 : zKV RX11 267 yX11_isDigit := ⟨ct_6 (i := 128) rfl rfl, ct_6 (i := 130) rfl rfl, all_p (i := 45) rfl rfl⟩
theorem lX11_282 : zKV RX11 282 yX11_isPowerTold := ⟨ct_6 (i := 133) rfl rfl, ct_6 (i := 135) rfl rfl, all_p (i := 46) rfl rfl⟩
theorem lL_197 : zKV RL 197 yX11_write := ⟨ct_6 (i := 137) rfl rfl, ct_6 (i := 138) rfl rfl, ct_6 (i := 139) rfl rfl⟩
theorem lX11_297 : zKV RX11 297 yX11_put := ⟨ct_6 (i := 141) rfl rfl, ct_6 (i := 143) rfl rfl, all_p (i := 47) rfl rfl⟩
theorem lX11_319 : zKV RX11 319 yX11_putShort := ⟨ct_6 (i := 145) rfl rfl, ct_6 (i := 147) rfl rfl, all_p (i := 48) rfl rfl⟩
theorem lX11_306 : zKV RX11 306 yX11_scale := ⟨ct_6 (i := 149) rfl rfl, ct_6 (i := 151) rfl rfl, all_p (i := 49) rfl rfl⟩
theorem lX11_312 : zKV RX11 312 yX11_isRounded := ⟨ct_6 (i := 153) rfl rfl, ct_6 (i := 155) rfl rfl, all_p (i := 50) rfl rfl⟩
theorem lX11_316 : zKV RX11 316 yX11_putFew := ⟨ct_6 (i := 157) rfl rfl, ct_6 (i := 159) rfl rfl, all_p (i := 51) rfl rfl⟩
theorem lX11_300 : zKV RX11 300 yX11_putWhole := ⟨ct_6 (i := 161) rfl rfl, ct_6 (i := 163) rfl rfl, all_p (i := 52) rfl rfl⟩
theorem lX11_294 : zKV RX11 294 yX9_divide := ⟨ct_6 (i := 165) rfl rfl, ct_6 (i := 166) rfl rfl, ct_6 (i := 167) rfl rfl⟩
theorem lX11_322 : zKV RX11 322 yX11_putExact := ⟨ct_6 (i := 169) rfl rfl, ct_6 (i := 171) rfl rfl, all_p (i := 53) rfl rfl⟩
theorem lL_201 : zKV RL 201 yX11_letter := ⟨ct_6 (i := 173) rfl rfl, ct_6 (i := 174) rfl rfl, ct_6 (i := 175) rfl rfl⟩
theorem zKn {fs : List Value} (h : fs.all (fun v => match v with | .ref _ => false | _ => true) = true) : ∀ v ∈ fs, ∀ i, v ≠ .ref i := fun v hv i e => by
  have := List.all_eq_true.mp h v hv
  rw [e] at this
  cases this
theorem nL_8 : zKN RL 8 7 [.null, .null, .null, .null, .null, .null, .null, .null, .null] := ⟨RX8, TX8, 9, tyX8, rfl, ix8, tyX8_ok, ct_1 (i := 23) rfl rfl, ct_1 (i := 24) rfl rfl, ct_1 (i := 1) rfl rfl, by decide, rfl, zKn (by decide)⟩
theorem qL_8 : Cond.classLink RL 8 RX8 ∈ ALL := ct_1 (i := 23) rfl rfl
theorem nX8_17 : zKN RX8 17 3 [.null, .int 0] := ⟨RX3, TX3, 2, tyX3, rfl, ix3, tyX3_ok, ct_1 (i := 31) rfl rfl, ct_1 (i := 33) rfl rfl, ct_1 (i := 2) rfl rfl, by decide, rfl, zKn (by decide)⟩
theorem qX8_17 : Cond.classLink RX8 17 RX3 ∈ ALL := ct_1 (i := 31) rfl rfl
theorem nX8_24 : zKN RX8 24 2 [.int 0, .int 0, .long 0, .int 0] := ⟨RX2, TX2, 4, tyX2, rfl, ix2, tyX2_ok, ct_1 (i := 48) rfl rfl, ct_1 (i := 49) rfl rfl, ct_1 (i := 3) rfl rfl, by decide, rfl, zKn (by decide)⟩
theorem qX8_24 : Cond.classLink RX8 24 RX2 ∈ ALL := ct_1 (i := 48) rfl rfl
theorem nX8_37 : zKN RX8 37 0 [.null, .null, .null, .null, .null] := ⟨RX0, TX0, 5, tyX0, rfl, ix0, tyX0_ok, ct_1 (i := 81) rfl rfl, ct_1 (i := 82) rfl rfl, ct_1 (i := 4) rfl rfl, by decide, rfl, zKn (by decide)⟩
theorem qX8_37 : Cond.classLink RX8 37 RX0 ∈ ALL := ct_1 (i := 81) rfl rfl
theorem nX0_1 : zKN RX0 1 3 [.null, .int 0] := ⟨RX3, TX3, 2, tyX3, rfl, ix3, tyX3_ok, ct_1 (i := 87) rfl rfl, ct_1 (i := 33) rfl rfl, ct_1 (i := 2) rfl rfl, by decide, rfl, zKn (by decide)⟩
theorem qX0_1 : Cond.classLink RX0 1 RX3 ∈ ALL := ct_1 (i := 87) rfl rfl
theorem nX0_16 : zKN RX0 16 2 [.int 0, .int 0, .long 0, .int 0] := ⟨RX2, TX2, 4, tyX2, rfl, ix2, tyX2_ok, ct_1 (i := 89) rfl rfl, ct_1 (i := 49) rfl rfl, ct_1 (i := 3) rfl rfl, by decide, rfl, zKn (by decide)⟩
theorem qX0_16 : Cond.classLink RX0 16 RX2 ∈ ALL := ct_1 (i := 89) rfl rfl
theorem nX0_26 : zKN RX0 26 6 [.null, .int 0] := ⟨RX7, TX7, 2, tyX7, rfl, ix7, tyX7_ok, ct_1 (i := 95) rfl rfl, ct_1 (i := 96) rfl rfl, ct_1 (i := 5) rfl rfl, by decide, rfl, zKn (by decide)⟩
theorem qX0_26 : Cond.classLink RX0 26 RX7 ∈ ALL := ct_1 (i := 95) rfl rfl
theorem nX0_36 : zKN RX0 36 4 [.null, .null, .null, .int 0] := ⟨RX5, TX5, 4, tyX5, rfl, ix5, tyX5_ok, ct_1 (i := 108) rfl rfl, ct_1 (i := 109) rfl rfl, ct_1 (i := 6) rfl rfl, by decide, rfl, zKn (by decide)⟩
theorem qX0_36 : Cond.classLink RX0 36 RX5 ∈ ALL := ct_1 (i := 108) rfl rfl
theorem nX5_7 : zKN RX5 7 6 [.null, .int 0] := ⟨RX7, TX7, 2, tyX7, rfl, ix7, tyX7_ok, ct_1 (i := 114) rfl rfl, ct_1 (i := 96) rfl rfl, ct_1 (i := 5) rfl rfl, by decide, rfl, zKn (by decide)⟩
theorem qX5_7 : Cond.classLink RX5 7 RX7 ∈ ALL := ct_1 (i := 114) rfl rfl
theorem nX8_44 : zKN RX8 44 5 [.null, .int 0, .null, .int 0, .int 0, .int 0, .int 0, .int 0] := ⟨RX6, TX6, 8, tyX6, rfl, ix6, tyX6_ok, ct_1 (i := 148) rfl rfl, ct_1 (i := 149) rfl rfl, ct_1 (i := 7) rfl rfl, by decide, rfl, zKn (by decide)⟩
theorem qX8_44 : Cond.classLink RX8 44 RX6 ∈ ALL := ct_1 (i := 148) rfl rfl
theorem nX6_13 : zKN RX6 13 6 [.null, .int 0] := ⟨RX7, TX7, 2, tyX7, rfl, ix7, tyX7_ok, ct_1 (i := 154) rfl rfl, ct_1 (i := 96) rfl rfl, ct_1 (i := 5) rfl rfl, by decide, rfl, zKn (by decide)⟩
theorem qX6_13 : Cond.classLink RX6 13 RX7 ∈ ALL := ct_1 (i := 154) rfl rfl
theorem nX8_51 : zKN RX8 51 1 [.null, .null, .null, .null, .null, .null, .null, .int 0, .int 0, .int 0, .int 0, .int 0] := ⟨RX1, TX1, 12, tyX1, rfl, ix1, tyX1_ok, ct_1 (i := 187) rfl rfl, ct_1 (i := 188) rfl rfl, ct_1 (i := 8) rfl rfl, by decide, rfl, zKn (by decide)⟩
theorem qX8_51 : Cond.classLink RX8 51 RX1 ∈ ALL := ct_1 (i := 187) rfl rfl
theorem nX1_13 : zKN RX1 13 2 [.int 0, .int 0, .long 0, .int 0] := ⟨RX2, TX2, 4, tyX2, rfl, ix2, tyX2_ok, ct_1 (i := 193) rfl rfl, ct_1 (i := 49) rfl rfl, ct_1 (i := 3) rfl rfl, by decide, rfl, zKn (by decide)⟩
theorem qX1_13 : Cond.classLink RX1 13 RX2 ∈ ALL := ct_1 (i := 193) rfl rfl
theorem nX1_20 : zKN RX1 20 6 [.null, .int 0] := ⟨RX7, TX7, 2, tyX7, rfl, ix7, tyX7_ok, ct_1 (i := 195) rfl rfl, ct_1 (i := 96) rfl rfl, ct_1 (i := 5) rfl rfl, by decide, rfl, zKn (by decide)⟩
theorem qX1_20 : Cond.classLink RX1 20 RX7 ∈ ALL := ct_1 (i := 195) rfl rfl
theorem nL_102 : zKN RL 102 10 [.int 0, .long 0, .int 0, .null, .null, .int 0, .null, .null, .int 0, .int 0, .null, .null, .null, .null, .null, .null, .int 0, .null, .int 0, .null, .int 0, .int 0, .int 0, .int 0, .int 0, .null, .null, .null, .int 0, .null, .int 0, .null, .null] := ⟨RX11, TX11, 33, tyX11, rfl, ix11, tyX11_ok, ct_4 (i := 195) rfl rfl, ct_4 (i := 196) rfl rfl, ct_1 (i := 9) rfl rfl, by decide, rfl, zKn (by decide)⟩
theorem qL_102 : Cond.classLink RL 102 RX11 ∈ ALL := ct_4 (i := 195) rfl rfl
theorem nX11_40 : zKN RX11 40 8 [.null, .int 0] := ⟨RX9, TX9, 2, tyX9, rfl, ix9, tyX9_ok, ct_4 (i := 201) rfl rfl, ct_4 (i := 202) rfl rfl, ct_1 (i := 10) rfl rfl, by decide, rfl, zKn (by decide)⟩
theorem qX11_40 : Cond.classLink RX11 40 RX9 ∈ ALL := ct_4 (i := 201) rfl rfl
theorem nX11_95 : zKN RX11 95 9 [.null, .int 0, .int 0] := ⟨RX10, TX10, 3, tyX10, rfl, ix10, tyX10_ok, ct_4 (i := 217) rfl rfl, ct_4 (i := 219) rfl rfl, ct_1 (i := 11) rfl rfl, by decide, rfl, zKn (by decide)⟩
theorem qX11_95 : Cond.classLink RX11 95 RX10 ∈ ALL := ct_4 (i := 217) rfl rfl
theorem nX10_7 : zKN RX10 7 8 [.null, .int 0] := ⟨RX9, TX9, 2, tyX9, rfl, ix9, tyX9_ok, ct_4 (i := 224) rfl rfl, ct_4 (i := 202) rfl rfl, ct_1 (i := 10) rfl rfl, by decide, rfl, zKn (by decide)⟩
theorem qX10_7 : Cond.classLink RX10 7 RX9 ∈ ALL := ct_4 (i := 224) rfl rfl
theorem ac_int : Cond.arrayClass .int ∈ ALL := ct_1 (i := 46) rfl rfl
theorem ac_long : Cond.arrayClass .long ∈ ALL := ct_1 (i := 47) rfl rfl
