/-! ===== cells ===== -/
theorem o0 : cellO 0 7 := ⟨by decide, rfl⟩
theorem a1 : cellA 1 2 600 := ⟨by decide, rfl⟩
theorem o2 : cellO 2 3 := ⟨by decide, rfl⟩
theorem a3 : cellA 3 1 8 := ⟨by decide, rfl⟩
theorem a4 : cellA 4 0 8 := ⟨by decide, rfl⟩
theorem a5 : cellA 5 1 10 := ⟨by decide, rfl⟩
theorem a6 : cellA 6 0 10 := ⟨by decide, rfl⟩
theorem a7 : cellA 7 0 10 := ⟨by decide, rfl⟩
theorem a8 : cellA 8 0 10 := ⟨by decide, rfl⟩
theorem o9 : cellO 9 3 := ⟨by decide, rfl⟩
theorem a10 : cellA 10 1 8 := ⟨by decide, rfl⟩
theorem a11 : cellA 11 0 8 := ⟨by decide, rfl⟩
theorem a12 : cellA 12 1 10 := ⟨by decide, rfl⟩
theorem a13 : cellA 13 0 10 := ⟨by decide, rfl⟩
theorem a14 : cellA 14 0 10 := ⟨by decide, rfl⟩
theorem a15 : cellA 15 0 10 := ⟨by decide, rfl⟩
theorem o16 : cellO 16 5 := ⟨by decide, rfl⟩
theorem o17 : cellO 17 2 := ⟨by decide, rfl⟩
theorem a18 : cellA 18 0 100 := ⟨by decide, rfl⟩
theorem a19 : cellA 19 0 100 := ⟨by decide, rfl⟩
theorem a20 : cellA 20 0 100 := ⟨by decide, rfl⟩
theorem a21 : cellA 21 0 100 := ⟨by decide, rfl⟩
theorem a22 : cellA 22 0 100 := ⟨by decide, rfl⟩
theorem o23 : cellO 23 4 := ⟨by decide, rfl⟩
theorem a24 : cellA 24 0 100 := ⟨by decide, rfl⟩
theorem a25 : cellA 25 0 100 := ⟨by decide, rfl⟩
theorem a26 : cellA 26 0 100 := ⟨by decide, rfl⟩
theorem a27 : cellA 27 0 100 := ⟨by decide, rfl⟩
theorem a28 : cellA 28 3 100 := ⟨by decide, rfl⟩
theorem o29 : cellO 29 0 := ⟨by decide, rfl⟩
theorem a30 : cellA 30 0 8 := ⟨by decide, rfl⟩
theorem o31 : cellO 31 1 := ⟨by decide, rfl⟩
theorem a32 : cellA 32 0 10 := ⟨by decide, rfl⟩
theorem a33 : cellA 33 0 2000 := ⟨by decide, rfl⟩
theorem a34 : cellA 34 0 200 := ⟨by decide, rfl⟩
theorem o35 : cellO 35 6 := ⟨by decide, rfl⟩
theorem a36 : cellA 36 0 12 := ⟨by decide, rfl⟩
theorem a37 : cellA 37 0 12 := ⟨by decide, rfl⟩
theorem a38 : cellA 38 0 12 := ⟨by decide, rfl⟩
theorem a39 : cellA 39 0 12 := ⟨by decide, rfl⟩
theorem a40 : cellA 40 0 12 := ⟨by decide, rfl⟩
theorem a41 : cellA 41 0 200 := ⟨by decide, rfl⟩
theorem a42 : cellA 42 1 200 := ⟨by decide, rfl⟩
theorem a43 : cellA 43 1 8 := ⟨by decide, rfl⟩
theorem a44 : cellA 44 1 2600 := ⟨by decide, rfl⟩
theorem a45 : cellA 45 1 13 := ⟨by decide, rfl⟩
theorem o46 : cellO 46 8 := ⟨by decide, rfl⟩
theorem a47 : cellA 47 2 600 := ⟨by decide, rfl⟩
theorem a48 : cellA 48 2 144 := ⟨by decide, rfl⟩
theorem a49 : cellA 49 0 18 := ⟨by decide, rfl⟩
theorem a50 : cellA 50 0 8 := ⟨by decide, rfl⟩
theorem a51 : cellA 51 0 10 := ⟨by decide, rfl⟩
theorem a52 : cellA 52 0 10 := ⟨by decide, rfl⟩
theorem a53 : cellA 53 0 10 := ⟨by decide, rfl⟩
theorem a54 : cellA 54 0 8 := ⟨by decide, rfl⟩
theorem a55 : cellA 55 0 10 := ⟨by decide, rfl⟩
theorem a56 : cellA 56 0 10 := ⟨by decide, rfl⟩
theorem a57 : cellA 57 0 10 := ⟨by decide, rfl⟩
theorem a58 : cellA 58 0 100 := ⟨by decide, rfl⟩
theorem a59 : cellA 59 0 100 := ⟨by decide, rfl⟩
theorem a60 : cellA 60 0 100 := ⟨by decide, rfl⟩
theorem a61 : cellA 61 0 100 := ⟨by decide, rfl⟩
theorem a62 : cellA 62 0 100 := ⟨by decide, rfl⟩
theorem a63 : cellA 63 0 100 := ⟨by decide, rfl⟩
theorem a64 : cellA 64 0 100 := ⟨by decide, rfl⟩
theorem a65 : cellA 65 0 100 := ⟨by decide, rfl⟩
theorem a66 : cellA 66 0 100 := ⟨by decide, rfl⟩
theorem a67 : cellA 67 3 100 := ⟨by decide, rfl⟩
theorem a68 : cellA 68 0 12 := ⟨by decide, rfl⟩
theorem a69 : cellA 69 1 200 := ⟨by decide, rfl⟩
theorem a70 : cellA 70 3 2000 := ⟨by decide, rfl⟩
theorem a71 : cellA 71 1 2613 := ⟨by decide, rfl⟩
theorem a72 : cellA 72 1 2613 := ⟨by decide, rfl⟩
theorem a73 : cellA 73 1 13 := ⟨by decide, rfl⟩
theorem a74 : cellA 74 1 13 := ⟨by decide, rfl⟩
theorem a75 : cellA 75 1 1 := ⟨by decide, rfl⟩
theorem r0_0 : rfc 0 0 = 1 := rfl
theorem r0_4 : rfc 0 4 = 2 := rfl
theorem r0_5 : rfc 0 5 = 9 := rfl
theorem r0_6 : rfc 0 6 = 16 := rfl
theorem r0_7 : rfc 0 7 = 17 := rfl
theorem r0_8 : rfc 0 8 = 23 := rfl
theorem r0_9 : rfc 0 9 = 29 := rfl
theorem r0_10 : rfc 0 10 = 31 := rfl
theorem r2_2 : rfc 2 2 = 3 := rfl
theorem r2_3 : rfc 2 3 = 4 := rfl
theorem r2_4 : rfc 2 4 = 5 := rfl
theorem r2_5 : rfc 2 5 = 6 := rfl
theorem r2_6 : rfc 2 6 = 7 := rfl
theorem r2_7 : rfc 2 7 = 8 := rfl
theorem r9_2 : rfc 9 2 = 10 := rfl
theorem r9_3 : rfc 9 3 = 11 := rfl
theorem r9_4 : rfc 9 4 = 12 := rfl
theorem r9_5 : rfc 9 5 = 13 := rfl
theorem r9_6 : rfc 9 6 = 14 := rfl
theorem r9_7 : rfc 9 7 = 15 := rfl
theorem r16_0 : rfc 16 0 = 1 := rfl
theorem r17_1 : rfc 17 1 = 18 := rfl
theorem r17_2 : rfc 17 2 = 19 := rfl
theorem r17_3 : rfc 17 3 = 20 := rfl
theorem r17_4 : rfc 17 4 = 21 := rfl
theorem r17_5 : rfc 17 5 = 22 := rfl
theorem r23_1 : rfc 23 1 = 24 := rfl
theorem r23_2 : rfc 23 2 = 25 := rfl
theorem r23_3 : rfc 23 3 = 26 := rfl
theorem r23_4 : rfc 23 4 = 27 := rfl
theorem r23_5 : rfc 23 5 = 28 := rfl
theorem r29_0 : rfc 29 0 = 2 := rfl
theorem r29_1 : rfc 29 1 = 17 := rfl
theorem r29_2 : rfc 29 2 = 30 := rfl
theorem r31_0 : rfc 31 0 = 17 := rfl
theorem r31_1 : rfc 31 1 = 35 := rfl
theorem r31_2 : rfc 31 2 = 32 := rfl
theorem r31_3 : rfc 31 3 = 33 := rfl
theorem r31_9 : rfc 31 9 = 34 := rfl
theorem r35_0 : rfc 35 0 = 2 := rfl
theorem r35_1 : rfc 35 1 = 17 := rfl
theorem r35_3 : rfc 35 3 = 36 := rfl
theorem r35_4 : rfc 35 4 = 37 := rfl
theorem r35_5 : rfc 35 5 = 38 := rfl
theorem r35_6 : rfc 35 6 = 39 := rfl
theorem r35_7 : rfc 35 7 = 40 := rfl
theorem r35_9 : rfc 35 9 = 41 := rfl
theorem r35_10 : rfc 35 10 = 42 := rfl
theorem r35_11 : rfc 35 11 = 43 := rfl
theorem r35_12 : rfc 35 12 = 44 := rfl
theorem r35_13 : rfc 35 13 = 45 := rfl
theorem r46_1 : rfc 46 1 = 47 := rfl
theorem r46_10 : rfc 46 10 = 48 := rfl
theorem r46_11 : rfc 46 11 = 49 := rfl
theorem r46_14 : rfc 46 14 = 50 := rfl
theorem r46_15 : rfc 46 15 = 51 := rfl
theorem r46_16 : rfc 46 16 = 52 := rfl
theorem r46_17 : rfc 46 17 = 53 := rfl
theorem r46_20 : rfc 46 20 = 54 := rfl
theorem r46_21 : rfc 46 21 = 55 := rfl
theorem r46_22 : rfc 46 22 = 56 := rfl
theorem r46_23 : rfc 46 23 = 57 := rfl
theorem r46_27 : rfc 46 27 = 58 := rfl
theorem r46_28 : rfc 46 28 = 59 := rfl
theorem r46_29 : rfc 46 29 = 60 := rfl
theorem r46_30 : rfc 46 30 = 61 := rfl
theorem r46_31 : rfc 46 31 = 62 := rfl
theorem r46_32 : rfc 46 32 = 63 := rfl
theorem r46_33 : rfc 46 33 = 64 := rfl
theorem r46_34 : rfc 46 34 = 65 := rfl
theorem r46_35 : rfc 46 35 = 66 := rfl
theorem r46_36 : rfc 46 36 = 67 := rfl
theorem r46_37 : rfc 46 37 = 68 := rfl
theorem r46_39 : rfc 46 39 = 69 := rfl
theorem r46_40 : rfc 46 40 = 70 := rfl
theorem r46_41 : rfc 46 41 = 71 := rfl
theorem r46_42 : rfc 46 42 = 72 := rfl
theorem r46_43 : rfc 46 43 = 73 := rfl
theorem r46_44 : rfc 46 44 = 74 := rfl
/-! ===== classes ===== -/
theorem in0 : ∀ w ∈ u_ws RX0 TX0 3, w ∈ TB := by
  intro w hw
  obtain ⟨k, hk, rfl⟩ := List.mem_map.mp hw
  have hk := List.mem_range.mp hk
  rcases (show k = 0 ∨ k = 1 ∨ k = 2 by omega) with rfl | rfl | rfl
  · exact tb_of (List.mem_append_right _ (List.mem_of_getElem? (i := 191) (by decide +kernel))) (by decide +kernel)
  · exact tb_of (List.mem_append_right _ (List.mem_of_getElem? (i := 193) (by decide +kernel))) (by decide +kernel)
  · exact tb_of (List.mem_append_right _ (List.mem_of_getElem? (i := 195) (by decide +kernel))) (by decide +kernel)
theorem ck0 : ClsOk 0 RX0 TX0 3 tyX0 := ⟨rfl, in0, tyX0_ok, nmX0, rfl⟩
theorem in1 : ∀ w ∈ u_ws RX1 TX1 10, w ∈ TB := by
  intro w hw
  obtain ⟨k, hk, rfl⟩ := List.mem_map.mp hw
  have hk := List.mem_range.mp hk
  rcases (show k = 0 ∨ k = 1 ∨ k = 2 ∨ k = 3 ∨ k = 4 ∨ k = 5 ∨ k = 6 ∨ k = 7 ∨ k = 8 ∨ k = 9 by omega) with rfl | rfl | rfl | rfl | rfl | rfl | rfl | rfl | rfl | rfl
  · exact tb_of (List.mem_append_right _ (List.mem_of_getElem? (i := 263) (by decide +kernel))) (by decide +kernel)
  · exact tb_of (List.mem_append_right _ (List.mem_of_getElem? (i := 265) (by decide +kernel))) (by decide +kernel)
  · exact tb_of (List.mem_append_right _ (List.mem_of_getElem? (i := 267) (by decide +kernel))) (by decide +kernel)
  · exact tb_of (List.mem_append_right _ (List.mem_of_getElem? (i := 269) (by decide +kernel))) (by decide +kernel)
  · exact tb_of (List.mem_append_right _ (List.mem_of_getElem? (i := 271) (by decide +kernel))) (by decide +kernel)
  · exact tb_of (List.mem_append_right _ (List.mem_of_getElem? (i := 273) (by decide +kernel))) (by decide +kernel)
  · exact tb_of (List.mem_append_right _ (List.mem_of_getElem? (i := 275) (by decide +kernel))) (by decide +kernel)
  · exact tb_of (List.mem_append_right _ (List.mem_of_getElem? (i := 277) (by decide +kernel))) (by decide +kernel)
  · exact tb_of (List.mem_append_right _ (List.mem_of_getElem? (i := 279) (by decide +kernel))) (by decide +kernel)
  · exact tb_of (List.mem_append_right _ (List.mem_of_getElem? (i := 281) (by decide +kernel))) (by decide +kernel)
theorem ck1 : ClsOk 1 RX1 TX1 10 tyX1 := ⟨rfl, in1, tyX1_ok, nmX1, rfl⟩
theorem in2 : ∀ w ∈ u_ws RX2 TX2 6, w ∈ TB := by
  intro w hw
  obtain ⟨k, hk, rfl⟩ := List.mem_map.mp hw
  have hk := List.mem_range.mp hk
  rcases (show k = 0 ∨ k = 1 ∨ k = 2 ∨ k = 3 ∨ k = 4 ∨ k = 5 by omega) with rfl | rfl | rfl | rfl | rfl | rfl
  · exact tb_of (List.mem_append_right _ (List.mem_of_getElem? (i := 142) (by decide +kernel))) (by decide +kernel)
  · exact tb_of (List.mem_append_right _ (List.mem_of_getElem? (i := 144) (by decide +kernel))) (by decide +kernel)
  · exact tb_of (List.mem_append_right _ (List.mem_of_getElem? (i := 146) (by decide +kernel))) (by decide +kernel)
  · exact tb_of (List.mem_append_right _ (List.mem_of_getElem? (i := 148) (by decide +kernel))) (by decide +kernel)
  · exact tb_of (List.mem_append_right _ (List.mem_of_getElem? (i := 150) (by decide +kernel))) (by decide +kernel)
  · exact tb_of (List.mem_append_right _ (List.mem_of_getElem? (i := 152) (by decide +kernel))) (by decide +kernel)
theorem ck2 : ClsOk 2 RX2 TX2 6 tyX2 := ⟨rfl, in2, tyX2_ok, nmX2, rfl⟩
theorem in3 : ∀ w ∈ u_ws RX3 TX3 8, w ∈ TB := by
  intro w hw
  obtain ⟨k, hk, rfl⟩ := List.mem_map.mp hw
  have hk := List.mem_range.mp hk
  rcases (show k = 0 ∨ k = 1 ∨ k = 2 ∨ k = 3 ∨ k = 4 ∨ k = 5 ∨ k = 6 ∨ k = 7 by omega) with rfl | rfl | rfl | rfl | rfl | rfl | rfl | rfl
  · exact tb_of (List.mem_append_right _ (List.mem_of_getElem? (i := 58) (by decide +kernel))) (by decide +kernel)
  · exact tb_of (List.mem_append_right _ (List.mem_of_getElem? (i := 60) (by decide +kernel))) (by decide +kernel)
  · exact tb_of (List.mem_append_right _ (List.mem_of_getElem? (i := 62) (by decide +kernel))) (by decide +kernel)
  · exact tb_of (List.mem_append_right _ (List.mem_of_getElem? (i := 64) (by decide +kernel))) (by decide +kernel)
  · exact tb_of (List.mem_append_right _ (List.mem_of_getElem? (i := 66) (by decide +kernel))) (by decide +kernel)
  · exact tb_of (List.mem_append_right _ (List.mem_of_getElem? (i := 68) (by decide +kernel))) (by decide +kernel)
  · exact tb_of (List.mem_append_right _ (List.mem_of_getElem? (i := 70) (by decide +kernel))) (by decide +kernel)
  · exact tb_of (List.mem_append_right _ (List.mem_of_getElem? (i := 72) (by decide +kernel))) (by decide +kernel)
theorem ck3 : ClsOk 3 RX3 TX3 8 tyX3 := ⟨rfl, in3, tyX3_ok, nmX3, rfl⟩
theorem in4 : ∀ w ∈ u_ws RX4 TX4 6, w ∈ TB := by
  intro w hw
  obtain ⟨k, hk, rfl⟩ := List.mem_map.mp hw
  have hk := List.mem_range.mp hk
  rcases (show k = 0 ∨ k = 1 ∨ k = 2 ∨ k = 3 ∨ k = 4 ∨ k = 5 by omega) with rfl | rfl | rfl | rfl | rfl | rfl
  · exact tb_of (List.mem_append_right _ (List.mem_of_getElem? (i := 168) (by decide +kernel))) (by decide +kernel)
  · exact tb_of (List.mem_append_right _ (List.mem_of_getElem? (i := 170) (by decide +kernel))) (by decide +kernel)
  · exact tb_of (List.mem_append_right _ (List.mem_of_getElem? (i := 172) (by decide +kernel))) (by decide +kernel)
  · exact tb_of (List.mem_append_right _ (List.mem_of_getElem? (i := 174) (by decide +kernel))) (by decide +kernel)
  · exact tb_of (List.mem_append_right _ (List.mem_of_getElem? (i := 176) (by decide +kernel))) (by decide +kernel)
  · exact tb_of (List.mem_append_right _ (List.mem_of_getElem? (i := 178) (by decide +kernel))) (by decide +kernel)
theorem ck4 : ClsOk 4 RX4 TX4 6 tyX4 := ⟨rfl, in4, tyX4_ok, nmX4, rfl⟩
theorem in5 : ∀ w ∈ u_ws RX5 TX5 9, w ∈ TB := by
  intro w hw
  obtain ⟨k, hk, rfl⟩ := List.mem_map.mp hw
  have hk := List.mem_range.mp hk
  rcases (show k = 0 ∨ k = 1 ∨ k = 2 ∨ k = 3 ∨ k = 4 ∨ k = 5 ∨ k = 6 ∨ k = 7 ∨ k = 8 by omega) with rfl | rfl | rfl | rfl | rfl | rfl | rfl | rfl | rfl
  · exact tb_of (List.mem_append_right _ (List.mem_of_getElem? (i := 94) (by decide +kernel))) (by decide +kernel)
  · exact tb_of (List.mem_append_right _ (List.mem_of_getElem? (i := 96) (by decide +kernel))) (by decide +kernel)
  · exact tb_of (List.mem_append_right _ (List.mem_of_getElem? (i := 98) (by decide +kernel))) (by decide +kernel)
  · exact tb_of (List.mem_append_right _ (List.mem_of_getElem? (i := 100) (by decide +kernel))) (by decide +kernel)
  · exact tb_of (List.mem_append_right _ (List.mem_of_getElem? (i := 102) (by decide +kernel))) (by decide +kernel)
  · exact tb_of (List.mem_append_right _ (List.mem_of_getElem? (i := 104) (by decide +kernel))) (by decide +kernel)
  · exact tb_of (List.mem_append_right _ (List.mem_of_getElem? (i := 106) (by decide +kernel))) (by decide +kernel)
  · exact tb_of (List.mem_append_right _ (List.mem_of_getElem? (i := 108) (by decide +kernel))) (by decide +kernel)
  · exact tb_of (List.mem_append_right _ (List.mem_of_getElem? (i := 110) (by decide +kernel))) (by decide +kernel)
theorem ck5 : ClsOk 5 RX5 TX5 9 tyX5 := ⟨rfl, in5, tyX5_ok, nmX5, rfl⟩
theorem in6 : ∀ w ∈ u_ws RX6 TX6 14, w ∈ TB := by
  intro w hw
  obtain ⟨k, hk, rfl⟩ := List.mem_map.mp hw
  have hk := List.mem_range.mp hk
  rcases (show k = 0 ∨ k = 1 ∨ k = 2 ∨ k = 3 ∨ k = 4 ∨ k = 5 ∨ k = 6 ∨ k = 7 ∨ k = 8 ∨ k = 9 ∨ k = 10 ∨ k = 11 ∨ k = 12 ∨ k = 13 by omega) with rfl | rfl | rfl | rfl | rfl | rfl | rfl | rfl | rfl | rfl | rfl | rfl | rfl | rfl
  · exact tb_of (List.mem_append_right _ (List.mem_of_getElem? (i := 220) (by decide +kernel))) (by decide +kernel)
  · exact tb_of (List.mem_append_right _ (List.mem_of_getElem? (i := 222) (by decide +kernel))) (by decide +kernel)
  · exact tb_of (List.mem_append_right _ (List.mem_of_getElem? (i := 224) (by decide +kernel))) (by decide +kernel)
  · exact tb_of (List.mem_append_right _ (List.mem_of_getElem? (i := 226) (by decide +kernel))) (by decide +kernel)
  · exact tb_of (List.mem_append_right _ (List.mem_of_getElem? (i := 228) (by decide +kernel))) (by decide +kernel)
  · exact tb_of (List.mem_append_right _ (List.mem_of_getElem? (i := 230) (by decide +kernel))) (by decide +kernel)
  · exact tb_of (List.mem_append_right _ (List.mem_of_getElem? (i := 232) (by decide +kernel))) (by decide +kernel)
  · exact tb_of (List.mem_append_right _ (List.mem_of_getElem? (i := 234) (by decide +kernel))) (by decide +kernel)
  · exact tb_of (List.mem_append_right _ (List.mem_of_getElem? (i := 236) (by decide +kernel))) (by decide +kernel)
  · exact tb_of (List.mem_append_right _ (List.mem_of_getElem? (i := 238) (by decide +kernel))) (by decide +kernel)
  · exact tb_of (List.mem_append_right _ (List.mem_of_getElem? (i := 240) (by decide +kernel))) (by decide +kernel)
  · exact tb_of (List.mem_append_right _ (List.mem_of_getElem? (i := 242) (by decide +kernel))) (by decide +kernel)
  · exact tb_of (List.mem_append_right _ (List.mem_of_getElem? (i := 244) (by decide +kernel))) (by decide +kernel)
  · exact tb_of (List.mem_append_right _ (List.mem_of_getElem? (i := 246) (by decide +kernel))) (by decide +kernel)
theorem ck6 : ClsOk 6 RX6 TX6 14 tyX6 := ⟨rfl, in6, tyX6_ok, nmX6, rfl⟩
theorem in7 : ∀ w ∈ u_ws RX7 TX7 11, w ∈ TB := by
  intro w hw
  obtain ⟨k, hk, rfl⟩ := List.mem_map.mp hw
  have hk := List.mem_range.mp hk
  rcases (show k = 0 ∨ k = 1 ∨ k = 2 ∨ k = 3 ∨ k = 4 ∨ k = 5 ∨ k = 6 ∨ k = 7 ∨ k = 8 ∨ k = 9 ∨ k = 10 by omega) with rfl | rfl | rfl | rfl | rfl | rfl | rfl | rfl | rfl | rfl | rfl
  · exact tb_of (List.mem_append_right _ (List.mem_of_getElem? (i := 295) (by decide +kernel))) (by decide +kernel)
  · exact tb_of (List.mem_append_right _ (List.mem_of_getElem? (i := 297) (by decide +kernel))) (by decide +kernel)
  · exact tb_of (List.mem_append_right _ (List.mem_of_getElem? (i := 299) (by decide +kernel))) (by decide +kernel)
  · exact tb_of (List.mem_append_right _ (List.mem_of_getElem? (i := 301) (by decide +kernel))) (by decide +kernel)
  · exact tb_of (List.mem_append_right _ (List.mem_of_getElem? (i := 303) (by decide +kernel))) (by decide +kernel)
  · exact tb_of (List.mem_append_right _ (List.mem_of_getElem? (i := 305) (by decide +kernel))) (by decide +kernel)
  · exact tb_of (List.mem_append_right _ (List.mem_of_getElem? (i := 307) (by decide +kernel))) (by decide +kernel)
  · exact tb_of (List.mem_append_right _ (List.mem_of_getElem? (i := 309) (by decide +kernel))) (by decide +kernel)
  · exact tb_of (List.mem_append_right _ (List.mem_of_getElem? (i := 311) (by decide +kernel))) (by decide +kernel)
  · exact tb_of (List.mem_append_right _ (List.mem_of_getElem? (i := 313) (by decide +kernel))) (by decide +kernel)
  · exact tb_of (List.mem_append_right _ (List.mem_of_getElem? (i := 315) (by decide +kernel))) (by decide +kernel)
theorem ck7 : ClsOk 7 RX7 TX7 11 tyX7 := ⟨rfl, in7, tyX7_ok, nmX7, rfl⟩
theorem in8 : ∀ w ∈ u_ws RX8 TX8 45, w ∈ TB := by
  intro w hw
  obtain ⟨k, hk, rfl⟩ := List.mem_map.mp hw
  have hk := List.mem_range.mp hk
  rcases (show k = 0 ∨ k = 1 ∨ k = 2 ∨ k = 3 ∨ k = 4 ∨ k = 5 ∨ k = 6 ∨ k = 7 ∨ k = 8 ∨ k = 9 ∨ k = 10 ∨ k = 11 ∨ k = 12 ∨ k = 13 ∨ k = 14 ∨ k = 15 ∨ k = 16 ∨ k = 17 ∨ k = 18 ∨ k = 19 ∨ k = 20 ∨ k = 21 ∨ k = 22 ∨ k = 23 ∨ k = 24 ∨ k = 25 ∨ k = 26 ∨ k = 27 ∨ k = 28 ∨ k = 29 ∨ k = 30 ∨ k = 31 ∨ k = 32 ∨ k = 33 ∨ k = 34 ∨ k = 35 ∨ k = 36 ∨ k = 37 ∨ k = 38 ∨ k = 39 ∨ k = 40 ∨ k = 41 ∨ k = 42 ∨ k = 43 ∨ k = 44 by omega) with rfl | rfl | rfl | rfl | rfl | rfl | rfl | rfl | rfl | rfl | rfl | rfl | rfl | rfl | rfl | rfl | rfl | rfl | rfl | rfl | rfl | rfl | rfl | rfl | rfl | rfl | rfl | rfl | rfl | rfl | rfl | rfl | rfl | rfl | rfl | rfl | rfl | rfl | rfl | rfl | rfl | rfl | rfl | rfl | rfl
  · exact tb_of (List.mem_append_right _ (List.mem_of_getElem? (i := 871) (by decide +kernel))) (by decide +kernel)
  · exact tb_of (List.mem_append_right _ (List.mem_of_getElem? (i := 873) (by decide +kernel))) (by decide +kernel)
  · exact tb_of (List.mem_append_right _ (List.mem_of_getElem? (i := 875) (by decide +kernel))) (by decide +kernel)
  · exact tb_of (List.mem_append_right _ (List.mem_of_getElem? (i := 877) (by decide +kernel))) (by decide +kernel)
  · exact tb_of (List.mem_append_right _ (List.mem_of_getElem? (i := 879) (by decide +kernel))) (by decide +kernel)
  · exact tb_of (List.mem_append_right _ (List.mem_of_getElem? (i := 881) (by decide +kernel))) (by decide +kernel)
  · exact tb_of (List.mem_append_right _ (List.mem_of_getElem? (i := 883) (by decide +kernel))) (by decide +kernel)
  · exact tb_of (List.mem_append_right _ (List.mem_of_getElem? (i := 885) (by decide +kernel))) (by decide +kernel)
  · exact tb_of (List.mem_append_right _ (List.mem_of_getElem? (i := 887) (by decide +kernel))) (by decide +kernel)
  · exact tb_of (List.mem_append_right _ (List.mem_of_getElem? (i := 889) (by decide +kernel))) (by decide +kernel)
  · exact tb_of (List.mem_append_right _ (List.mem_of_getElem? (i := 891) (by decide +kernel))) (by decide +kernel)
  · exact tb_of (List.mem_append_right _ (List.mem_of_getElem? (i := 893) (by decide +kernel))) (by decide +kernel)
  · exact tb_of (List.mem_append_right _ (List.mem_of_getElem? (i := 895) (by decide +kernel))) (by decide +kernel)
  · exact tb_of (List.mem_append_right _ (List.mem_of_getElem? (i := 897) (by decide +kernel))) (by decide +kernel)
  · exact tb_of (List.mem_append_right _ (List.mem_of_getElem? (i := 899) (by decide +kernel))) (by decide +kernel)
  · exact tb_of (List.mem_append_right _ (List.mem_of_getElem? (i := 901) (by decide +kernel))) (by decide +kernel)
  · exact tb_of (List.mem_append_right _ (List.mem_of_getElem? (i := 903) (by decide +kernel))) (by decide +kernel)
  · exact tb_of (List.mem_append_right _ (List.mem_of_getElem? (i := 905) (by decide +kernel))) (by decide +kernel)
  · exact tb_of (List.mem_append_right _ (List.mem_of_getElem? (i := 907) (by decide +kernel))) (by decide +kernel)
  · exact tb_of (List.mem_append_right _ (List.mem_of_getElem? (i := 909) (by decide +kernel))) (by decide +kernel)
  · exact tb_of (List.mem_append_right _ (List.mem_of_getElem? (i := 911) (by decide +kernel))) (by decide +kernel)
  · exact tb_of (List.mem_append_right _ (List.mem_of_getElem? (i := 913) (by decide +kernel))) (by decide +kernel)
  · exact tb_of (List.mem_append_right _ (List.mem_of_getElem? (i := 915) (by decide +kernel))) (by decide +kernel)
  · exact tb_of (List.mem_append_right _ (List.mem_of_getElem? (i := 917) (by decide +kernel))) (by decide +kernel)
  · exact tb_of (List.mem_append_right _ (List.mem_of_getElem? (i := 919) (by decide +kernel))) (by decide +kernel)
  · exact tb_of (List.mem_append_right _ (List.mem_of_getElem? (i := 921) (by decide +kernel))) (by decide +kernel)
  · exact tb_of (List.mem_append_right _ (List.mem_of_getElem? (i := 923) (by decide +kernel))) (by decide +kernel)
  · exact tb_of (List.mem_append_right _ (List.mem_of_getElem? (i := 925) (by decide +kernel))) (by decide +kernel)
  · exact tb_of (List.mem_append_right _ (List.mem_of_getElem? (i := 927) (by decide +kernel))) (by decide +kernel)
  · exact tb_of (List.mem_append_right _ (List.mem_of_getElem? (i := 929) (by decide +kernel))) (by decide +kernel)
  · exact tb_of (List.mem_append_right _ (List.mem_of_getElem? (i := 931) (by decide +kernel))) (by decide +kernel)
  · exact tb_of (List.mem_append_right _ (List.mem_of_getElem? (i := 933) (by decide +kernel))) (by decide +kernel)
  · exact tb_of (List.mem_append_right _ (List.mem_of_getElem? (i := 935) (by decide +kernel))) (by decide +kernel)
  · exact tb_of (List.mem_append_right _ (List.mem_of_getElem? (i := 937) (by decide +kernel))) (by decide +kernel)
  · exact tb_of (List.mem_append_right _ (List.mem_of_getElem? (i := 939) (by decide +kernel))) (by decide +kernel)
  · exact tb_of (List.mem_append_right _ (List.mem_of_getElem? (i := 941) (by decide +kernel))) (by decide +kernel)
  · exact tb_of (List.mem_append_right _ (List.mem_of_getElem? (i := 943) (by decide +kernel))) (by decide +kernel)
  · exact tb_of (List.mem_append_right _ (List.mem_of_getElem? (i := 945) (by decide +kernel))) (by decide +kernel)
  · exact tb_of (List.mem_append_right _ (List.mem_of_getElem? (i := 947) (by decide +kernel))) (by decide +kernel)
  · exact tb_of (List.mem_append_right _ (List.mem_of_getElem? (i := 949) (by decide +kernel))) (by decide +kernel)
  · exact tb_of (List.mem_append_right _ (List.mem_of_getElem? (i := 951) (by decide +kernel))) (by decide +kernel)
  · exact tb_of (List.mem_append_right _ (List.mem_of_getElem? (i := 953) (by decide +kernel))) (by decide +kernel)
  · exact tb_of (List.mem_append_right _ (List.mem_of_getElem? (i := 955) (by decide +kernel))) (by decide +kernel)
  · exact tb_of (List.mem_append_right _ (List.mem_of_getElem? (i := 957) (by decide +kernel))) (by decide +kernel)
  · exact tb_of (List.mem_append_right _ (List.mem_of_getElem? (i := 959) (by decide +kernel))) (by decide +kernel)
theorem ck8 : ClsOk 8 RX8 TX8 45 tyX8 := ⟨rfl, in8, tyX8_ok, nmX8, rfl⟩
/-! ===== methods ===== -/
def M_X0_init : MM := (cX0_init, yX0_init, RX0, 3, none)
def M_X0_roomComeTo : MM := (cX0_roomComeTo, yX0_roomComeTo, RX0, 2, (some .int))
theorem mk_X0_roomComeTo : MOk M_X0_roomComeTo := ⟨by decide +kernel, rfl, tb_of (List.mem_append_right _ (List.mem_of_getElem? (i := 658) (by decide +kernel))) (by decide +kernel), tb_of (List.mem_append_right _ (List.mem_of_getElem? (i := 6) (by decide +kernel))) (by decide +kernel), ⟨by decide +kernel, by decide +kernel⟩, by decide⟩
theorem vk_X0_roomComeTo : VOk M_X0_roomComeTo 1 0 := ⟨tb_of (List.mem_append_right _ (List.mem_of_getElem? (i := 657) (by decide +kernel))) (by decide +kernel), tb_of (List.mem_append_left _ (List.mem_of_getElem? (i := 58) (by decide +kernel))) (by decide +kernel), by decide +kernel, _, _, rfl⟩
def M_X0_isFromOutside : MM := (cX0_isFromOutside, yX0_isFromOutside, RX0, 2, (some .boolean))
theorem mk_X0_isFromOutside : MOk M_X0_isFromOutside := ⟨by decide +kernel, rfl, tb_of (List.mem_append_right _ (List.mem_of_getElem? (i := 666) (by decide +kernel))) (by decide +kernel), tb_of (List.mem_append_right _ (List.mem_of_getElem? (i := 6) (by decide +kernel))) (by decide +kernel), ⟨by decide +kernel, by decide +kernel⟩, by decide⟩
theorem vk_X0_isFromOutside : VOk M_X0_isFromOutside 1 0 := ⟨tb_of (List.mem_append_right _ (List.mem_of_getElem? (i := 665) (by decide +kernel))) (by decide +kernel), tb_of (List.mem_append_left _ (List.mem_of_getElem? (i := 59) (by decide +kernel))) (by decide +kernel), by decide +kernel, _, _, rfl⟩
def M_X0_isFirst : MM := (cX0_isFirst, yX0_isFirst, RX0, 4, (some .boolean))
theorem mk_X0_isFirst : MOk M_X0_isFirst := ⟨by decide +kernel, rfl, tb_of (List.mem_append_right _ (List.mem_of_getElem? (i := 654) (by decide +kernel))) (by decide +kernel), tb_of (List.mem_append_right _ (List.mem_of_getElem? (i := 6) (by decide +kernel))) (by decide +kernel), ⟨by decide +kernel, by decide +kernel⟩, by decide⟩
theorem vk_X0_isFirst : VOk M_X0_isFirst 1 0 := ⟨tb_of (List.mem_append_right _ (List.mem_of_getElem? (i := 653) (by decide +kernel))) (by decide +kernel), tb_of (List.mem_append_left _ (List.mem_of_getElem? (i := 57) (by decide +kernel))) (by decide +kernel), by decide +kernel, _, _, rfl⟩
def M_X0_daysAhead : MM := (cX0_daysAhead, yX0_daysAhead, RX0, 4, (some .int))
theorem mk_X0_daysAhead : MOk M_X0_daysAhead := ⟨by decide +kernel, rfl, tb_of (List.mem_append_right _ (List.mem_of_getElem? (i := 685) (by decide +kernel))) (by decide +kernel), tb_of (List.mem_append_right _ (List.mem_of_getElem? (i := 6) (by decide +kernel))) (by decide +kernel), ⟨by decide +kernel, by decide +kernel⟩, by decide⟩
theorem vk_X0_daysAhead : VOk M_X0_daysAhead 1 0 := ⟨tb_of (List.mem_append_right _ (List.mem_of_getElem? (i := 684) (by decide +kernel))) (by decide +kernel), tb_of (List.mem_append_left _ (List.mem_of_getElem? (i := 63) (by decide +kernel))) (by decide +kernel), by decide +kernel, _, _, rfl⟩
def M_X0_daysAsLate : MM := (cX0_daysAsLate, yX0_daysAsLate, RX0, 5, (some .int))
theorem mk_X0_daysAsLate : MOk M_X0_daysAsLate := ⟨by decide +kernel, rfl, tb_of (List.mem_append_right _ (List.mem_of_getElem? (i := 671) (by decide +kernel))) (by decide +kernel), tb_of (List.mem_append_right _ (List.mem_of_getElem? (i := 6) (by decide +kernel))) (by decide +kernel), ⟨by decide +kernel, by decide +kernel⟩, by decide⟩
theorem vk_X0_daysAsLate : VOk M_X0_daysAsLate 1 0 := ⟨tb_of (List.mem_append_right _ (List.mem_of_getElem? (i := 670) (by decide +kernel))) (by decide +kernel), tb_of (List.mem_append_left _ (List.mem_of_getElem? (i := 60) (by decide +kernel))) (by decide +kernel), by decide +kernel, _, _, rfl⟩
def M_X0_findEarliest : MM := (cX0_findEarliest, yX0_findEarliest, RX0, 4, none)
theorem mk_X0_findEarliest : MOk M_X0_findEarliest := ⟨by decide +kernel, rfl, tb_of (List.mem_append_right _ (List.mem_of_getElem? (i := 675) (by decide +kernel))) (by decide +kernel), tb_of (List.mem_append_right _ (List.mem_of_getElem? (i := 6) (by decide +kernel))) (by decide +kernel), ⟨by decide +kernel, by decide +kernel⟩, by decide⟩
theorem vk_X0_findEarliest : VOk M_X0_findEarliest 1 0 := ⟨tb_of (List.mem_append_right _ (List.mem_of_getElem? (i := 674) (by decide +kernel))) (by decide +kernel), tb_of (List.mem_append_left _ (List.mem_of_getElem? (i := 61) (by decide +kernel))) (by decide +kernel), by decide +kernel, _, _, rfl⟩
def M_X0_daysOf : MM := (cX0_daysOf, yX0_daysOf, RX0, 4, (some .int))
theorem mk_X0_daysOf : MOk M_X0_daysOf := ⟨by decide +kernel, rfl, tb_of (List.mem_append_right _ (List.mem_of_getElem? (i := 704) (by decide +kernel))) (by decide +kernel), tb_of (List.mem_append_right _ (List.mem_of_getElem? (i := 6) (by decide +kernel))) (by decide +kernel), ⟨by decide +kernel, by decide +kernel⟩, by decide⟩
theorem vk_X0_daysOf : VOk M_X0_daysOf 1 0 := ⟨tb_of (List.mem_append_right _ (List.mem_of_getElem? (i := 703) (by decide +kernel))) (by decide +kernel), tb_of (List.mem_append_left _ (List.mem_of_getElem? (i := 66) (by decide +kernel))) (by decide +kernel), by decide +kernel, _, _, rfl⟩
def M_X0_daysTogether : MM := (cX0_daysTogether, yX0_daysTogether, RX0, 6, (some .int))
theorem mk_X0_daysTogether : MOk M_X0_daysTogether := ⟨by decide +kernel, rfl, tb_of (List.mem_append_right _ (List.mem_of_getElem? (i := 693) (by decide +kernel))) (by decide +kernel), tb_of (List.mem_append_right _ (List.mem_of_getElem? (i := 6) (by decide +kernel))) (by decide +kernel), ⟨by decide +kernel, by decide +kernel⟩, by decide⟩
theorem vk_X0_daysTogether : VOk M_X0_daysTogether 3 0 := ⟨tb_of (List.mem_append_right _ (List.mem_of_getElem? (i := 692) (by decide +kernel))) (by decide +kernel), tb_of (List.mem_append_left _ (List.mem_of_getElem? (i := 64) (by decide +kernel))) (by decide +kernel), by decide +kernel, _, _, rfl⟩
def M_X0_isNear : MM := (cX0_isNear, yX0_isNear, RX0, 5, (some .boolean))
theorem mk_X0_isNear : MOk M_X0_isNear := ⟨by decide +kernel, rfl, tb_of (List.mem_append_right _ (List.mem_of_getElem? (i := 697) (by decide +kernel))) (by decide +kernel), tb_of (List.mem_append_right _ (List.mem_of_getElem? (i := 6) (by decide +kernel))) (by decide +kernel), ⟨by decide +kernel, by decide +kernel⟩, by decide⟩
theorem vk_X0_isNear : VOk M_X0_isNear 3 0 := ⟨tb_of (List.mem_append_right _ (List.mem_of_getElem? (i := 696) (by decide +kernel))) (by decide +kernel), tb_of (List.mem_append_left _ (List.mem_of_getElem? (i := 65) (by decide +kernel))) (by decide +kernel), by decide +kernel, _, _, rfl⟩
def M_X0_dayOf : MM := (cX0_dayOf, yX0_dayOf, RX0, 2, (some .int))
theorem mk_X0_dayOf : MOk M_X0_dayOf := ⟨by decide +kernel, rfl, tb_of (List.mem_append_right _ (List.mem_of_getElem? (i := 681) (by decide +kernel))) (by decide +kernel), tb_of (List.mem_append_right _ (List.mem_of_getElem? (i := 6) (by decide +kernel))) (by decide +kernel), ⟨by decide +kernel, by decide +kernel⟩, by decide⟩
theorem vk_X0_dayOf : VOk M_X0_dayOf 1 0 := ⟨tb_of (List.mem_append_right _ (List.mem_of_getElem? (i := 680) (by decide +kernel))) (by decide +kernel), tb_of (List.mem_append_left _ (List.mem_of_getElem? (i := 62) (by decide +kernel))) (by decide +kernel), by decide +kernel, _, _, rfl⟩
def M_X1_init : MM := (cX1_init, yX1_init, RX1, 3, none)
def M_X1_forget : MM := (cX1_forget, yX1_forget, RX1, 1, none)
theorem mk_X1_forget : MOk M_X1_forget := ⟨by decide +kernel, rfl, tb_of (List.mem_append_right _ (List.mem_of_getElem? (i := 436) (by decide +kernel))) (by decide +kernel), tb_of (List.mem_append_right _ (List.mem_of_getElem? (i := 7) (by decide +kernel))) (by decide +kernel), ⟨by decide +kernel, by decide +kernel⟩, by decide⟩
theorem vk_X1_forget : VOk M_X1_forget 0 1 := ⟨tb_of (List.mem_append_right _ (List.mem_of_getElem? (i := 435) (by decide +kernel))) (by decide +kernel), tb_of (List.mem_append_left _ (List.mem_of_getElem? (i := 21) (by decide +kernel))) (by decide +kernel), by decide +kernel, _, _, rfl⟩
def M_X1_roomsOf : MM := (cX1_roomsOf, yX1_roomsOf, RX1, 5, (some .int))
theorem mk_X1_roomsOf : MOk M_X1_roomsOf := ⟨by decide +kernel, rfl, tb_of (List.mem_append_right _ (List.mem_of_getElem? (i := 519) (by decide +kernel))) (by decide +kernel), tb_of (List.mem_append_right _ (List.mem_of_getElem? (i := 7) (by decide +kernel))) (by decide +kernel), ⟨by decide +kernel, by decide +kernel⟩, by decide⟩
theorem vk_X1_roomsOf : VOk M_X1_roomsOf 3 1 := ⟨tb_of (List.mem_append_right _ (List.mem_of_getElem? (i := 518) (by decide +kernel))) (by decide +kernel), tb_of (List.mem_append_left _ (List.mem_of_getElem? (i := 34) (by decide +kernel))) (by decide +kernel), by decide +kernel, _, _, rfl⟩
def M_X1_breakOf : MM := (cX1_breakOf, yX1_breakOf, RX1, 3, (some .int))
theorem mk_X1_breakOf : MOk M_X1_breakOf := ⟨by decide +kernel, rfl, tb_of (List.mem_append_right _ (List.mem_of_getElem? (i := 619) (by decide +kernel))) (by decide +kernel), tb_of (List.mem_append_right _ (List.mem_of_getElem? (i := 7) (by decide +kernel))) (by decide +kernel), ⟨by decide +kernel, by decide +kernel⟩, by decide⟩
theorem vk_X1_breakOf : VOk M_X1_breakOf 2 1 := ⟨tb_of (List.mem_append_right _ (List.mem_of_getElem? (i := 618) (by decide +kernel))) (by decide +kernel), tb_of (List.mem_append_left _ (List.mem_of_getElem? (i := 54) (by decide +kernel))) (by decide +kernel), by decide +kernel, _, _, rfl⟩
def M_X1_roomOnFirstWay : MM := (cX1_roomOnFirstWay, yX1_roomOnFirstWay, RX1, 6, (some .int))
theorem mk_X1_roomOnFirstWay : MOk M_X1_roomOnFirstWay := ⟨by decide +kernel, rfl, tb_of (List.mem_append_right _ (List.mem_of_getElem? (i := 798) (by decide +kernel))) (by decide +kernel), tb_of (List.mem_append_right _ (List.mem_of_getElem? (i := 7) (by decide +kernel))) (by decide +kernel), ⟨by decide +kernel, by decide +kernel⟩, by decide⟩
theorem vk_X1_roomOnFirstWay : VOk M_X1_roomOnFirstWay 4 1 := ⟨tb_of (List.mem_append_right _ (List.mem_of_getElem? (i := 797) (by decide +kernel))) (by decide +kernel), tb_of (List.mem_append_left _ (List.mem_of_getElem? (i := 68) (by decide +kernel))) (by decide +kernel), by decide +kernel, _, _, rfl⟩
def M_X2_init : MM := (cX2_init, yX2_init, RX2, 1, none)
def M_X2_clear : MM := (cX2_clear, yX2_clear, RX2, 1, none)
theorem mk_X2_clear : MOk M_X2_clear := ⟨by decide +kernel, rfl, tb_of (List.mem_append_right _ (List.mem_of_getElem? (i := 428) (by decide +kernel))) (by decide +kernel), tb_of (List.mem_append_right _ (List.mem_of_getElem? (i := 4) (by decide +kernel))) (by decide +kernel), ⟨by decide +kernel, by decide +kernel⟩, by decide⟩
theorem vk_X2_clear : VOk M_X2_clear 0 2 := ⟨tb_of (List.mem_append_right _ (List.mem_of_getElem? (i := 427) (by decide +kernel))) (by decide +kernel), tb_of (List.mem_append_left _ (List.mem_of_getElem? (i := 19) (by decide +kernel))) (by decide +kernel), by decide +kernel, _, _, rfl⟩
def M_X2_add : MM := (cX2_add, yX2_add, RX2, 6, (some .int))
theorem mk_X2_add : MOk M_X2_add := ⟨by decide +kernel, rfl, tb_of (List.mem_append_right _ (List.mem_of_getElem? (i := 487) (by decide +kernel))) (by decide +kernel), tb_of (List.mem_append_right _ (List.mem_of_getElem? (i := 4) (by decide +kernel))) (by decide +kernel), ⟨by decide +kernel, by decide +kernel⟩, by decide⟩
theorem vk_X2_add : VOk M_X2_add 5 2 := ⟨tb_of (List.mem_append_right _ (List.mem_of_getElem? (i := 486) (by decide +kernel))) (by decide +kernel), tb_of (List.mem_append_left _ (List.mem_of_getElem? (i := 30) (by decide +kernel))) (by decide +kernel), by decide +kernel, _, _, rfl⟩
def M_X2_has : MM := (cX2_has, yX2_has, RX2, 2, (some .boolean))
theorem mk_X2_has : MOk M_X2_has := ⟨by decide +kernel, rfl, tb_of (List.mem_append_right _ (List.mem_of_getElem? (i := 483) (by decide +kernel))) (by decide +kernel), tb_of (List.mem_append_right _ (List.mem_of_getElem? (i := 4) (by decide +kernel))) (by decide +kernel), ⟨by decide +kernel, by decide +kernel⟩, by decide⟩
theorem vk_X2_has : VOk M_X2_has 1 2 := ⟨tb_of (List.mem_append_right _ (List.mem_of_getElem? (i := 482) (by decide +kernel))) (by decide +kernel), tb_of (List.mem_append_left _ (List.mem_of_getElem? (i := 29) (by decide +kernel))) (by decide +kernel), by decide +kernel, _, _, rfl⟩
def M_X2_isPass : MM := (cX2_isPass, yX2_isPass, RX2, 2, (some .boolean))
theorem mk_X2_isPass : MOk M_X2_isPass := ⟨by decide +kernel, rfl, tb_of (List.mem_append_right _ (List.mem_of_getElem? (i := 479) (by decide +kernel))) (by decide +kernel), tb_of (List.mem_append_right _ (List.mem_of_getElem? (i := 4) (by decide +kernel))) (by decide +kernel), ⟨by decide +kernel, by decide +kernel⟩, by decide⟩
theorem vk_X2_isPass : VOk M_X2_isPass 1 2 := ⟨tb_of (List.mem_append_right _ (List.mem_of_getElem? (i := 478) (by decide +kernel))) (by decide +kernel), tb_of (List.mem_append_left _ (List.mem_of_getElem? (i := 28) (by decide +kernel))) (by decide +kernel), by decide +kernel, _, _, rfl⟩
def M_X2_isPassOf : MM := (cX2_isPassOf, yX2_isPassOf, RX2, 3, (some .boolean))
theorem mk_X2_isPassOf : MOk M_X2_isPassOf := ⟨by decide +kernel, rfl, tb_of (List.mem_append_right _ (List.mem_of_getElem? (i := 475) (by decide +kernel))) (by decide +kernel), tb_of (List.mem_append_right _ (List.mem_of_getElem? (i := 4) (by decide +kernel))) (by decide +kernel), ⟨by decide +kernel, by decide +kernel⟩, by decide⟩
theorem vk_X2_isPassOf : VOk M_X2_isPassOf 2 2 := ⟨tb_of (List.mem_append_right _ (List.mem_of_getElem? (i := 474) (by decide +kernel))) (by decide +kernel), tb_of (List.mem_append_left _ (List.mem_of_getElem? (i := 27) (by decide +kernel))) (by decide +kernel), by decide +kernel, _, _, rfl⟩
def M_X2_isBack : MM := (cX2_isBack, yX2_isBack, RX2, 2, (some .boolean))
theorem mk_X2_isBack : MOk M_X2_isBack := ⟨by decide +kernel, rfl, tb_of (List.mem_append_right _ (List.mem_of_getElem? (i := 554) (by decide +kernel))) (by decide +kernel), tb_of (List.mem_append_right _ (List.mem_of_getElem? (i := 4) (by decide +kernel))) (by decide +kernel), ⟨by decide +kernel, by decide +kernel⟩, by decide⟩
theorem vk_X2_isBack : VOk M_X2_isBack 1 2 := ⟨tb_of (List.mem_append_right _ (List.mem_of_getElem? (i := 553) (by decide +kernel))) (by decide +kernel), tb_of (List.mem_append_left _ (List.mem_of_getElem? (i := 41) (by decide +kernel))) (by decide +kernel), by decide +kernel, _, _, rfl⟩
def M_X2_passesOf : MM := (cX2_passesOf, yX2_passesOf, RX2, 4, (some .int))
theorem mk_X2_passesOf : MOk M_X2_passesOf := ⟨by decide +kernel, rfl, tb_of (List.mem_append_right _ (List.mem_of_getElem? (i := 471) (by decide +kernel))) (by decide +kernel), tb_of (List.mem_append_right _ (List.mem_of_getElem? (i := 4) (by decide +kernel))) (by decide +kernel), ⟨by decide +kernel, by decide +kernel⟩, by decide⟩
theorem vk_X2_passesOf : VOk M_X2_passesOf 1 2 := ⟨tb_of (List.mem_append_right _ (List.mem_of_getElem? (i := 470) (by decide +kernel))) (by decide +kernel), tb_of (List.mem_append_left _ (List.mem_of_getElem? (i := 26) (by decide +kernel))) (by decide +kernel), by decide +kernel, _, _, rfl⟩
def M_X2_tellingOf : MM := (cX2_tellingOf, yX2_tellingOf, RX2, 4, (some .int))
theorem mk_X2_tellingOf : MOk M_X2_tellingOf := ⟨by decide +kernel, rfl, tb_of (List.mem_append_right _ (List.mem_of_getElem? (i := 523) (by decide +kernel))) (by decide +kernel), tb_of (List.mem_append_right _ (List.mem_of_getElem? (i := 4) (by decide +kernel))) (by decide +kernel), ⟨by decide +kernel, by decide +kernel⟩, by decide⟩
theorem vk_X2_tellingOf : VOk M_X2_tellingOf 2 2 := ⟨tb_of (List.mem_append_right _ (List.mem_of_getElem? (i := 522) (by decide +kernel))) (by decide +kernel), tb_of (List.mem_append_left _ (List.mem_of_getElem? (i := 35) (by decide +kernel))) (by decide +kernel), by decide +kernel, _, _, rfl⟩
def M_X3_init : MM := (cX3_init, yX3_init, RX3, 1, none)
def M_X3_clear : MM := (cX3_clear, yX3_clear, RX3, 1, none)
theorem mk_X3_clear : MOk M_X3_clear := ⟨by decide +kernel, rfl, tb_of (List.mem_append_right _ (List.mem_of_getElem? (i := 341) (by decide +kernel))) (by decide +kernel), tb_of (List.mem_append_right _ (List.mem_of_getElem? (i := 2) (by decide +kernel))) (by decide +kernel), ⟨by decide +kernel, by decide +kernel⟩, by decide⟩
theorem vk_X3_clear : VOk M_X3_clear 0 3 := ⟨tb_of (List.mem_append_right _ (List.mem_of_getElem? (i := 340) (by decide +kernel))) (by decide +kernel), tb_of (List.mem_append_left _ (List.mem_of_getElem? (i := 2) (by decide +kernel))) (by decide +kernel), by decide +kernel, _, _, rfl⟩
def M_X3_copyFrom : MM := (cX3_copyFrom, yX3_copyFrom, RX3, 2, none)
theorem mk_X3_copyFrom : MOk M_X3_copyFrom := ⟨by decide +kernel, rfl, tb_of (List.mem_append_right _ (List.mem_of_getElem? (i := 421) (by decide +kernel))) (by decide +kernel), tb_of (List.mem_append_right _ (List.mem_of_getElem? (i := 2) (by decide +kernel))) (by decide +kernel), ⟨by decide +kernel, by decide +kernel⟩, by decide⟩
theorem vk_X3_copyFrom : VOk M_X3_copyFrom 1 3 := ⟨tb_of (List.mem_append_right _ (List.mem_of_getElem? (i := 420) (by decide +kernel))) (by decide +kernel), tb_of (List.mem_append_left _ (List.mem_of_getElem? (i := 18) (by decide +kernel))) (by decide +kernel), by decide +kernel, _, _, rfl⟩
def M_X3_roomNamed : MM := (cX3_roomNamed, yX3_roomNamed, RX3, 4, (some .int))
theorem mk_X3_roomNamed : MOk M_X3_roomNamed := ⟨by decide +kernel, rfl, tb_of (List.mem_append_right _ (List.mem_of_getElem? (i := 392) (by decide +kernel))) (by decide +kernel), tb_of (List.mem_append_right _ (List.mem_of_getElem? (i := 2) (by decide +kernel))) (by decide +kernel), ⟨by decide +kernel, by decide +kernel⟩, by decide⟩
theorem vk_X3_roomNamed : VOk M_X3_roomNamed 1 3 := ⟨tb_of (List.mem_append_right _ (List.mem_of_getElem? (i := 391) (by decide +kernel))) (by decide +kernel), tb_of (List.mem_append_left _ (List.mem_of_getElem? (i := 11) (by decide +kernel))) (by decide +kernel), by decide +kernel, _, _, rfl⟩
def M_X3_hasName : MM := (cX3_hasName, yX3_hasName, RX3, 4, (some .boolean))
theorem mk_X3_hasName : MOk M_X3_hasName := ⟨by decide +kernel, rfl, tb_of (List.mem_append_right _ (List.mem_of_getElem? (i := 388) (by decide +kernel))) (by decide +kernel), tb_of (List.mem_append_right _ (List.mem_of_getElem? (i := 2) (by decide +kernel))) (by decide +kernel), ⟨by decide +kernel, by decide +kernel⟩, by decide⟩
theorem vk_X3_hasName : VOk M_X3_hasName 1 3 := ⟨tb_of (List.mem_append_right _ (List.mem_of_getElem? (i := 387) (by decide +kernel))) (by decide +kernel), tb_of (List.mem_append_left _ (List.mem_of_getElem? (i := 10) (by decide +kernel))) (by decide +kernel), by decide +kernel, _, _, rfl⟩
def M_X3_addRoom : MM := (cX3_addRoom, yX3_addRoom, RX3, 4, none)
theorem mk_X3_addRoom : MOk M_X3_addRoom := ⟨by decide +kernel, rfl, tb_of (List.mem_append_right _ (List.mem_of_getElem? (i := 404) (by decide +kernel))) (by decide +kernel), tb_of (List.mem_append_right _ (List.mem_of_getElem? (i := 2) (by decide +kernel))) (by decide +kernel), ⟨by decide +kernel, by decide +kernel⟩, by decide⟩
theorem vk_X3_addRoom : VOk M_X3_addRoom 2 3 := ⟨tb_of (List.mem_append_right _ (List.mem_of_getElem? (i := 403) (by decide +kernel))) (by decide +kernel), tb_of (List.mem_append_left _ (List.mem_of_getElem? (i := 14) (by decide +kernel))) (by decide +kernel), by decide +kernel, _, _, rfl⟩
def M_X3_addDoor : MM := (cX3_addDoor, yX3_addDoor, RX3, 6, none)
theorem mk_X3_addDoor : MOk M_X3_addDoor := ⟨by decide +kernel, rfl, tb_of (List.mem_append_right _ (List.mem_of_getElem? (i := 417) (by decide +kernel))) (by decide +kernel), tb_of (List.mem_append_right _ (List.mem_of_getElem? (i := 2) (by decide +kernel))) (by decide +kernel), ⟨by decide +kernel, by decide +kernel⟩, by decide⟩
theorem vk_X3_addDoor : VOk M_X3_addDoor 4 3 := ⟨tb_of (List.mem_append_right _ (List.mem_of_getElem? (i := 416) (by decide +kernel))) (by decide +kernel), tb_of (List.mem_append_left _ (List.mem_of_getElem? (i := 17) (by decide +kernel))) (by decide +kernel), by decide +kernel, _, _, rfl⟩
def M_X3_roomLeft : MM := (cX3_roomLeft, yX3_roomLeft, RX3, 3, (some .int))
theorem mk_X3_roomLeft : MOk M_X3_roomLeft := ⟨by decide +kernel, rfl, tb_of (List.mem_append_right _ (List.mem_of_getElem? (i := 558) (by decide +kernel))) (by decide +kernel), tb_of (List.mem_append_right _ (List.mem_of_getElem? (i := 2) (by decide +kernel))) (by decide +kernel), ⟨by decide +kernel, by decide +kernel⟩, by decide⟩
theorem vk_X3_roomLeft : VOk M_X3_roomLeft 2 3 := ⟨tb_of (List.mem_append_right _ (List.mem_of_getElem? (i := 557) (by decide +kernel))) (by decide +kernel), tb_of (List.mem_append_left _ (List.mem_of_getElem? (i := 42) (by decide +kernel))) (by decide +kernel), by decide +kernel, _, _, rfl⟩
def M_X3_roomComeTo : MM := (cX3_roomComeTo, yX3_roomComeTo, RX3, 3, (some .int))
theorem mk_X3_roomComeTo : MOk M_X3_roomComeTo := ⟨by decide +kernel, rfl, tb_of (List.mem_append_right _ (List.mem_of_getElem? (i := 562) (by decide +kernel))) (by decide +kernel), tb_of (List.mem_append_right _ (List.mem_of_getElem? (i := 2) (by decide +kernel))) (by decide +kernel), ⟨by decide +kernel, by decide +kernel⟩, by decide⟩
theorem vk_X3_roomComeTo : VOk M_X3_roomComeTo 2 3 := ⟨tb_of (List.mem_append_right _ (List.mem_of_getElem? (i := 561) (by decide +kernel))) (by decide +kernel), tb_of (List.mem_append_left _ (List.mem_of_getElem? (i := 43) (by decide +kernel))) (by decide +kernel), by decide +kernel, _, _, rfl⟩
def M_X4_init : MM := (cX4_init, yX4_init, RX4, 1, none)
def M_X4_clear : MM := (cX4_clear, yX4_clear, RX4, 1, none)
theorem mk_X4_clear : MOk M_X4_clear := ⟨by decide +kernel, rfl, tb_of (List.mem_append_right _ (List.mem_of_getElem? (i := 432) (by decide +kernel))) (by decide +kernel), tb_of (List.mem_append_right _ (List.mem_of_getElem? (i := 5) (by decide +kernel))) (by decide +kernel), ⟨by decide +kernel, by decide +kernel⟩, by decide⟩
theorem vk_X4_clear : VOk M_X4_clear 0 4 := ⟨tb_of (List.mem_append_right _ (List.mem_of_getElem? (i := 431) (by decide +kernel))) (by decide +kernel), tb_of (List.mem_append_left _ (List.mem_of_getElem? (i := 20) (by decide +kernel))) (by decide +kernel), by decide +kernel, _, _, rfl⟩
def M_X4_add : MM := (cX4_add, yX4_add, RX4, 6, (some .int))
theorem mk_X4_add : MOk M_X4_add := ⟨by decide +kernel, rfl, tb_of (List.mem_append_right _ (List.mem_of_getElem? (i := 507) (by decide +kernel))) (by decide +kernel), tb_of (List.mem_append_right _ (List.mem_of_getElem? (i := 5) (by decide +kernel))) (by decide +kernel), ⟨by decide +kernel, by decide +kernel⟩, by decide⟩
theorem vk_X4_add : VOk M_X4_add 5 4 := ⟨tb_of (List.mem_append_right _ (List.mem_of_getElem? (i := 506) (by decide +kernel))) (by decide +kernel), tb_of (List.mem_append_left _ (List.mem_of_getElem? (i := 32) (by decide +kernel))) (by decide +kernel), by decide +kernel, _, _, rfl⟩
def M_X4_allows : MM := (cX4_allows, yX4_allows, RX4, 5, (some .boolean))
theorem mk_X4_allows : MOk M_X4_allows := ⟨by decide +kernel, rfl, tb_of (List.mem_append_right _ (List.mem_of_getElem? (i := 645) (by decide +kernel))) (by decide +kernel), tb_of (List.mem_append_right _ (List.mem_of_getElem? (i := 5) (by decide +kernel))) (by decide +kernel), ⟨by decide +kernel, by decide +kernel⟩, by decide⟩
theorem vk_X4_allows : VOk M_X4_allows 3 4 := ⟨tb_of (List.mem_append_right _ (List.mem_of_getElem? (i := 644) (by decide +kernel))) (by decide +kernel), tb_of (List.mem_append_left _ (List.mem_of_getElem? (i := 56) (by decide +kernel))) (by decide +kernel), by decide +kernel, _, _, rfl⟩
def M_X5_init : MM := (cX5_init, yX5_init, RX5, 2, none)
def M_X5_readInto : MM := (cX5_readInto, yX5_readInto, RX5, 4, (some .int))
theorem mk_X5_readInto : MOk M_X5_readInto := ⟨by decide +kernel, rfl, tb_of (List.mem_append_right _ (List.mem_of_getElem? (i := 337) (by decide +kernel))) (by decide +kernel), tb_of (List.mem_append_right _ (List.mem_of_getElem? (i := 3) (by decide +kernel))) (by decide +kernel), ⟨by decide +kernel, by decide +kernel⟩, by decide⟩
theorem vk_X5_readInto : VOk M_X5_readInto 2 5 := ⟨tb_of (List.mem_append_right _ (List.mem_of_getElem? (i := 336) (by decide +kernel))) (by decide +kernel), tb_of (List.mem_append_left _ (List.mem_of_getElem? (i := 1) (by decide +kernel))) (by decide +kernel), by decide +kernel, _, _, rfl⟩
def M_X5_readRoom : MM := (cX5_readRoom, yX5_readRoom, RX5, 5, none)
theorem mk_X5_readRoom : MOk M_X5_readRoom := ⟨by decide +kernel, rfl, tb_of (List.mem_append_right _ (List.mem_of_getElem? (i := 371) (by decide +kernel))) (by decide +kernel), tb_of (List.mem_append_right _ (List.mem_of_getElem? (i := 3) (by decide +kernel))) (by decide +kernel), ⟨by decide +kernel, by decide +kernel⟩, by decide⟩
theorem vk_X5_readRoom : VOk M_X5_readRoom 1 5 := ⟨tb_of (List.mem_append_right _ (List.mem_of_getElem? (i := 370) (by decide +kernel))) (by decide +kernel), tb_of (List.mem_append_left _ (List.mem_of_getElem? (i := 6) (by decide +kernel))) (by decide +kernel), by decide +kernel, _, _, rfl⟩
def M_X5_readDoor : MM := (cX5_readDoor, yX5_readDoor, RX5, 7, none)
theorem mk_X5_readDoor : MOk M_X5_readDoor := ⟨by decide +kernel, rfl, tb_of (List.mem_append_right _ (List.mem_of_getElem? (i := 408) (by decide +kernel))) (by decide +kernel), tb_of (List.mem_append_right _ (List.mem_of_getElem? (i := 3) (by decide +kernel))) (by decide +kernel), ⟨by decide +kernel, by decide +kernel⟩, by decide⟩
theorem vk_X5_readDoor : VOk M_X5_readDoor 1 5 := ⟨tb_of (List.mem_append_right _ (List.mem_of_getElem? (i := 407) (by decide +kernel))) (by decide +kernel), tb_of (List.mem_append_left _ (List.mem_of_getElem? (i := 15) (by decide +kernel))) (by decide +kernel), by decide +kernel, _, _, rfl⟩
def M_X5_takeNewName : MM := (cX5_takeNewName, yX5_takeNewName, RX5, 4, (some .long))
theorem mk_X5_takeNewName : MOk M_X5_takeNewName := ⟨by decide +kernel, rfl, tb_of (List.mem_append_right _ (List.mem_of_getElem? (i := 379) (by decide +kernel))) (by decide +kernel), tb_of (List.mem_append_right _ (List.mem_of_getElem? (i := 3) (by decide +kernel))) (by decide +kernel), ⟨by decide +kernel, by decide +kernel⟩, by decide⟩
theorem vk_X5_takeNewName : VOk M_X5_takeNewName 1 5 := ⟨tb_of (List.mem_append_right _ (List.mem_of_getElem? (i := 378) (by decide +kernel))) (by decide +kernel), tb_of (List.mem_append_left _ (List.mem_of_getElem? (i := 8) (by decide +kernel))) (by decide +kernel), by decide +kernel, _, _, rfl⟩
def M_X5_takeRoom : MM := (cX5_takeRoom, yX5_takeRoom, RX5, 4, (some .int))
theorem mk_X5_takeRoom : MOk M_X5_takeRoom := ⟨by decide +kernel, rfl, tb_of (List.mem_append_right _ (List.mem_of_getElem? (i := 412) (by decide +kernel))) (by decide +kernel), tb_of (List.mem_append_right _ (List.mem_of_getElem? (i := 3) (by decide +kernel))) (by decide +kernel), ⟨by decide +kernel, by decide +kernel⟩, by decide⟩
theorem vk_X5_takeRoom : VOk M_X5_takeRoom 2 5 := ⟨tb_of (List.mem_append_right _ (List.mem_of_getElem? (i := 411) (by decide +kernel))) (by decide +kernel), tb_of (List.mem_append_left _ (List.mem_of_getElem? (i := 16) (by decide +kernel))) (by decide +kernel), by decide +kernel, _, _, rfl⟩
def M_X5_takeNumber : MM := (cX5_takeNumber, yX5_takeNumber, RX5, 3, (some .int))
theorem mk_X5_takeNumber : MOk M_X5_takeNumber := ⟨by decide +kernel, rfl, tb_of (List.mem_append_right _ (List.mem_of_getElem? (i := 396) (by decide +kernel))) (by decide +kernel), tb_of (List.mem_append_right _ (List.mem_of_getElem? (i := 3) (by decide +kernel))) (by decide +kernel), ⟨by decide +kernel, by decide +kernel⟩, by decide⟩
theorem vk_X5_takeNumber : VOk M_X5_takeNumber 1 5 := ⟨tb_of (List.mem_append_right _ (List.mem_of_getElem? (i := 395) (by decide +kernel))) (by decide +kernel), tb_of (List.mem_append_left _ (List.mem_of_getElem? (i := 12) (by decide +kernel))) (by decide +kernel), by decide +kernel, _, _, rfl⟩
def M_X5_takeSign : MM := (cX5_takeSign, yX5_takeSign, RX5, 1, none)
theorem mk_X5_takeSign : MOk M_X5_takeSign := ⟨by decide +kernel, rfl, tb_of (List.mem_append_right _ (List.mem_of_getElem? (i := 400) (by decide +kernel))) (by decide +kernel), tb_of (List.mem_append_right _ (List.mem_of_getElem? (i := 3) (by decide +kernel))) (by decide +kernel), ⟨by decide +kernel, by decide +kernel⟩, by decide⟩
theorem vk_X5_takeSign : VOk M_X5_takeSign 0 5 := ⟨tb_of (List.mem_append_right _ (List.mem_of_getElem? (i := 399) (by decide +kernel))) (by decide +kernel), tb_of (List.mem_append_left _ (List.mem_of_getElem? (i := 13) (by decide +kernel))) (by decide +kernel), by decide +kernel, _, _, rfl⟩
def M_X5_isName : MM := (cX5_isName, yX5_isName, RX5, 1, (some .boolean))
theorem mk_X5_isName : MOk M_X5_isName := ⟨by decide +kernel, rfl, tb_of (List.mem_append_right _ (List.mem_of_getElem? (i := 383) (by decide +kernel))) (by decide +kernel), tb_of (List.mem_append_right _ (List.mem_of_getElem? (i := 3) (by decide +kernel))) (by decide +kernel), ⟨by decide +kernel, by decide +kernel⟩, by decide⟩
theorem vk_X5_isName : VOk M_X5_isName 0 5 := ⟨tb_of (List.mem_append_right _ (List.mem_of_getElem? (i := 382) (by decide +kernel))) (by decide +kernel), tb_of (List.mem_append_left _ (List.mem_of_getElem? (i := 9) (by decide +kernel))) (by decide +kernel), by decide +kernel, _, _, rfl⟩
def M_X5_faultHere : MM := (cX5_faultHere, yX5_faultHere, RX5, 2, none)
theorem mk_X5_faultHere : MOk M_X5_faultHere := ⟨by decide +kernel, rfl, tb_of (List.mem_append_right _ (List.mem_of_getElem? (i := 375) (by decide +kernel))) (by decide +kernel), tb_of (List.mem_append_right _ (List.mem_of_getElem? (i := 3) (by decide +kernel))) (by decide +kernel), ⟨by decide +kernel, by decide +kernel⟩, by decide⟩
theorem vk_X5_faultHere : VOk M_X5_faultHere 1 5 := ⟨tb_of (List.mem_append_right _ (List.mem_of_getElem? (i := 374) (by decide +kernel))) (by decide +kernel), tb_of (List.mem_append_left _ (List.mem_of_getElem? (i := 7) (by decide +kernel))) (by decide +kernel), by decide +kernel, _, _, rfl⟩
def M_X5_nextToken : MM := (cX5_nextToken, yX5_nextToken, RX5, 1, none)
theorem mk_X5_nextToken : MOk M_X5_nextToken := ⟨by decide +kernel, rfl, tb_of (List.mem_append_right _ (List.mem_of_getElem? (i := 348) (by decide +kernel))) (by decide +kernel), tb_of (List.mem_append_right _ (List.mem_of_getElem? (i := 3) (by decide +kernel))) (by decide +kernel), ⟨by decide +kernel, by decide +kernel⟩, by decide⟩
theorem vk_X5_nextToken : VOk M_X5_nextToken 0 5 := ⟨tb_of (List.mem_append_right _ (List.mem_of_getElem? (i := 347) (by decide +kernel))) (by decide +kernel), tb_of (List.mem_append_left _ (List.mem_of_getElem? (i := 3) (by decide +kernel))) (by decide +kernel), by decide +kernel, _, _, rfl⟩
def M_X5_readWord : MM := (cX5_readWord, yX5_readWord, RX5, 1, none)
theorem mk_X5_readWord : MOk M_X5_readWord := ⟨by decide +kernel, rfl, tb_of (List.mem_append_right _ (List.mem_of_getElem? (i := 358) (by decide +kernel))) (by decide +kernel), tb_of (List.mem_append_right _ (List.mem_of_getElem? (i := 3) (by decide +kernel))) (by decide +kernel), ⟨by decide +kernel, by decide +kernel⟩, by decide⟩
theorem vk_X5_readWord : VOk M_X5_readWord 0 5 := ⟨tb_of (List.mem_append_right _ (List.mem_of_getElem? (i := 357) (by decide +kernel))) (by decide +kernel), tb_of (List.mem_append_left _ (List.mem_of_getElem? (i := 4) (by decide +kernel))) (by decide +kernel), by decide +kernel, _, _, rfl⟩
def M_X5_readNumber : MM := (cX5_readNumber, yX5_readNumber, RX5, 1, none)
theorem mk_X5_readNumber : MOk M_X5_readNumber := ⟨by decide +kernel, rfl, tb_of (List.mem_append_right _ (List.mem_of_getElem? (i := 365) (by decide +kernel))) (by decide +kernel), tb_of (List.mem_append_right _ (List.mem_of_getElem? (i := 3) (by decide +kernel))) (by decide +kernel), ⟨by decide +kernel, by decide +kernel⟩, by decide⟩
theorem vk_X5_readNumber : VOk M_X5_readNumber 0 5 := ⟨tb_of (List.mem_append_right _ (List.mem_of_getElem? (i := 364) (by decide +kernel))) (by decide +kernel), tb_of (List.mem_append_left _ (List.mem_of_getElem? (i := 5) (by decide +kernel))) (by decide +kernel), by decide +kernel, _, _, rfl⟩
def M_X5_isBlank : MM := (cX5_isBlank, yX5_isBlank, RX5, 1, (some .boolean))
theorem mk_X5_isBlank : MOk M_X5_isBlank := ⟨by decide +kernel, rfl, tb_of (List.mem_append_right _ (List.mem_of_getElem? (i := 351) (by decide +kernel))) (by decide +kernel), tb_of (List.mem_append_right _ (List.mem_of_getElem? (i := 3) (by decide +kernel))) (by decide +kernel), ⟨by decide +kernel, by decide +kernel⟩, by decide⟩
theorem sk_X5_isBlank : SOk M_X5_isBlank 1 := ⟨tb_of (List.mem_append_right _ (List.mem_of_getElem? (i := 350) (by decide +kernel))) (by decide +kernel), by decide +kernel⟩
def M_X5_isLetter : MM := (cX5_isLetter, yX5_isLetter, RX5, 1, (some .boolean))
theorem mk_X5_isLetter : MOk M_X5_isLetter := ⟨by decide +kernel, rfl, tb_of (List.mem_append_right _ (List.mem_of_getElem? (i := 354) (by decide +kernel))) (by decide +kernel), tb_of (List.mem_append_right _ (List.mem_of_getElem? (i := 3) (by decide +kernel))) (by decide +kernel), ⟨by decide +kernel, by decide +kernel⟩, by decide⟩
theorem sk_X5_isLetter : SOk M_X5_isLetter 1 := ⟨tb_of (List.mem_append_right _ (List.mem_of_getElem? (i := 353) (by decide +kernel))) (by decide +kernel), by decide +kernel⟩
def M_X5_isDigit : MM := (cX5_isDigit, yX5_isDigit, RX5, 1, (some .boolean))
theorem mk_X5_isDigit : MOk M_X5_isDigit := ⟨by decide +kernel, rfl, tb_of (List.mem_append_right _ (List.mem_of_getElem? (i := 361) (by decide +kernel))) (by decide +kernel), tb_of (List.mem_append_right _ (List.mem_of_getElem? (i := 3) (by decide +kernel))) (by decide +kernel), ⟨by decide +kernel, by decide +kernel⟩, by decide⟩
theorem sk_X5_isDigit : SOk M_X5_isDigit 1 := ⟨tb_of (List.mem_append_right _ (List.mem_of_getElem? (i := 360) (by decide +kernel))) (by decide +kernel), by decide +kernel⟩
def M_X6_init : MM := (cX6_init, yX6_init, RX6, 3, none)
def M_X6_forget : MM := (cX6_forget, yX6_forget, RX6, 2, none)
theorem mk_X6_forget : MOk M_X6_forget := ⟨by decide +kernel, rfl, tb_of (List.mem_append_right _ (List.mem_of_getElem? (i := 440) (by decide +kernel))) (by decide +kernel), tb_of (List.mem_append_right _ (List.mem_of_getElem? (i := 8) (by decide +kernel))) (by decide +kernel), ⟨by decide +kernel, by decide +kernel⟩, by decide⟩
theorem vk_X6_forget : VOk M_X6_forget 0 6 := ⟨tb_of (List.mem_append_right _ (List.mem_of_getElem? (i := 439) (by decide +kernel))) (by decide +kernel), tb_of (List.mem_append_left _ (List.mem_of_getElem? (i := 22) (by decide +kernel))) (by decide +kernel), by decide +kernel, _, _, rfl⟩
def M_X6_lookAt : MM := (cX6_lookAt, yX6_lookAt, RX6, 4, none)
theorem mk_X6_lookAt : MOk M_X6_lookAt := ⟨by decide +kernel, rfl, tb_of (List.mem_append_right _ (List.mem_of_getElem? (i := 528) (by decide +kernel))) (by decide +kernel), tb_of (List.mem_append_right _ (List.mem_of_getElem? (i := 8) (by decide +kernel))) (by decide +kernel), ⟨by decide +kernel, by decide +kernel⟩, by decide⟩
theorem vk_X6_lookAt : VOk M_X6_lookAt 2 6 := ⟨tb_of (List.mem_append_right _ (List.mem_of_getElem? (i := 527) (by decide +kernel))) (by decide +kernel), tb_of (List.mem_append_left _ (List.mem_of_getElem? (i := 36) (by decide +kernel))) (by decide +kernel), by decide +kernel, _, _, rfl⟩
def M_X6_addSights : MM := (cX6_addSights, yX6_addSights, RX6, 4, none)
theorem mk_X6_addSights : MOk M_X6_addSights := ⟨by decide +kernel, rfl, tb_of (List.mem_append_right _ (List.mem_of_getElem? (i := 570) (by decide +kernel))) (by decide +kernel), tb_of (List.mem_append_right _ (List.mem_of_getElem? (i := 8) (by decide +kernel))) (by decide +kernel), ⟨by decide +kernel, by decide +kernel⟩, by decide⟩
theorem vk_X6_addSights : VOk M_X6_addSights 2 6 := ⟨tb_of (List.mem_append_right _ (List.mem_of_getElem? (i := 569) (by decide +kernel))) (by decide +kernel), tb_of (List.mem_append_left _ (List.mem_of_getElem? (i := 44) (by decide +kernel))) (by decide +kernel), by decide +kernel, _, _, rfl⟩
def M_X6_demand : MM := (cX6_demand, yX6_demand, RX6, 3, none)
theorem mk_X6_demand : MOk M_X6_demand := ⟨by decide +kernel, rfl, tb_of (List.mem_append_right _ (List.mem_of_getElem? (i := 574) (by decide +kernel))) (by decide +kernel), tb_of (List.mem_append_right _ (List.mem_of_getElem? (i := 8) (by decide +kernel))) (by decide +kernel), ⟨by decide +kernel, by decide +kernel⟩, by decide⟩
theorem vk_X6_demand : VOk M_X6_demand 2 6 := ⟨tb_of (List.mem_append_right _ (List.mem_of_getElem? (i := 573) (by decide +kernel))) (by decide +kernel), tb_of (List.mem_append_left _ (List.mem_of_getElem? (i := 45) (by decide +kernel))) (by decide +kernel), by decide +kernel, _, _, rfl⟩
def M_X6_openGaps : MM := (cX6_openGaps, yX6_openGaps, RX6, 3, none)
theorem mk_X6_openGaps : MOk M_X6_openGaps := ⟨by decide +kernel, rfl, tb_of (List.mem_append_right _ (List.mem_of_getElem? (i := 532) (by decide +kernel))) (by decide +kernel), tb_of (List.mem_append_right _ (List.mem_of_getElem? (i := 8) (by decide +kernel))) (by decide +kernel), ⟨by decide +kernel, by decide +kernel⟩, by decide⟩
theorem vk_X6_openGaps : VOk M_X6_openGaps 1 6 := ⟨tb_of (List.mem_append_right _ (List.mem_of_getElem? (i := 531) (by decide +kernel))) (by decide +kernel), tb_of (List.mem_append_left _ (List.mem_of_getElem? (i := 37) (by decide +kernel))) (by decide +kernel), by decide +kernel, _, _, rfl⟩
def M_X6_openGap : MM := (cX6_openGap, yX6_openGap, RX6, 7, none)
theorem mk_X6_openGap : MOk M_X6_openGap := ⟨by decide +kernel, rfl, tb_of (List.mem_append_right _ (List.mem_of_getElem? (i := 537) (by decide +kernel))) (by decide +kernel), tb_of (List.mem_append_right _ (List.mem_of_getElem? (i := 8) (by decide +kernel))) (by decide +kernel), ⟨by decide +kernel, by decide +kernel⟩, by decide⟩
theorem vk_X6_openGap : VOk M_X6_openGap 3 6 := ⟨tb_of (List.mem_append_right _ (List.mem_of_getElem? (i := 536) (by decide +kernel))) (by decide +kernel), tb_of (List.mem_append_left _ (List.mem_of_getElem? (i := 38) (by decide +kernel))) (by decide +kernel), by decide +kernel, _, _, rfl⟩
def M_X6_insertPass : MM := (cX6_insertPass, yX6_insertPass, RX6, 3, none)
theorem mk_X6_insertPass : MOk M_X6_insertPass := ⟨by decide +kernel, rfl, tb_of (List.mem_append_right _ (List.mem_of_getElem? (i := 546) (by decide +kernel))) (by decide +kernel), tb_of (List.mem_append_right _ (List.mem_of_getElem? (i := 8) (by decide +kernel))) (by decide +kernel), ⟨by decide +kernel, by decide +kernel⟩, by decide⟩
theorem vk_X6_insertPass : VOk M_X6_insertPass 1 6 := ⟨tb_of (List.mem_append_right _ (List.mem_of_getElem? (i := 545) (by decide +kernel))) (by decide +kernel), tb_of (List.mem_append_left _ (List.mem_of_getElem? (i := 39) (by decide +kernel))) (by decide +kernel), by decide +kernel, _, _, rfl⟩
def M_X6_readPass : MM := (cX6_readPass, yX6_readPass, RX6, 4, none)
theorem mk_X6_readPass : MOk M_X6_readPass := ⟨by decide +kernel, rfl, tb_of (List.mem_append_right _ (List.mem_of_getElem? (i := 550) (by decide +kernel))) (by decide +kernel), tb_of (List.mem_append_right _ (List.mem_of_getElem? (i := 8) (by decide +kernel))) (by decide +kernel), ⟨by decide +kernel, by decide +kernel⟩, by decide⟩
theorem vk_X6_readPass : VOk M_X6_readPass 1 6 := ⟨tb_of (List.mem_append_right _ (List.mem_of_getElem? (i := 549) (by decide +kernel))) (by decide +kernel), tb_of (List.mem_append_left _ (List.mem_of_getElem? (i := 40) (by decide +kernel))) (by decide +kernel), by decide +kernel, _, _, rfl⟩
def M_X6_isInTime : MM := (cX6_isInTime, yX6_isInTime, RX6, 3, (some .boolean))
theorem mk_X6_isInTime : MOk M_X6_isInTime := ⟨by decide +kernel, rfl, tb_of (List.mem_append_right _ (List.mem_of_getElem? (i := 596) (by decide +kernel))) (by decide +kernel), tb_of (List.mem_append_right _ (List.mem_of_getElem? (i := 8) (by decide +kernel))) (by decide +kernel), ⟨by decide +kernel, by decide +kernel⟩, by decide⟩
theorem vk_X6_isInTime : VOk M_X6_isInTime 2 6 := ⟨tb_of (List.mem_append_right _ (List.mem_of_getElem? (i := 595) (by decide +kernel))) (by decide +kernel), tb_of (List.mem_append_left _ (List.mem_of_getElem? (i := 50) (by decide +kernel))) (by decide +kernel), by decide +kernel, _, _, rfl⟩
def M_X6_findHopeful : MM := (cX6_findHopeful, yX6_findHopeful, RX6, 4, none)
theorem mk_X6_findHopeful : MOk M_X6_findHopeful := ⟨by decide +kernel, rfl, tb_of (List.mem_append_right _ (List.mem_of_getElem? (i := 583) (by decide +kernel))) (by decide +kernel), tb_of (List.mem_append_right _ (List.mem_of_getElem? (i := 8) (by decide +kernel))) (by decide +kernel), ⟨by decide +kernel, by decide +kernel⟩, by decide⟩
theorem vk_X6_findHopeful : VOk M_X6_findHopeful 0 6 := ⟨tb_of (List.mem_append_right _ (List.mem_of_getElem? (i := 582) (by decide +kernel))) (by decide +kernel), tb_of (List.mem_append_left _ (List.mem_of_getElem? (i := 47) (by decide +kernel))) (by decide +kernel), by decide +kernel, _, _, rfl⟩
def M_X6_hopefulAhead : MM := (cX6_hopefulAhead, yX6_hopefulAhead, RX6, 7, (some .long))
theorem mk_X6_hopefulAhead : MOk M_X6_hopefulAhead := ⟨by decide +kernel, rfl, tb_of (List.mem_append_right _ (List.mem_of_getElem? (i := 587) (by decide +kernel))) (by decide +kernel), tb_of (List.mem_append_right _ (List.mem_of_getElem? (i := 8) (by decide +kernel))) (by decide +kernel), ⟨by decide +kernel, by decide +kernel⟩, by decide⟩
theorem vk_X6_hopefulAhead : VOk M_X6_hopefulAhead 2 6 := ⟨tb_of (List.mem_append_right _ (List.mem_of_getElem? (i := 586) (by decide +kernel))) (by decide +kernel), tb_of (List.mem_append_left _ (List.mem_of_getElem? (i := 48) (by decide +kernel))) (by decide +kernel), by decide +kernel, _, _, rfl⟩
def M_X6_freeInto : MM := (cX6_freeInto, yX6_freeInto, RX6, 9, (some .long))
theorem mk_X6_freeInto : MOk M_X6_freeInto := ⟨by decide +kernel, rfl, tb_of (List.mem_append_right _ (List.mem_of_getElem? (i := 592) (by decide +kernel))) (by decide +kernel), tb_of (List.mem_append_right _ (List.mem_of_getElem? (i := 8) (by decide +kernel))) (by decide +kernel), ⟨by decide +kernel, by decide +kernel⟩, by decide⟩
theorem vk_X6_freeInto : VOk M_X6_freeInto 2 6 := ⟨tb_of (List.mem_append_right _ (List.mem_of_getElem? (i := 591) (by decide +kernel))) (by decide +kernel), tb_of (List.mem_append_left _ (List.mem_of_getElem? (i := 49) (by decide +kernel))) (by decide +kernel), by decide +kernel, _, _, rfl⟩
def M_X6_startOutside : MM := (cX6_startOutside, yX6_startOutside, RX6, 1, none)
theorem mk_X6_startOutside : MOk M_X6_startOutside := ⟨by decide +kernel, rfl, tb_of (List.mem_append_right _ (List.mem_of_getElem? (i := 600) (by decide +kernel))) (by decide +kernel), tb_of (List.mem_append_right _ (List.mem_of_getElem? (i := 8) (by decide +kernel))) (by decide +kernel), ⟨by decide +kernel, by decide +kernel⟩, by decide⟩
theorem vk_X6_startOutside : VOk M_X6_startOutside 0 6 := ⟨tb_of (List.mem_append_right _ (List.mem_of_getElem? (i := 599) (by decide +kernel))) (by decide +kernel), tb_of (List.mem_append_left _ (List.mem_of_getElem? (i := 51) (by decide +kernel))) (by decide +kernel), by decide +kernel, _, _, rfl⟩
def M_X6_goOn : MM := (cX6_goOn, yX6_goOn, RX6, 7, none)
theorem mk_X6_goOn : MOk M_X6_goOn := ⟨by decide +kernel, rfl, tb_of (List.mem_append_right _ (List.mem_of_getElem? (i := 604) (by decide +kernel))) (by decide +kernel), tb_of (List.mem_append_right _ (List.mem_of_getElem? (i := 8) (by decide +kernel))) (by decide +kernel), ⟨by decide +kernel, by decide +kernel⟩, by decide⟩
theorem vk_X6_goOn : VOk M_X6_goOn 1 6 := ⟨tb_of (List.mem_append_right _ (List.mem_of_getElem? (i := 603) (by decide +kernel))) (by decide +kernel), tb_of (List.mem_append_left _ (List.mem_of_getElem? (i := 52) (by decide +kernel))) (by decide +kernel), by decide +kernel, _, _, rfl⟩
def M_X6_freeOutOf : MM := (cX6_freeOutOf, yX6_freeOutOf, RX6, 9, (some .long))
theorem mk_X6_freeOutOf : MOk M_X6_freeOutOf := ⟨by decide +kernel, rfl, tb_of (List.mem_append_right _ (List.mem_of_getElem? (i := 608) (by decide +kernel))) (by decide +kernel), tb_of (List.mem_append_right _ (List.mem_of_getElem? (i := 8) (by decide +kernel))) (by decide +kernel), ⟨by decide +kernel, by decide +kernel⟩, by decide⟩
theorem vk_X6_freeOutOf : VOk M_X6_freeOutOf 2 6 := ⟨tb_of (List.mem_append_right _ (List.mem_of_getElem? (i := 607) (by decide +kernel))) (by decide +kernel), tb_of (List.mem_append_left _ (List.mem_of_getElem? (i := 53) (by decide +kernel))) (by decide +kernel), by decide +kernel, _, _, rfl⟩
def M_X6_findRooms : MM := (cX6_findRooms, yX6_findRooms, RX6, 7, none)
theorem mk_X6_findRooms : MOk M_X6_findRooms := ⟨by decide +kernel, rfl, tb_of (List.mem_append_right _ (List.mem_of_getElem? (i := 579) (by decide +kernel))) (by decide +kernel), tb_of (List.mem_append_right _ (List.mem_of_getElem? (i := 8) (by decide +kernel))) (by decide +kernel), ⟨by decide +kernel, by decide +kernel⟩, by decide⟩
theorem vk_X6_findRooms : VOk M_X6_findRooms 2 6 := ⟨tb_of (List.mem_append_right _ (List.mem_of_getElem? (i := 578) (by decide +kernel))) (by decide +kernel), tb_of (List.mem_append_left _ (List.mem_of_getElem? (i := 46) (by decide +kernel))) (by decide +kernel), by decide +kernel, _, _, rfl⟩
def M_X6_roomsIn : MM := (cX6_roomsIn, yX6_roomsIn, RX6, 4, (some .int))
theorem mk_X6_roomsIn : MOk M_X6_roomsIn := ⟨by decide +kernel, rfl, tb_of (List.mem_append_right _ (List.mem_of_getElem? (i := 611) (by decide +kernel))) (by decide +kernel), tb_of (List.mem_append_right _ (List.mem_of_getElem? (i := 8) (by decide +kernel))) (by decide +kernel), ⟨by decide +kernel, by decide +kernel⟩, by decide⟩
theorem sk_X6_roomsIn : SOk M_X6_roomsIn 1 := ⟨tb_of (List.mem_append_right _ (List.mem_of_getElem? (i := 610) (by decide +kernel))) (by decide +kernel), by decide +kernel⟩
def M_X6_findBreak : MM := (cX6_findBreak, yX6_findBreak, RX6, 2, (some .int))
theorem mk_X6_findBreak : MOk M_X6_findBreak := ⟨by decide +kernel, rfl, tb_of (List.mem_append_right _ (List.mem_of_getElem? (i := 623) (by decide +kernel))) (by decide +kernel), tb_of (List.mem_append_right _ (List.mem_of_getElem? (i := 8) (by decide +kernel))) (by decide +kernel), ⟨by decide +kernel, by decide +kernel⟩, by decide⟩
theorem vk_X6_findBreak : VOk M_X6_findBreak 0 6 := ⟨tb_of (List.mem_append_right _ (List.mem_of_getElem? (i := 622) (by decide +kernel))) (by decide +kernel), tb_of (List.mem_append_left _ (List.mem_of_getElem? (i := 55) (by decide +kernel))) (by decide +kernel), by decide +kernel, _, _, rfl⟩
def M_X6_findFirstWay : MM := (cX6_findFirstWay, yX6_findFirstWay, RX6, 10, (some .boolean))
theorem mk_X6_findFirstWay : MOk M_X6_findFirstWay := ⟨by decide +kernel, rfl, tb_of (List.mem_append_right _ (List.mem_of_getElem? (i := 803) (by decide +kernel))) (by decide +kernel), tb_of (List.mem_append_right _ (List.mem_of_getElem? (i := 8) (by decide +kernel))) (by decide +kernel), ⟨by decide +kernel, by decide +kernel⟩, by decide⟩
theorem vk_X6_findFirstWay : VOk M_X6_findFirstWay 1 6 := ⟨tb_of (List.mem_append_right _ (List.mem_of_getElem? (i := 802) (by decide +kernel))) (by decide +kernel), tb_of (List.mem_append_left _ (List.mem_of_getElem? (i := 69) (by decide +kernel))) (by decide +kernel), by decide +kernel, _, _, rfl⟩
def M_X6_stagesGoing : MM := (cX6_stagesGoing, yX6_stagesGoing, RX6, 7, (some .int))
theorem mk_X6_stagesGoing : MOk M_X6_stagesGoing := ⟨by decide +kernel, rfl, tb_of (List.mem_append_right _ (List.mem_of_getElem? (i := 811) (by decide +kernel))) (by decide +kernel), tb_of (List.mem_append_right _ (List.mem_of_getElem? (i := 8) (by decide +kernel))) (by decide +kernel), ⟨by decide +kernel, by decide +kernel⟩, by decide⟩
theorem vk_X6_stagesGoing : VOk M_X6_stagesGoing 4 6 := ⟨tb_of (List.mem_append_right _ (List.mem_of_getElem? (i := 810) (by decide +kernel))) (by decide +kernel), tb_of (List.mem_append_left _ (List.mem_of_getElem? (i := 71) (by decide +kernel))) (by decide +kernel), by decide +kernel, _, _, rfl⟩
def M_X6_isOpenBetween : MM := (cX6_isOpenBetween, yX6_isOpenBetween, RX6, 5, (some .boolean))
theorem mk_X6_isOpenBetween : MOk M_X6_isOpenBetween := ⟨by decide +kernel, rfl, tb_of (List.mem_append_right _ (List.mem_of_getElem? (i := 815) (by decide +kernel))) (by decide +kernel), tb_of (List.mem_append_right _ (List.mem_of_getElem? (i := 8) (by decide +kernel))) (by decide +kernel), ⟨by decide +kernel, by decide +kernel⟩, by decide⟩
theorem vk_X6_isOpenBetween : VOk M_X6_isOpenBetween 3 6 := ⟨tb_of (List.mem_append_right _ (List.mem_of_getElem? (i := 814) (by decide +kernel))) (by decide +kernel), tb_of (List.mem_append_left _ (List.mem_of_getElem? (i := 72) (by decide +kernel))) (by decide +kernel), by decide +kernel, _, _, rfl⟩
def M_X6_withHope : MM := (cX6_withHope, yX6_withHope, RX6, 7, (some .int))
theorem mk_X6_withHope : MOk M_X6_withHope := ⟨by decide +kernel, rfl, tb_of (List.mem_append_right _ (List.mem_of_getElem? (i := 807) (by decide +kernel))) (by decide +kernel), tb_of (List.mem_append_right _ (List.mem_of_getElem? (i := 8) (by decide +kernel))) (by decide +kernel), ⟨by decide +kernel, by decide +kernel⟩, by decide⟩
theorem vk_X6_withHope : VOk M_X6_withHope 3 6 := ⟨tb_of (List.mem_append_right _ (List.mem_of_getElem? (i := 806) (by decide +kernel))) (by decide +kernel), tb_of (List.mem_append_left _ (List.mem_of_getElem? (i := 70) (by decide +kernel))) (by decide +kernel), by decide +kernel, _, _, rfl⟩
def M_X7_init : MM := (cX7_init, yX7_init, RX7, 1, none)
def M_X7_feed : MM := (cX7_feed, yX7_feed, RX7, 6, (some .int))
theorem mk_X7_feed : MOk M_X7_feed := ⟨by decide +kernel, rfl, tb_of (List.mem_append_right _ (List.mem_of_getElem? (i := 321) (by decide +kernel))) (by decide +kernel), tb_of (List.mem_append_right _ (List.mem_of_getElem? (i := 1) (by decide +kernel))) (by decide +kernel), ⟨by decide +kernel, by decide +kernel⟩, by decide⟩
theorem vk_X7_feed : VOk M_X7_feed 5 7 := ⟨tb_of (List.mem_append_right _ (List.mem_of_getElem? (i := 319) (by decide +kernel))) (by decide +kernel), tb_of (List.mem_append_right _ (List.mem_of_getElem? (i := 320) (by decide +kernel))) (by decide +kernel), by decide +kernel, _, _, rfl⟩
def M_X7_end : MM := (cX7_end, yX7_end, RX7, 2, (some .int))
theorem mk_X7_end : MOk M_X7_end := ⟨by decide +kernel, rfl, tb_of (List.mem_append_right _ (List.mem_of_getElem? (i := 329) (by decide +kernel))) (by decide +kernel), tb_of (List.mem_append_right _ (List.mem_of_getElem? (i := 1) (by decide +kernel))) (by decide +kernel), ⟨by decide +kernel, by decide +kernel⟩, by decide⟩
theorem vk_X7_end : VOk M_X7_end 1 7 := ⟨tb_of (List.mem_append_right _ (List.mem_of_getElem? (i := 327) (by decide +kernel))) (by decide +kernel), tb_of (List.mem_append_right _ (List.mem_of_getElem? (i := 328) (by decide +kernel))) (by decide +kernel), by decide +kernel, _, _, rfl⟩
def M_X7_building : MM := (cX7_building, yX7_building, RX7, 2, (some .int))
theorem mk_X7_building : MOk M_X7_building := ⟨by decide +kernel, rfl, tb_of (List.mem_append_right _ (List.mem_of_getElem? (i := 333) (by decide +kernel))) (by decide +kernel), tb_of (List.mem_append_right _ (List.mem_of_getElem? (i := 1) (by decide +kernel))) (by decide +kernel), ⟨by decide +kernel, by decide +kernel⟩, by decide⟩
theorem vk_X7_building : VOk M_X7_building 0 7 := ⟨tb_of (List.mem_append_right _ (List.mem_of_getElem? (i := 331) (by decide +kernel))) (by decide +kernel), tb_of (List.mem_append_right _ (List.mem_of_getElem? (i := 332) (by decide +kernel))) (by decide +kernel), by decide +kernel, _, _, rfl⟩
def M_X7_place : MM := (cX7_place, yX7_place, RX7, 1, (some .int))
theorem mk_X7_place : MOk M_X7_place := ⟨by decide +kernel, rfl, tb_of (List.mem_append_right _ (List.mem_of_getElem? (i := 447) (by decide +kernel))) (by decide +kernel), tb_of (List.mem_append_right _ (List.mem_of_getElem? (i := 1) (by decide +kernel))) (by decide +kernel), ⟨by decide +kernel, by decide +kernel⟩, by decide⟩
theorem vk_X7_place : VOk M_X7_place 0 7 := ⟨tb_of (List.mem_append_right _ (List.mem_of_getElem? (i := 445) (by decide +kernel))) (by decide +kernel), tb_of (List.mem_append_right _ (List.mem_of_getElem? (i := 446) (by decide +kernel))) (by decide +kernel), by decide +kernel, _, _, rfl⟩
def M_X7_card : MM := (cX7_card, yX7_card, RX7, 1, (some .int))
theorem mk_X7_card : MOk M_X7_card := ⟨by decide +kernel, rfl, tb_of (List.mem_append_right _ (List.mem_of_getElem? (i := 451) (by decide +kernel))) (by decide +kernel), tb_of (List.mem_append_right _ (List.mem_of_getElem? (i := 1) (by decide +kernel))) (by decide +kernel), ⟨by decide +kernel, by decide +kernel⟩, by decide⟩
theorem vk_X7_card : VOk M_X7_card 0 7 := ⟨tb_of (List.mem_append_right _ (List.mem_of_getElem? (i := 449) (by decide +kernel))) (by decide +kernel), tb_of (List.mem_append_right _ (List.mem_of_getElem? (i := 450) (by decide +kernel))) (by decide +kernel), by decide +kernel, _, _, rfl⟩
def M_X7_pass : MM := (cX7_pass, yX7_pass, RX7, 5, (some .int))
theorem mk_X7_pass : MOk M_X7_pass := ⟨by decide +kernel, rfl, tb_of (List.mem_append_right _ (List.mem_of_getElem? (i := 455) (by decide +kernel))) (by decide +kernel), tb_of (List.mem_append_right _ (List.mem_of_getElem? (i := 1) (by decide +kernel))) (by decide +kernel), ⟨by decide +kernel, by decide +kernel⟩, by decide⟩
theorem vk_X7_pass : VOk M_X7_pass 4 7 := ⟨tb_of (List.mem_append_right _ (List.mem_of_getElem? (i := 453) (by decide +kernel))) (by decide +kernel), tb_of (List.mem_append_right _ (List.mem_of_getElem? (i := 454) (by decide +kernel))) (by decide +kernel), by decide +kernel, _, _, rfl⟩
def M_X7_gap : MM := (cX7_gap, yX7_gap, RX7, 4, (some .int))
theorem mk_X7_gap : MOk M_X7_gap := ⟨by decide +kernel, rfl, tb_of (List.mem_append_right _ (List.mem_of_getElem? (i := 491) (by decide +kernel))) (by decide +kernel), tb_of (List.mem_append_right _ (List.mem_of_getElem? (i := 1) (by decide +kernel))) (by decide +kernel), ⟨by decide +kernel, by decide +kernel⟩, by decide⟩
theorem vk_X7_gap : VOk M_X7_gap 3 7 := ⟨tb_of (List.mem_append_right _ (List.mem_of_getElem? (i := 489) (by decide +kernel))) (by decide +kernel), tb_of (List.mem_append_right _ (List.mem_of_getElem? (i := 490) (by decide +kernel))) (by decide +kernel), by decide +kernel, _, _, rfl⟩
def M_X7_sight : MM := (cX7_sight, yX7_sight, RX7, 4, (some .int))
theorem mk_X7_sight : MOk M_X7_sight := ⟨by decide +kernel, rfl, tb_of (List.mem_append_right _ (List.mem_of_getElem? (i := 495) (by decide +kernel))) (by decide +kernel), tb_of (List.mem_append_right _ (List.mem_of_getElem? (i := 1) (by decide +kernel))) (by decide +kernel), ⟨by decide +kernel, by decide +kernel⟩, by decide⟩
theorem vk_X7_sight : VOk M_X7_sight 3 7 := ⟨tb_of (List.mem_append_right _ (List.mem_of_getElem? (i := 493) (by decide +kernel))) (by decide +kernel), tb_of (List.mem_append_right _ (List.mem_of_getElem? (i := 494) (by decide +kernel))) (by decide +kernel), by decide +kernel, _, _, rfl⟩
def M_X7_right : MM := (cX7_right, yX7_right, RX7, 6, (some .int))
theorem mk_X7_right : MOk M_X7_right := ⟨by decide +kernel, rfl, tb_of (List.mem_append_right _ (List.mem_of_getElem? (i := 503) (by decide +kernel))) (by decide +kernel), tb_of (List.mem_append_right _ (List.mem_of_getElem? (i := 1) (by decide +kernel))) (by decide +kernel), ⟨by decide +kernel, by decide +kernel⟩, by decide⟩
theorem vk_X7_right : VOk M_X7_right 5 7 := ⟨tb_of (List.mem_append_right _ (List.mem_of_getElem? (i := 501) (by decide +kernel))) (by decide +kernel), tb_of (List.mem_append_right _ (List.mem_of_getElem? (i := 502) (by decide +kernel))) (by decide +kernel), by decide +kernel, _, _, rfl⟩
def M_X7_rooms : MM := (cX7_rooms, yX7_rooms, RX7, 4, (some .int))
theorem mk_X7_rooms : MOk M_X7_rooms := ⟨by decide +kernel, rfl, tb_of (List.mem_append_right _ (List.mem_of_getElem? (i := 511) (by decide +kernel))) (by decide +kernel), tb_of (List.mem_append_right _ (List.mem_of_getElem? (i := 1) (by decide +kernel))) (by decide +kernel), ⟨by decide +kernel, by decide +kernel⟩, by decide⟩
theorem vk_X7_rooms : VOk M_X7_rooms 3 7 := ⟨tb_of (List.mem_append_right _ (List.mem_of_getElem? (i := 509) (by decide +kernel))) (by decide +kernel), tb_of (List.mem_append_right _ (List.mem_of_getElem? (i := 510) (by decide +kernel))) (by decide +kernel), by decide +kernel, _, _, rfl⟩
def M_X7_way : MM := (cX7_way, yX7_way, RX7, 5, (some .int))
theorem mk_X7_way : MOk M_X7_way := ⟨by decide +kernel, rfl, tb_of (List.mem_append_right _ (List.mem_of_getElem? (i := 729) (by decide +kernel))) (by decide +kernel), tb_of (List.mem_append_right _ (List.mem_of_getElem? (i := 1) (by decide +kernel))) (by decide +kernel), ⟨by decide +kernel, by decide +kernel⟩, by decide⟩
theorem vk_X7_way : VOk M_X7_way 4 7 := ⟨tb_of (List.mem_append_right _ (List.mem_of_getElem? (i := 727) (by decide +kernel))) (by decide +kernel), tb_of (List.mem_append_right _ (List.mem_of_getElem? (i := 728) (by decide +kernel))) (by decide +kernel), by decide +kernel, _, _, rfl⟩
def M_X7_broken : MM := (cX7_broken, yX7_broken, RX7, 3, (some .int))
theorem mk_X7_broken : MOk M_X7_broken := ⟨by decide +kernel, rfl, tb_of (List.mem_append_right _ (List.mem_of_getElem? (i := 615) (by decide +kernel))) (by decide +kernel), tb_of (List.mem_append_right _ (List.mem_of_getElem? (i := 1) (by decide +kernel))) (by decide +kernel), ⟨by decide +kernel, by decide +kernel⟩, by decide⟩
theorem vk_X7_broken : VOk M_X7_broken 2 7 := ⟨tb_of (List.mem_append_right _ (List.mem_of_getElem? (i := 613) (by decide +kernel))) (by decide +kernel), tb_of (List.mem_append_right _ (List.mem_of_getElem? (i := 614) (by decide +kernel))) (by decide +kernel), by decide +kernel, _, _, rfl⟩
def M_X7_many : MM := (cX7_many, yX7_many, RX7, 9, (some .int))
theorem mk_X7_many : MOk M_X7_many := ⟨by decide +kernel, rfl, tb_of (List.mem_append_right _ (List.mem_of_getElem? (i := 627) (by decide +kernel))) (by decide +kernel), tb_of (List.mem_append_right _ (List.mem_of_getElem? (i := 1) (by decide +kernel))) (by decide +kernel), ⟨by decide +kernel, by decide +kernel⟩, by decide⟩
theorem vk_X7_many : VOk M_X7_many 4 7 := ⟨tb_of (List.mem_append_right _ (List.mem_of_getElem? (i := 625) (by decide +kernel))) (by decide +kernel), tb_of (List.mem_append_right _ (List.mem_of_getElem? (i := 626) (by decide +kernel))) (by decide +kernel), by decide +kernel, _, _, rfl⟩
def M_X7_inside : MM := (cX7_inside, yX7_inside, RX7, 9, (some .int))
theorem mk_X7_inside : MOk M_X7_inside := ⟨by decide +kernel, rfl, tb_of (List.mem_append_right _ (List.mem_of_getElem? (i := 631) (by decide +kernel))) (by decide +kernel), tb_of (List.mem_append_right _ (List.mem_of_getElem? (i := 1) (by decide +kernel))) (by decide +kernel), ⟨by decide +kernel, by decide +kernel⟩, by decide⟩
theorem vk_X7_inside : VOk M_X7_inside 3 7 := ⟨tb_of (List.mem_append_right _ (List.mem_of_getElem? (i := 629) (by decide +kernel))) (by decide +kernel), tb_of (List.mem_append_right _ (List.mem_of_getElem? (i := 630) (by decide +kernel))) (by decide +kernel), by decide +kernel, _, _, rfl⟩
def M_X7_allowed : MM := (cX7_allowed, yX7_allowed, RX7, 4, (some .int))
theorem mk_X7_allowed : MOk M_X7_allowed := ⟨by decide +kernel, rfl, tb_of (List.mem_append_right _ (List.mem_of_getElem? (i := 641) (by decide +kernel))) (by decide +kernel), tb_of (List.mem_append_right _ (List.mem_of_getElem? (i := 1) (by decide +kernel))) (by decide +kernel), ⟨by decide +kernel, by decide +kernel⟩, by decide⟩
theorem vk_X7_allowed : VOk M_X7_allowed 3 7 := ⟨tb_of (List.mem_append_right _ (List.mem_of_getElem? (i := 639) (by decide +kernel))) (by decide +kernel), tb_of (List.mem_append_right _ (List.mem_of_getElem? (i := 640) (by decide +kernel))) (by decide +kernel), by decide +kernel, _, _, rfl⟩
def M_X7_odd : MM := (cX7_odd, yX7_odd, RX7, 3, (some .int))
theorem mk_X7_odd : MOk M_X7_odd := ⟨by decide +kernel, rfl, tb_of (List.mem_append_right _ (List.mem_of_getElem? (i := 649) (by decide +kernel))) (by decide +kernel), tb_of (List.mem_append_right _ (List.mem_of_getElem? (i := 1) (by decide +kernel))) (by decide +kernel), ⟨by decide +kernel, by decide +kernel⟩, by decide⟩
theorem vk_X7_odd : VOk M_X7_odd 2 7 := ⟨tb_of (List.mem_append_right _ (List.mem_of_getElem? (i := 647) (by decide +kernel))) (by decide +kernel), tb_of (List.mem_append_right _ (List.mem_of_getElem? (i := 648) (by decide +kernel))) (by decide +kernel), by decide +kernel, _, _, rfl⟩
def M_X7_pairs : MM := (cX7_pairs, yX7_pairs, RX7, 5, (some .int))
theorem mk_X7_pairs : MOk M_X7_pairs := ⟨by decide +kernel, rfl, tb_of (List.mem_append_right _ (List.mem_of_getElem? (i := 689) (by decide +kernel))) (by decide +kernel), tb_of (List.mem_append_right _ (List.mem_of_getElem? (i := 1) (by decide +kernel))) (by decide +kernel), ⟨by decide +kernel, by decide +kernel⟩, by decide⟩
theorem vk_X7_pairs : VOk M_X7_pairs 4 7 := ⟨tb_of (List.mem_append_right _ (List.mem_of_getElem? (i := 687) (by decide +kernel))) (by decide +kernel), tb_of (List.mem_append_right _ (List.mem_of_getElem? (i := 688) (by decide +kernel))) (by decide +kernel), by decide +kernel, _, _, rfl⟩
def M_X7_log : MM := (cX7_log, yX7_log, RX7, 3, (some .int))
theorem mk_X7_log : MOk M_X7_log := ⟨by decide +kernel, rfl, tb_of (List.mem_append_right _ (List.mem_of_getElem? (i := 708) (by decide +kernel))) (by decide +kernel), tb_of (List.mem_append_right _ (List.mem_of_getElem? (i := 1) (by decide +kernel))) (by decide +kernel), ⟨by decide +kernel, by decide +kernel⟩, by decide⟩
theorem vk_X7_log : VOk M_X7_log 2 7 := ⟨tb_of (List.mem_append_right _ (List.mem_of_getElem? (i := 706) (by decide +kernel))) (by decide +kernel), tb_of (List.mem_append_right _ (List.mem_of_getElem? (i := 707) (by decide +kernel))) (by decide +kernel), by decide +kernel, _, _, rfl⟩
def M_X7_door : MM := (cX7_door, yX7_door, RX7, 3, (some .int))
theorem mk_X7_door : MOk M_X7_door := ⟨by decide +kernel, rfl, tb_of (List.mem_append_right _ (List.mem_of_getElem? (i := 713) (by decide +kernel))) (by decide +kernel), tb_of (List.mem_append_right _ (List.mem_of_getElem? (i := 1) (by decide +kernel))) (by decide +kernel), ⟨by decide +kernel, by decide +kernel⟩, by decide⟩
theorem vk_X7_door : VOk M_X7_door 2 7 := ⟨tb_of (List.mem_append_right _ (List.mem_of_getElem? (i := 711) (by decide +kernel))) (by decide +kernel), tb_of (List.mem_append_right _ (List.mem_of_getElem? (i := 712) (by decide +kernel))) (by decide +kernel), by decide +kernel, _, _, rfl⟩
def M_X7_wide : MM := (cX7_wide, yX7_wide, RX7, 2, (some .int))
theorem mk_X7_wide : MOk M_X7_wide := ⟨by decide +kernel, rfl, tb_of (List.mem_append_right _ (List.mem_of_getElem? (i := 717) (by decide +kernel))) (by decide +kernel), tb_of (List.mem_append_right _ (List.mem_of_getElem? (i := 1) (by decide +kernel))) (by decide +kernel), ⟨by decide +kernel, by decide +kernel⟩, by decide⟩
theorem vk_X7_wide : VOk M_X7_wide 1 7 := ⟨tb_of (List.mem_append_right _ (List.mem_of_getElem? (i := 715) (by decide +kernel))) (by decide +kernel), tb_of (List.mem_append_right _ (List.mem_of_getElem? (i := 716) (by decide +kernel))) (by decide +kernel), by decide +kernel, _, _, rfl⟩
def M_X7_count : MM := (cX7_count, yX7_count, RX7, 2, (some .int))
theorem mk_X7_count : MOk M_X7_count := ⟨by decide +kernel, rfl, tb_of (List.mem_append_right _ (List.mem_of_getElem? (i := 721) (by decide +kernel))) (by decide +kernel), tb_of (List.mem_append_right _ (List.mem_of_getElem? (i := 1) (by decide +kernel))) (by decide +kernel), ⟨by decide +kernel, by decide +kernel⟩, by decide⟩
theorem vk_X7_count : VOk M_X7_count 1 7 := ⟨tb_of (List.mem_append_right _ (List.mem_of_getElem? (i := 719) (by decide +kernel))) (by decide +kernel), tb_of (List.mem_append_right _ (List.mem_of_getElem? (i := 720) (by decide +kernel))) (by decide +kernel), by decide +kernel, _, _, rfl⟩
def M_X7_putNumber : MM := (cX7_putNumber, yX7_putNumber, RX7, 3, none)
theorem mk_X7_putNumber : MOk M_X7_putNumber := ⟨by decide +kernel, rfl, tb_of (List.mem_append_right _ (List.mem_of_getElem? (i := 325) (by decide +kernel))) (by decide +kernel), tb_of (List.mem_append_right _ (List.mem_of_getElem? (i := 1) (by decide +kernel))) (by decide +kernel), ⟨by decide +kernel, by decide +kernel⟩, by decide⟩
theorem vk_X7_putNumber : VOk M_X7_putNumber 1 7 := ⟨tb_of (List.mem_append_right _ (List.mem_of_getElem? (i := 324) (by decide +kernel))) (by decide +kernel), tb_of (List.mem_append_left _ (List.mem_of_getElem? (i := 0) (by decide +kernel))) (by decide +kernel), by decide +kernel, _, _, rfl⟩
def M_X7_hasCard : MM := (cX7_hasCard, yX7_hasCard, RX7, 2, (some .boolean))
theorem mk_X7_hasCard : MOk M_X7_hasCard := ⟨by decide +kernel, rfl, tb_of (List.mem_append_right _ (List.mem_of_getElem? (i := 459) (by decide +kernel))) (by decide +kernel), tb_of (List.mem_append_right _ (List.mem_of_getElem? (i := 1) (by decide +kernel))) (by decide +kernel), ⟨by decide +kernel, by decide +kernel⟩, by decide⟩
theorem vk_X7_hasCard : VOk M_X7_hasCard 1 7 := ⟨tb_of (List.mem_append_right _ (List.mem_of_getElem? (i := 458) (by decide +kernel))) (by decide +kernel), tb_of (List.mem_append_left _ (List.mem_of_getElem? (i := 23) (by decide +kernel))) (by decide +kernel), by decide +kernel, _, _, rfl⟩
def M_X7_hasRoom : MM := (cX7_hasRoom, yX7_hasRoom, RX7, 2, (some .boolean))
theorem mk_X7_hasRoom : MOk M_X7_hasRoom := ⟨by decide +kernel, rfl, tb_of (List.mem_append_right _ (List.mem_of_getElem? (i := 499) (by decide +kernel))) (by decide +kernel), tb_of (List.mem_append_right _ (List.mem_of_getElem? (i := 1) (by decide +kernel))) (by decide +kernel), ⟨by decide +kernel, by decide +kernel⟩, by decide⟩
theorem vk_X7_hasRoom : VOk M_X7_hasRoom 1 7 := ⟨tb_of (List.mem_append_right _ (List.mem_of_getElem? (i := 498) (by decide +kernel))) (by decide +kernel), tb_of (List.mem_append_left _ (List.mem_of_getElem? (i := 31) (by decide +kernel))) (by decide +kernel), by decide +kernel, _, _, rfl⟩
def M_X7_hasDoor : MM := (cX7_hasDoor, yX7_hasDoor, RX7, 2, (some .boolean))
theorem mk_X7_hasDoor : MOk M_X7_hasDoor := ⟨by decide +kernel, rfl, tb_of (List.mem_append_right _ (List.mem_of_getElem? (i := 463) (by decide +kernel))) (by decide +kernel), tb_of (List.mem_append_right _ (List.mem_of_getElem? (i := 1) (by decide +kernel))) (by decide +kernel), ⟨by decide +kernel, by decide +kernel⟩, by decide⟩
theorem vk_X7_hasDoor : VOk M_X7_hasDoor 1 7 := ⟨tb_of (List.mem_append_right _ (List.mem_of_getElem? (i := 462) (by decide +kernel))) (by decide +kernel), tb_of (List.mem_append_left _ (List.mem_of_getElem? (i := 24) (by decide +kernel))) (by decide +kernel), by decide +kernel, _, _, rfl⟩
def M_X7_isTick : MM := (cX7_isTick, yX7_isTick, RX7, 2, (some .boolean))
theorem mk_X7_isTick : MOk M_X7_isTick := ⟨by decide +kernel, rfl, tb_of (List.mem_append_right _ (List.mem_of_getElem? (i := 467) (by decide +kernel))) (by decide +kernel), tb_of (List.mem_append_right _ (List.mem_of_getElem? (i := 1) (by decide +kernel))) (by decide +kernel), ⟨by decide +kernel, by decide +kernel⟩, by decide⟩
theorem vk_X7_isTick : VOk M_X7_isTick 1 7 := ⟨tb_of (List.mem_append_right _ (List.mem_of_getElem? (i := 466) (by decide +kernel))) (by decide +kernel), tb_of (List.mem_append_left _ (List.mem_of_getElem? (i := 25) (by decide +kernel))) (by decide +kernel), by decide +kernel, _, _, rfl⟩
def M_X7_isBehind : MM := (cX7_isBehind, yX7_isBehind, RX7, 2, (some .boolean))
theorem mk_X7_isBehind : MOk M_X7_isBehind := ⟨by decide +kernel, rfl, tb_of (List.mem_append_right _ (List.mem_of_getElem? (i := 515) (by decide +kernel))) (by decide +kernel), tb_of (List.mem_append_right _ (List.mem_of_getElem? (i := 1) (by decide +kernel))) (by decide +kernel), ⟨by decide +kernel, by decide +kernel⟩, by decide⟩
theorem vk_X7_isBehind : VOk M_X7_isBehind 1 7 := ⟨tb_of (List.mem_append_right _ (List.mem_of_getElem? (i := 514) (by decide +kernel))) (by decide +kernel), tb_of (List.mem_append_left _ (List.mem_of_getElem? (i := 33) (by decide +kernel))) (by decide +kernel), by decide +kernel, _, _, rfl⟩
def M_X8_thrown : MM := (cX8_thrown, yX8_thrown, RX8, 1, (some .int))
theorem mk_X8_thrown : MOk M_X8_thrown := ⟨by decide +kernel, rfl, tb_of (List.mem_append_right _ (List.mem_of_getElem? (i := 819) (by decide +kernel))) (by decide +kernel), tb_of (List.mem_append_right _ (List.mem_of_getElem? (i := 9) (by decide +kernel))) (by decide +kernel), ⟨by decide +kernel, by decide +kernel⟩, by decide⟩
theorem vk_X8_thrown : VOk M_X8_thrown 0 8 := ⟨tb_of (List.mem_append_right _ (List.mem_of_getElem? (i := 817) (by decide +kernel))) (by decide +kernel), tb_of (List.mem_append_right _ (List.mem_of_getElem? (i := 818) (by decide +kernel))) (by decide +kernel), by decide +kernel, _, _, rfl⟩
def M_X8_within : MM := (cX8_within, yX8_within, RX8, 3, (some .boolean))
theorem mk_X8_within : MOk M_X8_within := ⟨by decide +kernel, rfl, tb_of (List.mem_append_right _ (List.mem_of_getElem? (i := 1104) (by decide +kernel))) (by decide +kernel), tb_of (List.mem_append_right _ (List.mem_of_getElem? (i := 9) (by decide +kernel))) (by decide +kernel), ⟨by decide +kernel, by decide +kernel⟩, by decide⟩
theorem sk_X8_within : SOk M_X8_within 3 := ⟨tb_of (List.mem_append_right _ (List.mem_of_getElem? (i := 1103) (by decide +kernel))) (by decide +kernel), by decide +kernel⟩
def M_X8_init : MM := (cX8_init, yX8_init, RX8, 1, none)
def M_X8_feed : MM := (cX8_feed, yX8_feed, RX8, 8, (some .int))
theorem mk_X8_feed : MOk M_X8_feed := ⟨by decide +kernel, rfl, tb_of (List.mem_append_right _ (List.mem_of_getElem? (i := 965) (by decide +kernel))) (by decide +kernel), tb_of (List.mem_append_right _ (List.mem_of_getElem? (i := 9) (by decide +kernel))) (by decide +kernel), ⟨by decide +kernel, by decide +kernel⟩, by decide⟩
theorem vk_X8_feed : VOk M_X8_feed 5 8 := ⟨tb_of (List.mem_append_right _ (List.mem_of_getElem? (i := 963) (by decide +kernel))) (by decide +kernel), tb_of (List.mem_append_right _ (List.mem_of_getElem? (i := 964) (by decide +kernel))) (by decide +kernel), by decide +kernel, _, _, rfl⟩
def M_X8_end : MM := (cX8_end, yX8_end, RX8, 2, (some .int))
theorem mk_X8_end : MOk M_X8_end := ⟨by decide +kernel, rfl, tb_of (List.mem_append_right _ (List.mem_of_getElem? (i := 969) (by decide +kernel))) (by decide +kernel), tb_of (List.mem_append_right _ (List.mem_of_getElem? (i := 9) (by decide +kernel))) (by decide +kernel), ⟨by decide +kernel, by decide +kernel⟩, by decide⟩
theorem vk_X8_end : VOk M_X8_end 1 8 := ⟨tb_of (List.mem_append_right _ (List.mem_of_getElem? (i := 967) (by decide +kernel))) (by decide +kernel), tb_of (List.mem_append_right _ (List.mem_of_getElem? (i := 968) (by decide +kernel))) (by decide +kernel), by decide +kernel, _, _, rfl⟩
def M_X8_see : MM := (cX8_see, yX8_see, RX8, 2, (some .int))
theorem mk_X8_see : MOk M_X8_see := ⟨by decide +kernel, rfl, tb_of (List.mem_append_right _ (List.mem_of_getElem? (i := 984) (by decide +kernel))) (by decide +kernel), tb_of (List.mem_append_right _ (List.mem_of_getElem? (i := 9) (by decide +kernel))) (by decide +kernel), ⟨by decide +kernel, by decide +kernel⟩, by decide⟩
theorem vk_X8_see : VOk M_X8_see 1 8 := ⟨tb_of (List.mem_append_right _ (List.mem_of_getElem? (i := 983) (by decide +kernel))) (by decide +kernel), tb_of (List.mem_append_left _ (List.mem_of_getElem? (i := 74) (by decide +kernel))) (by decide +kernel), by decide +kernel, _, _, rfl⟩
def M_X8_isSmall : MM := (cX8_isSmall, yX8_isSmall, RX8, 1, (some .boolean))
theorem mk_X8_isSmall : MOk M_X8_isSmall := ⟨by decide +kernel, rfl, tb_of (List.mem_append_right _ (List.mem_of_getElem? (i := 980) (by decide +kernel))) (by decide +kernel), tb_of (List.mem_append_right _ (List.mem_of_getElem? (i := 9) (by decide +kernel))) (by decide +kernel), ⟨by decide +kernel, by decide +kernel⟩, by decide⟩
theorem sk_X8_isSmall : SOk M_X8_isSmall 1 := ⟨tb_of (List.mem_append_right _ (List.mem_of_getElem? (i := 979) (by decide +kernel))) (by decide +kernel), by decide +kernel⟩
def M_X8_isDigit : MM := (cX8_isDigit, yX8_isDigit, RX8, 1, (some .boolean))
theorem mk_X8_isDigit : MOk M_X8_isDigit := ⟨by decide +kernel, rfl, tb_of (List.mem_append_right _ (List.mem_of_getElem? (i := 987) (by decide +kernel))) (by decide +kernel), tb_of (List.mem_append_right _ (List.mem_of_getElem? (i := 9) (by decide +kernel))) (by decide +kernel), ⟨by decide +kernel, by decide +kernel⟩, by decide⟩
theorem sk_X8_isDigit : SOk M_X8_isDigit 1 := ⟨tb_of (List.mem_append_right _ (List.mem_of_getElem? (i := 986) (by decide +kernel))) (by decide +kernel), by decide +kernel⟩
def M_X8_next : MM := (cX8_next, yX8_next, RX8, 2, none)
theorem mk_X8_next : MOk M_X8_next := ⟨by decide +kernel, rfl, tb_of (List.mem_append_right _ (List.mem_of_getElem? (i := 977) (by decide +kernel))) (by decide +kernel), tb_of (List.mem_append_right _ (List.mem_of_getElem? (i := 9) (by decide +kernel))) (by decide +kernel), ⟨by decide +kernel, by decide +kernel⟩, by decide⟩
theorem vk_X8_next : VOk M_X8_next 0 8 := ⟨tb_of (List.mem_append_right _ (List.mem_of_getElem? (i := 976) (by decide +kernel))) (by decide +kernel), tb_of (List.mem_append_left _ (List.mem_of_getElem? (i := 73) (by decide +kernel))) (by decide +kernel), by decide +kernel, _, _, rfl⟩
def M_X8_isWord : MM := (cX8_isWord, yX8_isWord, RX8, 3, (some .boolean))
theorem mk_X8_isWord : MOk M_X8_isWord := ⟨by decide +kernel, rfl, tb_of (List.mem_append_right _ (List.mem_of_getElem? (i := 1000) (by decide +kernel))) (by decide +kernel), tb_of (List.mem_append_right _ (List.mem_of_getElem? (i := 9) (by decide +kernel))) (by decide +kernel), ⟨by decide +kernel, by decide +kernel⟩, by decide⟩
theorem vk_X8_isWord : VOk M_X8_isWord 1 8 := ⟨tb_of (List.mem_append_right _ (List.mem_of_getElem? (i := 999) (by decide +kernel))) (by decide +kernel), tb_of (List.mem_append_left _ (List.mem_of_getElem? (i := 77) (by decide +kernel))) (by decide +kernel), by decide +kernel, _, _, rfl⟩
def M_X8_isName : MM := (cX8_isName, yX8_isName, RX8, 1, (some .boolean))
theorem mk_X8_isName : MOk M_X8_isName := ⟨by decide +kernel, rfl, tb_of (List.mem_append_right _ (List.mem_of_getElem? (i := 1060) (by decide +kernel))) (by decide +kernel), tb_of (List.mem_append_right _ (List.mem_of_getElem? (i := 9) (by decide +kernel))) (by decide +kernel), ⟨by decide +kernel, by decide +kernel⟩, by decide⟩
theorem vk_X8_isName : VOk M_X8_isName 0 8 := ⟨tb_of (List.mem_append_right _ (List.mem_of_getElem? (i := 1059) (by decide +kernel))) (by decide +kernel), tb_of (List.mem_append_left _ (List.mem_of_getElem? (i := 80) (by decide +kernel))) (by decide +kernel), by decide +kernel, _, _, rfl⟩
def M_X8_fails : MM := (cX8_fails, yX8_fails, RX8, 2, none)
theorem mk_X8_fails : MOk M_X8_fails := ⟨by decide +kernel, rfl, tb_of (List.mem_append_right _ (List.mem_of_getElem? (i := 1052) (by decide +kernel))) (by decide +kernel), tb_of (List.mem_append_right _ (List.mem_of_getElem? (i := 9) (by decide +kernel))) (by decide +kernel), ⟨by decide +kernel, by decide +kernel⟩, by decide⟩
theorem vk_X8_fails : VOk M_X8_fails 1 8 := ⟨tb_of (List.mem_append_right _ (List.mem_of_getElem? (i := 1051) (by decide +kernel))) (by decide +kernel), tb_of (List.mem_append_left _ (List.mem_of_getElem? (i := 78) (by decide +kernel))) (by decide +kernel), by decide +kernel, _, _, rfl⟩
def M_X8_isWell : MM := (cX8_isWell, yX8_isWell, RX8, 1, (some .boolean))
theorem mk_X8_isWell : MOk M_X8_isWell := ⟨by decide +kernel, rfl, tb_of (List.mem_append_right _ (List.mem_of_getElem? (i := 991) (by decide +kernel))) (by decide +kernel), tb_of (List.mem_append_right _ (List.mem_of_getElem? (i := 9) (by decide +kernel))) (by decide +kernel), ⟨by decide +kernel, by decide +kernel⟩, by decide⟩
theorem vk_X8_isWell : VOk M_X8_isWell 0 8 := ⟨tb_of (List.mem_append_right _ (List.mem_of_getElem? (i := 990) (by decide +kernel))) (by decide +kernel), tb_of (List.mem_append_left _ (List.mem_of_getElem? (i := 75) (by decide +kernel))) (by decide +kernel), by decide +kernel, _, _, rfl⟩
def M_X8_isAt : MM := (cX8_isAt, yX8_isAt, RX8, 3, (some .boolean))
theorem mk_X8_isAt : MOk M_X8_isAt := ⟨by decide +kernel, rfl, tb_of (List.mem_append_right _ (List.mem_of_getElem? (i := 1069) (by decide +kernel))) (by decide +kernel), tb_of (List.mem_append_right _ (List.mem_of_getElem? (i := 9) (by decide +kernel))) (by decide +kernel), ⟨by decide +kernel, by decide +kernel⟩, by decide⟩
theorem vk_X8_isAt : VOk M_X8_isAt 1 8 := ⟨tb_of (List.mem_append_right _ (List.mem_of_getElem? (i := 1068) (by decide +kernel))) (by decide +kernel), tb_of (List.mem_append_left _ (List.mem_of_getElem? (i := 82) (by decide +kernel))) (by decide +kernel), by decide +kernel, _, _, rfl⟩
def M_X8_roomHere : MM := (cX8_roomHere, yX8_roomHere, RX8, 2, (some .int))
theorem mk_X8_roomHere : MOk M_X8_roomHere := ⟨by decide +kernel, rfl, tb_of (List.mem_append_right _ (List.mem_of_getElem? (i := 1065) (by decide +kernel))) (by decide +kernel), tb_of (List.mem_append_right _ (List.mem_of_getElem? (i := 9) (by decide +kernel))) (by decide +kernel), ⟨by decide +kernel, by decide +kernel⟩, by decide⟩
theorem vk_X8_roomHere : VOk M_X8_roomHere 0 8 := ⟨tb_of (List.mem_append_right _ (List.mem_of_getElem? (i := 1064) (by decide +kernel))) (by decide +kernel), tb_of (List.mem_append_left _ (List.mem_of_getElem? (i := 81) (by decide +kernel))) (by decide +kernel), by decide +kernel, _, _, rfl⟩
def M_X8_isDoorHere : MM := (cX8_isDoorHere, yX8_isDoorHere, RX8, 2, (some .boolean))
theorem mk_X8_isDoorHere : MOk M_X8_isDoorHere := ⟨by decide +kernel, rfl, tb_of (List.mem_append_right _ (List.mem_of_getElem? (i := 1073) (by decide +kernel))) (by decide +kernel), tb_of (List.mem_append_right _ (List.mem_of_getElem? (i := 9) (by decide +kernel))) (by decide +kernel), ⟨by decide +kernel, by decide +kernel⟩, by decide⟩
theorem vk_X8_isDoorHere : VOk M_X8_isDoorHere 0 8 := ⟨tb_of (List.mem_append_right _ (List.mem_of_getElem? (i := 1072) (by decide +kernel))) (by decide +kernel), tb_of (List.mem_append_left _ (List.mem_of_getElem? (i := 83) (by decide +kernel))) (by decide +kernel), by decide +kernel, _, _, rfl⟩
def M_X8_newName : MM := (cX8_newName, yX8_newName, RX8, 3, none)
theorem mk_X8_newName : MOk M_X8_newName := ⟨by decide +kernel, rfl, tb_of (List.mem_append_right _ (List.mem_of_getElem? (i := 1056) (by decide +kernel))) (by decide +kernel), tb_of (List.mem_append_right _ (List.mem_of_getElem? (i := 9) (by decide +kernel))) (by decide +kernel), ⟨by decide +kernel, by decide +kernel⟩, by decide⟩
theorem vk_X8_newName : VOk M_X8_newName 1 8 := ⟨tb_of (List.mem_append_right _ (List.mem_of_getElem? (i := 1055) (by decide +kernel))) (by decide +kernel), tb_of (List.mem_append_left _ (List.mem_of_getElem? (i := 79) (by decide +kernel))) (by decide +kernel), by decide +kernel, _, _, rfl⟩
def M_X8_number : MM := (cX8_number, yX8_number, RX8, 3, (some .int))
theorem mk_X8_number : MOk M_X8_number := ⟨by decide +kernel, rfl, tb_of (List.mem_append_right _ (List.mem_of_getElem? (i := 1077) (by decide +kernel))) (by decide +kernel), tb_of (List.mem_append_right _ (List.mem_of_getElem? (i := 9) (by decide +kernel))) (by decide +kernel), ⟨by decide +kernel, by decide +kernel⟩, by decide⟩
theorem vk_X8_number : VOk M_X8_number 1 8 := ⟨tb_of (List.mem_append_right _ (List.mem_of_getElem? (i := 1076) (by decide +kernel))) (by decide +kernel), tb_of (List.mem_append_left _ (List.mem_of_getElem? (i := 84) (by decide +kernel))) (by decide +kernel), by decide +kernel, _, _, rfl⟩
def M_X8_ends : MM := (cX8_ends, yX8_ends, RX8, 1, none)
theorem mk_X8_ends : MOk M_X8_ends := ⟨by decide +kernel, rfl, tb_of (List.mem_append_right _ (List.mem_of_getElem? (i := 1081) (by decide +kernel))) (by decide +kernel), tb_of (List.mem_append_right _ (List.mem_of_getElem? (i := 9) (by decide +kernel))) (by decide +kernel), ⟨by decide +kernel, by decide +kernel⟩, by decide⟩
theorem vk_X8_ends : VOk M_X8_ends 0 8 := ⟨tb_of (List.mem_append_right _ (List.mem_of_getElem? (i := 1080) (by decide +kernel))) (by decide +kernel), tb_of (List.mem_append_left _ (List.mem_of_getElem? (i := 85) (by decide +kernel))) (by decide +kernel), by decide +kernel, _, _, rfl⟩
def M_X8_roomTold : MM := (cX8_roomTold, yX8_roomTold, RX8, 3, (some .int))
theorem mk_X8_roomTold : MOk M_X8_roomTold := ⟨by decide +kernel, rfl, tb_of (List.mem_append_right _ (List.mem_of_getElem? (i := 1085) (by decide +kernel))) (by decide +kernel), tb_of (List.mem_append_right _ (List.mem_of_getElem? (i := 9) (by decide +kernel))) (by decide +kernel), ⟨by decide +kernel, by decide +kernel⟩, by decide⟩
theorem vk_X8_roomTold : VOk M_X8_roomTold 1 8 := ⟨tb_of (List.mem_append_right _ (List.mem_of_getElem? (i := 1084) (by decide +kernel))) (by decide +kernel), tb_of (List.mem_append_left _ (List.mem_of_getElem? (i := 86) (by decide +kernel))) (by decide +kernel), by decide +kernel, _, _, rfl⟩
def M_X8_thing : MM := (cX8_thing, yX8_thing, RX8, 1, none)
theorem mk_X8_thing : MOk M_X8_thing := ⟨by decide +kernel, rfl, tb_of (List.mem_append_right _ (List.mem_of_getElem? (i := 995) (by decide +kernel))) (by decide +kernel), tb_of (List.mem_append_right _ (List.mem_of_getElem? (i := 9) (by decide +kernel))) (by decide +kernel), ⟨by decide +kernel, by decide +kernel⟩, by decide⟩
theorem vk_X8_thing : VOk M_X8_thing 0 8 := ⟨tb_of (List.mem_append_right _ (List.mem_of_getElem? (i := 994) (by decide +kernel))) (by decide +kernel), tb_of (List.mem_append_left _ (List.mem_of_getElem? (i := 76) (by decide +kernel))) (by decide +kernel), by decide +kernel, _, _, rfl⟩
def M_X8_building : MM := (cX8_building, yX8_building, RX8, 2, (some .int))
theorem mk_X8_building : MOk M_X8_building := ⟨by decide +kernel, rfl, tb_of (List.mem_append_right _ (List.mem_of_getElem? (i := 973) (by decide +kernel))) (by decide +kernel), tb_of (List.mem_append_right _ (List.mem_of_getElem? (i := 9) (by decide +kernel))) (by decide +kernel), ⟨by decide +kernel, by decide +kernel⟩, by decide⟩
theorem vk_X8_building : VOk M_X8_building 0 8 := ⟨tb_of (List.mem_append_right _ (List.mem_of_getElem? (i := 971) (by decide +kernel))) (by decide +kernel), tb_of (List.mem_append_right _ (List.mem_of_getElem? (i := 972) (by decide +kernel))) (by decide +kernel), by decide +kernel, _, _, rfl⟩
def M_X8_place : MM := (cX8_place, yX8_place, RX8, 1, (some .int))
theorem mk_X8_place : MOk M_X8_place := ⟨by decide +kernel, rfl, tb_of (List.mem_append_right _ (List.mem_of_getElem? (i := 1089) (by decide +kernel))) (by decide +kernel), tb_of (List.mem_append_right _ (List.mem_of_getElem? (i := 9) (by decide +kernel))) (by decide +kernel), ⟨by decide +kernel, by decide +kernel⟩, by decide⟩
theorem vk_X8_place : VOk M_X8_place 0 8 := ⟨tb_of (List.mem_append_right _ (List.mem_of_getElem? (i := 1087) (by decide +kernel))) (by decide +kernel), tb_of (List.mem_append_right _ (List.mem_of_getElem? (i := 1088) (by decide +kernel))) (by decide +kernel), by decide +kernel, _, _, rfl⟩
def M_X8_isCard : MM := (cX8_isCard, yX8_isCard, RX8, 2, (some .boolean))
theorem mk_X8_isCard : MOk M_X8_isCard := ⟨by decide +kernel, rfl, tb_of (List.mem_append_right _ (List.mem_of_getElem? (i := 1101) (by decide +kernel))) (by decide +kernel), tb_of (List.mem_append_right _ (List.mem_of_getElem? (i := 9) (by decide +kernel))) (by decide +kernel), ⟨by decide +kernel, by decide +kernel⟩, by decide⟩
theorem vk_X8_isCard : VOk M_X8_isCard 1 8 := ⟨tb_of (List.mem_append_right _ (List.mem_of_getElem? (i := 1100) (by decide +kernel))) (by decide +kernel), tb_of (List.mem_append_left _ (List.mem_of_getElem? (i := 87) (by decide +kernel))) (by decide +kernel), by decide +kernel, _, _, rfl⟩
def M_X8_isRoom : MM := (cX8_isRoom, yX8_isRoom, RX8, 2, (some .boolean))
theorem mk_X8_isRoom : MOk M_X8_isRoom := ⟨by decide +kernel, rfl, tb_of (List.mem_append_right _ (List.mem_of_getElem? (i := 1123) (by decide +kernel))) (by decide +kernel), tb_of (List.mem_append_right _ (List.mem_of_getElem? (i := 9) (by decide +kernel))) (by decide +kernel), ⟨by decide +kernel, by decide +kernel⟩, by decide⟩
theorem vk_X8_isRoom : VOk M_X8_isRoom 1 8 := ⟨tb_of (List.mem_append_right _ (List.mem_of_getElem? (i := 1122) (by decide +kernel))) (by decide +kernel), tb_of (List.mem_append_left _ (List.mem_of_getElem? (i := 89) (by decide +kernel))) (by decide +kernel), by decide +kernel, _, _, rfl⟩
def M_X8_isTick : MM := (cX8_isTick, yX8_isTick, RX8, 1, (some .boolean))
theorem mk_X8_isTick : MOk M_X8_isTick := ⟨by decide +kernel, rfl, tb_of (List.mem_append_right _ (List.mem_of_getElem? (i := 1107) (by decide +kernel))) (by decide +kernel), tb_of (List.mem_append_right _ (List.mem_of_getElem? (i := 9) (by decide +kernel))) (by decide +kernel), ⟨by decide +kernel, by decide +kernel⟩, by decide⟩
theorem sk_X8_isTick : SOk M_X8_isTick 1 := ⟨tb_of (List.mem_append_right _ (List.mem_of_getElem? (i := 1106) (by decide +kernel))) (by decide +kernel), by decide +kernel⟩
def M_X8_card : MM := (cX8_card, yX8_card, RX8, 1, (some .int))
theorem mk_X8_card : MOk M_X8_card := ⟨by decide +kernel, rfl, tb_of (List.mem_append_right _ (List.mem_of_getElem? (i := 1093) (by decide +kernel))) (by decide +kernel), tb_of (List.mem_append_right _ (List.mem_of_getElem? (i := 9) (by decide +kernel))) (by decide +kernel), ⟨by decide +kernel, by decide +kernel⟩, by decide⟩
theorem vk_X8_card : VOk M_X8_card 0 8 := ⟨tb_of (List.mem_append_right _ (List.mem_of_getElem? (i := 1091) (by decide +kernel))) (by decide +kernel), tb_of (List.mem_append_right _ (List.mem_of_getElem? (i := 1092) (by decide +kernel))) (by decide +kernel), by decide +kernel, _, _, rfl⟩
def M_X8_log : MM := (cX8_log, yX8_log, RX8, 6, (some .int))
theorem mk_X8_log : MOk M_X8_log := ⟨by decide +kernel, rfl, tb_of (List.mem_append_right _ (List.mem_of_getElem? (i := 1111) (by decide +kernel))) (by decide +kernel), tb_of (List.mem_append_right _ (List.mem_of_getElem? (i := 9) (by decide +kernel))) (by decide +kernel), ⟨by decide +kernel, by decide +kernel⟩, by decide⟩
theorem vk_X8_log : VOk M_X8_log 5 8 := ⟨tb_of (List.mem_append_right _ (List.mem_of_getElem? (i := 1110) (by decide +kernel))) (by decide +kernel), tb_of (List.mem_append_left _ (List.mem_of_getElem? (i := 88) (by decide +kernel))) (by decide +kernel), by decide +kernel, _, _, rfl⟩
def M_X8_pass : MM := (cX8_pass, yX8_pass, RX8, 7, (some .int))
theorem mk_X8_pass : MOk M_X8_pass := ⟨by decide +kernel, rfl, tb_of (List.mem_append_right _ (List.mem_of_getElem? (i := 1097) (by decide +kernel))) (by decide +kernel), tb_of (List.mem_append_right _ (List.mem_of_getElem? (i := 9) (by decide +kernel))) (by decide +kernel), ⟨by decide +kernel, by decide +kernel⟩, by decide⟩
theorem vk_X8_pass : VOk M_X8_pass 4 8 := ⟨tb_of (List.mem_append_right _ (List.mem_of_getElem? (i := 1095) (by decide +kernel))) (by decide +kernel), tb_of (List.mem_append_right _ (List.mem_of_getElem? (i := 1096) (by decide +kernel))) (by decide +kernel), by decide +kernel, _, _, rfl⟩
def M_X8_gap : MM := (cX8_gap, yX8_gap, RX8, 4, (some .int))
theorem mk_X8_gap : MOk M_X8_gap := ⟨by decide +kernel, rfl, tb_of (List.mem_append_right _ (List.mem_of_getElem? (i := 1115) (by decide +kernel))) (by decide +kernel), tb_of (List.mem_append_right _ (List.mem_of_getElem? (i := 9) (by decide +kernel))) (by decide +kernel), ⟨by decide +kernel, by decide +kernel⟩, by decide⟩
theorem vk_X8_gap : VOk M_X8_gap 3 8 := ⟨tb_of (List.mem_append_right _ (List.mem_of_getElem? (i := 1113) (by decide +kernel))) (by decide +kernel), tb_of (List.mem_append_right _ (List.mem_of_getElem? (i := 1114) (by decide +kernel))) (by decide +kernel), by decide +kernel, _, _, rfl⟩
def M_X8_sight : MM := (cX8_sight, yX8_sight, RX8, 4, (some .int))
theorem mk_X8_sight : MOk M_X8_sight := ⟨by decide +kernel, rfl, tb_of (List.mem_append_right _ (List.mem_of_getElem? (i := 1119) (by decide +kernel))) (by decide +kernel), tb_of (List.mem_append_right _ (List.mem_of_getElem? (i := 9) (by decide +kernel))) (by decide +kernel), ⟨by decide +kernel, by decide +kernel⟩, by decide⟩
theorem vk_X8_sight : VOk M_X8_sight 3 8 := ⟨tb_of (List.mem_append_right _ (List.mem_of_getElem? (i := 1117) (by decide +kernel))) (by decide +kernel), tb_of (List.mem_append_right _ (List.mem_of_getElem? (i := 1118) (by decide +kernel))) (by decide +kernel), by decide +kernel, _, _, rfl⟩
def M_X8_right : MM := (cX8_right, yX8_right, RX8, 6, (some .int))
theorem mk_X8_right : MOk M_X8_right := ⟨by decide +kernel, rfl, tb_of (List.mem_append_right _ (List.mem_of_getElem? (i := 1127) (by decide +kernel))) (by decide +kernel), tb_of (List.mem_append_right _ (List.mem_of_getElem? (i := 9) (by decide +kernel))) (by decide +kernel), ⟨by decide +kernel, by decide +kernel⟩, by decide⟩
theorem vk_X8_right : VOk M_X8_right 5 8 := ⟨tb_of (List.mem_append_right _ (List.mem_of_getElem? (i := 1125) (by decide +kernel))) (by decide +kernel), tb_of (List.mem_append_right _ (List.mem_of_getElem? (i := 1126) (by decide +kernel))) (by decide +kernel), by decide +kernel, _, _, rfl⟩
def M_X8_isAllowed : MM := (cX8_isAllowed, yX8_isAllowed, RX8, 6, (some .boolean))
theorem mk_X8_isAllowed : MOk M_X8_isAllowed := ⟨by decide +kernel, rfl, tb_of (List.mem_append_right _ (List.mem_of_getElem? (i := 1135) (by decide +kernel))) (by decide +kernel), tb_of (List.mem_append_right _ (List.mem_of_getElem? (i := 9) (by decide +kernel))) (by decide +kernel), ⟨by decide +kernel, by decide +kernel⟩, by decide⟩
theorem vk_X8_isAllowed : VOk M_X8_isAllowed 3 8 := ⟨tb_of (List.mem_append_right _ (List.mem_of_getElem? (i := 1134) (by decide +kernel))) (by decide +kernel), tb_of (List.mem_append_left _ (List.mem_of_getElem? (i := 90) (by decide +kernel))) (by decide +kernel), by decide +kernel, _, _, rfl⟩
def M_X8_allowed : MM := (cX8_allowed, yX8_allowed, RX8, 4, (some .int))
theorem mk_X8_allowed : MOk M_X8_allowed := ⟨by decide +kernel, rfl, tb_of (List.mem_append_right _ (List.mem_of_getElem? (i := 1131) (by decide +kernel))) (by decide +kernel), tb_of (List.mem_append_right _ (List.mem_of_getElem? (i := 9) (by decide +kernel))) (by decide +kernel), ⟨by decide +kernel, by decide +kernel⟩, by decide⟩
theorem vk_X8_allowed : VOk M_X8_allowed 3 8 := ⟨tb_of (List.mem_append_right _ (List.mem_of_getElem? (i := 1129) (by decide +kernel))) (by decide +kernel), tb_of (List.mem_append_right _ (List.mem_of_getElem? (i := 1130) (by decide +kernel))) (by decide +kernel), by decide +kernel, _, _, rfl⟩
def M_X8_leaves : MM := (cX8_leaves, yX8_leaves, RX8, 2, (some .int))
theorem mk_X8_leaves : MOk M_X8_leaves := ⟨by decide +kernel, rfl, tb_of (List.mem_append_right _ (List.mem_of_getElem? (i := 1186) (by decide +kernel))) (by decide +kernel), tb_of (List.mem_append_right _ (List.mem_of_getElem? (i := 9) (by decide +kernel))) (by decide +kernel), ⟨by decide +kernel, by decide +kernel⟩, by decide⟩
theorem vk_X8_leaves : VOk M_X8_leaves 1 8 := ⟨tb_of (List.mem_append_right _ (List.mem_of_getElem? (i := 1185) (by decide +kernel))) (by decide +kernel), tb_of (List.mem_append_left _ (List.mem_of_getElem? (i := 99) (by decide +kernel))) (by decide +kernel), by decide +kernel, _, _, rfl⟩
def M_X8_enters : MM := (cX8_enters, yX8_enters, RX8, 2, (some .int))
theorem mk_X8_enters : MOk M_X8_enters := ⟨by decide +kernel, rfl, tb_of (List.mem_append_right _ (List.mem_of_getElem? (i := 1190) (by decide +kernel))) (by decide +kernel), tb_of (List.mem_append_right _ (List.mem_of_getElem? (i := 9) (by decide +kernel))) (by decide +kernel), ⟨by decide +kernel, by decide +kernel⟩, by decide⟩
theorem vk_X8_enters : VOk M_X8_enters 1 8 := ⟨tb_of (List.mem_append_right _ (List.mem_of_getElem? (i := 1189) (by decide +kernel))) (by decide +kernel), tb_of (List.mem_append_left _ (List.mem_of_getElem? (i := 100) (by decide +kernel))) (by decide +kernel), by decide +kernel, _, _, rfl⟩
def M_X8_states : MM := (cX8_states, yX8_states, RX8, 1, (some .long))
theorem mk_X8_states : MOk M_X8_states := ⟨by decide +kernel, rfl, tb_of (List.mem_append_right _ (List.mem_of_getElem? (i := 1153) (by decide +kernel))) (by decide +kernel), tb_of (List.mem_append_right _ (List.mem_of_getElem? (i := 9) (by decide +kernel))) (by decide +kernel), ⟨by decide +kernel, by decide +kernel⟩, by decide⟩
theorem sk_X8_states : SOk M_X8_states 1 := ⟨tb_of (List.mem_append_right _ (List.mem_of_getElem? (i := 1152) (by decide +kernel))) (by decide +kernel), by decide +kernel⟩
def M_X8_knows : MM := (cX8_knows, yX8_knows, RX8, 7, none)
theorem mk_X8_knows : MOk M_X8_knows := ⟨by decide +kernel, rfl, tb_of (List.mem_append_right _ (List.mem_of_getElem? (i := 1147) (by decide +kernel))) (by decide +kernel), tb_of (List.mem_append_right _ (List.mem_of_getElem? (i := 9) (by decide +kernel))) (by decide +kernel), ⟨by decide +kernel, by decide +kernel⟩, by decide⟩
theorem vk_X8_knows : VOk M_X8_knows 3 8 := ⟨tb_of (List.mem_append_right _ (List.mem_of_getElem? (i := 1146) (by decide +kernel))) (by decide +kernel), tb_of (List.mem_append_left _ (List.mem_of_getElem? (i := 92) (by decide +kernel))) (by decide +kernel), by decide +kernel, _, _, rfl⟩
def M_X8_leaving : MM := (cX8_leaving, yX8_leaving, RX8, 2, (some .long))
theorem mk_X8_leaving : MOk M_X8_leaving := ⟨by decide +kernel, rfl, tb_of (List.mem_append_right _ (List.mem_of_getElem? (i := 1175) (by decide +kernel))) (by decide +kernel), tb_of (List.mem_append_right _ (List.mem_of_getElem? (i := 9) (by decide +kernel))) (by decide +kernel), ⟨by decide +kernel, by decide +kernel⟩, by decide⟩
theorem vk_X8_leaving : VOk M_X8_leaving 1 8 := ⟨tb_of (List.mem_append_right _ (List.mem_of_getElem? (i := 1174) (by decide +kernel))) (by decide +kernel), tb_of (List.mem_append_left _ (List.mem_of_getElem? (i := 97) (by decide +kernel))) (by decide +kernel), by decide +kernel, _, _, rfl⟩
def M_X8_come : MM := (cX8_come, yX8_come, RX8, 1, (some .long))
theorem mk_X8_come : MOk M_X8_come := ⟨by decide +kernel, rfl, tb_of (List.mem_append_right _ (List.mem_of_getElem? (i := 1178) (by decide +kernel))) (by decide +kernel), tb_of (List.mem_append_right _ (List.mem_of_getElem? (i := 9) (by decide +kernel))) (by decide +kernel), ⟨by decide +kernel, by decide +kernel⟩, by decide⟩
theorem sk_X8_come : SOk M_X8_come 1 := ⟨tb_of (List.mem_append_right _ (List.mem_of_getElem? (i := 1177) (by decide +kernel))) (by decide +kernel), by decide +kernel⟩
def M_X8_isPass : MM := (cX8_isPass, yX8_isPass, RX8, 5, (some .boolean))
theorem mk_X8_isPass : MOk M_X8_isPass := ⟨by decide +kernel, rfl, tb_of (List.mem_append_right _ (List.mem_of_getElem? (i := 1182) (by decide +kernel))) (by decide +kernel), tb_of (List.mem_append_right _ (List.mem_of_getElem? (i := 9) (by decide +kernel))) (by decide +kernel), ⟨by decide +kernel, by decide +kernel⟩, by decide⟩
theorem vk_X8_isPass : VOk M_X8_isPass 2 8 := ⟨tb_of (List.mem_append_right _ (List.mem_of_getElem? (i := 1181) (by decide +kernel))) (by decide +kernel), tb_of (List.mem_append_left _ (List.mem_of_getElem? (i := 98) (by decide +kernel))) (by decide +kernel), by decide +kernel, _, _, rfl⟩
def M_X8_stays : MM := (cX8_stays, yX8_stays, RX8, 8, (some .long))
theorem mk_X8_stays : MOk M_X8_stays := ⟨by decide +kernel, rfl, tb_of (List.mem_append_right _ (List.mem_of_getElem? (i := 1171) (by decide +kernel))) (by decide +kernel), tb_of (List.mem_append_right _ (List.mem_of_getElem? (i := 9) (by decide +kernel))) (by decide +kernel), ⟨by decide +kernel, by decide +kernel⟩, by decide⟩
theorem vk_X8_stays : VOk M_X8_stays 1 8 := ⟨tb_of (List.mem_append_right _ (List.mem_of_getElem? (i := 1170) (by decide +kernel))) (by decide +kernel), tb_of (List.mem_append_left _ (List.mem_of_getElem? (i := 96) (by decide +kernel))) (by decide +kernel), by decide +kernel, _, _, rfl⟩
def M_X8_goes : MM := (cX8_goes, yX8_goes, RX8, 7, none)
theorem mk_X8_goes : MOk M_X8_goes := ⟨by decide +kernel, rfl, tb_of (List.mem_append_right _ (List.mem_of_getElem? (i := 1167) (by decide +kernel))) (by decide +kernel), tb_of (List.mem_append_right _ (List.mem_of_getElem? (i := 9) (by decide +kernel))) (by decide +kernel), ⟨by decide +kernel, by decide +kernel⟩, by decide⟩
theorem vk_X8_goes : VOk M_X8_goes 2 8 := ⟨tb_of (List.mem_append_right _ (List.mem_of_getElem? (i := 1166) (by decide +kernel))) (by decide +kernel), tb_of (List.mem_append_left _ (List.mem_of_getElem? (i := 95) (by decide +kernel))) (by decide +kernel), by decide +kernel, _, _, rfl⟩
def M_X8_begins : MM := (cX8_begins, yX8_begins, RX8, 3, none)
theorem mk_X8_begins : MOk M_X8_begins := ⟨by decide +kernel, rfl, tb_of (List.mem_append_right _ (List.mem_of_getElem? (i := 1162) (by decide +kernel))) (by decide +kernel), tb_of (List.mem_append_right _ (List.mem_of_getElem? (i := 9) (by decide +kernel))) (by decide +kernel), ⟨by decide +kernel, by decide +kernel⟩, by decide⟩
theorem vk_X8_begins : VOk M_X8_begins 1 8 := ⟨tb_of (List.mem_append_right _ (List.mem_of_getElem? (i := 1161) (by decide +kernel))) (by decide +kernel), tb_of (List.mem_append_left _ (List.mem_of_getElem? (i := 94) (by decide +kernel))) (by decide +kernel), by decide +kernel, _, _, rfl⟩
def M_X8_fillFront : MM := (cX8_fillFront, yX8_fillFront, RX8, 3, none)
theorem mk_X8_fillFront : MOk M_X8_fillFront := ⟨by decide +kernel, rfl, tb_of (List.mem_append_right _ (List.mem_of_getElem? (i := 1158) (by decide +kernel))) (by decide +kernel), tb_of (List.mem_append_right _ (List.mem_of_getElem? (i := 9) (by decide +kernel))) (by decide +kernel), ⟨by decide +kernel, by decide +kernel⟩, by decide⟩
theorem vk_X8_fillFront : VOk M_X8_fillFront 0 8 := ⟨tb_of (List.mem_append_right _ (List.mem_of_getElem? (i := 1157) (by decide +kernel))) (by decide +kernel), tb_of (List.mem_append_left _ (List.mem_of_getElem? (i := 93) (by decide +kernel))) (by decide +kernel), by decide +kernel, _, _, rfl⟩
def M_X8_stayed : MM := (cX8_stayed, yX8_stayed, RX8, 8, (some .long))
theorem mk_X8_stayed : MOk M_X8_stayed := ⟨by decide +kernel, rfl, tb_of (List.mem_append_right _ (List.mem_of_getElem? (i := 1202) (by decide +kernel))) (by decide +kernel), tb_of (List.mem_append_right _ (List.mem_of_getElem? (i := 9) (by decide +kernel))) (by decide +kernel), ⟨by decide +kernel, by decide +kernel⟩, by decide⟩
theorem vk_X8_stayed : VOk M_X8_stayed 1 8 := ⟨tb_of (List.mem_append_right _ (List.mem_of_getElem? (i := 1201) (by decide +kernel))) (by decide +kernel), tb_of (List.mem_append_left _ (List.mem_of_getElem? (i := 103) (by decide +kernel))) (by decide +kernel), by decide +kernel, _, _, rfl⟩
def M_X8_fillBack : MM := (cX8_fillBack, yX8_fillBack, RX8, 5, none)
theorem mk_X8_fillBack : MOk M_X8_fillBack := ⟨by decide +kernel, rfl, tb_of (List.mem_append_right _ (List.mem_of_getElem? (i := 1194) (by decide +kernel))) (by decide +kernel), tb_of (List.mem_append_right _ (List.mem_of_getElem? (i := 9) (by decide +kernel))) (by decide +kernel), ⟨by decide +kernel, by decide +kernel⟩, by decide⟩
theorem vk_X8_fillBack : VOk M_X8_fillBack 0 8 := ⟨tb_of (List.mem_append_right _ (List.mem_of_getElem? (i := 1193) (by decide +kernel))) (by decide +kernel), tb_of (List.mem_append_left _ (List.mem_of_getElem? (i := 101) (by decide +kernel))) (by decide +kernel), by decide +kernel, _, _, rfl⟩
def M_X8_ahead : MM := (cX8_ahead, yX8_ahead, RX8, 8, (some .long))
theorem mk_X8_ahead : MOk M_X8_ahead := ⟨by decide +kernel, rfl, tb_of (List.mem_append_right _ (List.mem_of_getElem? (i := 1198) (by decide +kernel))) (by decide +kernel), tb_of (List.mem_append_right _ (List.mem_of_getElem? (i := 9) (by decide +kernel))) (by decide +kernel), ⟨by decide +kernel, by decide +kernel⟩, by decide⟩
theorem vk_X8_ahead : VOk M_X8_ahead 2 8 := ⟨tb_of (List.mem_append_right _ (List.mem_of_getElem? (i := 1197) (by decide +kernel))) (by decide +kernel), tb_of (List.mem_append_left _ (List.mem_of_getElem? (i := 102) (by decide +kernel))) (by decide +kernel), by decide +kernel, _, _, rfl⟩
def M_X8_can : MM := (cX8_can, yX8_can, RX8, 9, (some .int))
theorem mk_X8_can : MOk M_X8_can := ⟨by decide +kernel, rfl, tb_of (List.mem_append_right _ (List.mem_of_getElem? (i := 1143) (by decide +kernel))) (by decide +kernel), tb_of (List.mem_append_right _ (List.mem_of_getElem? (i := 9) (by decide +kernel))) (by decide +kernel), ⟨by decide +kernel, by decide +kernel⟩, by decide⟩
theorem vk_X8_can : VOk M_X8_can 3 8 := ⟨tb_of (List.mem_append_right _ (List.mem_of_getElem? (i := 1142) (by decide +kernel))) (by decide +kernel), tb_of (List.mem_append_left _ (List.mem_of_getElem? (i := 91) (by decide +kernel))) (by decide +kernel), by decide +kernel, _, _, rfl⟩
def M_X8_rooms : MM := (cX8_rooms, yX8_rooms, RX8, 4, (some .int))
theorem mk_X8_rooms : MOk M_X8_rooms := ⟨by decide +kernel, rfl, tb_of (List.mem_append_right _ (List.mem_of_getElem? (i := 1139) (by decide +kernel))) (by decide +kernel), tb_of (List.mem_append_right _ (List.mem_of_getElem? (i := 9) (by decide +kernel))) (by decide +kernel), ⟨by decide +kernel, by decide +kernel⟩, by decide⟩
theorem vk_X8_rooms : VOk M_X8_rooms 3 8 := ⟨tb_of (List.mem_append_right _ (List.mem_of_getElem? (i := 1137) (by decide +kernel))) (by decide +kernel), tb_of (List.mem_append_right _ (List.mem_of_getElem? (i := 1138) (by decide +kernel))) (by decide +kernel), by decide +kernel, _, _, rfl⟩
def M_X8_leastRoom : MM := (cX8_leastRoom, yX8_leastRoom, RX8, 3, (some .int))
theorem mk_X8_leastRoom : MOk M_X8_leastRoom := ⟨by decide +kernel, rfl, tb_of (List.mem_append_right _ (List.mem_of_getElem? (i := 1210) (by decide +kernel))) (by decide +kernel), tb_of (List.mem_append_right _ (List.mem_of_getElem? (i := 9) (by decide +kernel))) (by decide +kernel), ⟨by decide +kernel, by decide +kernel⟩, by decide⟩
theorem vk_X8_leastRoom : VOk M_X8_leastRoom 0 8 := ⟨tb_of (List.mem_append_right _ (List.mem_of_getElem? (i := 1209) (by decide +kernel))) (by decide +kernel), tb_of (List.mem_append_left _ (List.mem_of_getElem? (i := 104) (by decide +kernel))) (by decide +kernel), by decide +kernel, _, _, rfl⟩
def M_X8_way : MM := (cX8_way, yX8_way, RX8, 8, (some .int))
theorem mk_X8_way : MOk M_X8_way := ⟨by decide +kernel, rfl, tb_of (List.mem_append_right _ (List.mem_of_getElem? (i := 1206) (by decide +kernel))) (by decide +kernel), tb_of (List.mem_append_right _ (List.mem_of_getElem? (i := 9) (by decide +kernel))) (by decide +kernel), ⟨by decide +kernel, by decide +kernel⟩, by decide⟩
theorem vk_X8_way : VOk M_X8_way 4 8 := ⟨tb_of (List.mem_append_right _ (List.mem_of_getElem? (i := 1204) (by decide +kernel))) (by decide +kernel), tb_of (List.mem_append_right _ (List.mem_of_getElem? (i := 1205) (by decide +kernel))) (by decide +kernel), by decide +kernel, _, _, rfl⟩
def M_X8_isWalked : MM := (cX8_isWalked, yX8_isWalked, RX8, 3, (some .boolean))
theorem mk_X8_isWalked : MOk M_X8_isWalked := ⟨by decide +kernel, rfl, tb_of (List.mem_append_right _ (List.mem_of_getElem? (i := 1218) (by decide +kernel))) (by decide +kernel), tb_of (List.mem_append_right _ (List.mem_of_getElem? (i := 9) (by decide +kernel))) (by decide +kernel), ⟨by decide +kernel, by decide +kernel⟩, by decide⟩
theorem vk_X8_isWalked : VOk M_X8_isWalked 1 8 := ⟨tb_of (List.mem_append_right _ (List.mem_of_getElem? (i := 1217) (by decide +kernel))) (by decide +kernel), tb_of (List.mem_append_left _ (List.mem_of_getElem? (i := 105) (by decide +kernel))) (by decide +kernel), by decide +kernel, _, _, rfl⟩
def M_X8_broken : MM := (cX8_broken, yX8_broken, RX8, 4, (some .int))
theorem mk_X8_broken : MOk M_X8_broken := ⟨by decide +kernel, rfl, tb_of (List.mem_append_right _ (List.mem_of_getElem? (i := 1214) (by decide +kernel))) (by decide +kernel), tb_of (List.mem_append_right _ (List.mem_of_getElem? (i := 9) (by decide +kernel))) (by decide +kernel), ⟨by decide +kernel, by decide +kernel⟩, by decide⟩
theorem vk_X8_broken : VOk M_X8_broken 2 8 := ⟨tb_of (List.mem_append_right _ (List.mem_of_getElem? (i := 1212) (by decide +kernel))) (by decide +kernel), tb_of (List.mem_append_right _ (List.mem_of_getElem? (i := 1213) (by decide +kernel))) (by decide +kernel), by decide +kernel, _, _, rfl⟩
def M_X8_many : MM := (cX8_many, yX8_many, RX8, 8, (some .int))
theorem mk_X8_many : MOk M_X8_many := ⟨by decide +kernel, rfl, tb_of (List.mem_append_right _ (List.mem_of_getElem? (i := 1222) (by decide +kernel))) (by decide +kernel), tb_of (List.mem_append_right _ (List.mem_of_getElem? (i := 9) (by decide +kernel))) (by decide +kernel), ⟨by decide +kernel, by decide +kernel⟩, by decide⟩
theorem vk_X8_many : VOk M_X8_many 4 8 := ⟨tb_of (List.mem_append_right _ (List.mem_of_getElem? (i := 1220) (by decide +kernel))) (by decide +kernel), tb_of (List.mem_append_right _ (List.mem_of_getElem? (i := 1221) (by decide +kernel))) (by decide +kernel), by decide +kernel, _, _, rfl⟩
def M_X8_inside : MM := (cX8_inside, yX8_inside, RX8, 9, (some .int))
theorem mk_X8_inside : MOk M_X8_inside := ⟨by decide +kernel, rfl, tb_of (List.mem_append_right _ (List.mem_of_getElem? (i := 1226) (by decide +kernel))) (by decide +kernel), tb_of (List.mem_append_right _ (List.mem_of_getElem? (i := 9) (by decide +kernel))) (by decide +kernel), ⟨by decide +kernel, by decide +kernel⟩, by decide⟩
theorem vk_X8_inside : VOk M_X8_inside 3 8 := ⟨tb_of (List.mem_append_right _ (List.mem_of_getElem? (i := 1224) (by decide +kernel))) (by decide +kernel), tb_of (List.mem_append_right _ (List.mem_of_getElem? (i := 1225) (by decide +kernel))) (by decide +kernel), by decide +kernel, _, _, rfl⟩
def M_X8_dayOf : MM := (cX8_dayOf, yX8_dayOf, RX8, 1, (some .int))
theorem mk_X8_dayOf : MOk M_X8_dayOf := ⟨by decide +kernel, rfl, tb_of (List.mem_append_right _ (List.mem_of_getElem? (i := 1241) (by decide +kernel))) (by decide +kernel), tb_of (List.mem_append_right _ (List.mem_of_getElem? (i := 9) (by decide +kernel))) (by decide +kernel), ⟨by decide +kernel, by decide +kernel⟩, by decide⟩
theorem sk_X8_dayOf : SOk M_X8_dayOf 1 := ⟨tb_of (List.mem_append_right _ (List.mem_of_getElem? (i := 1240) (by decide +kernel))) (by decide +kernel), by decide +kernel⟩
def M_X8_isPassOf : MM := (cX8_isPassOf, yX8_isPassOf, RX8, 3, (some .boolean))
theorem mk_X8_isPassOf : MOk M_X8_isPassOf := ⟨by decide +kernel, rfl, tb_of (List.mem_append_right _ (List.mem_of_getElem? (i := 1238) (by decide +kernel))) (by decide +kernel), tb_of (List.mem_append_right _ (List.mem_of_getElem? (i := 9) (by decide +kernel))) (by decide +kernel), ⟨by decide +kernel, by decide +kernel⟩, by decide⟩
theorem vk_X8_isPassOf : VOk M_X8_isPassOf 2 8 := ⟨tb_of (List.mem_append_right _ (List.mem_of_getElem? (i := 1237) (by decide +kernel))) (by decide +kernel), tb_of (List.mem_append_left _ (List.mem_of_getElem? (i := 107) (by decide +kernel))) (by decide +kernel), by decide +kernel, _, _, rfl⟩
def M_X8_isFirst : MM := (cX8_isFirst, yX8_isFirst, RX8, 3, (some .boolean))
theorem mk_X8_isFirst : MOk M_X8_isFirst := ⟨by decide +kernel, rfl, tb_of (List.mem_append_right _ (List.mem_of_getElem? (i := 1234) (by decide +kernel))) (by decide +kernel), tb_of (List.mem_append_right _ (List.mem_of_getElem? (i := 9) (by decide +kernel))) (by decide +kernel), ⟨by decide +kernel, by decide +kernel⟩, by decide⟩
theorem vk_X8_isFirst : VOk M_X8_isFirst 1 8 := ⟨tb_of (List.mem_append_right _ (List.mem_of_getElem? (i := 1233) (by decide +kernel))) (by decide +kernel), tb_of (List.mem_append_left _ (List.mem_of_getElem? (i := 106) (by decide +kernel))) (by decide +kernel), by decide +kernel, _, _, rfl⟩
def M_X8_earliest : MM := (cX8_earliest, yX8_earliest, RX8, 6, (some .int))
theorem mk_X8_earliest : MOk M_X8_earliest := ⟨by decide +kernel, rfl, tb_of (List.mem_append_right _ (List.mem_of_getElem? (i := 1245) (by decide +kernel))) (by decide +kernel), tb_of (List.mem_append_right _ (List.mem_of_getElem? (i := 9) (by decide +kernel))) (by decide +kernel), ⟨by decide +kernel, by decide +kernel⟩, by decide⟩
theorem vk_X8_earliest : VOk M_X8_earliest 2 8 := ⟨tb_of (List.mem_append_right _ (List.mem_of_getElem? (i := 1244) (by decide +kernel))) (by decide +kernel), tb_of (List.mem_append_left _ (List.mem_of_getElem? (i := 108) (by decide +kernel))) (by decide +kernel), by decide +kernel, _, _, rfl⟩
def M_X8_odd : MM := (cX8_odd, yX8_odd, RX8, 7, (some .int))
theorem mk_X8_odd : MOk M_X8_odd := ⟨by decide +kernel, rfl, tb_of (List.mem_append_right _ (List.mem_of_getElem? (i := 1230) (by decide +kernel))) (by decide +kernel), tb_of (List.mem_append_right _ (List.mem_of_getElem? (i := 9) (by decide +kernel))) (by decide +kernel), ⟨by decide +kernel, by decide +kernel⟩, by decide⟩
theorem vk_X8_odd : VOk M_X8_odd 2 8 := ⟨tb_of (List.mem_append_right _ (List.mem_of_getElem? (i := 1228) (by decide +kernel))) (by decide +kernel), tb_of (List.mem_append_right _ (List.mem_of_getElem? (i := 1229) (by decide +kernel))) (by decide +kernel), by decide +kernel, _, _, rfl⟩
def M_X8_isTogether : MM := (cX8_isTogether, yX8_isTogether, RX8, 5, (some .boolean))
theorem mk_X8_isTogether : MOk M_X8_isTogether := ⟨by decide +kernel, rfl, tb_of (List.mem_append_right _ (List.mem_of_getElem? (i := 1253) (by decide +kernel))) (by decide +kernel), tb_of (List.mem_append_right _ (List.mem_of_getElem? (i := 9) (by decide +kernel))) (by decide +kernel), ⟨by decide +kernel, by decide +kernel⟩, by decide⟩
theorem vk_X8_isTogether : VOk M_X8_isTogether 3 8 := ⟨tb_of (List.mem_append_right _ (List.mem_of_getElem? (i := 1252) (by decide +kernel))) (by decide +kernel), tb_of (List.mem_append_left _ (List.mem_of_getElem? (i := 109) (by decide +kernel))) (by decide +kernel), by decide +kernel, _, _, rfl⟩
def M_X8_pairs : MM := (cX8_pairs, yX8_pairs, RX8, 10, (some .int))
theorem mk_X8_pairs : MOk M_X8_pairs := ⟨by decide +kernel, rfl, tb_of (List.mem_append_right _ (List.mem_of_getElem? (i := 1249) (by decide +kernel))) (by decide +kernel), tb_of (List.mem_append_right _ (List.mem_of_getElem? (i := 9) (by decide +kernel))) (by decide +kernel), ⟨by decide +kernel, by decide +kernel⟩, by decide⟩
theorem vk_X8_pairs : VOk M_X8_pairs 4 8 := ⟨tb_of (List.mem_append_right _ (List.mem_of_getElem? (i := 1247) (by decide +kernel))) (by decide +kernel), tb_of (List.mem_append_right _ (List.mem_of_getElem? (i := 1248) (by decide +kernel))) (by decide +kernel), by decide +kernel, _, _, rfl⟩
def M_X8_log_ : MM := (cX8_log_, yX8_log_, RX8, 3, (some .int))
theorem mk_X8_log_ : MOk M_X8_log_ := ⟨by decide +kernel, rfl, tb_of (List.mem_append_right _ (List.mem_of_getElem? (i := 1257) (by decide +kernel))) (by decide +kernel), tb_of (List.mem_append_right _ (List.mem_of_getElem? (i := 9) (by decide +kernel))) (by decide +kernel), ⟨by decide +kernel, by decide +kernel⟩, by decide⟩
theorem vk_X8_log_ : VOk M_X8_log_ 2 8 := ⟨tb_of (List.mem_append_right _ (List.mem_of_getElem? (i := 1255) (by decide +kernel))) (by decide +kernel), tb_of (List.mem_append_right _ (List.mem_of_getElem? (i := 1256) (by decide +kernel))) (by decide +kernel), by decide +kernel, _, _, rfl⟩
def M_X8_door : MM := (cX8_door, yX8_door, RX8, 3, (some .int))
theorem mk_X8_door : MOk M_X8_door := ⟨by decide +kernel, rfl, tb_of (List.mem_append_right _ (List.mem_of_getElem? (i := 1261) (by decide +kernel))) (by decide +kernel), tb_of (List.mem_append_right _ (List.mem_of_getElem? (i := 9) (by decide +kernel))) (by decide +kernel), ⟨by decide +kernel, by decide +kernel⟩, by decide⟩
theorem vk_X8_door : VOk M_X8_door 2 8 := ⟨tb_of (List.mem_append_right _ (List.mem_of_getElem? (i := 1259) (by decide +kernel))) (by decide +kernel), tb_of (List.mem_append_right _ (List.mem_of_getElem? (i := 1260) (by decide +kernel))) (by decide +kernel), by decide +kernel, _, _, rfl⟩
def M_X8_wide : MM := (cX8_wide, yX8_wide, RX8, 2, (some .int))
theorem mk_X8_wide : MOk M_X8_wide := ⟨by decide +kernel, rfl, tb_of (List.mem_append_right _ (List.mem_of_getElem? (i := 1265) (by decide +kernel))) (by decide +kernel), tb_of (List.mem_append_right _ (List.mem_of_getElem? (i := 9) (by decide +kernel))) (by decide +kernel), ⟨by decide +kernel, by decide +kernel⟩, by decide⟩
theorem vk_X8_wide : VOk M_X8_wide 1 8 := ⟨tb_of (List.mem_append_right _ (List.mem_of_getElem? (i := 1263) (by decide +kernel))) (by decide +kernel), tb_of (List.mem_append_right _ (List.mem_of_getElem? (i := 1264) (by decide +kernel))) (by decide +kernel), by decide +kernel, _, _, rfl⟩
def M_X8_count : MM := (cX8_count, yX8_count, RX8, 2, (some .int))
theorem mk_X8_count : MOk M_X8_count := ⟨by decide +kernel, rfl, tb_of (List.mem_append_right _ (List.mem_of_getElem? (i := 1269) (by decide +kernel))) (by decide +kernel), tb_of (List.mem_append_right _ (List.mem_of_getElem? (i := 9) (by decide +kernel))) (by decide +kernel), ⟨by decide +kernel, by decide +kernel⟩, by decide⟩
theorem vk_X8_count : VOk M_X8_count 1 8 := ⟨tb_of (List.mem_append_right _ (List.mem_of_getElem? (i := 1267) (by decide +kernel))) (by decide +kernel), tb_of (List.mem_append_right _ (List.mem_of_getElem? (i := 1268) (by decide +kernel))) (by decide +kernel), by decide +kernel, _, _, rfl⟩
def M_J6_bitCount_0f7a4 : MM := (cJ6_bitCount_0f7a4, yJ6_bitCount_0f7a4, RJ6, 1, (some .int))
theorem mk_J6_bitCount_0f7a4 : MOk M_J6_bitCount_0f7a4 := ⟨by decide +kernel, rfl, tb_of (List.mem_append_right _ (List.mem_of_getElem? (i := 634) (by decide +kernel))) (by decide +kernel), tb_of (List.mem_append_right _ (List.mem_of_getElem? (i := 21) (by decide +kernel))) (by decide +kernel), ⟨by decide +kernel, by decide +kernel⟩, by decide⟩
theorem sk_J6_bitCount_0f7a4 : SOk M_J6_bitCount_0f7a4 1 := ⟨tb_of (List.mem_append_right _ (List.mem_of_getElem? (i := 633) (by decide +kernel))) (by decide +kernel), by decide +kernel⟩
def M_J9_abs_0f7a4 : MM := (cJ9_abs_0f7a4, yJ9_abs_0f7a4, RJ9, 1, (some .int))
def M_J9_max_7cf53 : MM := (cJ9_max_7cf53, yJ9_max_7cf53, RJ9, 2, (some .int))
def M_J9_min_7cf53 : MM := (cJ9_min_7cf53, yJ9_min_7cf53, RJ9, 2, (some .int))
def M_J0_length_8abf5 : MM := (cJ0_length_8abf5, yJ0_length_8abf5, RJ0, 1, (some .int))
theorem mk_J0_length_8abf5 : MOk M_J0_length_8abf5 := ⟨by decide +kernel, rfl, tb_of (List.mem_append_right _ (List.mem_of_getElem? (i := 1004) (by decide +kernel))) (by decide +kernel), tb_of (List.mem_append_right _ (List.mem_of_getElem? (i := 13) (by decide +kernel))) (by decide +kernel), ⟨by decide +kernel, by decide +kernel⟩, by decide⟩
def M_J0_charAt_5068e : MM := (cJ0_charAt_5068e, yJ0_charAt_5068e, RJ0, 2, (some .char))
theorem mk_J0_charAt_5068e : MOk M_J0_charAt_5068e := ⟨by decide +kernel, rfl, tb_of (List.mem_append_right _ (List.mem_of_getElem? (i := 1014) (by decide +kernel))) (by decide +kernel), tb_of (List.mem_append_right _ (List.mem_of_getElem? (i := 13) (by decide +kernel))) (by decide +kernel), ⟨by decide +kernel, by decide +kernel⟩, by decide⟩
def M_J0_coder_7d493 : MM := (cJ0_coder_7d493, yJ0_coder_7d493, RJ0, 1, (some .byte))
theorem mk_J0_coder_7d493 : MOk M_J0_coder_7d493 := ⟨by decide +kernel, rfl, tb_of (List.mem_append_right _ (List.mem_of_getElem? (i := 1008) (by decide +kernel))) (by decide +kernel), tb_of (List.mem_append_right _ (List.mem_of_getElem? (i := 13) (by decide +kernel))) (by decide +kernel), ⟨by decide +kernel, by decide +kernel⟩, by decide⟩
def M_J0_isLatin1_aae02 : MM := (cJ0_isLatin1_aae02, yJ0_isLatin1_aae02, RJ0, 1, (some .boolean))
theorem mk_J0_isLatin1_aae02 : MOk M_J0_isLatin1_aae02 := ⟨by decide +kernel, rfl, tb_of (List.mem_append_right _ (List.mem_of_getElem? (i := 1018) (by decide +kernel))) (by decide +kernel), tb_of (List.mem_append_right _ (List.mem_of_getElem? (i := 13) (by decide +kernel))) (by decide +kernel), ⟨by decide +kernel, by decide +kernel⟩, by decide⟩
def M_J0_checkIndex_df160 : MM := (cJ0_checkIndex_df160, yJ0_checkIndex_df160, RJ0, 2, none)
theorem mk_J0_checkIndex_df160 : MOk M_J0_checkIndex_df160 := ⟨by decide +kernel, rfl, tb_of (List.mem_append_right _ (List.mem_of_getElem? (i := 1024) (by decide +kernel))) (by decide +kernel), tb_of (List.mem_append_right _ (List.mem_of_getElem? (i := 13) (by decide +kernel))) (by decide +kernel), ⟨by decide +kernel, by decide +kernel⟩, by decide⟩
theorem sk_J0_checkIndex_df160 : SOk M_J0_checkIndex_df160 2 := ⟨tb_of (List.mem_append_right _ (List.mem_of_getElem? (i := 1023) (by decide +kernel))) (by decide +kernel), by decide +kernel⟩
def M_J1_charAt_3b067 : MM := (cJ1_charAt_3b067, yJ1_charAt_3b067, RJ1, 2, (some .char))
theorem mk_J1_charAt_3b067 : MOk M_J1_charAt_3b067 := ⟨by decide +kernel, rfl, tb_of (List.mem_append_right _ (List.mem_of_getElem? (i := 1021) (by decide +kernel))) (by decide +kernel), tb_of (List.mem_append_right _ (List.mem_of_getElem? (i := 14) (by decide +kernel))) (by decide +kernel), ⟨by decide +kernel, by decide +kernel⟩, by decide⟩
theorem sk_J1_charAt_3b067 : SOk M_J1_charAt_3b067 2 := ⟨tb_of (List.mem_append_right _ (List.mem_of_getElem? (i := 1020) (by decide +kernel))) (by decide +kernel), by decide +kernel⟩
def M_J2_getChar_3b067 : MM := (cJ2_getChar_3b067, yJ2_getChar_3b067, RJ2, 2, (some .char))
theorem mk_J2_getChar_3b067 : MOk M_J2_getChar_3b067 := ⟨by decide +kernel, rfl, tb_of (List.mem_append_right _ (List.mem_of_getElem? (i := 1042) (by decide +kernel))) (by decide +kernel), tb_of (List.mem_append_right _ (List.mem_of_getElem? (i := 16) (by decide +kernel))) (by decide +kernel), ⟨by decide +kernel, by decide +kernel⟩, by decide⟩
theorem sk_J2_getChar_3b067 : SOk M_J2_getChar_3b067 2 := ⟨tb_of (List.mem_append_right _ (List.mem_of_getElem? (i := 1041) (by decide +kernel))) (by decide +kernel), by decide +kernel⟩
def M_J2_length_9d52b : MM := (cJ2_length_9d52b, yJ2_length_9d52b, RJ2, 1, (some .int))
theorem mk_J2_length_9d52b : MOk M_J2_length_9d52b := ⟨by decide +kernel, rfl, tb_of (List.mem_append_right _ (List.mem_of_getElem? (i := 1038) (by decide +kernel))) (by decide +kernel), tb_of (List.mem_append_right _ (List.mem_of_getElem? (i := 16) (by decide +kernel))) (by decide +kernel), ⟨by decide +kernel, by decide +kernel⟩, by decide⟩
theorem sk_J2_length_9d52b : SOk M_J2_length_9d52b 1 := ⟨tb_of (List.mem_append_right _ (List.mem_of_getElem? (i := 1037) (by decide +kernel))) (by decide +kernel), by decide +kernel⟩
def M_J2_charAt_3b067 : MM := (cJ2_charAt_3b067, yJ2_charAt_3b067, RJ2, 2, (some .char))
theorem mk_J2_charAt_3b067 : MOk M_J2_charAt_3b067 := ⟨by decide +kernel, rfl, tb_of (List.mem_append_right _ (List.mem_of_getElem? (i := 1032) (by decide +kernel))) (by decide +kernel), tb_of (List.mem_append_right _ (List.mem_of_getElem? (i := 16) (by decide +kernel))) (by decide +kernel), ⟨by decide +kernel, by decide +kernel⟩, by decide⟩
theorem sk_J2_charAt_3b067 : SOk M_J2_charAt_3b067 2 := ⟨tb_of (List.mem_append_right _ (List.mem_of_getElem? (i := 1031) (by decide +kernel))) (by decide +kernel), by decide +kernel⟩
def M_J2_checkIndex_2214a : MM := (cJ2_checkIndex_2214a, yJ2_checkIndex_2214a, RJ2, 2, none)
theorem mk_J2_checkIndex_2214a : MOk M_J2_checkIndex_2214a := ⟨by decide +kernel, rfl, tb_of (List.mem_append_right _ (List.mem_of_getElem? (i := 1035) (by decide +kernel))) (by decide +kernel), tb_of (List.mem_append_right _ (List.mem_of_getElem? (i := 16) (by decide +kernel))) (by decide +kernel), ⟨by decide +kernel, by decide +kernel⟩, by decide⟩
theorem sk_J2_checkIndex_2214a : SOk M_J2_checkIndex_2214a 2 := ⟨tb_of (List.mem_append_right _ (List.mem_of_getElem? (i := 1034) (by decide +kernel))) (by decide +kernel), by decide +kernel⟩
def M_J7_fill_d0a16 : MM := (cJ7_fill_d0a16, yJ7_fill_d0a16, RJ7, 5, none)
theorem mk_J7_fill_d0a16 : MOk M_J7_fill_d0a16 := ⟨by decide +kernel, rfl, tb_of (List.mem_append_right _ (List.mem_of_getElem? (i := 566) (by decide +kernel))) (by decide +kernel), tb_of (List.mem_append_right _ (List.mem_of_getElem? (i := 12) (by decide +kernel))) (by decide +kernel), ⟨by decide +kernel, by decide +kernel⟩, by decide⟩
theorem sk_J7_fill_d0a16 : SOk M_J7_fill_d0a16 2 := ⟨tb_of (List.mem_append_right _ (List.mem_of_getElem? (i := 565) (by decide +kernel))) (by decide +kernel), by decide +kernel⟩
def M_J7_fill_53178 : MM := (cJ7_fill_53178, yJ7_fill_53178, RJ7, 4, none)
theorem mk_J7_fill_53178 : MOk M_J7_fill_53178 := ⟨by decide +kernel, rfl, tb_of (List.mem_append_right _ (List.mem_of_getElem? (i := 443) (by decide +kernel))) (by decide +kernel), tb_of (List.mem_append_right _ (List.mem_of_getElem? (i := 12) (by decide +kernel))) (by decide +kernel), ⟨by decide +kernel, by decide +kernel⟩, by decide⟩
theorem sk_J7_fill_53178 : SOk M_J7_fill_53178 2 := ⟨tb_of (List.mem_append_right _ (List.mem_of_getElem? (i := 442) (by decide +kernel))) (by decide +kernel), by decide +kernel⟩
def M_J3_checkIndex_8e157 : MM := (cJ3_checkIndex_8e157, yJ3_checkIndex_8e157, RJ3, 3, (some .int))
theorem mk_J3_checkIndex_8e157 : MOk M_J3_checkIndex_8e157 := ⟨by decide +kernel, rfl, tb_of (List.mem_append_right _ (List.mem_of_getElem? (i := 1029) (by decide +kernel))) (by decide +kernel), tb_of (List.mem_append_right _ (List.mem_of_getElem? (i := 15) (by decide +kernel))) (by decide +kernel), ⟨by decide +kernel, by decide +kernel⟩, by decide⟩
theorem sk_J3_checkIndex_8e157 : SOk M_J3_checkIndex_8e157 3 := ⟨tb_of (List.mem_append_right _ (List.mem_of_getElem? (i := 1028) (by decide +kernel))) (by decide +kernel), by decide +kernel⟩
