/-! ===== log, door, wide, count; feed ===== -/
def pick5 (a b c d e w : Int32) : Int32 := if w = nI 0 then a else if w = nI 1 then b else if w = nI 2 then c else if w = nI 3 then d else if w = nI 4 then e else -1
def pick3 (a b c w : Int32) : Int32 := if w = nI 0 then a else if w = nI 1 then b else if w = nI 2 then c else -1
def pick6 (a b c d e f w : Int32) : Int32 := if w = nI 0 then a else if w = nI 1 then b else if w = nI 2 then c else if w = nI 3 then d else if w = nI 4 then e else if w = nI 5 then f else -1
theorem pick5_out {a b c d e w : Int32} (h : ∀ k, k < 5 → w ≠ nI k) : pick5 a b c d e w = -1 := by
  simp only [pick5, if_neg (h 0 (by omega)), if_neg (h 1 (by omega)), if_neg (h 2 (by omega)), if_neg (h 3 (by omega)), if_neg (h 4 (by omega))]
theorem pick3_out {a b c w : Int32} (h : ∀ k, k < 3 → w ≠ nI k) : pick3 a b c w = -1 := by
  simp only [pick3, if_neg (h 0 (by omega)), if_neg (h 1 (by omega)), if_neg (h 2 (by omega))]
theorem pick6_out {a b c d e f w : Int32} (h : ∀ k, k < 6 → w ≠ nI k) : pick6 a b c d e f w = -1 := by
  simp only [pick6, if_neg (h 0 (by omega)), if_neg (h 1 (by omega)), if_neg (h 2 (by omega)), if_neg (h 3 (by omega)), if_neg (h 4 (by omega)), if_neg (h 5 (by omega))]
section FEED
variable {G : GG} {d : Nat} {σ : Mem}
theorem c_X7_log {f : Int32 → Mem → Prop} {n : Nat} {x w : Int32} (hn : σ.1 17 0 = nI n) (hb : n ≤ 100) (k1 : ∀ j, j < n → x = nI j → f (pick5 (σ.1 18 j) (σ.1 19 j) (σ.1 20 j) (σ.1 21 j) (σ.1 22 j) w) σ) (k0 : ¬ inR x n → f (-1) σ) : SW G (d + 1) M_X7_log 0 [some (.ref 0), some (.int x), some (.int w)] [] σ (RI f) := by
  refine sw_aloadn dX7_log_0 rfl ?_
  refine sw_getR dX7_log_1 fs_X7_39 o0 r0_7 ?_
  refine sw_iloadn dX7_log_4 rfl ?_
  refine sx_invI1 dX7_log_5 mk_X2_has vk_X2_has lk_X7_186 o17 (Nat.le_of_ble_eq_true rfl) (Nat.le_of_ble_eq_true rfl) ?_
  refine c_X2_has hn hb (fun h5 => ?_) (fun h5 => ?_)
  · skip
    refine sw_if_ne (tgt := 13) dX7_log_8 (by decide) (fun h8 => ?_) (fun h8 => ?_)
    · skip
      obtain ⟨j, hj, rfl⟩ := h5
      have k1 := k1 j hj rfl
      refine sw_iloadn dX7_log_13 rfl ?_
      refine sw_tab0 (tgt := 98) dX7_log_14 (by decide) (fun kc hkc hsw => ?_) (fun hsw => ?_)
      · rcases (show kc = 0 ∨ kc = 1 ∨ kc = 2 ∨ kc = 3 ∨ kc = 4 by simp at hkc; omega) with rfl | rfl | rfl | rfl | rfl
        · refine ⟨34, 48, rfl, by decide, ?_⟩
          refine sw_aloadn dX7_log_48 rfl ?_
          refine sw_getR dX7_log_49 fs_X7_39 o0 r0_7 ?_
          refine sw_getR dX7_log_52 fs_X7_189 o17 r17_1 ?_
          refine sw_iloadn dX7_log_55 rfl ?_
          refine sx_iald (j) dX7_log_56 a18 (rfl) (by omega) (by decide) ?_
          refine sx_reti dX7_log_57 rfl ?_
          first
            | exact k0 h5
            | (rw [pick5_out hsw] at k1; exact k1)
            | (rw [hsw] at k1; exact k1)
        · refine ⟨44, 58, rfl, by decide, ?_⟩
          refine sw_aloadn dX7_log_58 rfl ?_
          refine sw_getR dX7_log_59 fs_X7_39 o0 r0_7 ?_
          refine sw_getR dX7_log_62 fs_X7_161 o17 r17_2 ?_
          refine sw_iloadn dX7_log_65 rfl ?_
          refine sx_iald (j) dX7_log_66 a19 (rfl) (by omega) (by decide) ?_
          refine sx_reti dX7_log_67 rfl ?_
          first
            | exact k0 h5
            | (rw [pick5_out hsw] at k1; exact k1)
            | (rw [hsw] at k1; exact k1)
        · refine ⟨54, 68, rfl, by decide, ?_⟩
          refine sw_aloadn dX7_log_68 rfl ?_
          refine sw_getR dX7_log_69 fs_X7_39 o0 r0_7 ?_
          refine sw_getR dX7_log_72 fs_X7_192 o17 r17_3 ?_
          refine sw_iloadn dX7_log_75 rfl ?_
          refine sx_iald (j) dX7_log_76 a20 (rfl) (by omega) (by decide) ?_
          refine sx_reti dX7_log_77 rfl ?_
          first
            | exact k0 h5
            | (rw [pick5_out hsw] at k1; exact k1)
            | (rw [hsw] at k1; exact k1)
        · refine ⟨64, 78, rfl, by decide, ?_⟩
          refine sw_aloadn dX7_log_78 rfl ?_
          refine sw_getR dX7_log_79 fs_X7_39 o0 r0_7 ?_
          refine sw_getR dX7_log_82 fs_X7_168 o17 r17_4 ?_
          refine sw_iloadn dX7_log_85 rfl ?_
          refine sx_iald (j) dX7_log_86 a21 (rfl) (by omega) (by decide) ?_
          refine sx_reti dX7_log_87 rfl ?_
          first
            | exact k0 h5
            | (rw [pick5_out hsw] at k1; exact k1)
            | (rw [hsw] at k1; exact k1)
        · refine ⟨74, 88, rfl, by decide, ?_⟩
          refine sw_aloadn dX7_log_88 rfl ?_
          refine sw_getR dX7_log_89 fs_X7_39 o0 r0_7 ?_
          refine sw_getR dX7_log_92 fs_X7_195 o17 r17_5 ?_
          refine sw_iloadn dX7_log_95 rfl ?_
          refine sx_iald (j) dX7_log_96 a22 (rfl) (by omega) (by decide) ?_
          refine sx_reti dX7_log_97 rfl ?_
          first
            | exact k0 h5
            | (rw [pick5_out hsw] at k1; exact k1)
            | (rw [hsw] at k1; exact k1)
      · skip
        refine sx_iconst (v := (-1)) dX7_log_98 (by decide) ?_
        refine sx_reti dX7_log_99 rfl ?_
        first
          | exact k0 h5
          | (rw [pick5_out hsw] at k1; exact k1)
          | (rw [hsw] at k1; exact k1)
    · exact absurd h8 (by decide)
  · skip
    refine sw_if_ne (tgt := 13) dX7_log_8 (by decide) (fun h8 => ?_) (fun h8 => ?_)
    · exact absurd h8 (by decide)
    · skip
      refine sx_iconst (v := (-1)) dX7_log_11 (by decide) ?_
      refine sx_reti dX7_log_12 rfl ?_
      first
        | exact k0 h5
        | (rw [pick5_out hsw] at k1; exact k1)
        | (rw [hsw] at k1; exact k1)
theorem m_log {f : Int32 → Mem → Prop} {n : Nat} {x w : Int32} (hn : σ.1 46 25 = nI n) (hb : n ≤ 100) (k1 : ∀ j, j < n → x = nI j → f (pick5 (σ.1 58 j) (σ.1 59 j) (σ.1 60 j) (σ.1 61 j) (σ.1 62 j) w) (th σ)) (k0 : ¬ inR x n → f (-1) (th σ)) : SW G d M_X8_log_ 0 [some (.ref 46), some (.int x), some (.int w)] [] σ (RI f) := by
  refine sw_aloadn dX8_log__0 rfl ?_
  refine sx_iconst (v := nI 0) dX8_log__1 (by decide) ?_
  refine sw_putI dX8_log__2 fs_X8_1 o46 ?_
  refine sw_iloadn dX8_log__5 rfl ?_
  refine sw_if_lt (tgt := 17) dX8_log__6 (by decide) (fun h6 => ?_) (fun h6 => ?_)
  · skip
    refine sx_iconst (v := (-1)) dX8_log__17 (by decide) ?_
    refine sx_reti dX8_log__18 rfl ?_
    first
      | exact k0 (inR_lt h6 (by omega))
      | exact k0 (inR_ge' h14 (by omega))
      | (rw [pick5_out hsw] at k1; exact k1)
      | (rw [hsw] at k1; exact k1)
  · skip
    refine sw_iloadn dX8_log__9 rfl ?_
    refine sw_aloadn dX8_log__10 rfl ?_
    refine sw_getI dX8_log__11 fs_X8_207 o46 ?_
    rw [show (th σ).1 46 25 = nI n from hn]
    refine sw_icmp_lt (tgt := 19) dX8_log__14 (by decide) (fun h14 => ?_) (fun h14 => ?_)
    · skip
      obtain ⟨j, hj, rfl⟩ := inR_of' h6 h14 (by omega)
      have k1 := k1 j hj rfl
      refine sw_iloadn dX8_log__19 rfl ?_
      refine sw_tab0 (tgt := 91) dX8_log__20 (by decide) (fun kc hkc hsw => ?_) (fun hsw => ?_)
      · rcases (show kc = 0 ∨ kc = 1 ∨ kc = 2 ∨ kc = 3 ∨ kc = 4 by simp at hkc; omega) with rfl | rfl | rfl | rfl | rfl
        · refine ⟨36, 56, rfl, by decide, ?_⟩
          refine sw_aloadn dX8_log__56 rfl ?_
          refine sw_getR dX8_log__57 fs_X8_51 o46 r46_27 ?_
          refine sw_iloadn dX8_log__60 rfl ?_
          refine sx_iald (j) dX8_log__61 a58 (rfl) (by omega) (by decide) ?_
          refine sx_reti dX8_log__62 rfl ?_
          first
            | exact k0 (inR_lt h6 (by omega))
            | exact k0 (inR_ge' h14 (by omega))
            | (rw [pick5_out hsw] at k1; exact k1)
            | (rw [hsw] at k1; exact k1)
        · refine ⟨43, 63, rfl, by decide, ?_⟩
          refine sw_aloadn dX8_log__63 rfl ?_
          refine sw_getR dX8_log__64 fs_X8_54 o46 r46_28 ?_
          refine sw_iloadn dX8_log__67 rfl ?_
          refine sx_iald (j) dX8_log__68 a59 (rfl) (by omega) (by decide) ?_
          refine sx_reti dX8_log__69 rfl ?_
          first
            | exact k0 (inR_lt h6 (by omega))
            | exact k0 (inR_ge' h14 (by omega))
            | (rw [pick5_out hsw] at k1; exact k1)
            | (rw [hsw] at k1; exact k1)
        · refine ⟨50, 70, rfl, by decide, ?_⟩
          refine sw_aloadn dX8_log__70 rfl ?_
          refine sw_getR dX8_log__71 fs_X8_57 o46 r46_29 ?_
          refine sw_iloadn dX8_log__74 rfl ?_
          refine sx_iald (j) dX8_log__75 a60 (rfl) (by omega) (by decide) ?_
          refine sx_reti dX8_log__76 rfl ?_
          first
            | exact k0 (inR_lt h6 (by omega))
            | exact k0 (inR_ge' h14 (by omega))
            | (rw [pick5_out hsw] at k1; exact k1)
            | (rw [hsw] at k1; exact k1)
        · refine ⟨57, 77, rfl, by decide, ?_⟩
          refine sw_aloadn dX8_log__77 rfl ?_
          refine sw_getR dX8_log__78 fs_X8_60 o46 r46_30 ?_
          refine sw_iloadn dX8_log__81 rfl ?_
          refine sx_iald (j) dX8_log__82 a61 (rfl) (by omega) (by decide) ?_
          refine sx_reti dX8_log__83 rfl ?_
          first
            | exact k0 (inR_lt h6 (by omega))
            | exact k0 (inR_ge' h14 (by omega))
            | (rw [pick5_out hsw] at k1; exact k1)
            | (rw [hsw] at k1; exact k1)
        · refine ⟨64, 84, rfl, by decide, ?_⟩
          refine sw_aloadn dX8_log__84 rfl ?_
          refine sw_getR dX8_log__85 fs_X8_63 o46 r46_31 ?_
          refine sw_iloadn dX8_log__88 rfl ?_
          refine sx_iald (j) dX8_log__89 a62 (rfl) (by omega) (by decide) ?_
          refine sx_reti dX8_log__90 rfl ?_
          first
            | exact k0 (inR_lt h6 (by omega))
            | exact k0 (inR_ge' h14 (by omega))
            | (rw [pick5_out hsw] at k1; exact k1)
            | (rw [hsw] at k1; exact k1)
      · skip
        refine sx_iconst (v := (-1)) dX8_log__91 (by decide) ?_
        refine sx_reti dX8_log__92 rfl ?_
        first
          | exact k0 (inR_lt h6 (by omega))
          | exact k0 (inR_ge' h14 (by omega))
          | (rw [pick5_out hsw] at k1; exact k1)
          | (rw [hsw] at k1; exact k1)
    · skip
      refine sx_iconst (v := (-1)) dX8_log__17 (by decide) ?_
      refine sx_reti dX8_log__18 rfl ?_
      first
        | exact k0 (inR_lt h6 (by omega))
        | exact k0 (inR_ge' h14 (by omega))
        | (rw [pick5_out hsw] at k1; exact k1)
        | (rw [hsw] at k1; exact k1)
theorem c_X7_door {f : Int32 → Mem → Prop} {n : Nat} {x w : Int32} (hn : σ.1 2 1 = nI n) (hb : n ≤ 10) (k1 : ∀ j, j < n → x = nI j → f (pick3 (σ.1 6 j) (σ.1 7 j) (σ.1 8 j) w) σ) (k0 : ¬ inR x n → f (-1) σ) : SW G (d + 1) M_X7_door 0 [some (.ref 0), some (.int x), some (.int w)] [] σ (RI f) := by
  refine sw_aloadn dX7_door_0 rfl ?_
  refine sw_iloadn dX7_door_1 rfl ?_
  refine sx_invI1 dX7_door_2 mk_X7_hasDoor vk_X7_hasDoor lk_X7_104 o0 (Nat.le_of_ble_eq_true rfl) (Nat.le_of_ble_eq_true rfl) ?_
  refine c_X7_hasDoor hn hb (fun h2 => ?_) (fun h2 => ?_)
  · skip
    refine sw_if_ne (tgt := 10) dX7_door_5 (by decide) (fun h5 => ?_) (fun h5 => ?_)
    · skip
      obtain ⟨j, hj, rfl⟩ := h2
      have k1 := k1 j hj rfl
      refine sw_iloadn dX7_door_10 rfl ?_
      refine sw_tab0 (tgt := 66) dX7_door_11 (by decide) (fun kc hkc hsw => ?_) (fun hsw => ?_)
      · rcases (show kc = 0 ∨ kc = 1 ∨ kc = 2 by simp at hkc; omega) with rfl | rfl | rfl
        · refine ⟨25, 36, rfl, by decide, ?_⟩
          refine sw_aloadn dX7_door_36 rfl ?_
          refine sw_getR dX7_door_37 fs_X7_20 o0 r0_4 ?_
          refine sw_getR dX7_door_40 fs_X7_198 o2 r2_5 ?_
          refine sw_iloadn dX7_door_43 rfl ?_
          refine sx_iald (j) dX7_door_44 a6 (rfl) (by omega) (by decide) ?_
          refine sx_reti dX7_door_45 rfl ?_
          first
            | exact k0 h2
            | (rw [pick3_out hsw] at k1; exact k1)
            | (rw [hsw] at k1; exact k1)
        · refine ⟨35, 46, rfl, by decide, ?_⟩
          refine sw_aloadn dX7_door_46 rfl ?_
          refine sw_getR dX7_door_47 fs_X7_20 o0 r0_4 ?_
          refine sw_getR dX7_door_50 fs_X7_201 o2 r2_6 ?_
          refine sw_iloadn dX7_door_53 rfl ?_
          refine sx_iald (j) dX7_door_54 a7 (rfl) (by omega) (by decide) ?_
          refine sx_reti dX7_door_55 rfl ?_
          first
            | exact k0 h2
            | (rw [pick3_out hsw] at k1; exact k1)
            | (rw [hsw] at k1; exact k1)
        · refine ⟨45, 56, rfl, by decide, ?_⟩
          refine sw_aloadn dX7_door_56 rfl ?_
          refine sw_getR dX7_door_57 fs_X7_20 o0 r0_4 ?_
          refine sw_getR dX7_door_60 fs_X7_204 o2 r2_7 ?_
          refine sw_iloadn dX7_door_63 rfl ?_
          refine sx_iald (j) dX7_door_64 a8 (rfl) (by omega) (by decide) ?_
          refine sx_reti dX7_door_65 rfl ?_
          first
            | exact k0 h2
            | (rw [pick3_out hsw] at k1; exact k1)
            | (rw [hsw] at k1; exact k1)
      · skip
        refine sx_iconst (v := (-1)) dX7_door_66 (by decide) ?_
        refine sx_reti dX7_door_67 rfl ?_
        first
          | exact k0 h2
          | (rw [pick3_out hsw] at k1; exact k1)
          | (rw [hsw] at k1; exact k1)
    · exact absurd h5 (by decide)
  · skip
    refine sw_if_ne (tgt := 10) dX7_door_5 (by decide) (fun h5 => ?_) (fun h5 => ?_)
    · exact absurd h5 (by decide)
    · skip
      refine sx_iconst (v := (-1)) dX7_door_8 (by decide) ?_
      refine sx_reti dX7_door_9 rfl ?_
      first
        | exact k0 h2
        | (rw [pick3_out hsw] at k1; exact k1)
        | (rw [hsw] at k1; exact k1)
theorem m_door {f : Int32 → Mem → Prop} {n : Nat} {x w : Int32} (hn : σ.1 46 19 = nI n) (hb : n ≤ 10) (k1 : ∀ j, j < n → x = nI j → f (pick3 (σ.1 55 j) (σ.1 56 j) (σ.1 57 j) w) (th σ)) (k0 : ¬ inR x n → f (-1) (th σ)) : SW G d M_X8_door 0 [some (.ref 46), some (.int x), some (.int w)] [] σ (RI f) := by
  refine sw_aloadn dX8_door_0 rfl ?_
  refine sx_iconst (v := nI 0) dX8_door_1 (by decide) ?_
  refine sw_putI dX8_door_2 fs_X8_1 o46 ?_
  refine sw_iloadn dX8_door_5 rfl ?_
  refine sw_if_lt (tgt := 17) dX8_door_6 (by decide) (fun h6 => ?_) (fun h6 => ?_)
  · skip
    refine sx_iconst (v := (-1)) dX8_door_17 (by decide) ?_
    refine sx_reti dX8_door_18 rfl ?_
    first
      | exact k0 (inR_lt h6 (by omega))
      | exact k0 (inR_ge' h14 (by omega))
      | (rw [show w = nI 0 from h20] at k1; exact k1)
      | (rw [h34] at k1; exact k1)
      | (rw [h48] at k1; exact k1)
      | (simp only [pick3, if_neg (show ¬ w = nI 0 from h20), if_neg h34, if_neg h48] at k1; exact k1)
  · skip
    refine sw_iloadn dX8_door_9 rfl ?_
    refine sw_aloadn dX8_door_10 rfl ?_
    refine sw_getI dX8_door_11 fs_X8_201 o46 ?_
    rw [show (th σ).1 46 19 = nI n from hn]
    refine sw_icmp_lt (tgt := 19) dX8_door_14 (by decide) (fun h14 => ?_) (fun h14 => ?_)
    · skip
      obtain ⟨j, hj, rfl⟩ := inR_of' h6 h14 (by omega)
      have k1 := k1 j hj rfl
      refine sw_iloadn dX8_door_19 rfl ?_
      refine sw_if_ne (tgt := 32) dX8_door_20 (by decide) (fun h20 => ?_) (fun h20 => ?_)
      · skip
        refine sw_iloadn dX8_door_32 rfl ?_
        refine sx_iconst (v := nI 1) dX8_door_33 (by decide) ?_
        refine sw_icmp_ne (tgt := 46) dX8_door_34 (by decide) (fun h34 => ?_) (fun h34 => ?_)
        · skip
          refine sw_iloadn dX8_door_46 rfl ?_
          refine sx_iconst (v := nI 2) dX8_door_47 (by decide) ?_
          refine sw_icmp_ne (tgt := 60) dX8_door_48 (by decide) (fun h48 => ?_) (fun h48 => ?_)
          · skip
            refine sx_iconst (v := (-1)) dX8_door_60 (by decide) ?_
            refine sx_reti dX8_door_61 rfl ?_
            first
              | exact k0 (inR_lt h6 (by omega))
              | exact k0 (inR_ge' h14 (by omega))
              | (rw [show w = nI 0 from h20] at k1; exact k1)
              | (rw [h34] at k1; exact k1)
              | (rw [h48] at k1; exact k1)
              | (simp only [pick3, if_neg (show ¬ w = nI 0 from h20), if_neg h34, if_neg h48] at k1; exact k1)
          · skip
            refine sw_aloadn dX8_door_51 rfl ?_
            refine sw_getR dX8_door_52 fs_X8_48 o46 r46_23 ?_
            refine sw_iloadn dX8_door_55 rfl ?_
            refine sx_iald (j) dX8_door_56 a57 (rfl) (by omega) (by decide) ?_
            refine sw_goto (tgt := 61) dX8_door_57 (by decide) ?_
            refine sx_reti dX8_door_61 rfl ?_
            first
              | exact k0 (inR_lt h6 (by omega))
              | exact k0 (inR_ge' h14 (by omega))
              | (rw [show w = nI 0 from h20] at k1; exact k1)
              | (rw [h34] at k1; exact k1)
              | (rw [h48] at k1; exact k1)
              | (simp only [pick3, if_neg (show ¬ w = nI 0 from h20), if_neg h34, if_neg h48] at k1; exact k1)
        · skip
          refine sw_aloadn dX8_door_37 rfl ?_
          refine sw_getR dX8_door_38 fs_X8_45 o46 r46_22 ?_
          refine sw_iloadn dX8_door_41 rfl ?_
          refine sx_iald (j) dX8_door_42 a56 (rfl) (by omega) (by decide) ?_
          refine sw_goto (tgt := 61) dX8_door_43 (by decide) ?_
          refine sx_reti dX8_door_61 rfl ?_
          first
            | exact k0 (inR_lt h6 (by omega))
            | exact k0 (inR_ge' h14 (by omega))
            | (rw [show w = nI 0 from h20] at k1; exact k1)
            | (rw [h34] at k1; exact k1)
            | (rw [h48] at k1; exact k1)
            | (simp only [pick3, if_neg (show ¬ w = nI 0 from h20), if_neg h34, if_neg h48] at k1; exact k1)
      · skip
        refine sw_aloadn dX8_door_23 rfl ?_
        refine sw_getR dX8_door_24 fs_X8_42 o46 r46_21 ?_
        refine sw_iloadn dX8_door_27 rfl ?_
        refine sx_iald (j) dX8_door_28 a55 (rfl) (by omega) (by decide) ?_
        refine sw_goto (tgt := 61) dX8_door_29 (by decide) ?_
        refine sx_reti dX8_door_61 rfl ?_
        first
          | exact k0 (inR_lt h6 (by omega))
          | exact k0 (inR_ge' h14 (by omega))
          | (rw [show w = nI 0 from h20] at k1; exact k1)
          | (rw [h34] at k1; exact k1)
          | (rw [h48] at k1; exact k1)
          | (simp only [pick3, if_neg (show ¬ w = nI 0 from h20), if_neg h34, if_neg h48] at k1; exact k1)
    · skip
      refine sx_iconst (v := (-1)) dX8_door_17 (by decide) ?_
      refine sx_reti dX8_door_18 rfl ?_
      first
        | exact k0 (inR_lt h6 (by omega))
        | exact k0 (inR_ge' h14 (by omega))
        | (rw [show w = nI 0 from h20] at k1; exact k1)
        | (rw [h34] at k1; exact k1)
        | (rw [h48] at k1; exact k1)
        | (simp only [pick3, if_neg (show ¬ w = nI 0 from h20), if_neg h34, if_neg h48] at k1; exact k1)
theorem c_X7_wide {f : Int32 → Mem → Prop} {n : Nat} {x : Int32} (hn : σ.1 2 0 = nI n) (hb : n ≤ 8) (k1 : ∀ j, j < n → x = nI j → f (σ.1 4 j) σ) (k0 : ¬ inR x n → f (-1) σ) : SW G (d + 1) M_X7_wide 0 [some (.ref 0), some (.int x)] [] σ (RI f) := by
  refine sw_aloadn dX7_wide_0 rfl ?_
  refine sw_iloadn dX7_wide_1 rfl ?_
  refine sx_invI1 dX7_wide_2 mk_X7_hasRoom vk_X7_hasRoom lk_X7_118 o0 (Nat.le_of_ble_eq_true rfl) (Nat.le_of_ble_eq_true rfl) ?_
  refine c_X7_hasRoom hn (by omega) (fun h2 => ?_) (fun h2 => ?_)
  · skip
    refine sw_if_eq (tgt := 20) dX7_wide_5 (by decide) (fun h5 => ?_) (fun h5 => ?_)
    · exact absurd h5 (by decide)
    · skip
      obtain ⟨j, hj, rfl⟩ := h2
      have k1 := k1 j hj rfl
      refine sw_aloadn dX7_wide_8 rfl ?_
      refine sw_getR dX7_wide_9 fs_X7_20 o0 r0_4 ?_
      refine sw_getR dX7_wide_12 fs_X7_207 o2 r2_3 ?_
      refine sw_iloadn dX7_wide_15 rfl ?_
      refine sx_iald (j) dX7_wide_16 a4 (rfl) (by omega) (by decide) ?_
      refine sw_goto (tgt := 21) dX7_wide_17 (by decide) ?_
      refine sx_reti dX7_wide_21 rfl ?_
      first
        | exact k1
        | exact k0 h2
  · skip
    refine sw_if_eq (tgt := 20) dX7_wide_5 (by decide) (fun h5 => ?_) (fun h5 => ?_)
    · skip
      refine sx_iconst (v := (-1)) dX7_wide_20 (by decide) ?_
      refine sx_reti dX7_wide_21 rfl ?_
      first
        | exact k1
        | exact k0 h2
    · exact absurd h5 (by decide)
theorem m_wide {f : Int32 → Mem → Prop} {n : Nat} {x : Int32} (hn : σ.1 46 18 = nI n) (hb : n ≤ 8) (k1 : ∀ j, j < n → x = nI j → f (σ.1 54 j) (th σ)) (k0 : ¬ inR x n → f (-1) (th σ)) : SW G (d + 1) M_X8_wide 0 [some (.ref 46), some (.int x)] [] σ (RI f) := by
  refine sw_aloadn dX8_wide_0 rfl ?_
  refine sx_iconst (v := nI 0) dX8_wide_1 (by decide) ?_
  refine sw_putI dX8_wide_2 fs_X8_1 o46 ?_
  refine sw_aloadn dX8_wide_5 rfl ?_
  refine sw_iloadn dX8_wide_6 rfl ?_
  refine sx_invI1 dX8_wide_7 mk_X8_isRoom vk_X8_isRoom lk_X8_227 o46 (Nat.le_of_ble_eq_true rfl) (Nat.le_of_ble_eq_true rfl) ?_
  refine m_isRoom (σ := th σ) (n := n) hn (by omega) (fun h7 => ?_) (fun h7 => ?_)
  · skip
    refine sw_if_eq (tgt := 22) dX8_wide_10 (by decide) (fun h10 => ?_) (fun h10 => ?_)
    · exact absurd h10 (by decide)
    · skip
      obtain ⟨j, hj, rfl⟩ := h7
      have k1 := k1 j hj rfl
      refine sw_aloadn dX8_wide_13 rfl ?_
      refine sw_getR dX8_wide_14 fs_X8_39 o46 r46_20 ?_
      refine sw_iloadn dX8_wide_17 rfl ?_
      refine sx_iald (j) dX8_wide_18 a54 (rfl) (by omega) (by decide) ?_
      refine sw_goto (tgt := 23) dX8_wide_19 (by decide) ?_
      refine sx_reti dX8_wide_23 rfl ?_
      first
        | exact k1
        | exact k0 h7
  · skip
    refine sw_if_eq (tgt := 22) dX8_wide_10 (by decide) (fun h10 => ?_) (fun h10 => ?_)
    · skip
      refine sx_iconst (v := (-1)) dX8_wide_22 (by decide) ?_
      refine sx_reti dX8_wide_23 rfl ?_
      first
        | exact k1
        | exact k0 h7
    · exact absurd h10 (by decide)
theorem c_X7_count {f : Int32 → Mem → Prop} {w : Int32} (k1 : f (pick6 (σ.1 2 0) (σ.1 2 1) (σ.1 0 3) (σ.1 17 0) (σ.1 23 0) (σ.1 0 1) w) σ) : SW G d M_X7_count 0 [some (.ref 0), some (.int w)] [] σ (RI f) := by
  refine sw_iloadn dX7_count_0 rfl ?_
  refine sw_tab0 (tgt := 82) dX7_count_1 (by decide) (fun kc hkc hsw => ?_) (fun hsw => ?_)
  · rcases (show kc = 0 ∨ kc = 1 ∨ kc = 2 ∨ kc = 3 ∨ kc = 4 ∨ kc = 5 by simp at hkc; omega) with rfl | rfl | rfl | rfl | rfl | rfl
    · refine ⟨39, 40, rfl, by decide, ?_⟩
      refine sw_aloadn dX7_count_40 rfl ?_
      refine sw_getR dX7_count_41 fs_X7_20 o0 r0_4 ?_
      refine sw_getI dX7_count_44 fs_X7_97 o2 ?_
      refine sx_reti dX7_count_47 rfl ?_
      first
        | (rw [pick6_out hsw] at k1; exact k1)
        | (rw [hsw] at k1; exact k1)
    · refine ⟨47, 48, rfl, by decide, ?_⟩
      refine sw_aloadn dX7_count_48 rfl ?_
      refine sw_getR dX7_count_49 fs_X7_20 o0 r0_4 ?_
      refine sw_getI dX7_count_52 fs_X7_210 o2 ?_
      refine sx_reti dX7_count_55 rfl ?_
      first
        | (rw [pick6_out hsw] at k1; exact k1)
        | (rw [hsw] at k1; exact k1)
    · refine ⟨55, 56, rfl, by decide, ?_⟩
      refine sw_aloadn dX7_count_56 rfl ?_
      refine sw_getI dX7_count_57 fs_X7_87 o0 ?_
      refine sx_reti dX7_count_60 rfl ?_
      first
        | (rw [pick6_out hsw] at k1; exact k1)
        | (rw [hsw] at k1; exact k1)
    · refine ⟨60, 61, rfl, by decide, ?_⟩
      refine sw_aloadn dX7_count_61 rfl ?_
      refine sw_getR dX7_count_62 fs_X7_39 o0 r0_7 ?_
      refine sw_getI dX7_count_65 fs_X7_213 o17 ?_
      refine sx_reti dX7_count_68 rfl ?_
      first
        | (rw [pick6_out hsw] at k1; exact k1)
        | (rw [hsw] at k1; exact k1)
    · refine ⟨68, 69, rfl, by decide, ?_⟩
      refine sw_aloadn dX7_count_69 rfl ?_
      refine sw_getR dX7_count_70 fs_X7_46 o0 r0_8 ?_
      refine sw_getI dX7_count_73 fs_X7_216 o23 ?_
      refine sx_reti dX7_count_76 rfl ?_
      first
        | (rw [pick6_out hsw] at k1; exact k1)
        | (rw [hsw] at k1; exact k1)
    · refine ⟨76, 77, rfl, by decide, ?_⟩
      refine sw_aloadn dX7_count_77 rfl ?_
      refine sw_getI dX7_count_78 fs_X7_71 o0 ?_
      refine sx_reti dX7_count_81 rfl ?_
      first
        | (rw [pick6_out hsw] at k1; exact k1)
        | (rw [hsw] at k1; exact k1)
  · skip
    refine sx_iconst (v := (-1)) dX7_count_82 (by decide) ?_
    refine sx_reti dX7_count_83 rfl ?_
    first
      | (rw [pick6_out hsw] at k1; exact k1)
      | (rw [hsw] at k1; exact k1)
theorem m_count {f : Int32 → Mem → Prop} {w : Int32} (k1 : f (pick6 (σ.1 46 18) (σ.1 46 19) (σ.1 46 24) (σ.1 46 25) (σ.1 46 26) (σ.1 46 2) w) (th σ)) : SW G d M_X8_count 0 [some (.ref 46), some (.int w)] [] σ (RI f) := by
  refine sw_aloadn dX8_count_0 rfl ?_
  refine sx_iconst (v := nI 0) dX8_count_1 (by decide) ?_
  refine sw_putI dX8_count_2 fs_X8_1 o46 ?_
  refine sw_iloadn dX8_count_5 rfl ?_
  refine sw_tab0 (tgt := 74) dX8_count_6 (by decide) (fun kc hkc hsw => ?_) (fun hsw => ?_)
  · rcases (show kc = 0 ∨ kc = 1 ∨ kc = 2 ∨ kc = 3 ∨ kc = 4 ∨ kc = 5 by simp at hkc; omega) with rfl | rfl | rfl | rfl | rfl | rfl
    · refine ⟨38, 44, rfl, by decide, ?_⟩
      refine sw_aloadn dX8_count_44 rfl ?_
      refine sw_getI dX8_count_45 fs_X8_198 o46 ?_
      refine sx_reti dX8_count_48 rfl ?_
      first
        | (rw [pick6_out hsw] at k1; exact k1)
        | (rw [hsw] at k1; exact k1)
    · refine ⟨43, 49, rfl, by decide, ?_⟩
      refine sw_aloadn dX8_count_49 rfl ?_
      refine sw_getI dX8_count_50 fs_X8_201 o46 ?_
      refine sx_reti dX8_count_53 rfl ?_
      first
        | (rw [pick6_out hsw] at k1; exact k1)
        | (rw [hsw] at k1; exact k1)
    · refine ⟨48, 54, rfl, by decide, ?_⟩
      refine sw_aloadn dX8_count_54 rfl ?_
      refine sw_getI dX8_count_55 fs_X8_204 o46 ?_
      refine sx_reti dX8_count_58 rfl ?_
      first
        | (rw [pick6_out hsw] at k1; exact k1)
        | (rw [hsw] at k1; exact k1)
    · refine ⟨53, 59, rfl, by decide, ?_⟩
      refine sw_aloadn dX8_count_59 rfl ?_
      refine sw_getI dX8_count_60 fs_X8_207 o46 ?_
      refine sx_reti dX8_count_63 rfl ?_
      first
        | (rw [pick6_out hsw] at k1; exact k1)
        | (rw [hsw] at k1; exact k1)
    · refine ⟨58, 64, rfl, by decide, ?_⟩
      refine sw_aloadn dX8_count_64 rfl ?_
      refine sw_getI dX8_count_65 fs_X8_210 o46 ?_
      refine sx_reti dX8_count_68 rfl ?_
      first
        | (rw [pick6_out hsw] at k1; exact k1)
        | (rw [hsw] at k1; exact k1)
    · refine ⟨63, 69, rfl, by decide, ?_⟩
      refine sw_aloadn dX8_count_69 rfl ?_
      refine sw_getI dX8_count_70 fs_X8_104 o46 ?_
      refine sx_reti dX8_count_73 rfl ?_
      first
        | (rw [pick6_out hsw] at k1; exact k1)
        | (rw [hsw] at k1; exact k1)
  · skip
    refine sx_iconst (v := (-1)) dX8_count_74 (by decide) ?_
    refine sx_reti dX8_count_75 rfl ?_
    first
      | (rw [pick6_out hsw] at k1; exact k1)
      | (rw [hsw] at k1; exact k1)
/-- the byte of x that is s bits up, as the class takes it, as the model takes it -/
def byC (x : Int32) (s : Nat) : Int32 := (x.toUInt32 >>> ((nI s).toUInt32 &&& Int32.toUInt32 31)).toInt32.toInt8.toInt32
def byM (x : Int32) (s : Nat) : Int32 := (x >>> (nI s &&& 31)).toInt8.toInt32
def stC (σ : Mem) (b : Nat) (v : Int32) : Mem := setI (setI σ 1 b v) 0 1 (nI (b + 1))
def stM (σ : Mem) (b : Nat) (v : Int32) : Mem := setI (setI σ 47 b v) 46 2 (nI (b + 1))
def feedC (σ : Mem) (b : Nat) : List Int32 → Mem
  | [] => σ
  | v :: vs => feedC (stC σ b v) (b + 1) vs
def feedM (σ : Mem) (b : Nat) : List Int32 → Mem
  | [] => σ
  | v :: vs => feedM (stM σ b v) (b + 1) vs
def by4 (g : Int32 → Nat → Int32) (x : Int32) : List Int32 := [g x 24, g x 16, g x 8, g x 0]
theorem c_X7_putNumber {f : Mem → Prop} {b : Nat} {x : Int32} (hn : σ.1 0 1 = nI b) (hb : b + 4 ≤ 600) (h : f (feedC σ b (by4 byC x))) : SW G d M_X7_putNumber 0 [some (.ref 0), some (.int x), none] [] σ (RV f) := by
  refine sx_bipush (v := nI 24) dX7_putNumber_0 (by decide) ?_
  refine sw_istoren dX7_putNumber_2 (Nat.le_of_ble_eq_true rfl) ?_
  refine sw_iloadn dX7_putNumber_3 rfl ?_
  refine sw_if_lt (tgt := 46) dX7_putNumber_4 (by decide) (fun h4 => ?_) (fun h4 => ?_)
  · exact absurd h4 (by decide)
  · skip
    refine sw_aloadn dX7_putNumber_7 rfl ?_
    refine sw_getI dX7_putNumber_8 fs_X7_71 o0 ?_
    first | rw [hn] | rw [setI_at, upd_same]
    refine sx_sipush (v := nI 600) dX7_putNumber_11 (by decide) ?_
    refine sw_icmp_ge (tgt := 46) dX7_putNumber_14 (by decide) (fun h14 => ?_) (fun h14 => ?_)
    · exact absurd h14 ((by rw [nI_le' (by omega) (by omega)]; omega))
    · skip
      refine sw_aloadn dX7_putNumber_17 rfl ?_
      refine sw_getR dX7_putNumber_18 fs_X7_9 o0 r0_0 ?_
      refine sw_aloadn dX7_putNumber_21 rfl ?_
      refine sw_getI dX7_putNumber_22 fs_X7_71 o0 ?_
      first | rw [hn] | rw [setI_at, upd_same]
      refine sw_iloadn dX7_putNumber_25 rfl ?_
      refine sw_iloadn dX7_putNumber_26 rfl ?_
      refine sw_iushr dX7_putNumber_27 ?_
      refine sw_i2b dX7_putNumber_28 ?_
      refine sx_bast (_) dX7_putNumber_29 a1 (rfl) (by omega) (by decide) ?_
      rw [pk_vb]
      refine sw_aloadn dX7_putNumber_30 rfl ?_
      refine sw_dup dX7_putNumber_31 rfl ?_
      refine sw_getI dX7_putNumber_32 fs_X7_71 o0 ?_
      first | rw [show (setI σ 1 b _).1 0 1 = nI b from hn] | rw [setI_ne _ _ _ (by decide), setI_at, upd_same]
      refine sx_iconst (v := nI 1) dX7_putNumber_35 (by decide) ?_
      refine sw_iadd dX7_putNumber_36 ?_
      refine sw_topI (nI_1 _) ?_
      refine sw_putI dX7_putNumber_37 fs_X7_71 o0 ?_
      refine sx_iinc (nI 16) dX7_putNumber_40 rfl (by decide) ?_
      refine sw_goto (tgt := 3) dX7_putNumber_43 (by decide) ?_
      refine sw_iloadn dX7_putNumber_3 rfl ?_
      refine sw_if_lt (tgt := 46) dX7_putNumber_4 (by decide) (fun h4 => ?_) (fun h4 => ?_)
      · exact absurd h4 (by decide)
      · skip
        refine sw_aloadn dX7_putNumber_7 rfl ?_
        refine sw_getI dX7_putNumber_8 fs_X7_71 o0 ?_
        first | rw [hn] | rw [setI_at, upd_same]
        refine sx_sipush (v := nI 600) dX7_putNumber_11 (by decide) ?_
        refine sw_icmp_ge (tgt := 46) dX7_putNumber_14 (by decide) (fun h14 => ?_) (fun h14 => ?_)
        · exact absurd h14 ((by rw [nI_le' (by omega) (by omega)]; omega))
        · skip
          refine sw_aloadn dX7_putNumber_17 rfl ?_
          refine sw_getR dX7_putNumber_18 fs_X7_9 o0 r0_0 ?_
          refine sw_aloadn dX7_putNumber_21 rfl ?_
          refine sw_getI dX7_putNumber_22 fs_X7_71 o0 ?_
          first | rw [hn] | rw [setI_at, upd_same]
          refine sw_iloadn dX7_putNumber_25 rfl ?_
          refine sw_iloadn dX7_putNumber_26 rfl ?_
          refine sw_iushr dX7_putNumber_27 ?_
          refine sw_i2b dX7_putNumber_28 ?_
          refine sx_bast (_) dX7_putNumber_29 a1 (rfl) (by omega) (by decide) ?_
          rw [pk_vb]
          refine sw_aloadn dX7_putNumber_30 rfl ?_
          refine sw_dup dX7_putNumber_31 rfl ?_
          refine sw_getI dX7_putNumber_32 fs_X7_71 o0 ?_
          first | rw [show (setI σ 1 b _).1 0 1 = nI b from hn] | rw [setI_ne _ _ _ (by decide), setI_at, upd_same]
          refine sx_iconst (v := nI 1) dX7_putNumber_35 (by decide) ?_
          refine sw_iadd dX7_putNumber_36 ?_
          refine sw_topI (nI_1 _) ?_
          refine sw_putI dX7_putNumber_37 fs_X7_71 o0 ?_
          refine sx_iinc (nI 8) dX7_putNumber_40 rfl (by decide) ?_
          refine sw_goto (tgt := 3) dX7_putNumber_43 (by decide) ?_
          refine sw_iloadn dX7_putNumber_3 rfl ?_
          refine sw_if_lt (tgt := 46) dX7_putNumber_4 (by decide) (fun h4 => ?_) (fun h4 => ?_)
          · exact absurd h4 (by decide)
          · skip
            refine sw_aloadn dX7_putNumber_7 rfl ?_
            refine sw_getI dX7_putNumber_8 fs_X7_71 o0 ?_
            first | rw [hn] | rw [setI_at, upd_same]
            refine sx_sipush (v := nI 600) dX7_putNumber_11 (by decide) ?_
            refine sw_icmp_ge (tgt := 46) dX7_putNumber_14 (by decide) (fun h14 => ?_) (fun h14 => ?_)
            · exact absurd h14 ((by rw [nI_le' (by omega) (by omega)]; omega))
            · skip
              refine sw_aloadn dX7_putNumber_17 rfl ?_
              refine sw_getR dX7_putNumber_18 fs_X7_9 o0 r0_0 ?_
              refine sw_aloadn dX7_putNumber_21 rfl ?_
              refine sw_getI dX7_putNumber_22 fs_X7_71 o0 ?_
              first | rw [hn] | rw [setI_at, upd_same]
              refine sw_iloadn dX7_putNumber_25 rfl ?_
              refine sw_iloadn dX7_putNumber_26 rfl ?_
              refine sw_iushr dX7_putNumber_27 ?_
              refine sw_i2b dX7_putNumber_28 ?_
              refine sx_bast (_) dX7_putNumber_29 a1 (rfl) (by omega) (by decide) ?_
              rw [pk_vb]
              refine sw_aloadn dX7_putNumber_30 rfl ?_
              refine sw_dup dX7_putNumber_31 rfl ?_
              refine sw_getI dX7_putNumber_32 fs_X7_71 o0 ?_
              first | rw [show (setI σ 1 b _).1 0 1 = nI b from hn] | rw [setI_ne _ _ _ (by decide), setI_at, upd_same]
              refine sx_iconst (v := nI 1) dX7_putNumber_35 (by decide) ?_
              refine sw_iadd dX7_putNumber_36 ?_
              refine sw_topI (nI_1 _) ?_
              refine sw_putI dX7_putNumber_37 fs_X7_71 o0 ?_
              refine sx_iinc (nI 0) dX7_putNumber_40 rfl (by decide) ?_
              refine sw_goto (tgt := 3) dX7_putNumber_43 (by decide) ?_
              refine sw_iloadn dX7_putNumber_3 rfl ?_
              refine sw_if_lt (tgt := 46) dX7_putNumber_4 (by decide) (fun h4 => ?_) (fun h4 => ?_)
              · exact absurd h4 (by decide)
              · skip
                refine sw_aloadn dX7_putNumber_7 rfl ?_
                refine sw_getI dX7_putNumber_8 fs_X7_71 o0 ?_
                first | rw [hn] | rw [setI_at, upd_same]
                refine sx_sipush (v := nI 600) dX7_putNumber_11 (by decide) ?_
                refine sw_icmp_ge (tgt := 46) dX7_putNumber_14 (by decide) (fun h14 => ?_) (fun h14 => ?_)
                · exact absurd h14 ((by rw [nI_le' (by omega) (by omega)]; omega))
                · skip
                  refine sw_aloadn dX7_putNumber_17 rfl ?_
                  refine sw_getR dX7_putNumber_18 fs_X7_9 o0 r0_0 ?_
                  refine sw_aloadn dX7_putNumber_21 rfl ?_
                  refine sw_getI dX7_putNumber_22 fs_X7_71 o0 ?_
                  first | rw [hn] | rw [setI_at, upd_same]
                  refine sw_iloadn dX7_putNumber_25 rfl ?_
                  refine sw_iloadn dX7_putNumber_26 rfl ?_
                  refine sw_iushr dX7_putNumber_27 ?_
                  refine sw_i2b dX7_putNumber_28 ?_
                  refine sx_bast (_) dX7_putNumber_29 a1 (rfl) (by omega) (by decide) ?_
                  rw [pk_vb]
                  refine sw_aloadn dX7_putNumber_30 rfl ?_
                  refine sw_dup dX7_putNumber_31 rfl ?_
                  refine sw_getI dX7_putNumber_32 fs_X7_71 o0 ?_
                  first | rw [show (setI σ 1 b _).1 0 1 = nI b from hn] | rw [setI_ne _ _ _ (by decide), setI_at, upd_same]
                  refine sx_iconst (v := nI 1) dX7_putNumber_35 (by decide) ?_
                  refine sw_iadd dX7_putNumber_36 ?_
                  refine sw_topI (nI_1 _) ?_
                  refine sw_putI dX7_putNumber_37 fs_X7_71 o0 ?_
                  refine sx_iinc ((-8)) dX7_putNumber_40 rfl (by decide) ?_
                  refine sw_goto (tgt := 3) dX7_putNumber_43 (by decide) ?_
                  refine sw_iloadn dX7_putNumber_3 rfl ?_
                  refine sw_if_lt (tgt := 46) dX7_putNumber_4 (by decide) (fun h4 => ?_) (fun h4 => ?_)
                  · skip
                    refine sx_ret0 dX7_putNumber_46 rfl ?_
                    exact h
                  · exact absurd h4 (by decide)
theorem feedC_app (l₁ : List Int32) : ∀ (σ : Mem) (b : Nat) (l₂ : List Int32), feedC (feedC σ b l₁) (b + l₁.length) l₂ = feedC σ b (l₁ ++ l₂) := by
  induction l₁ with
  | nil => intro σ b l₂; rfl
  | cons v vs ih =>
    intro σ b l₂
    simp only [feedC, List.length_cons, List.cons_append]
    rw [← ih (stC σ b v) (b + 1) l₂]
    congr 1
    omega
theorem feedC_b (l : List Int32) : ∀ (σ : Mem) (b : Nat), σ.1 0 1 = nI b → (feedC σ b l).1 0 1 = nI (b + l.length) := by
  induction l with
  | nil => intro σ b h; exact h
  | cons v vs ih =>
    intro σ b h
    simp only [feedC, List.length_cons]
    rw [ih (stC σ b v) (b + 1) (by rw [stC, setI_at, upd_same])]
    congr 1
    omega
def by20 (g : Int32 → Nat → Int32) (a b c x e : Int32) : List Int32 := by4 g a ++ (by4 g b ++ (by4 g c ++ (by4 g x ++ by4 g e)))
theorem c_X7_feed {f : Int32 → Mem → Prop} {n : Nat} {a b c x e : Int32} (hn : σ.1 0 1 = nI n) (hb : n ≤ 600) (k1 : n + 20 ≤ 600 → f (nI (n + 20)) (feedC σ n (by20 byC a b c x e))) (k0 : ¬ n + 20 ≤ 600 → f (-1) σ) : SW G (d + 1) M_X7_feed 0 [some (.ref 0), some (.int a), some (.int b), some (.int c), some (.int x), some (.int e)] [] σ (RI f) := by
  have e1 := feedC_b (by4 byC a) σ n hn
  have e2 := feedC_b (by4 byC b) _ _ e1
  have e3 := feedC_b (by4 byC c) _ _ e2
  have e4 := feedC_b (by4 byC x) _ _ e3
  have e5 := feedC_b (by4 byC e) _ _ e4
  have ef : feedC (feedC (feedC (feedC (feedC σ n (by4 byC a)) (n + 4) (by4 byC b)) (n + 4 + 4) (by4 byC c)) (n + 4 + 4 + 4) (by4 byC x)) (n + 4 + 4 + 4 + 4) (by4 byC e) = feedC σ n (by20 byC a b c x e) := by
    rw [by20, ← feedC_app, ← feedC_app, ← feedC_app, ← feedC_app]
    rfl
  refine sw_aloadn dX7_feed_0 rfl ?_
  refine sw_getI dX7_feed_1 fs_X7_71 o0 ?_
  rw [hn]
  refine sx_bipush (v := nI 20) dX7_feed_4 (by decide) ?_
  refine sw_iadd dX7_feed_6 ?_
  refine sw_topI (y := nI (n + 20)) (nI_add n 20) ?_
  refine sx_sipush (v := nI 600) dX7_feed_7 (by decide) ?_
  refine sw_icmp_le (tgt := 15) dX7_feed_10 (by decide) (fun h10 => ?_) (fun h10 => ?_)
  · skip
    have hl : n + 20 ≤ 600 := (nI_le' (by omega) (by omega)).mp h10
    refine sw_aloadn dX7_feed_15 rfl ?_
    refine sw_iloadn dX7_feed_16 rfl ?_
    refine sx_invV1 dX7_feed_17 mk_X7_putNumber vk_X7_putNumber lk_X7_74 o0 (Nat.le_of_ble_eq_true rfl) (Nat.le_of_ble_eq_true rfl) ?_
    refine c_X7_putNumber hn (by omega) ?_
    refine sw_aloadn dX7_feed_20 rfl ?_
    refine sw_iloadn dX7_feed_21 rfl ?_
    refine sx_invV1 dX7_feed_22 mk_X7_putNumber vk_X7_putNumber lk_X7_74 o0 (Nat.le_of_ble_eq_true rfl) (Nat.le_of_ble_eq_true rfl) ?_
    refine c_X7_putNumber e1 (by simp [by4]; omega) ?_
    refine sw_aloadn dX7_feed_25 rfl ?_
    refine sw_iloadn dX7_feed_26 rfl ?_
    refine sx_invV1 dX7_feed_27 mk_X7_putNumber vk_X7_putNumber lk_X7_74 o0 (Nat.le_of_ble_eq_true rfl) (Nat.le_of_ble_eq_true rfl) ?_
    refine c_X7_putNumber e2 (by simp [by4]; omega) ?_
    refine sw_aloadn dX7_feed_30 rfl ?_
    refine sw_iload dX7_feed_31 rfl ?_
    refine sx_invV1 dX7_feed_33 mk_X7_putNumber vk_X7_putNumber lk_X7_74 o0 (Nat.le_of_ble_eq_true rfl) (Nat.le_of_ble_eq_true rfl) ?_
    refine c_X7_putNumber e3 (by simp [by4]; omega) ?_
    refine sw_aloadn dX7_feed_36 rfl ?_
    refine sw_iload dX7_feed_37 rfl ?_
    refine sx_invV1 dX7_feed_39 mk_X7_putNumber vk_X7_putNumber lk_X7_74 o0 (Nat.le_of_ble_eq_true rfl) (Nat.le_of_ble_eq_true rfl) ?_
    refine c_X7_putNumber e4 (by simp [by4]; omega) ?_
    refine sw_aloadn dX7_feed_42 rfl ?_
    refine sw_getI dX7_feed_43 fs_X7_71 o0 ?_
    rw [e5]
    refine sx_reti dX7_feed_46 rfl ?_
    have k1 := k1 hl
    rw [← ef] at k1
    exact k1
  · skip
    refine sx_iconst (v := (-1)) dX7_feed_13 (by decide) ?_
    refine sx_reti dX7_feed_14 rfl ?_
    exact k0 (fun q => h10 ((nI_le' (by omega) (by omega)).mpr q))
theorem m_feed_s0 {f : Int32 → Mem → Prop} {n : Nat} {a b c x e : Int32} {o : Option Value} (hn : σ.1 46 2 = nI n) (hb : n < 600) (h : SW G d M_X8_feed 23 [some (.ref 46), some (.int a), some (.int b), some (.int c), some (.int x), some (.int e), some (.int (nI 1)), some (.int a)] [] (stM σ n (byM a 24)) (RI f)) : SW G d M_X8_feed 23 [some (.ref 46), some (.int a), some (.int b), some (.int c), some (.int x), some (.int e), some (.int (nI 0)), o] [] σ (RI f) := by
  refine sw_iload dX8_feed_23 rfl ?_
  refine sx_bipush (v := nI 20) dX8_feed_25 (by decide) ?_
  refine sw_icmp_ge (tgt := 117) dX8_feed_27 (by decide) (fun h27 => ?_) (fun h27 => ?_)
  · exact absurd h27 (by decide)
  · skip
    refine sw_iload dX8_feed_30 rfl ?_
    refine sx_iconst (v := nI 4) dX8_feed_32 (by decide) ?_
    refine sw_icmp_ge (tgt := 40) dX8_feed_33 (by decide) (fun h33 => ?_) (fun h33 => ?_)
    · exact absurd h33 (by decide)
    · skip
      refine sw_iloadn dX8_feed_36 rfl ?_
      refine sw_goto (tgt := 76) dX8_feed_37 (by decide) ?_
      refine sw_istore dX8_feed_76 (Nat.le_of_ble_eq_true rfl) ?_
      refine sw_aloadn dX8_feed_78 rfl ?_
      refine sw_getR dX8_feed_79 fs_X8_13 o46 r46_1 ?_
      refine sw_aloadn dX8_feed_82 rfl ?_
      refine sw_getI dX8_feed_83 fs_X8_104 o46 ?_
      rw [hn]
      refine sw_iload dX8_feed_86 rfl ?_
      refine sx_bipush (v := nI 24) dX8_feed_88 (by decide) ?_
      refine sx_bipush (v := nI 8) dX8_feed_90 (by decide) ?_
      refine sw_iload dX8_feed_92 rfl ?_
      refine sx_iconst (v := nI 4) dX8_feed_94 (by decide) ?_
      refine sw_irem dX8_feed_95 (by decide) ?_
      refine sw_topI (y := nI 0) (by decide) ?_
      refine sw_imul dX8_feed_96 ?_
      refine sw_topI (y := nI 0) (by decide) ?_
      refine sw_isub dX8_feed_97 ?_
      refine sw_topI (y := nI 24) (by decide) ?_
      refine sw_ishr dX8_feed_98 ?_
      refine sw_i2b dX8_feed_99 ?_
      refine sx_bast (_) dX8_feed_100 a47 (rfl) (by omega) (by decide) ?_
      rw [pk_vb]
      refine sw_aloadn dX8_feed_101 rfl ?_
      refine sw_dup dX8_feed_102 rfl ?_
      refine sw_getI dX8_feed_103 fs_X8_104 o46 ?_
      rw [show (setI σ 47 n _).1 46 2 = nI n from hn]
      refine sx_iconst (v := nI 1) dX8_feed_106 (by decide) ?_
      refine sw_iadd dX8_feed_107 ?_
      refine sw_topI (nI_1 _) ?_
      refine sw_putI dX8_feed_108 fs_X8_104 o46 ?_
      refine sx_iinc (nI 1) dX8_feed_111 rfl (by decide) ?_
      refine sw_goto (tgt := 23) dX8_feed_114 (by decide) ?_
      exact h
theorem m_feed_s1 {f : Int32 → Mem → Prop} {n : Nat} {a b c x e : Int32} {o : Option Value} (hn : σ.1 46 2 = nI n) (hb : n < 600) (h : SW G d M_X8_feed 23 [some (.ref 46), some (.int a), some (.int b), some (.int c), some (.int x), some (.int e), some (.int (nI 2)), some (.int a)] [] (stM σ n (byM a 16)) (RI f)) : SW G d M_X8_feed 23 [some (.ref 46), some (.int a), some (.int b), some (.int c), some (.int x), some (.int e), some (.int (nI 1)), o] [] σ (RI f) := by
  refine sw_iload dX8_feed_23 rfl ?_
  refine sx_bipush (v := nI 20) dX8_feed_25 (by decide) ?_
  refine sw_icmp_ge (tgt := 117) dX8_feed_27 (by decide) (fun h27 => ?_) (fun h27 => ?_)
  · exact absurd h27 (by decide)
  · skip
    refine sw_iload dX8_feed_30 rfl ?_
    refine sx_iconst (v := nI 4) dX8_feed_32 (by decide) ?_
    refine sw_icmp_ge (tgt := 40) dX8_feed_33 (by decide) (fun h33 => ?_) (fun h33 => ?_)
    · exact absurd h33 (by decide)
    · skip
      refine sw_iloadn dX8_feed_36 rfl ?_
      refine sw_goto (tgt := 76) dX8_feed_37 (by decide) ?_
      refine sw_istore dX8_feed_76 (Nat.le_of_ble_eq_true rfl) ?_
      refine sw_aloadn dX8_feed_78 rfl ?_
      refine sw_getR dX8_feed_79 fs_X8_13 o46 r46_1 ?_
      refine sw_aloadn dX8_feed_82 rfl ?_
      refine sw_getI dX8_feed_83 fs_X8_104 o46 ?_
      rw [hn]
      refine sw_iload dX8_feed_86 rfl ?_
      refine sx_bipush (v := nI 24) dX8_feed_88 (by decide) ?_
      refine sx_bipush (v := nI 8) dX8_feed_90 (by decide) ?_
      refine sw_iload dX8_feed_92 rfl ?_
      refine sx_iconst (v := nI 4) dX8_feed_94 (by decide) ?_
      refine sw_irem dX8_feed_95 (by decide) ?_
      refine sw_topI (y := nI 1) (by decide) ?_
      refine sw_imul dX8_feed_96 ?_
      refine sw_topI (y := nI 8) (by decide) ?_
      refine sw_isub dX8_feed_97 ?_
      refine sw_topI (y := nI 16) (by decide) ?_
      refine sw_ishr dX8_feed_98 ?_
      refine sw_i2b dX8_feed_99 ?_
      refine sx_bast (_) dX8_feed_100 a47 (rfl) (by omega) (by decide) ?_
      rw [pk_vb]
      refine sw_aloadn dX8_feed_101 rfl ?_
      refine sw_dup dX8_feed_102 rfl ?_
      refine sw_getI dX8_feed_103 fs_X8_104 o46 ?_
      rw [show (setI σ 47 n _).1 46 2 = nI n from hn]
      refine sx_iconst (v := nI 1) dX8_feed_106 (by decide) ?_
      refine sw_iadd dX8_feed_107 ?_
      refine sw_topI (nI_1 _) ?_
      refine sw_putI dX8_feed_108 fs_X8_104 o46 ?_
      refine sx_iinc (nI 2) dX8_feed_111 rfl (by decide) ?_
      refine sw_goto (tgt := 23) dX8_feed_114 (by decide) ?_
      exact h
theorem m_feed_s2 {f : Int32 → Mem → Prop} {n : Nat} {a b c x e : Int32} {o : Option Value} (hn : σ.1 46 2 = nI n) (hb : n < 600) (h : SW G d M_X8_feed 23 [some (.ref 46), some (.int a), some (.int b), some (.int c), some (.int x), some (.int e), some (.int (nI 3)), some (.int a)] [] (stM σ n (byM a 8)) (RI f)) : SW G d M_X8_feed 23 [some (.ref 46), some (.int a), some (.int b), some (.int c), some (.int x), some (.int e), some (.int (nI 2)), o] [] σ (RI f) := by
  refine sw_iload dX8_feed_23 rfl ?_
  refine sx_bipush (v := nI 20) dX8_feed_25 (by decide) ?_
  refine sw_icmp_ge (tgt := 117) dX8_feed_27 (by decide) (fun h27 => ?_) (fun h27 => ?_)
  · exact absurd h27 (by decide)
  · skip
    refine sw_iload dX8_feed_30 rfl ?_
    refine sx_iconst (v := nI 4) dX8_feed_32 (by decide) ?_
    refine sw_icmp_ge (tgt := 40) dX8_feed_33 (by decide) (fun h33 => ?_) (fun h33 => ?_)
    · exact absurd h33 (by decide)
    · skip
      refine sw_iloadn dX8_feed_36 rfl ?_
      refine sw_goto (tgt := 76) dX8_feed_37 (by decide) ?_
      refine sw_istore dX8_feed_76 (Nat.le_of_ble_eq_true rfl) ?_
      refine sw_aloadn dX8_feed_78 rfl ?_
      refine sw_getR dX8_feed_79 fs_X8_13 o46 r46_1 ?_
      refine sw_aloadn dX8_feed_82 rfl ?_
      refine sw_getI dX8_feed_83 fs_X8_104 o46 ?_
      rw [hn]
      refine sw_iload dX8_feed_86 rfl ?_
      refine sx_bipush (v := nI 24) dX8_feed_88 (by decide) ?_
      refine sx_bipush (v := nI 8) dX8_feed_90 (by decide) ?_
      refine sw_iload dX8_feed_92 rfl ?_
      refine sx_iconst (v := nI 4) dX8_feed_94 (by decide) ?_
      refine sw_irem dX8_feed_95 (by decide) ?_
      refine sw_topI (y := nI 2) (by decide) ?_
      refine sw_imul dX8_feed_96 ?_
      refine sw_topI (y := nI 16) (by decide) ?_
      refine sw_isub dX8_feed_97 ?_
      refine sw_topI (y := nI 8) (by decide) ?_
      refine sw_ishr dX8_feed_98 ?_
      refine sw_i2b dX8_feed_99 ?_
      refine sx_bast (_) dX8_feed_100 a47 (rfl) (by omega) (by decide) ?_
      rw [pk_vb]
      refine sw_aloadn dX8_feed_101 rfl ?_
      refine sw_dup dX8_feed_102 rfl ?_
      refine sw_getI dX8_feed_103 fs_X8_104 o46 ?_
      rw [show (setI σ 47 n _).1 46 2 = nI n from hn]
      refine sx_iconst (v := nI 1) dX8_feed_106 (by decide) ?_
      refine sw_iadd dX8_feed_107 ?_
      refine sw_topI (nI_1 _) ?_
      refine sw_putI dX8_feed_108 fs_X8_104 o46 ?_
      refine sx_iinc (nI 3) dX8_feed_111 rfl (by decide) ?_
      refine sw_goto (tgt := 23) dX8_feed_114 (by decide) ?_
      exact h
theorem m_feed_s3 {f : Int32 → Mem → Prop} {n : Nat} {a b c x e : Int32} {o : Option Value} (hn : σ.1 46 2 = nI n) (hb : n < 600) (h : SW G d M_X8_feed 23 [some (.ref 46), some (.int a), some (.int b), some (.int c), some (.int x), some (.int e), some (.int (nI 4)), some (.int a)] [] (stM σ n (byM a 0)) (RI f)) : SW G d M_X8_feed 23 [some (.ref 46), some (.int a), some (.int b), some (.int c), some (.int x), some (.int e), some (.int (nI 3)), o] [] σ (RI f) := by
  refine sw_iload dX8_feed_23 rfl ?_
  refine sx_bipush (v := nI 20) dX8_feed_25 (by decide) ?_
  refine sw_icmp_ge (tgt := 117) dX8_feed_27 (by decide) (fun h27 => ?_) (fun h27 => ?_)
  · exact absurd h27 (by decide)
  · skip
    refine sw_iload dX8_feed_30 rfl ?_
    refine sx_iconst (v := nI 4) dX8_feed_32 (by decide) ?_
    refine sw_icmp_ge (tgt := 40) dX8_feed_33 (by decide) (fun h33 => ?_) (fun h33 => ?_)
    · exact absurd h33 (by decide)
    · skip
      refine sw_iloadn dX8_feed_36 rfl ?_
      refine sw_goto (tgt := 76) dX8_feed_37 (by decide) ?_
      refine sw_istore dX8_feed_76 (Nat.le_of_ble_eq_true rfl) ?_
      refine sw_aloadn dX8_feed_78 rfl ?_
      refine sw_getR dX8_feed_79 fs_X8_13 o46 r46_1 ?_
      refine sw_aloadn dX8_feed_82 rfl ?_
      refine sw_getI dX8_feed_83 fs_X8_104 o46 ?_
      rw [hn]
      refine sw_iload dX8_feed_86 rfl ?_
      refine sx_bipush (v := nI 24) dX8_feed_88 (by decide) ?_
      refine sx_bipush (v := nI 8) dX8_feed_90 (by decide) ?_
      refine sw_iload dX8_feed_92 rfl ?_
      refine sx_iconst (v := nI 4) dX8_feed_94 (by decide) ?_
      refine sw_irem dX8_feed_95 (by decide) ?_
      refine sw_topI (y := nI 3) (by decide) ?_
      refine sw_imul dX8_feed_96 ?_
      refine sw_topI (y := nI 24) (by decide) ?_
      refine sw_isub dX8_feed_97 ?_
      refine sw_topI (y := nI 0) (by decide) ?_
      refine sw_ishr dX8_feed_98 ?_
      refine sw_i2b dX8_feed_99 ?_
      refine sx_bast (_) dX8_feed_100 a47 (rfl) (by omega) (by decide) ?_
      rw [pk_vb]
      refine sw_aloadn dX8_feed_101 rfl ?_
      refine sw_dup dX8_feed_102 rfl ?_
      refine sw_getI dX8_feed_103 fs_X8_104 o46 ?_
      rw [show (setI σ 47 n _).1 46 2 = nI n from hn]
      refine sx_iconst (v := nI 1) dX8_feed_106 (by decide) ?_
      refine sw_iadd dX8_feed_107 ?_
      refine sw_topI (nI_1 _) ?_
      refine sw_putI dX8_feed_108 fs_X8_104 o46 ?_
      refine sx_iinc (nI 4) dX8_feed_111 rfl (by decide) ?_
      refine sw_goto (tgt := 23) dX8_feed_114 (by decide) ?_
      exact h
theorem m_feed_s4 {f : Int32 → Mem → Prop} {n : Nat} {a b c x e : Int32} {o : Option Value} (hn : σ.1 46 2 = nI n) (hb : n < 600) (h : SW G d M_X8_feed 23 [some (.ref 46), some (.int a), some (.int b), some (.int c), some (.int x), some (.int e), some (.int (nI 5)), some (.int b)] [] (stM σ n (byM b 24)) (RI f)) : SW G d M_X8_feed 23 [some (.ref 46), some (.int a), some (.int b), some (.int c), some (.int x), some (.int e), some (.int (nI 4)), o] [] σ (RI f) := by
  refine sw_iload dX8_feed_23 rfl ?_
  refine sx_bipush (v := nI 20) dX8_feed_25 (by decide) ?_
  refine sw_icmp_ge (tgt := 117) dX8_feed_27 (by decide) (fun h27 => ?_) (fun h27 => ?_)
  · exact absurd h27 (by decide)
  · skip
    refine sw_iload dX8_feed_30 rfl ?_
    refine sx_iconst (v := nI 4) dX8_feed_32 (by decide) ?_
    refine sw_icmp_ge (tgt := 40) dX8_feed_33 (by decide) (fun h33 => ?_) (fun h33 => ?_)
    · skip
      refine sw_iload dX8_feed_40 rfl ?_
      refine sx_bipush (v := nI 8) dX8_feed_42 (by decide) ?_
      refine sw_icmp_ge (tgt := 51) dX8_feed_44 (by decide) (fun h44 => ?_) (fun h44 => ?_)
      · exact absurd h44 (by decide)
      · skip
        refine sw_iloadn dX8_feed_47 rfl ?_
        refine sw_goto (tgt := 76) dX8_feed_48 (by decide) ?_
        refine sw_istore dX8_feed_76 (Nat.le_of_ble_eq_true rfl) ?_
        refine sw_aloadn dX8_feed_78 rfl ?_
        refine sw_getR dX8_feed_79 fs_X8_13 o46 r46_1 ?_
        refine sw_aloadn dX8_feed_82 rfl ?_
        refine sw_getI dX8_feed_83 fs_X8_104 o46 ?_
        rw [hn]
        refine sw_iload dX8_feed_86 rfl ?_
        refine sx_bipush (v := nI 24) dX8_feed_88 (by decide) ?_
        refine sx_bipush (v := nI 8) dX8_feed_90 (by decide) ?_
        refine sw_iload dX8_feed_92 rfl ?_
        refine sx_iconst (v := nI 4) dX8_feed_94 (by decide) ?_
        refine sw_irem dX8_feed_95 (by decide) ?_
        refine sw_topI (y := nI 0) (by decide) ?_
        refine sw_imul dX8_feed_96 ?_
        refine sw_topI (y := nI 0) (by decide) ?_
        refine sw_isub dX8_feed_97 ?_
        refine sw_topI (y := nI 24) (by decide) ?_
        refine sw_ishr dX8_feed_98 ?_
        refine sw_i2b dX8_feed_99 ?_
        refine sx_bast (_) dX8_feed_100 a47 (rfl) (by omega) (by decide) ?_
        rw [pk_vb]
        refine sw_aloadn dX8_feed_101 rfl ?_
        refine sw_dup dX8_feed_102 rfl ?_
        refine sw_getI dX8_feed_103 fs_X8_104 o46 ?_
        rw [show (setI σ 47 n _).1 46 2 = nI n from hn]
        refine sx_iconst (v := nI 1) dX8_feed_106 (by decide) ?_
        refine sw_iadd dX8_feed_107 ?_
        refine sw_topI (nI_1 _) ?_
        refine sw_putI dX8_feed_108 fs_X8_104 o46 ?_
        refine sx_iinc (nI 5) dX8_feed_111 rfl (by decide) ?_
        refine sw_goto (tgt := 23) dX8_feed_114 (by decide) ?_
        exact h
    · exact absurd h33 (by decide)
theorem m_feed_s5 {f : Int32 → Mem → Prop} {n : Nat} {a b c x e : Int32} {o : Option Value} (hn : σ.1 46 2 = nI n) (hb : n < 600) (h : SW G d M_X8_feed 23 [some (.ref 46), some (.int a), some (.int b), some (.int c), some (.int x), some (.int e), some (.int (nI 6)), some (.int b)] [] (stM σ n (byM b 16)) (RI f)) : SW G d M_X8_feed 23 [some (.ref 46), some (.int a), some (.int b), some (.int c), some (.int x), some (.int e), some (.int (nI 5)), o] [] σ (RI f) := by
  refine sw_iload dX8_feed_23 rfl ?_
  refine sx_bipush (v := nI 20) dX8_feed_25 (by decide) ?_
  refine sw_icmp_ge (tgt := 117) dX8_feed_27 (by decide) (fun h27 => ?_) (fun h27 => ?_)
  · exact absurd h27 (by decide)
  · skip
    refine sw_iload dX8_feed_30 rfl ?_
    refine sx_iconst (v := nI 4) dX8_feed_32 (by decide) ?_
    refine sw_icmp_ge (tgt := 40) dX8_feed_33 (by decide) (fun h33 => ?_) (fun h33 => ?_)
    · skip
      refine sw_iload dX8_feed_40 rfl ?_
      refine sx_bipush (v := nI 8) dX8_feed_42 (by decide) ?_
      refine sw_icmp_ge (tgt := 51) dX8_feed_44 (by decide) (fun h44 => ?_) (fun h44 => ?_)
      · exact absurd h44 (by decide)
      · skip
        refine sw_iloadn dX8_feed_47 rfl ?_
        refine sw_goto (tgt := 76) dX8_feed_48 (by decide) ?_
        refine sw_istore dX8_feed_76 (Nat.le_of_ble_eq_true rfl) ?_
        refine sw_aloadn dX8_feed_78 rfl ?_
        refine sw_getR dX8_feed_79 fs_X8_13 o46 r46_1 ?_
        refine sw_aloadn dX8_feed_82 rfl ?_
        refine sw_getI dX8_feed_83 fs_X8_104 o46 ?_
        rw [hn]
        refine sw_iload dX8_feed_86 rfl ?_
        refine sx_bipush (v := nI 24) dX8_feed_88 (by decide) ?_
        refine sx_bipush (v := nI 8) dX8_feed_90 (by decide) ?_
        refine sw_iload dX8_feed_92 rfl ?_
        refine sx_iconst (v := nI 4) dX8_feed_94 (by decide) ?_
        refine sw_irem dX8_feed_95 (by decide) ?_
        refine sw_topI (y := nI 1) (by decide) ?_
        refine sw_imul dX8_feed_96 ?_
        refine sw_topI (y := nI 8) (by decide) ?_
        refine sw_isub dX8_feed_97 ?_
        refine sw_topI (y := nI 16) (by decide) ?_
        refine sw_ishr dX8_feed_98 ?_
        refine sw_i2b dX8_feed_99 ?_
        refine sx_bast (_) dX8_feed_100 a47 (rfl) (by omega) (by decide) ?_
        rw [pk_vb]
        refine sw_aloadn dX8_feed_101 rfl ?_
        refine sw_dup dX8_feed_102 rfl ?_
        refine sw_getI dX8_feed_103 fs_X8_104 o46 ?_
        rw [show (setI σ 47 n _).1 46 2 = nI n from hn]
        refine sx_iconst (v := nI 1) dX8_feed_106 (by decide) ?_
        refine sw_iadd dX8_feed_107 ?_
        refine sw_topI (nI_1 _) ?_
        refine sw_putI dX8_feed_108 fs_X8_104 o46 ?_
        refine sx_iinc (nI 6) dX8_feed_111 rfl (by decide) ?_
        refine sw_goto (tgt := 23) dX8_feed_114 (by decide) ?_
        exact h
    · exact absurd h33 (by decide)
theorem m_feed_s6 {f : Int32 → Mem → Prop} {n : Nat} {a b c x e : Int32} {o : Option Value} (hn : σ.1 46 2 = nI n) (hb : n < 600) (h : SW G d M_X8_feed 23 [some (.ref 46), some (.int a), some (.int b), some (.int c), some (.int x), some (.int e), some (.int (nI 7)), some (.int b)] [] (stM σ n (byM b 8)) (RI f)) : SW G d M_X8_feed 23 [some (.ref 46), some (.int a), some (.int b), some (.int c), some (.int x), some (.int e), some (.int (nI 6)), o] [] σ (RI f) := by
  refine sw_iload dX8_feed_23 rfl ?_
  refine sx_bipush (v := nI 20) dX8_feed_25 (by decide) ?_
  refine sw_icmp_ge (tgt := 117) dX8_feed_27 (by decide) (fun h27 => ?_) (fun h27 => ?_)
  · exact absurd h27 (by decide)
  · skip
    refine sw_iload dX8_feed_30 rfl ?_
    refine sx_iconst (v := nI 4) dX8_feed_32 (by decide) ?_
    refine sw_icmp_ge (tgt := 40) dX8_feed_33 (by decide) (fun h33 => ?_) (fun h33 => ?_)
    · skip
      refine sw_iload dX8_feed_40 rfl ?_
      refine sx_bipush (v := nI 8) dX8_feed_42 (by decide) ?_
      refine sw_icmp_ge (tgt := 51) dX8_feed_44 (by decide) (fun h44 => ?_) (fun h44 => ?_)
      · exact absurd h44 (by decide)
      · skip
        refine sw_iloadn dX8_feed_47 rfl ?_
        refine sw_goto (tgt := 76) dX8_feed_48 (by decide) ?_
        refine sw_istore dX8_feed_76 (Nat.le_of_ble_eq_true rfl) ?_
        refine sw_aloadn dX8_feed_78 rfl ?_
        refine sw_getR dX8_feed_79 fs_X8_13 o46 r46_1 ?_
        refine sw_aloadn dX8_feed_82 rfl ?_
        refine sw_getI dX8_feed_83 fs_X8_104 o46 ?_
        rw [hn]
        refine sw_iload dX8_feed_86 rfl ?_
        refine sx_bipush (v := nI 24) dX8_feed_88 (by decide) ?_
        refine sx_bipush (v := nI 8) dX8_feed_90 (by decide) ?_
        refine sw_iload dX8_feed_92 rfl ?_
        refine sx_iconst (v := nI 4) dX8_feed_94 (by decide) ?_
        refine sw_irem dX8_feed_95 (by decide) ?_
        refine sw_topI (y := nI 2) (by decide) ?_
        refine sw_imul dX8_feed_96 ?_
        refine sw_topI (y := nI 16) (by decide) ?_
        refine sw_isub dX8_feed_97 ?_
        refine sw_topI (y := nI 8) (by decide) ?_
        refine sw_ishr dX8_feed_98 ?_
        refine sw_i2b dX8_feed_99 ?_
        refine sx_bast (_) dX8_feed_100 a47 (rfl) (by omega) (by decide) ?_
        rw [pk_vb]
        refine sw_aloadn dX8_feed_101 rfl ?_
        refine sw_dup dX8_feed_102 rfl ?_
        refine sw_getI dX8_feed_103 fs_X8_104 o46 ?_
        rw [show (setI σ 47 n _).1 46 2 = nI n from hn]
        refine sx_iconst (v := nI 1) dX8_feed_106 (by decide) ?_
        refine sw_iadd dX8_feed_107 ?_
        refine sw_topI (nI_1 _) ?_
        refine sw_putI dX8_feed_108 fs_X8_104 o46 ?_
        refine sx_iinc (nI 7) dX8_feed_111 rfl (by decide) ?_
        refine sw_goto (tgt := 23) dX8_feed_114 (by decide) ?_
        exact h
    · exact absurd h33 (by decide)
theorem m_feed_s7 {f : Int32 → Mem → Prop} {n : Nat} {a b c x e : Int32} {o : Option Value} (hn : σ.1 46 2 = nI n) (hb : n < 600) (h : SW G d M_X8_feed 23 [some (.ref 46), some (.int a), some (.int b), some (.int c), some (.int x), some (.int e), some (.int (nI 8)), some (.int b)] [] (stM σ n (byM b 0)) (RI f)) : SW G d M_X8_feed 23 [some (.ref 46), some (.int a), some (.int b), some (.int c), some (.int x), some (.int e), some (.int (nI 7)), o] [] σ (RI f) := by
  refine sw_iload dX8_feed_23 rfl ?_
  refine sx_bipush (v := nI 20) dX8_feed_25 (by decide) ?_
  refine sw_icmp_ge (tgt := 117) dX8_feed_27 (by decide) (fun h27 => ?_) (fun h27 => ?_)
  · exact absurd h27 (by decide)
  · skip
    refine sw_iload dX8_feed_30 rfl ?_
    refine sx_iconst (v := nI 4) dX8_feed_32 (by decide) ?_
    refine sw_icmp_ge (tgt := 40) dX8_feed_33 (by decide) (fun h33 => ?_) (fun h33 => ?_)
    · skip
      refine sw_iload dX8_feed_40 rfl ?_
      refine sx_bipush (v := nI 8) dX8_feed_42 (by decide) ?_
      refine sw_icmp_ge (tgt := 51) dX8_feed_44 (by decide) (fun h44 => ?_) (fun h44 => ?_)
      · exact absurd h44 (by decide)
      · skip
        refine sw_iloadn dX8_feed_47 rfl ?_
        refine sw_goto (tgt := 76) dX8_feed_48 (by decide) ?_
        refine sw_istore dX8_feed_76 (Nat.le_of_ble_eq_true rfl) ?_
        refine sw_aloadn dX8_feed_78 rfl ?_
        refine sw_getR dX8_feed_79 fs_X8_13 o46 r46_1 ?_
        refine sw_aloadn dX8_feed_82 rfl ?_
        refine sw_getI dX8_feed_83 fs_X8_104 o46 ?_
        rw [hn]
        refine sw_iload dX8_feed_86 rfl ?_
        refine sx_bipush (v := nI 24) dX8_feed_88 (by decide) ?_
        refine sx_bipush (v := nI 8) dX8_feed_90 (by decide) ?_
        refine sw_iload dX8_feed_92 rfl ?_
        refine sx_iconst (v := nI 4) dX8_feed_94 (by decide) ?_
        refine sw_irem dX8_feed_95 (by decide) ?_
        refine sw_topI (y := nI 3) (by decide) ?_
        refine sw_imul dX8_feed_96 ?_
        refine sw_topI (y := nI 24) (by decide) ?_
        refine sw_isub dX8_feed_97 ?_
        refine sw_topI (y := nI 0) (by decide) ?_
        refine sw_ishr dX8_feed_98 ?_
        refine sw_i2b dX8_feed_99 ?_
        refine sx_bast (_) dX8_feed_100 a47 (rfl) (by omega) (by decide) ?_
        rw [pk_vb]
        refine sw_aloadn dX8_feed_101 rfl ?_
        refine sw_dup dX8_feed_102 rfl ?_
        refine sw_getI dX8_feed_103 fs_X8_104 o46 ?_
        rw [show (setI σ 47 n _).1 46 2 = nI n from hn]
        refine sx_iconst (v := nI 1) dX8_feed_106 (by decide) ?_
        refine sw_iadd dX8_feed_107 ?_
        refine sw_topI (nI_1 _) ?_
        refine sw_putI dX8_feed_108 fs_X8_104 o46 ?_
        refine sx_iinc (nI 8) dX8_feed_111 rfl (by decide) ?_
        refine sw_goto (tgt := 23) dX8_feed_114 (by decide) ?_
        exact h
    · exact absurd h33 (by decide)
theorem m_feed_s8 {f : Int32 → Mem → Prop} {n : Nat} {a b c x e : Int32} {o : Option Value} (hn : σ.1 46 2 = nI n) (hb : n < 600) (h : SW G d M_X8_feed 23 [some (.ref 46), some (.int a), some (.int b), some (.int c), some (.int x), some (.int e), some (.int (nI 9)), some (.int c)] [] (stM σ n (byM c 24)) (RI f)) : SW G d M_X8_feed 23 [some (.ref 46), some (.int a), some (.int b), some (.int c), some (.int x), some (.int e), some (.int (nI 8)), o] [] σ (RI f) := by
  refine sw_iload dX8_feed_23 rfl ?_
  refine sx_bipush (v := nI 20) dX8_feed_25 (by decide) ?_
  refine sw_icmp_ge (tgt := 117) dX8_feed_27 (by decide) (fun h27 => ?_) (fun h27 => ?_)
  · exact absurd h27 (by decide)
  · skip
    refine sw_iload dX8_feed_30 rfl ?_
    refine sx_iconst (v := nI 4) dX8_feed_32 (by decide) ?_
    refine sw_icmp_ge (tgt := 40) dX8_feed_33 (by decide) (fun h33 => ?_) (fun h33 => ?_)
    · skip
      refine sw_iload dX8_feed_40 rfl ?_
      refine sx_bipush (v := nI 8) dX8_feed_42 (by decide) ?_
      refine sw_icmp_ge (tgt := 51) dX8_feed_44 (by decide) (fun h44 => ?_) (fun h44 => ?_)
      · skip
        refine sw_iload dX8_feed_51 rfl ?_
        refine sx_bipush (v := nI 12) dX8_feed_53 (by decide) ?_
        refine sw_icmp_ge (tgt := 62) dX8_feed_55 (by decide) (fun h55 => ?_) (fun h55 => ?_)
        · exact absurd h55 (by decide)
        · skip
          refine sw_iloadn dX8_feed_58 rfl ?_
          refine sw_goto (tgt := 76) dX8_feed_59 (by decide) ?_
          refine sw_istore dX8_feed_76 (Nat.le_of_ble_eq_true rfl) ?_
          refine sw_aloadn dX8_feed_78 rfl ?_
          refine sw_getR dX8_feed_79 fs_X8_13 o46 r46_1 ?_
          refine sw_aloadn dX8_feed_82 rfl ?_
          refine sw_getI dX8_feed_83 fs_X8_104 o46 ?_
          rw [hn]
          refine sw_iload dX8_feed_86 rfl ?_
          refine sx_bipush (v := nI 24) dX8_feed_88 (by decide) ?_
          refine sx_bipush (v := nI 8) dX8_feed_90 (by decide) ?_
          refine sw_iload dX8_feed_92 rfl ?_
          refine sx_iconst (v := nI 4) dX8_feed_94 (by decide) ?_
          refine sw_irem dX8_feed_95 (by decide) ?_
          refine sw_topI (y := nI 0) (by decide) ?_
          refine sw_imul dX8_feed_96 ?_
          refine sw_topI (y := nI 0) (by decide) ?_
          refine sw_isub dX8_feed_97 ?_
          refine sw_topI (y := nI 24) (by decide) ?_
          refine sw_ishr dX8_feed_98 ?_
          refine sw_i2b dX8_feed_99 ?_
          refine sx_bast (_) dX8_feed_100 a47 (rfl) (by omega) (by decide) ?_
          rw [pk_vb]
          refine sw_aloadn dX8_feed_101 rfl ?_
          refine sw_dup dX8_feed_102 rfl ?_
          refine sw_getI dX8_feed_103 fs_X8_104 o46 ?_
          rw [show (setI σ 47 n _).1 46 2 = nI n from hn]
          refine sx_iconst (v := nI 1) dX8_feed_106 (by decide) ?_
          refine sw_iadd dX8_feed_107 ?_
          refine sw_topI (nI_1 _) ?_
          refine sw_putI dX8_feed_108 fs_X8_104 o46 ?_
          refine sx_iinc (nI 9) dX8_feed_111 rfl (by decide) ?_
          refine sw_goto (tgt := 23) dX8_feed_114 (by decide) ?_
          exact h
      · exact absurd h44 (by decide)
    · exact absurd h33 (by decide)
theorem m_feed_s9 {f : Int32 → Mem → Prop} {n : Nat} {a b c x e : Int32} {o : Option Value} (hn : σ.1 46 2 = nI n) (hb : n < 600) (h : SW G d M_X8_feed 23 [some (.ref 46), some (.int a), some (.int b), some (.int c), some (.int x), some (.int e), some (.int (nI 10)), some (.int c)] [] (stM σ n (byM c 16)) (RI f)) : SW G d M_X8_feed 23 [some (.ref 46), some (.int a), some (.int b), some (.int c), some (.int x), some (.int e), some (.int (nI 9)), o] [] σ (RI f) := by
  refine sw_iload dX8_feed_23 rfl ?_
  refine sx_bipush (v := nI 20) dX8_feed_25 (by decide) ?_
  refine sw_icmp_ge (tgt := 117) dX8_feed_27 (by decide) (fun h27 => ?_) (fun h27 => ?_)
  · exact absurd h27 (by decide)
  · skip
    refine sw_iload dX8_feed_30 rfl ?_
    refine sx_iconst (v := nI 4) dX8_feed_32 (by decide) ?_
    refine sw_icmp_ge (tgt := 40) dX8_feed_33 (by decide) (fun h33 => ?_) (fun h33 => ?_)
    · skip
      refine sw_iload dX8_feed_40 rfl ?_
      refine sx_bipush (v := nI 8) dX8_feed_42 (by decide) ?_
      refine sw_icmp_ge (tgt := 51) dX8_feed_44 (by decide) (fun h44 => ?_) (fun h44 => ?_)
      · skip
        refine sw_iload dX8_feed_51 rfl ?_
        refine sx_bipush (v := nI 12) dX8_feed_53 (by decide) ?_
        refine sw_icmp_ge (tgt := 62) dX8_feed_55 (by decide) (fun h55 => ?_) (fun h55 => ?_)
        · exact absurd h55 (by decide)
        · skip
          refine sw_iloadn dX8_feed_58 rfl ?_
          refine sw_goto (tgt := 76) dX8_feed_59 (by decide) ?_
          refine sw_istore dX8_feed_76 (Nat.le_of_ble_eq_true rfl) ?_
          refine sw_aloadn dX8_feed_78 rfl ?_
          refine sw_getR dX8_feed_79 fs_X8_13 o46 r46_1 ?_
          refine sw_aloadn dX8_feed_82 rfl ?_
          refine sw_getI dX8_feed_83 fs_X8_104 o46 ?_
          rw [hn]
          refine sw_iload dX8_feed_86 rfl ?_
          refine sx_bipush (v := nI 24) dX8_feed_88 (by decide) ?_
          refine sx_bipush (v := nI 8) dX8_feed_90 (by decide) ?_
          refine sw_iload dX8_feed_92 rfl ?_
          refine sx_iconst (v := nI 4) dX8_feed_94 (by decide) ?_
          refine sw_irem dX8_feed_95 (by decide) ?_
          refine sw_topI (y := nI 1) (by decide) ?_
          refine sw_imul dX8_feed_96 ?_
          refine sw_topI (y := nI 8) (by decide) ?_
          refine sw_isub dX8_feed_97 ?_
          refine sw_topI (y := nI 16) (by decide) ?_
          refine sw_ishr dX8_feed_98 ?_
          refine sw_i2b dX8_feed_99 ?_
          refine sx_bast (_) dX8_feed_100 a47 (rfl) (by omega) (by decide) ?_
          rw [pk_vb]
          refine sw_aloadn dX8_feed_101 rfl ?_
          refine sw_dup dX8_feed_102 rfl ?_
          refine sw_getI dX8_feed_103 fs_X8_104 o46 ?_
          rw [show (setI σ 47 n _).1 46 2 = nI n from hn]
          refine sx_iconst (v := nI 1) dX8_feed_106 (by decide) ?_
          refine sw_iadd dX8_feed_107 ?_
          refine sw_topI (nI_1 _) ?_
          refine sw_putI dX8_feed_108 fs_X8_104 o46 ?_
          refine sx_iinc (nI 10) dX8_feed_111 rfl (by decide) ?_
          refine sw_goto (tgt := 23) dX8_feed_114 (by decide) ?_
          exact h
      · exact absurd h44 (by decide)
    · exact absurd h33 (by decide)
theorem m_feed_s10 {f : Int32 → Mem → Prop} {n : Nat} {a b c x e : Int32} {o : Option Value} (hn : σ.1 46 2 = nI n) (hb : n < 600) (h : SW G d M_X8_feed 23 [some (.ref 46), some (.int a), some (.int b), some (.int c), some (.int x), some (.int e), some (.int (nI 11)), some (.int c)] [] (stM σ n (byM c 8)) (RI f)) : SW G d M_X8_feed 23 [some (.ref 46), some (.int a), some (.int b), some (.int c), some (.int x), some (.int e), some (.int (nI 10)), o] [] σ (RI f) := by
  refine sw_iload dX8_feed_23 rfl ?_
  refine sx_bipush (v := nI 20) dX8_feed_25 (by decide) ?_
  refine sw_icmp_ge (tgt := 117) dX8_feed_27 (by decide) (fun h27 => ?_) (fun h27 => ?_)
  · exact absurd h27 (by decide)
  · skip
    refine sw_iload dX8_feed_30 rfl ?_
    refine sx_iconst (v := nI 4) dX8_feed_32 (by decide) ?_
    refine sw_icmp_ge (tgt := 40) dX8_feed_33 (by decide) (fun h33 => ?_) (fun h33 => ?_)
    · skip
      refine sw_iload dX8_feed_40 rfl ?_
      refine sx_bipush (v := nI 8) dX8_feed_42 (by decide) ?_
      refine sw_icmp_ge (tgt := 51) dX8_feed_44 (by decide) (fun h44 => ?_) (fun h44 => ?_)
      · skip
        refine sw_iload dX8_feed_51 rfl ?_
        refine sx_bipush (v := nI 12) dX8_feed_53 (by decide) ?_
        refine sw_icmp_ge (tgt := 62) dX8_feed_55 (by decide) (fun h55 => ?_) (fun h55 => ?_)
        · exact absurd h55 (by decide)
        · skip
          refine sw_iloadn dX8_feed_58 rfl ?_
          refine sw_goto (tgt := 76) dX8_feed_59 (by decide) ?_
          refine sw_istore dX8_feed_76 (Nat.le_of_ble_eq_true rfl) ?_
          refine sw_aloadn dX8_feed_78 rfl ?_
          refine sw_getR dX8_feed_79 fs_X8_13 o46 r46_1 ?_
          refine sw_aloadn dX8_feed_82 rfl ?_
          refine sw_getI dX8_feed_83 fs_X8_104 o46 ?_
          rw [hn]
          refine sw_iload dX8_feed_86 rfl ?_
          refine sx_bipush (v := nI 24) dX8_feed_88 (by decide) ?_
          refine sx_bipush (v := nI 8) dX8_feed_90 (by decide) ?_
          refine sw_iload dX8_feed_92 rfl ?_
          refine sx_iconst (v := nI 4) dX8_feed_94 (by decide) ?_
          refine sw_irem dX8_feed_95 (by decide) ?_
          refine sw_topI (y := nI 2) (by decide) ?_
          refine sw_imul dX8_feed_96 ?_
          refine sw_topI (y := nI 16) (by decide) ?_
          refine sw_isub dX8_feed_97 ?_
          refine sw_topI (y := nI 8) (by decide) ?_
          refine sw_ishr dX8_feed_98 ?_
          refine sw_i2b dX8_feed_99 ?_
          refine sx_bast (_) dX8_feed_100 a47 (rfl) (by omega) (by decide) ?_
          rw [pk_vb]
          refine sw_aloadn dX8_feed_101 rfl ?_
          refine sw_dup dX8_feed_102 rfl ?_
          refine sw_getI dX8_feed_103 fs_X8_104 o46 ?_
          rw [show (setI σ 47 n _).1 46 2 = nI n from hn]
          refine sx_iconst (v := nI 1) dX8_feed_106 (by decide) ?_
          refine sw_iadd dX8_feed_107 ?_
          refine sw_topI (nI_1 _) ?_
          refine sw_putI dX8_feed_108 fs_X8_104 o46 ?_
          refine sx_iinc (nI 11) dX8_feed_111 rfl (by decide) ?_
          refine sw_goto (tgt := 23) dX8_feed_114 (by decide) ?_
          exact h
      · exact absurd h44 (by decide)
    · exact absurd h33 (by decide)
theorem m_feed_s11 {f : Int32 → Mem → Prop} {n : Nat} {a b c x e : Int32} {o : Option Value} (hn : σ.1 46 2 = nI n) (hb : n < 600) (h : SW G d M_X8_feed 23 [some (.ref 46), some (.int a), some (.int b), some (.int c), some (.int x), some (.int e), some (.int (nI 12)), some (.int c)] [] (stM σ n (byM c 0)) (RI f)) : SW G d M_X8_feed 23 [some (.ref 46), some (.int a), some (.int b), some (.int c), some (.int x), some (.int e), some (.int (nI 11)), o] [] σ (RI f) := by
  refine sw_iload dX8_feed_23 rfl ?_
  refine sx_bipush (v := nI 20) dX8_feed_25 (by decide) ?_
  refine sw_icmp_ge (tgt := 117) dX8_feed_27 (by decide) (fun h27 => ?_) (fun h27 => ?_)
  · exact absurd h27 (by decide)
  · skip
    refine sw_iload dX8_feed_30 rfl ?_
    refine sx_iconst (v := nI 4) dX8_feed_32 (by decide) ?_
    refine sw_icmp_ge (tgt := 40) dX8_feed_33 (by decide) (fun h33 => ?_) (fun h33 => ?_)
    · skip
      refine sw_iload dX8_feed_40 rfl ?_
      refine sx_bipush (v := nI 8) dX8_feed_42 (by decide) ?_
      refine sw_icmp_ge (tgt := 51) dX8_feed_44 (by decide) (fun h44 => ?_) (fun h44 => ?_)
      · skip
        refine sw_iload dX8_feed_51 rfl ?_
        refine sx_bipush (v := nI 12) dX8_feed_53 (by decide) ?_
        refine sw_icmp_ge (tgt := 62) dX8_feed_55 (by decide) (fun h55 => ?_) (fun h55 => ?_)
        · exact absurd h55 (by decide)
        · skip
          refine sw_iloadn dX8_feed_58 rfl ?_
          refine sw_goto (tgt := 76) dX8_feed_59 (by decide) ?_
          refine sw_istore dX8_feed_76 (Nat.le_of_ble_eq_true rfl) ?_
          refine sw_aloadn dX8_feed_78 rfl ?_
          refine sw_getR dX8_feed_79 fs_X8_13 o46 r46_1 ?_
          refine sw_aloadn dX8_feed_82 rfl ?_
          refine sw_getI dX8_feed_83 fs_X8_104 o46 ?_
          rw [hn]
          refine sw_iload dX8_feed_86 rfl ?_
          refine sx_bipush (v := nI 24) dX8_feed_88 (by decide) ?_
          refine sx_bipush (v := nI 8) dX8_feed_90 (by decide) ?_
          refine sw_iload dX8_feed_92 rfl ?_
          refine sx_iconst (v := nI 4) dX8_feed_94 (by decide) ?_
          refine sw_irem dX8_feed_95 (by decide) ?_
          refine sw_topI (y := nI 3) (by decide) ?_
          refine sw_imul dX8_feed_96 ?_
          refine sw_topI (y := nI 24) (by decide) ?_
          refine sw_isub dX8_feed_97 ?_
          refine sw_topI (y := nI 0) (by decide) ?_
          refine sw_ishr dX8_feed_98 ?_
          refine sw_i2b dX8_feed_99 ?_
          refine sx_bast (_) dX8_feed_100 a47 (rfl) (by omega) (by decide) ?_
          rw [pk_vb]
          refine sw_aloadn dX8_feed_101 rfl ?_
          refine sw_dup dX8_feed_102 rfl ?_
          refine sw_getI dX8_feed_103 fs_X8_104 o46 ?_
          rw [show (setI σ 47 n _).1 46 2 = nI n from hn]
          refine sx_iconst (v := nI 1) dX8_feed_106 (by decide) ?_
          refine sw_iadd dX8_feed_107 ?_
          refine sw_topI (nI_1 _) ?_
          refine sw_putI dX8_feed_108 fs_X8_104 o46 ?_
          refine sx_iinc (nI 12) dX8_feed_111 rfl (by decide) ?_
          refine sw_goto (tgt := 23) dX8_feed_114 (by decide) ?_
          exact h
      · exact absurd h44 (by decide)
    · exact absurd h33 (by decide)
theorem m_feed_s12 {f : Int32 → Mem → Prop} {n : Nat} {a b c x e : Int32} {o : Option Value} (hn : σ.1 46 2 = nI n) (hb : n < 600) (h : SW G d M_X8_feed 23 [some (.ref 46), some (.int a), some (.int b), some (.int c), some (.int x), some (.int e), some (.int (nI 13)), some (.int x)] [] (stM σ n (byM x 24)) (RI f)) : SW G d M_X8_feed 23 [some (.ref 46), some (.int a), some (.int b), some (.int c), some (.int x), some (.int e), some (.int (nI 12)), o] [] σ (RI f) := by
  refine sw_iload dX8_feed_23 rfl ?_
  refine sx_bipush (v := nI 20) dX8_feed_25 (by decide) ?_
  refine sw_icmp_ge (tgt := 117) dX8_feed_27 (by decide) (fun h27 => ?_) (fun h27 => ?_)
  · exact absurd h27 (by decide)
  · skip
    refine sw_iload dX8_feed_30 rfl ?_
    refine sx_iconst (v := nI 4) dX8_feed_32 (by decide) ?_
    refine sw_icmp_ge (tgt := 40) dX8_feed_33 (by decide) (fun h33 => ?_) (fun h33 => ?_)
    · skip
      refine sw_iload dX8_feed_40 rfl ?_
      refine sx_bipush (v := nI 8) dX8_feed_42 (by decide) ?_
      refine sw_icmp_ge (tgt := 51) dX8_feed_44 (by decide) (fun h44 => ?_) (fun h44 => ?_)
      · skip
        refine sw_iload dX8_feed_51 rfl ?_
        refine sx_bipush (v := nI 12) dX8_feed_53 (by decide) ?_
        refine sw_icmp_ge (tgt := 62) dX8_feed_55 (by decide) (fun h55 => ?_) (fun h55 => ?_)
        · skip
          refine sw_iload dX8_feed_62 rfl ?_
          refine sx_bipush (v := nI 16) dX8_feed_64 (by decide) ?_
          refine sw_icmp_ge (tgt := 74) dX8_feed_66 (by decide) (fun h66 => ?_) (fun h66 => ?_)
          · exact absurd h66 (by decide)
          · skip
            refine sw_iload dX8_feed_69 rfl ?_
            refine sw_goto (tgt := 76) dX8_feed_71 (by decide) ?_
            refine sw_istore dX8_feed_76 (Nat.le_of_ble_eq_true rfl) ?_
            refine sw_aloadn dX8_feed_78 rfl ?_
            refine sw_getR dX8_feed_79 fs_X8_13 o46 r46_1 ?_
            refine sw_aloadn dX8_feed_82 rfl ?_
            refine sw_getI dX8_feed_83 fs_X8_104 o46 ?_
            rw [hn]
            refine sw_iload dX8_feed_86 rfl ?_
            refine sx_bipush (v := nI 24) dX8_feed_88 (by decide) ?_
            refine sx_bipush (v := nI 8) dX8_feed_90 (by decide) ?_
            refine sw_iload dX8_feed_92 rfl ?_
            refine sx_iconst (v := nI 4) dX8_feed_94 (by decide) ?_
            refine sw_irem dX8_feed_95 (by decide) ?_
            refine sw_topI (y := nI 0) (by decide) ?_
            refine sw_imul dX8_feed_96 ?_
            refine sw_topI (y := nI 0) (by decide) ?_
            refine sw_isub dX8_feed_97 ?_
            refine sw_topI (y := nI 24) (by decide) ?_
            refine sw_ishr dX8_feed_98 ?_
            refine sw_i2b dX8_feed_99 ?_
            refine sx_bast (_) dX8_feed_100 a47 (rfl) (by omega) (by decide) ?_
            rw [pk_vb]
            refine sw_aloadn dX8_feed_101 rfl ?_
            refine sw_dup dX8_feed_102 rfl ?_
            refine sw_getI dX8_feed_103 fs_X8_104 o46 ?_
            rw [show (setI σ 47 n _).1 46 2 = nI n from hn]
            refine sx_iconst (v := nI 1) dX8_feed_106 (by decide) ?_
            refine sw_iadd dX8_feed_107 ?_
            refine sw_topI (nI_1 _) ?_
            refine sw_putI dX8_feed_108 fs_X8_104 o46 ?_
            refine sx_iinc (nI 13) dX8_feed_111 rfl (by decide) ?_
            refine sw_goto (tgt := 23) dX8_feed_114 (by decide) ?_
            exact h
        · exact absurd h55 (by decide)
      · exact absurd h44 (by decide)
    · exact absurd h33 (by decide)
theorem m_feed_s13 {f : Int32 → Mem → Prop} {n : Nat} {a b c x e : Int32} {o : Option Value} (hn : σ.1 46 2 = nI n) (hb : n < 600) (h : SW G d M_X8_feed 23 [some (.ref 46), some (.int a), some (.int b), some (.int c), some (.int x), some (.int e), some (.int (nI 14)), some (.int x)] [] (stM σ n (byM x 16)) (RI f)) : SW G d M_X8_feed 23 [some (.ref 46), some (.int a), some (.int b), some (.int c), some (.int x), some (.int e), some (.int (nI 13)), o] [] σ (RI f) := by
  refine sw_iload dX8_feed_23 rfl ?_
  refine sx_bipush (v := nI 20) dX8_feed_25 (by decide) ?_
  refine sw_icmp_ge (tgt := 117) dX8_feed_27 (by decide) (fun h27 => ?_) (fun h27 => ?_)
  · exact absurd h27 (by decide)
  · skip
    refine sw_iload dX8_feed_30 rfl ?_
    refine sx_iconst (v := nI 4) dX8_feed_32 (by decide) ?_
    refine sw_icmp_ge (tgt := 40) dX8_feed_33 (by decide) (fun h33 => ?_) (fun h33 => ?_)
    · skip
      refine sw_iload dX8_feed_40 rfl ?_
      refine sx_bipush (v := nI 8) dX8_feed_42 (by decide) ?_
      refine sw_icmp_ge (tgt := 51) dX8_feed_44 (by decide) (fun h44 => ?_) (fun h44 => ?_)
      · skip
        refine sw_iload dX8_feed_51 rfl ?_
        refine sx_bipush (v := nI 12) dX8_feed_53 (by decide) ?_
        refine sw_icmp_ge (tgt := 62) dX8_feed_55 (by decide) (fun h55 => ?_) (fun h55 => ?_)
        · skip
          refine sw_iload dX8_feed_62 rfl ?_
          refine sx_bipush (v := nI 16) dX8_feed_64 (by decide) ?_
          refine sw_icmp_ge (tgt := 74) dX8_feed_66 (by decide) (fun h66 => ?_) (fun h66 => ?_)
          · exact absurd h66 (by decide)
          · skip
            refine sw_iload dX8_feed_69 rfl ?_
            refine sw_goto (tgt := 76) dX8_feed_71 (by decide) ?_
            refine sw_istore dX8_feed_76 (Nat.le_of_ble_eq_true rfl) ?_
            refine sw_aloadn dX8_feed_78 rfl ?_
            refine sw_getR dX8_feed_79 fs_X8_13 o46 r46_1 ?_
            refine sw_aloadn dX8_feed_82 rfl ?_
            refine sw_getI dX8_feed_83 fs_X8_104 o46 ?_
            rw [hn]
            refine sw_iload dX8_feed_86 rfl ?_
            refine sx_bipush (v := nI 24) dX8_feed_88 (by decide) ?_
            refine sx_bipush (v := nI 8) dX8_feed_90 (by decide) ?_
            refine sw_iload dX8_feed_92 rfl ?_
            refine sx_iconst (v := nI 4) dX8_feed_94 (by decide) ?_
            refine sw_irem dX8_feed_95 (by decide) ?_
            refine sw_topI (y := nI 1) (by decide) ?_
            refine sw_imul dX8_feed_96 ?_
            refine sw_topI (y := nI 8) (by decide) ?_
            refine sw_isub dX8_feed_97 ?_
            refine sw_topI (y := nI 16) (by decide) ?_
            refine sw_ishr dX8_feed_98 ?_
            refine sw_i2b dX8_feed_99 ?_
            refine sx_bast (_) dX8_feed_100 a47 (rfl) (by omega) (by decide) ?_
            rw [pk_vb]
            refine sw_aloadn dX8_feed_101 rfl ?_
            refine sw_dup dX8_feed_102 rfl ?_
            refine sw_getI dX8_feed_103 fs_X8_104 o46 ?_
            rw [show (setI σ 47 n _).1 46 2 = nI n from hn]
            refine sx_iconst (v := nI 1) dX8_feed_106 (by decide) ?_
            refine sw_iadd dX8_feed_107 ?_
            refine sw_topI (nI_1 _) ?_
            refine sw_putI dX8_feed_108 fs_X8_104 o46 ?_
            refine sx_iinc (nI 14) dX8_feed_111 rfl (by decide) ?_
            refine sw_goto (tgt := 23) dX8_feed_114 (by decide) ?_
            exact h
        · exact absurd h55 (by decide)
      · exact absurd h44 (by decide)
    · exact absurd h33 (by decide)
theorem m_feed_s14 {f : Int32 → Mem → Prop} {n : Nat} {a b c x e : Int32} {o : Option Value} (hn : σ.1 46 2 = nI n) (hb : n < 600) (h : SW G d M_X8_feed 23 [some (.ref 46), some (.int a), some (.int b), some (.int c), some (.int x), some (.int e), some (.int (nI 15)), some (.int x)] [] (stM σ n (byM x 8)) (RI f)) : SW G d M_X8_feed 23 [some (.ref 46), some (.int a), some (.int b), some (.int c), some (.int x), some (.int e), some (.int (nI 14)), o] [] σ (RI f) := by
  refine sw_iload dX8_feed_23 rfl ?_
  refine sx_bipush (v := nI 20) dX8_feed_25 (by decide) ?_
  refine sw_icmp_ge (tgt := 117) dX8_feed_27 (by decide) (fun h27 => ?_) (fun h27 => ?_)
  · exact absurd h27 (by decide)
  · skip
    refine sw_iload dX8_feed_30 rfl ?_
    refine sx_iconst (v := nI 4) dX8_feed_32 (by decide) ?_
    refine sw_icmp_ge (tgt := 40) dX8_feed_33 (by decide) (fun h33 => ?_) (fun h33 => ?_)
    · skip
      refine sw_iload dX8_feed_40 rfl ?_
      refine sx_bipush (v := nI 8) dX8_feed_42 (by decide) ?_
      refine sw_icmp_ge (tgt := 51) dX8_feed_44 (by decide) (fun h44 => ?_) (fun h44 => ?_)
      · skip
        refine sw_iload dX8_feed_51 rfl ?_
        refine sx_bipush (v := nI 12) dX8_feed_53 (by decide) ?_
        refine sw_icmp_ge (tgt := 62) dX8_feed_55 (by decide) (fun h55 => ?_) (fun h55 => ?_)
        · skip
          refine sw_iload dX8_feed_62 rfl ?_
          refine sx_bipush (v := nI 16) dX8_feed_64 (by decide) ?_
          refine sw_icmp_ge (tgt := 74) dX8_feed_66 (by decide) (fun h66 => ?_) (fun h66 => ?_)
          · exact absurd h66 (by decide)
          · skip
            refine sw_iload dX8_feed_69 rfl ?_
            refine sw_goto (tgt := 76) dX8_feed_71 (by decide) ?_
            refine sw_istore dX8_feed_76 (Nat.le_of_ble_eq_true rfl) ?_
            refine sw_aloadn dX8_feed_78 rfl ?_
            refine sw_getR dX8_feed_79 fs_X8_13 o46 r46_1 ?_
            refine sw_aloadn dX8_feed_82 rfl ?_
            refine sw_getI dX8_feed_83 fs_X8_104 o46 ?_
            rw [hn]
            refine sw_iload dX8_feed_86 rfl ?_
            refine sx_bipush (v := nI 24) dX8_feed_88 (by decide) ?_
            refine sx_bipush (v := nI 8) dX8_feed_90 (by decide) ?_
            refine sw_iload dX8_feed_92 rfl ?_
            refine sx_iconst (v := nI 4) dX8_feed_94 (by decide) ?_
            refine sw_irem dX8_feed_95 (by decide) ?_
            refine sw_topI (y := nI 2) (by decide) ?_
            refine sw_imul dX8_feed_96 ?_
            refine sw_topI (y := nI 16) (by decide) ?_
            refine sw_isub dX8_feed_97 ?_
            refine sw_topI (y := nI 8) (by decide) ?_
            refine sw_ishr dX8_feed_98 ?_
            refine sw_i2b dX8_feed_99 ?_
            refine sx_bast (_) dX8_feed_100 a47 (rfl) (by omega) (by decide) ?_
            rw [pk_vb]
            refine sw_aloadn dX8_feed_101 rfl ?_
            refine sw_dup dX8_feed_102 rfl ?_
            refine sw_getI dX8_feed_103 fs_X8_104 o46 ?_
            rw [show (setI σ 47 n _).1 46 2 = nI n from hn]
            refine sx_iconst (v := nI 1) dX8_feed_106 (by decide) ?_
            refine sw_iadd dX8_feed_107 ?_
            refine sw_topI (nI_1 _) ?_
            refine sw_putI dX8_feed_108 fs_X8_104 o46 ?_
            refine sx_iinc (nI 15) dX8_feed_111 rfl (by decide) ?_
            refine sw_goto (tgt := 23) dX8_feed_114 (by decide) ?_
            exact h
        · exact absurd h55 (by decide)
      · exact absurd h44 (by decide)
    · exact absurd h33 (by decide)
theorem m_feed_s15 {f : Int32 → Mem → Prop} {n : Nat} {a b c x e : Int32} {o : Option Value} (hn : σ.1 46 2 = nI n) (hb : n < 600) (h : SW G d M_X8_feed 23 [some (.ref 46), some (.int a), some (.int b), some (.int c), some (.int x), some (.int e), some (.int (nI 16)), some (.int x)] [] (stM σ n (byM x 0)) (RI f)) : SW G d M_X8_feed 23 [some (.ref 46), some (.int a), some (.int b), some (.int c), some (.int x), some (.int e), some (.int (nI 15)), o] [] σ (RI f) := by
  refine sw_iload dX8_feed_23 rfl ?_
  refine sx_bipush (v := nI 20) dX8_feed_25 (by decide) ?_
  refine sw_icmp_ge (tgt := 117) dX8_feed_27 (by decide) (fun h27 => ?_) (fun h27 => ?_)
  · exact absurd h27 (by decide)
  · skip
    refine sw_iload dX8_feed_30 rfl ?_
    refine sx_iconst (v := nI 4) dX8_feed_32 (by decide) ?_
    refine sw_icmp_ge (tgt := 40) dX8_feed_33 (by decide) (fun h33 => ?_) (fun h33 => ?_)
    · skip
      refine sw_iload dX8_feed_40 rfl ?_
      refine sx_bipush (v := nI 8) dX8_feed_42 (by decide) ?_
      refine sw_icmp_ge (tgt := 51) dX8_feed_44 (by decide) (fun h44 => ?_) (fun h44 => ?_)
      · skip
        refine sw_iload dX8_feed_51 rfl ?_
        refine sx_bipush (v := nI 12) dX8_feed_53 (by decide) ?_
        refine sw_icmp_ge (tgt := 62) dX8_feed_55 (by decide) (fun h55 => ?_) (fun h55 => ?_)
        · skip
          refine sw_iload dX8_feed_62 rfl ?_
          refine sx_bipush (v := nI 16) dX8_feed_64 (by decide) ?_
          refine sw_icmp_ge (tgt := 74) dX8_feed_66 (by decide) (fun h66 => ?_) (fun h66 => ?_)
          · exact absurd h66 (by decide)
          · skip
            refine sw_iload dX8_feed_69 rfl ?_
            refine sw_goto (tgt := 76) dX8_feed_71 (by decide) ?_
            refine sw_istore dX8_feed_76 (Nat.le_of_ble_eq_true rfl) ?_
            refine sw_aloadn dX8_feed_78 rfl ?_
            refine sw_getR dX8_feed_79 fs_X8_13 o46 r46_1 ?_
            refine sw_aloadn dX8_feed_82 rfl ?_
            refine sw_getI dX8_feed_83 fs_X8_104 o46 ?_
            rw [hn]
            refine sw_iload dX8_feed_86 rfl ?_
            refine sx_bipush (v := nI 24) dX8_feed_88 (by decide) ?_
            refine sx_bipush (v := nI 8) dX8_feed_90 (by decide) ?_
            refine sw_iload dX8_feed_92 rfl ?_
            refine sx_iconst (v := nI 4) dX8_feed_94 (by decide) ?_
            refine sw_irem dX8_feed_95 (by decide) ?_
            refine sw_topI (y := nI 3) (by decide) ?_
            refine sw_imul dX8_feed_96 ?_
            refine sw_topI (y := nI 24) (by decide) ?_
            refine sw_isub dX8_feed_97 ?_
            refine sw_topI (y := nI 0) (by decide) ?_
            refine sw_ishr dX8_feed_98 ?_
            refine sw_i2b dX8_feed_99 ?_
            refine sx_bast (_) dX8_feed_100 a47 (rfl) (by omega) (by decide) ?_
            rw [pk_vb]
            refine sw_aloadn dX8_feed_101 rfl ?_
            refine sw_dup dX8_feed_102 rfl ?_
            refine sw_getI dX8_feed_103 fs_X8_104 o46 ?_
            rw [show (setI σ 47 n _).1 46 2 = nI n from hn]
            refine sx_iconst (v := nI 1) dX8_feed_106 (by decide) ?_
            refine sw_iadd dX8_feed_107 ?_
            refine sw_topI (nI_1 _) ?_
            refine sw_putI dX8_feed_108 fs_X8_104 o46 ?_
            refine sx_iinc (nI 16) dX8_feed_111 rfl (by decide) ?_
            refine sw_goto (tgt := 23) dX8_feed_114 (by decide) ?_
            exact h
        · exact absurd h55 (by decide)
      · exact absurd h44 (by decide)
    · exact absurd h33 (by decide)
theorem m_feed_s16 {f : Int32 → Mem → Prop} {n : Nat} {a b c x e : Int32} {o : Option Value} (hn : σ.1 46 2 = nI n) (hb : n < 600) (h : SW G d M_X8_feed 23 [some (.ref 46), some (.int a), some (.int b), some (.int c), some (.int x), some (.int e), some (.int (nI 17)), some (.int e)] [] (stM σ n (byM e 24)) (RI f)) : SW G d M_X8_feed 23 [some (.ref 46), some (.int a), some (.int b), some (.int c), some (.int x), some (.int e), some (.int (nI 16)), o] [] σ (RI f) := by
  refine sw_iload dX8_feed_23 rfl ?_
  refine sx_bipush (v := nI 20) dX8_feed_25 (by decide) ?_
  refine sw_icmp_ge (tgt := 117) dX8_feed_27 (by decide) (fun h27 => ?_) (fun h27 => ?_)
  · exact absurd h27 (by decide)
  · skip
    refine sw_iload dX8_feed_30 rfl ?_
    refine sx_iconst (v := nI 4) dX8_feed_32 (by decide) ?_
    refine sw_icmp_ge (tgt := 40) dX8_feed_33 (by decide) (fun h33 => ?_) (fun h33 => ?_)
    · skip
      refine sw_iload dX8_feed_40 rfl ?_
      refine sx_bipush (v := nI 8) dX8_feed_42 (by decide) ?_
      refine sw_icmp_ge (tgt := 51) dX8_feed_44 (by decide) (fun h44 => ?_) (fun h44 => ?_)
      · skip
        refine sw_iload dX8_feed_51 rfl ?_
        refine sx_bipush (v := nI 12) dX8_feed_53 (by decide) ?_
        refine sw_icmp_ge (tgt := 62) dX8_feed_55 (by decide) (fun h55 => ?_) (fun h55 => ?_)
        · skip
          refine sw_iload dX8_feed_62 rfl ?_
          refine sx_bipush (v := nI 16) dX8_feed_64 (by decide) ?_
          refine sw_icmp_ge (tgt := 74) dX8_feed_66 (by decide) (fun h66 => ?_) (fun h66 => ?_)
          · skip
            refine sw_iload dX8_feed_74 rfl ?_
            refine sw_istore dX8_feed_76 (Nat.le_of_ble_eq_true rfl) ?_
            refine sw_aloadn dX8_feed_78 rfl ?_
            refine sw_getR dX8_feed_79 fs_X8_13 o46 r46_1 ?_
            refine sw_aloadn dX8_feed_82 rfl ?_
            refine sw_getI dX8_feed_83 fs_X8_104 o46 ?_
            rw [hn]
            refine sw_iload dX8_feed_86 rfl ?_
            refine sx_bipush (v := nI 24) dX8_feed_88 (by decide) ?_
            refine sx_bipush (v := nI 8) dX8_feed_90 (by decide) ?_
            refine sw_iload dX8_feed_92 rfl ?_
            refine sx_iconst (v := nI 4) dX8_feed_94 (by decide) ?_
            refine sw_irem dX8_feed_95 (by decide) ?_
            refine sw_topI (y := nI 0) (by decide) ?_
            refine sw_imul dX8_feed_96 ?_
            refine sw_topI (y := nI 0) (by decide) ?_
            refine sw_isub dX8_feed_97 ?_
            refine sw_topI (y := nI 24) (by decide) ?_
            refine sw_ishr dX8_feed_98 ?_
            refine sw_i2b dX8_feed_99 ?_
            refine sx_bast (_) dX8_feed_100 a47 (rfl) (by omega) (by decide) ?_
            rw [pk_vb]
            refine sw_aloadn dX8_feed_101 rfl ?_
            refine sw_dup dX8_feed_102 rfl ?_
            refine sw_getI dX8_feed_103 fs_X8_104 o46 ?_
            rw [show (setI σ 47 n _).1 46 2 = nI n from hn]
            refine sx_iconst (v := nI 1) dX8_feed_106 (by decide) ?_
            refine sw_iadd dX8_feed_107 ?_
            refine sw_topI (nI_1 _) ?_
            refine sw_putI dX8_feed_108 fs_X8_104 o46 ?_
            refine sx_iinc (nI 17) dX8_feed_111 rfl (by decide) ?_
            refine sw_goto (tgt := 23) dX8_feed_114 (by decide) ?_
            exact h
          · exact absurd h66 (by decide)
        · exact absurd h55 (by decide)
      · exact absurd h44 (by decide)
    · exact absurd h33 (by decide)
theorem m_feed_s17 {f : Int32 → Mem → Prop} {n : Nat} {a b c x e : Int32} {o : Option Value} (hn : σ.1 46 2 = nI n) (hb : n < 600) (h : SW G d M_X8_feed 23 [some (.ref 46), some (.int a), some (.int b), some (.int c), some (.int x), some (.int e), some (.int (nI 18)), some (.int e)] [] (stM σ n (byM e 16)) (RI f)) : SW G d M_X8_feed 23 [some (.ref 46), some (.int a), some (.int b), some (.int c), some (.int x), some (.int e), some (.int (nI 17)), o] [] σ (RI f) := by
  refine sw_iload dX8_feed_23 rfl ?_
  refine sx_bipush (v := nI 20) dX8_feed_25 (by decide) ?_
  refine sw_icmp_ge (tgt := 117) dX8_feed_27 (by decide) (fun h27 => ?_) (fun h27 => ?_)
  · exact absurd h27 (by decide)
  · skip
    refine sw_iload dX8_feed_30 rfl ?_
    refine sx_iconst (v := nI 4) dX8_feed_32 (by decide) ?_
    refine sw_icmp_ge (tgt := 40) dX8_feed_33 (by decide) (fun h33 => ?_) (fun h33 => ?_)
    · skip
      refine sw_iload dX8_feed_40 rfl ?_
      refine sx_bipush (v := nI 8) dX8_feed_42 (by decide) ?_
      refine sw_icmp_ge (tgt := 51) dX8_feed_44 (by decide) (fun h44 => ?_) (fun h44 => ?_)
      · skip
        refine sw_iload dX8_feed_51 rfl ?_
        refine sx_bipush (v := nI 12) dX8_feed_53 (by decide) ?_
        refine sw_icmp_ge (tgt := 62) dX8_feed_55 (by decide) (fun h55 => ?_) (fun h55 => ?_)
        · skip
          refine sw_iload dX8_feed_62 rfl ?_
          refine sx_bipush (v := nI 16) dX8_feed_64 (by decide) ?_
          refine sw_icmp_ge (tgt := 74) dX8_feed_66 (by decide) (fun h66 => ?_) (fun h66 => ?_)
          · skip
            refine sw_iload dX8_feed_74 rfl ?_
            refine sw_istore dX8_feed_76 (Nat.le_of_ble_eq_true rfl) ?_
            refine sw_aloadn dX8_feed_78 rfl ?_
            refine sw_getR dX8_feed_79 fs_X8_13 o46 r46_1 ?_
            refine sw_aloadn dX8_feed_82 rfl ?_
            refine sw_getI dX8_feed_83 fs_X8_104 o46 ?_
            rw [hn]
            refine sw_iload dX8_feed_86 rfl ?_
            refine sx_bipush (v := nI 24) dX8_feed_88 (by decide) ?_
            refine sx_bipush (v := nI 8) dX8_feed_90 (by decide) ?_
            refine sw_iload dX8_feed_92 rfl ?_
            refine sx_iconst (v := nI 4) dX8_feed_94 (by decide) ?_
            refine sw_irem dX8_feed_95 (by decide) ?_
            refine sw_topI (y := nI 1) (by decide) ?_
            refine sw_imul dX8_feed_96 ?_
            refine sw_topI (y := nI 8) (by decide) ?_
            refine sw_isub dX8_feed_97 ?_
            refine sw_topI (y := nI 16) (by decide) ?_
            refine sw_ishr dX8_feed_98 ?_
            refine sw_i2b dX8_feed_99 ?_
            refine sx_bast (_) dX8_feed_100 a47 (rfl) (by omega) (by decide) ?_
            rw [pk_vb]
            refine sw_aloadn dX8_feed_101 rfl ?_
            refine sw_dup dX8_feed_102 rfl ?_
            refine sw_getI dX8_feed_103 fs_X8_104 o46 ?_
            rw [show (setI σ 47 n _).1 46 2 = nI n from hn]
            refine sx_iconst (v := nI 1) dX8_feed_106 (by decide) ?_
            refine sw_iadd dX8_feed_107 ?_
            refine sw_topI (nI_1 _) ?_
            refine sw_putI dX8_feed_108 fs_X8_104 o46 ?_
            refine sx_iinc (nI 18) dX8_feed_111 rfl (by decide) ?_
            refine sw_goto (tgt := 23) dX8_feed_114 (by decide) ?_
            exact h
          · exact absurd h66 (by decide)
        · exact absurd h55 (by decide)
      · exact absurd h44 (by decide)
    · exact absurd h33 (by decide)
theorem m_feed_s18 {f : Int32 → Mem → Prop} {n : Nat} {a b c x e : Int32} {o : Option Value} (hn : σ.1 46 2 = nI n) (hb : n < 600) (h : SW G d M_X8_feed 23 [some (.ref 46), some (.int a), some (.int b), some (.int c), some (.int x), some (.int e), some (.int (nI 19)), some (.int e)] [] (stM σ n (byM e 8)) (RI f)) : SW G d M_X8_feed 23 [some (.ref 46), some (.int a), some (.int b), some (.int c), some (.int x), some (.int e), some (.int (nI 18)), o] [] σ (RI f) := by
  refine sw_iload dX8_feed_23 rfl ?_
  refine sx_bipush (v := nI 20) dX8_feed_25 (by decide) ?_
  refine sw_icmp_ge (tgt := 117) dX8_feed_27 (by decide) (fun h27 => ?_) (fun h27 => ?_)
  · exact absurd h27 (by decide)
  · skip
    refine sw_iload dX8_feed_30 rfl ?_
    refine sx_iconst (v := nI 4) dX8_feed_32 (by decide) ?_
    refine sw_icmp_ge (tgt := 40) dX8_feed_33 (by decide) (fun h33 => ?_) (fun h33 => ?_)
    · skip
      refine sw_iload dX8_feed_40 rfl ?_
      refine sx_bipush (v := nI 8) dX8_feed_42 (by decide) ?_
      refine sw_icmp_ge (tgt := 51) dX8_feed_44 (by decide) (fun h44 => ?_) (fun h44 => ?_)
      · skip
        refine sw_iload dX8_feed_51 rfl ?_
        refine sx_bipush (v := nI 12) dX8_feed_53 (by decide) ?_
        refine sw_icmp_ge (tgt := 62) dX8_feed_55 (by decide) (fun h55 => ?_) (fun h55 => ?_)
        · skip
          refine sw_iload dX8_feed_62 rfl ?_
          refine sx_bipush (v := nI 16) dX8_feed_64 (by decide) ?_
          refine sw_icmp_ge (tgt := 74) dX8_feed_66 (by decide) (fun h66 => ?_) (fun h66 => ?_)
          · skip
            refine sw_iload dX8_feed_74 rfl ?_
            refine sw_istore dX8_feed_76 (Nat.le_of_ble_eq_true rfl) ?_
            refine sw_aloadn dX8_feed_78 rfl ?_
            refine sw_getR dX8_feed_79 fs_X8_13 o46 r46_1 ?_
            refine sw_aloadn dX8_feed_82 rfl ?_
            refine sw_getI dX8_feed_83 fs_X8_104 o46 ?_
            rw [hn]
            refine sw_iload dX8_feed_86 rfl ?_
            refine sx_bipush (v := nI 24) dX8_feed_88 (by decide) ?_
            refine sx_bipush (v := nI 8) dX8_feed_90 (by decide) ?_
            refine sw_iload dX8_feed_92 rfl ?_
            refine sx_iconst (v := nI 4) dX8_feed_94 (by decide) ?_
            refine sw_irem dX8_feed_95 (by decide) ?_
            refine sw_topI (y := nI 2) (by decide) ?_
            refine sw_imul dX8_feed_96 ?_
            refine sw_topI (y := nI 16) (by decide) ?_
            refine sw_isub dX8_feed_97 ?_
            refine sw_topI (y := nI 8) (by decide) ?_
            refine sw_ishr dX8_feed_98 ?_
            refine sw_i2b dX8_feed_99 ?_
            refine sx_bast (_) dX8_feed_100 a47 (rfl) (by omega) (by decide) ?_
            rw [pk_vb]
            refine sw_aloadn dX8_feed_101 rfl ?_
            refine sw_dup dX8_feed_102 rfl ?_
            refine sw_getI dX8_feed_103 fs_X8_104 o46 ?_
            rw [show (setI σ 47 n _).1 46 2 = nI n from hn]
            refine sx_iconst (v := nI 1) dX8_feed_106 (by decide) ?_
            refine sw_iadd dX8_feed_107 ?_
            refine sw_topI (nI_1 _) ?_
            refine sw_putI dX8_feed_108 fs_X8_104 o46 ?_
            refine sx_iinc (nI 19) dX8_feed_111 rfl (by decide) ?_
            refine sw_goto (tgt := 23) dX8_feed_114 (by decide) ?_
            exact h
          · exact absurd h66 (by decide)
        · exact absurd h55 (by decide)
      · exact absurd h44 (by decide)
    · exact absurd h33 (by decide)
theorem m_feed_s19 {f : Int32 → Mem → Prop} {n : Nat} {a b c x e : Int32} {o : Option Value} (hn : σ.1 46 2 = nI n) (hb : n < 600) (h : SW G d M_X8_feed 23 [some (.ref 46), some (.int a), some (.int b), some (.int c), some (.int x), some (.int e), some (.int (nI 20)), some (.int e)] [] (stM σ n (byM e 0)) (RI f)) : SW G d M_X8_feed 23 [some (.ref 46), some (.int a), some (.int b), some (.int c), some (.int x), some (.int e), some (.int (nI 19)), o] [] σ (RI f) := by
  refine sw_iload dX8_feed_23 rfl ?_
  refine sx_bipush (v := nI 20) dX8_feed_25 (by decide) ?_
  refine sw_icmp_ge (tgt := 117) dX8_feed_27 (by decide) (fun h27 => ?_) (fun h27 => ?_)
  · exact absurd h27 (by decide)
  · skip
    refine sw_iload dX8_feed_30 rfl ?_
    refine sx_iconst (v := nI 4) dX8_feed_32 (by decide) ?_
    refine sw_icmp_ge (tgt := 40) dX8_feed_33 (by decide) (fun h33 => ?_) (fun h33 => ?_)
    · skip
      refine sw_iload dX8_feed_40 rfl ?_
      refine sx_bipush (v := nI 8) dX8_feed_42 (by decide) ?_
      refine sw_icmp_ge (tgt := 51) dX8_feed_44 (by decide) (fun h44 => ?_) (fun h44 => ?_)
      · skip
        refine sw_iload dX8_feed_51 rfl ?_
        refine sx_bipush (v := nI 12) dX8_feed_53 (by decide) ?_
        refine sw_icmp_ge (tgt := 62) dX8_feed_55 (by decide) (fun h55 => ?_) (fun h55 => ?_)
        · skip
          refine sw_iload dX8_feed_62 rfl ?_
          refine sx_bipush (v := nI 16) dX8_feed_64 (by decide) ?_
          refine sw_icmp_ge (tgt := 74) dX8_feed_66 (by decide) (fun h66 => ?_) (fun h66 => ?_)
          · skip
            refine sw_iload dX8_feed_74 rfl ?_
            refine sw_istore dX8_feed_76 (Nat.le_of_ble_eq_true rfl) ?_
            refine sw_aloadn dX8_feed_78 rfl ?_
            refine sw_getR dX8_feed_79 fs_X8_13 o46 r46_1 ?_
            refine sw_aloadn dX8_feed_82 rfl ?_
            refine sw_getI dX8_feed_83 fs_X8_104 o46 ?_
            rw [hn]
            refine sw_iload dX8_feed_86 rfl ?_
            refine sx_bipush (v := nI 24) dX8_feed_88 (by decide) ?_
            refine sx_bipush (v := nI 8) dX8_feed_90 (by decide) ?_
            refine sw_iload dX8_feed_92 rfl ?_
            refine sx_iconst (v := nI 4) dX8_feed_94 (by decide) ?_
            refine sw_irem dX8_feed_95 (by decide) ?_
            refine sw_topI (y := nI 3) (by decide) ?_
            refine sw_imul dX8_feed_96 ?_
            refine sw_topI (y := nI 24) (by decide) ?_
            refine sw_isub dX8_feed_97 ?_
            refine sw_topI (y := nI 0) (by decide) ?_
            refine sw_ishr dX8_feed_98 ?_
            refine sw_i2b dX8_feed_99 ?_
            refine sx_bast (_) dX8_feed_100 a47 (rfl) (by omega) (by decide) ?_
            rw [pk_vb]
            refine sw_aloadn dX8_feed_101 rfl ?_
            refine sw_dup dX8_feed_102 rfl ?_
            refine sw_getI dX8_feed_103 fs_X8_104 o46 ?_
            rw [show (setI σ 47 n _).1 46 2 = nI n from hn]
            refine sx_iconst (v := nI 1) dX8_feed_106 (by decide) ?_
            refine sw_iadd dX8_feed_107 ?_
            refine sw_topI (nI_1 _) ?_
            refine sw_putI dX8_feed_108 fs_X8_104 o46 ?_
            refine sx_iinc (nI 20) dX8_feed_111 rfl (by decide) ?_
            refine sw_goto (tgt := 23) dX8_feed_114 (by decide) ?_
            exact h
          · exact absurd h66 (by decide)
        · exact absurd h55 (by decide)
      · exact absurd h44 (by decide)
    · exact absurd h33 (by decide)
theorem stM_b (σ : Mem) (b : Nat) (v : Int32) : (stM σ b v).1 46 2 = nI (b + 1) := by rw [stM, setI_at, upd_same]
theorem m_feed {f : Int32 → Mem → Prop} {n : Nat} {a b c x e : Int32} (hn : σ.1 46 2 = nI n) (hb : n ≤ 600) (k1 : n + 20 ≤ 600 → f (nI (n + 20)) (feedM (th σ) n (by20 byM a b c x e))) (k0 : ¬ n + 20 ≤ 600 → f (-1) (th σ)) : SW G d M_X8_feed 0 [some (.ref 46), some (.int a), some (.int b), some (.int c), some (.int x), some (.int e), none, none] [] σ (RI f) := by
  have fin : n + 20 ≤ 600 → ∀ (τ : Mem) (o : Option Value), τ = feedM (th σ) n (by20 byM a b c x e) → τ.1 46 2 = nI (n + 20) → SW G d M_X8_feed 23 [some (.ref 46), some (.int a), some (.int b), some (.int c), some (.int x), some (.int e), some (.int (nI 20)), o] [] τ (RI f) := by
    intro hl τ o hτ hb
    refine sw_iload dX8_feed_23 rfl ?_
    refine sx_bipush (v := nI 20) dX8_feed_25 (by decide) ?_
    refine sw_icmp_ge (tgt := 117) dX8_feed_27 (by decide) (fun h27 => ?_) (fun h27 => ?_)
    · skip
      refine sw_aloadn dX8_feed_117 rfl ?_
      refine sw_getI dX8_feed_118 fs_X8_104 o46 ?_
      rw [hb]
      refine sx_reti dX8_feed_121 rfl ?_
      rw [hτ]
      exact k1 hl
    · exact absurd h27 (by decide)
  refine sw_aloadn dX8_feed_0 rfl ?_
  refine sx_iconst (v := nI 0) dX8_feed_1 (by decide) ?_
  refine sw_putI dX8_feed_2 fs_X8_1 o46 ?_
  refine sw_aloadn dX8_feed_5 rfl ?_
  refine sw_getI dX8_feed_6 fs_X8_104 o46 ?_
  rw [show (th σ).1 46 2 = nI n from hn]
  refine sx_bipush (v := nI 20) dX8_feed_9 (by decide) ?_
  refine sw_iadd dX8_feed_11 ?_
  refine sw_topI (y := nI (n + 20)) (nI_add n 20) ?_
  refine sx_sipush (v := nI 600) dX8_feed_12 (by decide) ?_
  refine sw_icmp_le (tgt := 20) dX8_feed_15 (by decide) (fun h15 => ?_) (fun h15 => ?_)
  · skip
    have hl : n + 20 ≤ 600 := (nI_le' (by omega) (by omega)).mp h15
    refine sx_iconst (v := nI 0) dX8_feed_20 (by decide) ?_
    refine sw_istore dX8_feed_21 (Nat.le_of_ble_eq_true rfl) ?_
    refine m_feed_s0 (o := none) (σ := th σ) hn (by omega) ?_
    refine m_feed_s1 (stM_b _ _ _) (by omega) ?_
    refine m_feed_s2 (stM_b _ _ _) (by omega) ?_
    refine m_feed_s3 (stM_b _ _ _) (by omega) ?_
    refine m_feed_s4 (stM_b _ _ _) (by omega) ?_
    refine m_feed_s5 (stM_b _ _ _) (by omega) ?_
    refine m_feed_s6 (stM_b _ _ _) (by omega) ?_
    refine m_feed_s7 (stM_b _ _ _) (by omega) ?_
    refine m_feed_s8 (stM_b _ _ _) (by omega) ?_
    refine m_feed_s9 (stM_b _ _ _) (by omega) ?_
    refine m_feed_s10 (stM_b _ _ _) (by omega) ?_
    refine m_feed_s11 (stM_b _ _ _) (by omega) ?_
    refine m_feed_s12 (stM_b _ _ _) (by omega) ?_
    refine m_feed_s13 (stM_b _ _ _) (by omega) ?_
    refine m_feed_s14 (stM_b _ _ _) (by omega) ?_
    refine m_feed_s15 (stM_b _ _ _) (by omega) ?_
    refine m_feed_s16 (stM_b _ _ _) (by omega) ?_
    refine m_feed_s17 (stM_b _ _ _) (by omega) ?_
    refine m_feed_s18 (stM_b _ _ _) (by omega) ?_
    refine m_feed_s19 (stM_b _ _ _) (by omega) ?_
    exact fin hl _ _ rfl (stM_b _ _ _)
  · skip
    refine sx_iconst (v := (-1)) dX8_feed_18 (by decide) ?_
    refine sx_reti dX8_feed_19 rfl ?_
    exact k0 (fun q => h15 ((nI_le' (by omega) (by omega)).mpr q))
end FEED
