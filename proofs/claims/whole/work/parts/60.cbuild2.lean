section CBUILD2
variable {G : GG} {d : Nat} {σ : Mem} {T : Nat → Int32} {N : Nat}
theorem cpy_lo {f g : Nat → Int32} {n k : Nat} (h : k < n) : va_cpy f g 0 0 n k = f k := by
  unfold va_cpy
  rw [if_pos ⟨Nat.zero_le _, by omega⟩]
  congr 1
  omega
theorem c_X3_copyFrom {f : Mem → Prop} {D : DR} (hD : GD T N D) (hd : CDr T N D σ) (h : ∀ τ, (∀ c, c ≠ 2 → c ≠ 4 → c ≠ 6 → c ≠ 7 → c ≠ 8 → τ.1 c = σ.1 c) → τ.2 = σ.2 → PlC τ D.1 → f τ) : SW G (d + 1) M_X3_copyFrom 0 [some (.ref 2), some (.ref 9)] [] σ (RV f) := by
  obtain ⟨u1, u2, u3, u4, u5, u6, u7, u8⟩ := hd
  have p1 := hD.1.1
  have p2 := hD.1.2.1
  refine sw_aloadn dX3_copyFrom_0 rfl ?_
  refine sw_aloadn dX3_copyFrom_1 rfl ?_
  refine sw_getI dX3_copyFrom_2 fs_X3_31 o9 ?_
  refine sw_putI dX3_copyFrom_5 fs_X3_31 o2 ?_
  refine sw_aloadn dX3_copyFrom_8 rfl ?_
  refine sw_aloadn dX3_copyFrom_9 rfl ?_
  refine sw_getI dX3_copyFrom_10 fs_X3_35 o9 ?_
  refine sw_putI dX3_copyFrom_13 fs_X3_35 o2 ?_
  refine sw_aloadn dX3_copyFrom_16 rfl ?_
  refine sw_getR dX3_copyFrom_17 fs_X3_15 o9 r9_3 ?_
  refine sx_iconst (v := nI 0) dX3_copyFrom_20 (by decide) ?_
  refine sw_aloadn dX3_copyFrom_21 rfl ?_
  refine sw_getR dX3_copyFrom_22 fs_X3_15 o2 r2_3 ?_
  refine sx_iconst (v := nI 0) dX3_copyFrom_25 (by decide) ?_
  refine sx_bipush (v := nI 8) dX3_copyFrom_26 (by decide) ?_
  refine sw_copy dX3_copyFrom_28 lm_X3_38 a11 a4 (by decide) (by decide) (by decide) (Nat.le_of_ble_eq_true rfl) ?_
  refine sw_aloadn dX3_copyFrom_31 rfl ?_
  refine sw_getR dX3_copyFrom_32 fs_X3_22 o9 r9_5 ?_
  refine sx_iconst (v := nI 0) dX3_copyFrom_35 (by decide) ?_
  refine sw_aloadn dX3_copyFrom_36 rfl ?_
  refine sw_getR dX3_copyFrom_37 fs_X3_22 o2 r2_5 ?_
  refine sx_iconst (v := nI 0) dX3_copyFrom_40 (by decide) ?_
  refine sx_bipush (v := nI 10) dX3_copyFrom_41 (by decide) ?_
  refine sw_copy dX3_copyFrom_43 lm_X3_38 a13 a6 (by decide) (by decide) (by decide) (Nat.le_of_ble_eq_true rfl) ?_
  refine sw_aloadn dX3_copyFrom_46 rfl ?_
  refine sw_getR dX3_copyFrom_47 fs_X3_25 o9 r9_6 ?_
  refine sx_iconst (v := nI 0) dX3_copyFrom_50 (by decide) ?_
  refine sw_aloadn dX3_copyFrom_51 rfl ?_
  refine sw_getR dX3_copyFrom_52 fs_X3_25 o2 r2_6 ?_
  refine sx_iconst (v := nI 0) dX3_copyFrom_55 (by decide) ?_
  refine sx_bipush (v := nI 10) dX3_copyFrom_56 (by decide) ?_
  refine sw_copy dX3_copyFrom_58 lm_X3_38 a14 a7 (by decide) (by decide) (by decide) (Nat.le_of_ble_eq_true rfl) ?_
  refine sw_aloadn dX3_copyFrom_61 rfl ?_
  refine sw_getR dX3_copyFrom_62 fs_X3_28 o9 r9_7 ?_
  refine sx_iconst (v := nI 0) dX3_copyFrom_65 (by decide) ?_
  refine sw_aloadn dX3_copyFrom_66 rfl ?_
  refine sw_getR dX3_copyFrom_67 fs_X3_28 o2 r2_7 ?_
  refine sx_iconst (v := nI 0) dX3_copyFrom_70 (by decide) ?_
  refine sx_bipush (v := nI 10) dX3_copyFrom_71 (by decide) ?_
  refine sw_copy dX3_copyFrom_73 lm_X3_38 a15 a8 (by decide) (by decide) (by decide) (Nat.le_of_ble_eq_true rfl) ?_
  refine sx_ret0 dX3_copyFrom_76 rfl ?_
  refine h _ (fun c h2 h4 h6 h7 h8 => ?_) rfl ⟨u1, u2, fun k hk => ?_, fun k hk => ?_, fun k hk => ?_, fun k hk => ?_⟩
  · rw [setA_ne _ _ h8, setA_ne _ _ h7, setA_ne _ _ h6, setA_ne _ _ h4, setI_ne _ _ _ h2, setI_ne _ _ _ h2]
  · exact (cpy_lo (by omega)).trans (u4 k hk)
  · exact (cpy_lo (by omega)).trans (u6 k hk)
  · exact (cpy_lo (by omega)).trans (u7 k hk)
  · exact (cpy_lo (by omega)).trans (u8 k hk)
theorem c_X1_forget' {f : Mem → Prop} {P : PL} (hP : PlC σ P) (hV : PV P) (h : ∀ τ, (∀ c, (c < 31 ∨ 45 < c) → τ.1 c = σ.1 c ∧ τ.2 c = σ.2 c) → (∀ g, CI τ P g 0) → f τ) : SW G (d + 1) M_X1_forget 0 [some (.ref 31)] [] σ (RV f) :=
  c_X1_forget hP hV (fun τ hf h8 hE h32 h31 => h τ (fun c hc => hf c (by omega) (by omega) (by omega) (by omega)) (fun g => ⟨Or.inl h8, hE, fun c hc => Or.inl (h32 c hc), Or.inl h31⟩))
theorem c_X2_clear {f : Mem → Prop} (h : f (setI σ 17 0 (nI 0))) : SW G d M_X2_clear 0 [some (.ref 17)] [] σ (RV f) := by
  refine sw_aloadn dX2_clear_0 rfl ?_
  refine sx_iconst (v := nI 0) dX2_clear_1 (by decide) ?_
  refine sw_putI dX2_clear_2 fs_X2_27 o17 ?_
  refine sx_ret0 dX2_clear_5 rfl ?_
  exact h
theorem c_X4_clear {f : Mem → Prop} (h : f (setI σ 23 0 (nI 0))) : SW G d M_X4_clear 0 [some (.ref 23)] [] σ (RV f) := by
  refine sw_aloadn dX4_clear_0 rfl ?_
  refine sx_iconst (v := nI 0) dX4_clear_1 (by decide) ?_
  refine sw_putI dX4_clear_2 fs_X4_28 o23 ?_
  refine sx_ret0 dX4_clear_5 rfl ?_
  exact h
noncomputable abbrev PRS (T : Nat → Int32) (N : Nat) : (Nat × Nat) × DR := prs T N 601 D0 (rE isBl T N 0)
theorem PRS_ok (hb : N ≤ 600) : ((PRS T N).1.1 = 0 → GD T N (PRS T N).2 ∧ 2 ≤ pR (PRS T N).2.1) ∧ (PRS T N).1.1 ≤ 6 := prs_GD 601 GD_0 (rE_N (by omega)) (by omega)
theorem c_readInto {f : Int32 → Mem → Prop} {R : (Nat × Nat) × DR} (hR : PRS T N = R) (hT : σ.1 1 = T) (hb : N ≤ 600) (h : ∀ τ, frD σ τ → FC τ R.1 → (R.1.1 = 0 → CDr T N R.2 τ) → f (nI R.1.1) τ) : SW G (d + 5) M_X5_readInto 0 [some (.ref 16), some (.ref 9), some (.int (nI N)), none] [] σ (RI f) := by
  subst hR
  exact c_X5_readInto hT hb h
theorem c_X7_building {f : Int32 → Mem → Prop} (hT : σ.1 1 = T) (hN : σ.1 0 1 = nI N) (hb : N ≤ 600)
    (k1 : ¬ (PRS T N).1.1 = 0 → ∀ τ, (∀ c, (c = 0 → False) → (c < 9 ∨ 16 < c) → τ.1 c = σ.1 c ∧ τ.2 c = σ.2 c) → (∀ k, k ≠ 1 → k ≠ 2 → τ.1 0 k = σ.1 0 k) → τ.1 0 1 = nI 0 → τ.1 0 2 = nI (PRS T N).1.2 → f (-1 - nI (PRS T N).1.1) τ)
    (k0 : (PRS T N).1.1 = 0 → ∀ τ, (∀ c, (c = 1 ∨ (18 ≤ c ∧ c ≤ 22) ∨ (24 ≤ c ∧ c ≤ 30) ∨ 45 < c) → τ.1 c = σ.1 c ∧ τ.2 c = σ.2 c) → τ.1 0 1 = nI 0 → τ.1 0 2 = -1 → τ.1 0 3 = nI 0 → τ.1 17 0 = nI 0 → τ.1 23 0 = nI 0 → PlC τ (PRS T N).2.1 → (∀ g, CI τ (PRS T N).2.1 g 0) → f (nI (pR (PRS T N).2.1)) τ) : SW G (d + 6) M_X7_building 0 [some (.ref 0), none] [] σ (RI f) := by
  obtain ⟨hG, h6⟩ := PRS_ok (T := T) hb
  generalize hR : PRS T N = R at hG h6 k1 k0
  refine sw_aloadn dX7_building_0 rfl ?_
  refine sw_getR dX7_building_1 fs_X7_32 o0 r0_6 ?_
  refine sw_aloadn dX7_building_4 rfl ?_
  refine sw_getR dX7_building_5 fs_X7_24 o0 r0_5 ?_
  refine sw_aloadn dX7_building_8 rfl ?_
  refine sw_getI dX7_building_9 fs_X7_71 o0 ?_
  rw [hN]
  refine sx_invI2 dX7_building_12 mk_X5_readInto vk_X5_readInto lk_X7_78 o16 (Nat.le_of_ble_eq_true rfl) (Nat.le_of_ble_eq_true rfl) ?_
  refine c_readInto (T := T) (N := N) hR hT hb (fun τ hf hF hc => ?_)
  refine sw_istoren dX7_building_15 (Nat.le_of_ble_eq_true rfl) ?_
  refine sw_aloadn dX7_building_16 rfl ?_
  refine sx_iconst (v := nI 0) dX7_building_17 (by decide) ?_
  refine sw_putI dX7_building_18 fs_X7_71 o0 ?_
  refine sw_iloadn dX7_building_21 rfl ?_
  refine sw_if_eq (tgt := 40) dX7_building_22 (by decide) (fun h22 => ?_) (fun h22 => ?_)
  · skip
    have hz : R.1.1 = 0 := nI_inj (by omega) (by omega) h22
    have hG := hG hz
    have hc := hc hz
    refine sw_aloadn dX7_building_40 rfl ?_
    refine sx_iconst (v := (-1)) dX7_building_41 (by decide) ?_
    refine sw_putI dX7_building_42 fs_X7_13 o0 ?_
    refine sw_aloadn dX7_building_45 rfl ?_
    refine sw_getR dX7_building_46 fs_X7_20 o0 r0_4 ?_
    refine sw_aloadn dX7_building_49 rfl ?_
    refine sw_getR dX7_building_50 fs_X7_24 o0 r0_5 ?_
    refine sx_invV1 dX7_building_53 mk_X3_copyFrom vk_X3_copyFrom lk_X7_83 o2 (Nat.le_of_ble_eq_true rfl) (Nat.le_of_ble_eq_true rfl) ?_
    refine c_X3_copyFrom (D := R.2) hG.1 hc (fun τ1 f1 e1 q1 => ?_)
    refine sw_aloadn dX7_building_56 rfl ?_
    refine sx_iconst (v := nI 0) dX7_building_57 (by decide) ?_
    refine sw_putI dX7_building_58 fs_X7_87 o0 ?_
    refine sw_aloadn dX7_building_61 rfl ?_
    refine sw_getR dX7_building_62 fs_X7_39 o0 r0_7 ?_
    refine sx_invV0 dX7_building_65 mk_X2_clear vk_X2_clear lk_X7_90 o17 (Nat.le_of_ble_eq_true rfl) (Nat.le_of_ble_eq_true rfl) ?_
    refine c_X2_clear ?_
    refine sw_aloadn dX7_building_68 rfl ?_
    refine sw_getR dX7_building_69 fs_X7_46 o0 r0_8 ?_
    refine sx_invV0 dX7_building_72 mk_X4_clear vk_X4_clear lk_X7_93 o23 (Nat.le_of_ble_eq_true rfl) (Nat.le_of_ble_eq_true rfl) ?_
    refine c_X4_clear ?_
    refine sw_aloadn dX7_building_75 rfl ?_
    refine sw_getR dX7_building_76 fs_X7_67 o0 r0_10 ?_
    refine sx_invV0 dX7_building_79 mk_X1_forget vk_X1_forget lk_X7_94 o31 (Nat.le_of_ble_eq_true rfl) (Nat.le_of_ble_eq_true rfl) ?_
    refine c_X1_forget' (P := R.2.1) q1 hG.1.1 (fun τ2 f2 q2 => ?_)
    refine sw_aloadn dX7_building_82 rfl ?_
    refine sw_getR dX7_building_83 fs_X7_20 o0 r0_4 ?_
    refine sw_getI dX7_building_86 fs_X7_97 o2 ?_
    rw [show τ2.1 2 0 = nI (pR R.2.1) from (congrFun (f2 2 (by omega)).1 0).trans q1.1]
    refine sx_reti dX7_building_89 rfl ?_
    refine k0 hz _ (fun c hc' => ?_) ?_ ?_ ?_ ?_ ?_ ?_ q2
    · refine ⟨(f2 c (by omega)).1.trans ?_, (f2 c (by omega)).2.trans ?_⟩
      · rw [setI_ne _ _ _ (by omega), setI_ne _ _ _ (by omega), setI_ne _ _ _ (by omega), f1 c (by omega) (by omega) (by omega) (by omega) (by omega), setI_ne _ _ _ (by omega), setI_ne _ _ _ (by omega)]
        exact hf.1 c (by omega)
      · show τ1.2 c = σ.2 c
        rw [e1]
        exact hf.2 c (by omega)
    · rw [(f2 0 (by omega)).1, setI_ne _ _ _ (by omega), setI_ne _ _ _ (by omega), setI_at, upd_ne _ _ (by omega), f1 0 (by omega) (by omega) (by omega) (by omega) (by omega)]
      rfl
    · rw [(f2 0 (by omega)).1, setI_ne _ _ _ (by omega), setI_ne _ _ _ (by omega), setI_at, upd_ne _ _ (by omega), f1 0 (by omega) (by omega) (by omega) (by omega) (by omega)]
      rfl
    · rw [(f2 0 (by omega)).1, setI_ne _ _ _ (by omega), setI_ne _ _ _ (by omega), setI_at, upd_same]
    · rw [(f2 17 (by omega)).1, setI_ne _ _ _ (by omega), setI_at, upd_same]
    · rw [(f2 23 (by omega)).1, setI_at, upd_same]
    · unfold PlC
      rw [(f2 2 (by omega)).1, (f2 4 (by omega)).1, (f2 6 (by omega)).1, (f2 7 (by omega)).1, (f2 8 (by omega)).1]
      exact q1
  · skip
    have hz : ¬ R.1.1 = 0 := fun q => h22 (congrArg nI q)
    refine sw_aloadn dX7_building_25 rfl ?_
    refine sw_aloadn dX7_building_26 rfl ?_
    refine sw_getR dX7_building_27 fs_X7_32 o0 r0_6 ?_
    refine sw_getI dX7_building_30 fs_X7_82 o16 ?_
    rw [show (setI τ 0 1 (nI 0)).1 16 8 = nI R.1.2 from hF.2.2 hz]
    refine sw_putI dX7_building_33 fs_X7_13 o0 ?_
    refine sx_iconst (v := (-1)) dX7_building_36 (by decide) ?_
    refine sw_iloadn dX7_building_37 rfl ?_
    refine sw_isub dX7_building_38 ?_
    refine sx_reti dX7_building_39 rfl ?_
    refine k1 hz _ (fun c h0 hc' => ⟨?_, hf.2 c hc'⟩) (fun k h1' h2' => ?_) rfl rfl
    · rw [setI_ne _ _ _ (fun q => h0 q), setI_ne _ _ _ (fun q => h0 q)]; exact hf.1 c hc'
    · rw [setI_at, upd_ne _ _ h2', setI_at, upd_ne _ _ h1']; exact congrFun (hf.1 0 (by omega)) k
end CBUILD2
