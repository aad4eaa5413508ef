/-! ===== Walks: passes in order, sights, lookAt ===== -/
section LOOK2
variable {G : GG} {d : Nat} {σ : Mem}
theorem c_insertPass {f : Mem → Prop} {n k : Nat} {F : Nat → Nat} (hp : σ.1 35 2 = nI n) (hn : n < 12) (hk : k < 100) (hF : ∀ i, i < n → F i < 100) (ha : ∀ i, i < n → σ.1 36 i = nI (F i)) (h : ∀ τ, (∀ c, c ≠ 35 → c ≠ 36 → τ.1 c = σ.1 c ∧ τ.2 c = σ.2 c) → τ.1 35 2 = nI (n + 1) → τ.1 35 8 = σ.1 35 8 → (∀ i, i < n + 1 → τ.1 36 i = nI (inA (ltr (lgC σ) k) k n F i)) → f τ) : SW G d M_X6_insertPass 0 [some (.ref 35), some (.int (nI k)), none] [] σ (RV f) := by
  have loop : ∀ (a : Nat) (τ : Mem) (E : Nat → Nat), a ≤ n → (∀ c, c ≠ 36 → τ.1 c = σ.1 c ∧ τ.2 c = σ.2 c) → (∀ i, i < n + 1 → i ≠ a → E i < 100) → (∀ i, i < n + 1 → i ≠ a → τ.1 36 i = nI (E i)) → (∀ i, i < n + 1 → inA (ltr (lgC σ) k) k a E i = inA (ltr (lgC σ) k) k n F i) → SW G d M_X6_insertPass 15 [some (.ref 35), some (.int (nI k)), some (.int (nI a))] [] τ (RV f) := by
    intro a
    have c67 : ∀ (a : Nat) (τ : Mem) (E : Nat → Nat), a ≤ n → (∀ c, c ≠ 36 → τ.1 c = σ.1 c ∧ τ.2 c = σ.2 c) → (∀ i, i < n + 1 → i ≠ a → τ.1 36 i = nI (E i)) → (∀ i, i < n + 1 → (if i = a then k else E i) = inA (ltr (lgC σ) k) k n F i) → SW G d M_X6_insertPass 67 [some (.ref 35), some (.int (nI k)), some (.int (nI a))] [] τ (RV f) := by
      intro a τ E han hf hE hin
      refine sw_aloadn dX6_insertPass_67 rfl ?_
      refine sw_getR dX6_insertPass_68 fs_X6_9 o35 r35_3 ?_
      refine sw_iloadn dX6_insertPass_71 rfl ?_
      refine sw_iloadn dX6_insertPass_72 rfl ?_
      refine sx_iast (a) dX6_insertPass_73 a36 (rfl) (by omega) (by decide) ?_
      refine sw_aloadn dX6_insertPass_74 rfl ?_
      refine sw_dup dX6_insertPass_75 rfl ?_
      refine sw_getI dX6_insertPass_76 fs_X6_67 o35 ?_
      rw [show (setI τ 36 a (nI k)).1 35 2 = nI n from by rw [setI_ne _ _ _ (by decide), (hf 35 (by decide)).1]; exact hp]
      refine sx_iconst (v := nI 1) dX6_insertPass_79 (by decide) ?_
      refine sw_iadd dX6_insertPass_80 ?_
      refine sw_topI (y := nI (n + 1)) (nI_1 n) ?_
      refine sw_putI dX6_insertPass_81 fs_X6_67 o35 ?_
      refine sx_ret0 dX6_insertPass_84 rfl ?_
      refine h _ (fun c c1 c2 => ?_) ?_ ?_ (fun i hi => ?_)
      · exact ⟨by rw [setI_ne _ _ _ c1, setI_ne _ _ _ c2]; exact (hf c c2).1, (hf c c2).2⟩
      · rw [setI_at, upd_same]
      · rw [setI_at, upd_ne _ _ (by decide), setI_ne _ _ _ (by decide), (hf 35 (by decide)).1]
      · rw [setI_ne _ _ _ (by decide), setI_at, ← hin i hi]
        by_cases e : i = a
        · subst e; rw [upd_same, if_pos rfl]
        · rw [upd_ne _ _ e, if_neg e]; exact hE i hi e
    induction a with
    | zero =>
      intro τ E han hf hEb hE hin
      refine sw_iloadn dX6_insertPass_15 rfl ?_
      refine sw_if_le (tgt := 67) dX6_insertPass_16 (by decide) (fun h16 => ?_) (fun h16 => ?_)
      · skip
        exact c67 0 τ E han hf hE (fun i hi => by rw [← hin i hi]; rfl)
      · exact absurd ((by decide)) h16
    | succ a ih =>
      intro τ E han hf hEb hE hin
      have hEa := hE a (by omega) (by omega)
      have hba := hEb a (by omega) (by omega)
      have e21 := (hf 21 (by decide)).1
      refine sw_iloadn dX6_insertPass_15 rfl ?_
      refine sw_if_le (tgt := 67) dX6_insertPass_16 (by decide) (fun h16 => ?_) (fun h16 => ?_)
      · exact absurd h16 ((nI_nle (by omega) (by omega)))
      · skip
        refine sw_aloadn dX6_insertPass_19 rfl ?_
        refine sw_getR dX6_insertPass_20 fs_X6_51 o35 r35_1 ?_
        refine sw_getR dX6_insertPass_23 fs_X6_99 o17 r17_4 ?_
        refine sw_aloadn dX6_insertPass_26 rfl ?_
        refine sw_getR dX6_insertPass_27 fs_X6_9 o35 r35_3 ?_
        refine sw_iloadn dX6_insertPass_30 rfl ?_
        refine sx_iconst (v := nI 1) dX6_insertPass_31 (by decide) ?_
        refine sw_isub dX6_insertPass_32 ?_
        refine sw_topI (y := nI a) (nI_pred a) ?_
        refine sx_iald (a) dX6_insertPass_33 a36 (rfl) (by omega) (by decide) ?_
        rw [hEa]
        refine sx_iald (E a) dX6_insertPass_34 a21 (rfl) (by omega) (by decide) ?_
        refine sw_aloadn dX6_insertPass_35 rfl ?_
        refine sw_getR dX6_insertPass_36 fs_X6_51 o35 r35_1 ?_
        refine sw_getR dX6_insertPass_39 fs_X6_99 o17 r17_4 ?_
        refine sw_iloadn dX6_insertPass_42 rfl ?_
        refine sx_iald (k) dX6_insertPass_43 a21 (rfl) (by omega) (by decide) ?_
        rw [e21]
        refine sw_icmp_le (tgt := 67) dX6_insertPass_44 (by decide) (fun h44 => ?_) (fun h44 => ?_)
        · skip
          refine c67 (a + 1) τ E han hf hE (fun i hi => ?_)
          have hc : ltr (lgC σ) k (E a) = false := decide_eq_false (Int32.not_lt.mpr h44)
          rw [← hin i hi]
          simp only [inA, hc, Bool.false_eq_true, if_false]
        · skip
          refine sw_aloadn dX6_insertPass_47 rfl ?_
          refine sw_getR dX6_insertPass_48 fs_X6_9 o35 r35_3 ?_
          refine sw_iloadn dX6_insertPass_51 rfl ?_
          refine sw_aloadn dX6_insertPass_52 rfl ?_
          refine sw_getR dX6_insertPass_53 fs_X6_9 o35 r35_3 ?_
          refine sw_iloadn dX6_insertPass_56 rfl ?_
          refine sx_iconst (v := nI 1) dX6_insertPass_57 (by decide) ?_
          refine sw_isub dX6_insertPass_58 ?_
          refine sw_topI (y := nI a) (nI_pred a) ?_
          refine sx_iald (a) dX6_insertPass_59 a36 (rfl) (by omega) (by decide) ?_
          rw [hEa]
          refine sx_iast (a + 1) dX6_insertPass_60 a36 (rfl) (by omega) (by decide) ?_
          refine sx_iinc (nI a) dX6_insertPass_61 rfl (pk_m1 a) ?_
          refine sw_goto (tgt := 15) dX6_insertPass_64 (by decide) ?_
          refine ih _ (fun i => if i = a + 1 then E a else E i) (by omega) (fun c c1 => ?_) (fun i hi hne => ?_) (fun i hi hne => ?_) (fun i hi => ?_)
          · exact ⟨by rw [setI_ne _ _ _ c1]; exact (hf c c1).1, (hf c c1).2⟩
          · by_cases e : i = a + 1
            · simp only [e, if_true]; exact hba
            · simp only [e, if_false]; exact hEb i hi e
          · rw [setI_at]
            by_cases e : i = a + 1
            · subst e; rw [upd_same, if_pos rfl]
            · rw [upd_ne _ _ e, if_neg e]; exact hE i hi e
          · have hc : ltr (lgC σ) k (E a) = true := decide_eq_true (Int32.not_le.mp h44)
            rw [← hin i hi]
            simp only [inA, hc, if_true]
  refine sw_aloadn dX6_insertPass_0 rfl ?_
  refine sw_getI dX6_insertPass_1 fs_X6_67 o35 ?_
  rw [hp]
  refine sx_bipush (v := nI 12) dX6_insertPass_4 (by decide) ?_
  refine sw_icmp_lt (tgt := 10) dX6_insertPass_6 (by decide) (fun h6 => ?_) (fun h6 => ?_)
  · skip
    refine sw_aloadn dX6_insertPass_10 rfl ?_
    refine sw_getI dX6_insertPass_11 fs_X6_67 o35 ?_
    rw [hp]
    refine sw_istoren dX6_insertPass_14 (Nat.le_of_ble_eq_true rfl) ?_
    exact loop n σ F (Nat.le_refl _) (fun _ _ => ⟨rfl, rfl⟩) (fun i hi hne => hF i (by omega)) (fun i hi hne => ha i (by omega)) (fun _ _ => rfl)
  · exact absurd ((nI_lt (by omega) (by omega))) h6
theorem c_readPass {f : Mem → Prop} {P : PL} {nc n i k : Nat} (hP : PlC σ P) (hV : PV P) (hn : n ≤ 100) (hL : LV P nc n (lgC σ)) (hk : k < n) (h0 : σ.1 18 k = 0) (hi : i < 12) (ha : σ.1 36 i = nI k) (h : f (setI (setI (setI (setI σ 37 i (nI (lft P (lgC σ) k))) 38 i (nI (cmt P (lgC σ) k))) 39 i (nI (nv (lTK (lgC σ)) k) - nI (pE P (nv (lTG (lgC σ)) k)))) 40 i (nI (nv (lTK (lgC σ)) k) + nI (pE P (nv (lTG (lgC σ)) k))))) : SW G (d + 1) M_X6_readPass 0 [some (.ref 35), some (.int (nI i)), none, none] [] σ (RV f) := by
  obtain ⟨-, ⟨t1, t2⟩, ⟨t3, t4⟩, -⟩ := hL.pass hk h0
  have t1 : σ.1 20 k = nI (nv (lTG (lgC σ)) k) := t1
  have t3 : σ.1 21 k = nI (nv (lTK (lgC σ)) k) := t3
  have hD := hV.2.1
  have e8 := hP.2.2.2.2.2 _ t2
  have fin : ∀ (l c : Int32), l = nI (lft P (lgC σ) k) → c = nI (cmt P (lgC σ) k) → SW G (d + 1) M_X6_readPass 61 [some (.ref 35), some (.int (nI i)), some (.int (nI k)), some (.int (nI (nv (lTG (lgC σ)) k)))] [] (setI (setI σ 37 i l) 38 i c) (RV f) := by
    rintro l c rfl rfl
    refine sw_aloadn dX6_readPass_61 rfl ?_
    refine sw_getR dX6_readPass_62 fs_X6_21 o35 r35_6 ?_
    refine sw_iloadn dX6_readPass_65 rfl ?_
    refine sw_aloadn dX6_readPass_66 rfl ?_
    refine sw_getR dX6_readPass_67 fs_X6_51 o35 r35_1 ?_
    refine sw_getR dX6_readPass_70 fs_X6_99 o17 r17_4 ?_
    refine sw_iloadn dX6_readPass_73 rfl ?_
    refine sx_iald (k) dX6_readPass_74 a21 (rfl) (by omega) (by decide) ?_
    rw [show ∀ a b, (setI (setI σ 37 i a) 38 i b).1 21 k = nI (nv (lTK (lgC σ)) k) from fun _ _ => t3]
    refine sw_aloadn dX6_readPass_75 rfl ?_
    refine sw_getR dX6_readPass_76 fs_X6_47 o35 r35_0 ?_
    refine sw_getR dX6_readPass_79 fs_X6_118 o2 r2_7 ?_
    refine sw_iloadn dX6_readPass_82 rfl ?_
    refine sx_iald (nv (lTG (lgC σ)) k) dX6_readPass_83 a8 (rfl) (by omega) (by decide) ?_
    rw [show ∀ a b, (setI (setI σ 37 i a) 38 i b).1 8 (nv (lTG (lgC σ)) k) = nI (pE P (nv (lTG (lgC σ)) k)) from fun _ _ => e8]
    refine sw_isub dX6_readPass_84 ?_
    refine sx_iast (i) dX6_readPass_85 a39 (rfl) (by omega) (by decide) ?_
    refine sw_aloadn dX6_readPass_86 rfl ?_
    refine sw_getR dX6_readPass_87 fs_X6_24 o35 r35_7 ?_
    refine sw_iloadn dX6_readPass_90 rfl ?_
    refine sw_aloadn dX6_readPass_91 rfl ?_
    refine sw_getR dX6_readPass_92 fs_X6_51 o35 r35_1 ?_
    refine sw_getR dX6_readPass_95 fs_X6_99 o17 r17_4 ?_
    refine sw_iloadn dX6_readPass_98 rfl ?_
    refine sx_iald (k) dX6_readPass_99 a21 (rfl) (by omega) (by decide) ?_
    rw [show ∀ a b c, (setI (setI (setI σ 37 i a) 38 i b) 39 i c).1 21 k = nI (nv (lTK (lgC σ)) k) from fun _ _ _ => t3]
    refine sw_aloadn dX6_readPass_100 rfl ?_
    refine sw_getR dX6_readPass_101 fs_X6_47 o35 r35_0 ?_
    refine sw_getR dX6_readPass_104 fs_X6_118 o2 r2_7 ?_
    refine sw_iloadn dX6_readPass_107 rfl ?_
    refine sx_iald (nv (lTG (lgC σ)) k) dX6_readPass_108 a8 (rfl) (by omega) (by decide) ?_
    rw [show ∀ a b c, (setI (setI (setI σ 37 i a) 38 i b) 39 i c).1 8 (nv (lTG (lgC σ)) k) = nI (pE P (nv (lTG (lgC σ)) k)) from fun _ _ _ => e8]
    refine sw_iadd dX6_readPass_109 ?_
    refine sx_iast (i) dX6_readPass_110 a40 (rfl) (by omega) (by decide) ?_
    refine sx_ret0 dX6_readPass_111 rfl ?_
    exact h
  refine sw_aloadn dX6_readPass_0 rfl ?_
  refine sw_getR dX6_readPass_1 fs_X6_9 o35 r35_3 ?_
  refine sw_iloadn dX6_readPass_4 rfl ?_
  refine sx_iald (i) dX6_readPass_5 a36 (rfl) (by omega) (by decide) ?_
  rw [ha]
  refine sw_istoren dX6_readPass_6 (Nat.le_of_ble_eq_true rfl) ?_
  refine sw_aloadn dX6_readPass_7 rfl ?_
  refine sw_getR dX6_readPass_8 fs_X6_51 o35 r35_1 ?_
  refine sw_getR dX6_readPass_11 fs_X6_96 o17 r17_3 ?_
  refine sw_iloadn dX6_readPass_14 rfl ?_
  refine sx_iald (k) dX6_readPass_15 a20 (rfl) (by omega) (by decide) ?_
  rw [t1]
  refine sw_istoren dX6_readPass_16 (Nat.le_of_ble_eq_true rfl) ?_
  refine sw_aloadn dX6_readPass_17 rfl ?_
  refine sw_getR dX6_readPass_18 fs_X6_15 o35 r35_4 ?_
  refine sw_iloadn dX6_readPass_21 rfl ?_
  refine sw_aloadn dX6_readPass_22 rfl ?_
  refine sw_getR dX6_readPass_23 fs_X6_47 o35 r35_0 ?_
  refine sw_iloadn dX6_readPass_26 rfl ?_
  refine sw_aloadn dX6_readPass_27 rfl ?_
  refine sw_getR dX6_readPass_28 fs_X6_51 o35 r35_1 ?_
  refine sw_iloadn dX6_readPass_31 rfl ?_
  refine sx_invI1 dX6_readPass_32 mk_X2_isBack vk_X2_isBack lk_X6_130 o17 (Nat.le_of_ble_eq_true rfl) (Nat.le_of_ble_eq_true rfl) ?_
  refine c_X2_isBack (by omega) (fun h32 => ?_) (fun h32 => ?_)
  · skip
    refine sx_invI2 dX6_readPass_35 mk_X3_roomLeft vk_X3_roomLeft lk_X6_134 o2 (Nat.le_of_ble_eq_true rfl) (Nat.le_of_ble_eq_true rfl) ?_
    refine c_X3_roomLeft hP hV t2 ?_
    refine sx_iast (i) dX6_readPass_38 a37 (rfl) (by omega) (by decide) ?_
    refine sw_aloadn dX6_readPass_39 rfl ?_
    refine sw_getR dX6_readPass_40 fs_X6_18 o35 r35_5 ?_
    refine sw_iloadn dX6_readPass_43 rfl ?_
    refine sw_aloadn dX6_readPass_44 rfl ?_
    refine sw_getR dX6_readPass_45 fs_X6_47 o35 r35_0 ?_
    refine sw_iloadn dX6_readPass_48 rfl ?_
    refine sw_aloadn dX6_readPass_49 rfl ?_
    refine sw_getR dX6_readPass_50 fs_X6_51 o35 r35_1 ?_
    refine sw_iloadn dX6_readPass_53 rfl ?_
    refine sx_invI1 dX6_readPass_54 mk_X2_isBack vk_X2_isBack lk_X6_130 o17 (Nat.le_of_ble_eq_true rfl) (Nat.le_of_ble_eq_true rfl) ?_
    refine c_X2_isBack (σ := setI σ 37 i _) (by omega) (fun h54 => ?_) (fun h54 => ?_)
    · skip
      refine sx_invI2 dX6_readPass_57 mk_X3_roomComeTo vk_X3_roomComeTo lk_X6_138 o2 (Nat.le_of_ble_eq_true rfl) (Nat.le_of_ble_eq_true rfl) ?_
      refine c_X3_roomComeTo (σ := setI σ 37 i _) hP hV t2 ?_
      refine sx_iast (i) dX6_readPass_60 a38 (rfl) (by omega) (by decide) ?_
      first
        | exact fin _ _ (by rw [lft, if_pos (show lMO (lgC σ) k = nI 1 from h32)]; rfl) (by rw [cmt, if_pos (show lMO (lgC σ) k = nI 1 from h32)]; rfl)
        | exact fin _ _ (by rw [lft, if_neg (show ¬ lMO (lgC σ) k = nI 1 from h32)]; rfl) (by rw [cmt, if_neg (show ¬ lMO (lgC σ) k = nI 1 from h32)]; rfl)
        | exact absurd h32 h54
        | exact absurd h54 h32
    · skip
      refine sx_invI2 dX6_readPass_57 mk_X3_roomComeTo vk_X3_roomComeTo lk_X6_138 o2 (Nat.le_of_ble_eq_true rfl) (Nat.le_of_ble_eq_true rfl) ?_
      refine c_X3_roomComeTo (σ := setI σ 37 i _) hP hV t2 ?_
      refine sx_iast (i) dX6_readPass_60 a38 (rfl) (by omega) (by decide) ?_
      first
        | exact fin _ _ (by rw [lft, if_pos (show lMO (lgC σ) k = nI 1 from h32)]; rfl) (by rw [cmt, if_pos (show lMO (lgC σ) k = nI 1 from h32)]; rfl)
        | exact fin _ _ (by rw [lft, if_neg (show ¬ lMO (lgC σ) k = nI 1 from h32)]; rfl) (by rw [cmt, if_neg (show ¬ lMO (lgC σ) k = nI 1 from h32)]; rfl)
        | exact absurd h32 h54
        | exact absurd h54 h32
  · skip
    refine sx_invI2 dX6_readPass_35 mk_X3_roomLeft vk_X3_roomLeft lk_X6_134 o2 (Nat.le_of_ble_eq_true rfl) (Nat.le_of_ble_eq_true rfl) ?_
    refine c_X3_roomLeft hP hV t2 ?_
    refine sx_iast (i) dX6_readPass_38 a37 (rfl) (by omega) (by decide) ?_
    refine sw_aloadn dX6_readPass_39 rfl ?_
    refine sw_getR dX6_readPass_40 fs_X6_18 o35 r35_5 ?_
    refine sw_iloadn dX6_readPass_43 rfl ?_
    refine sw_aloadn dX6_readPass_44 rfl ?_
    refine sw_getR dX6_readPass_45 fs_X6_47 o35 r35_0 ?_
    refine sw_iloadn dX6_readPass_48 rfl ?_
    refine sw_aloadn dX6_readPass_49 rfl ?_
    refine sw_getR dX6_readPass_50 fs_X6_51 o35 r35_1 ?_
    refine sw_iloadn dX6_readPass_53 rfl ?_
    refine sx_invI1 dX6_readPass_54 mk_X2_isBack vk_X2_isBack lk_X6_130 o17 (Nat.le_of_ble_eq_true rfl) (Nat.le_of_ble_eq_true rfl) ?_
    refine c_X2_isBack (σ := setI σ 37 i _) (by omega) (fun h54 => ?_) (fun h54 => ?_)
    · skip
      refine sx_invI2 dX6_readPass_57 mk_X3_roomComeTo vk_X3_roomComeTo lk_X6_138 o2 (Nat.le_of_ble_eq_true rfl) (Nat.le_of_ble_eq_true rfl) ?_
      refine c_X3_roomComeTo (σ := setI σ 37 i _) hP hV t2 ?_
      refine sx_iast (i) dX6_readPass_60 a38 (rfl) (by omega) (by decide) ?_
      first
        | exact fin _ _ (by rw [lft, if_pos (show lMO (lgC σ) k = nI 1 from h32)]; rfl) (by rw [cmt, if_pos (show lMO (lgC σ) k = nI 1 from h32)]; rfl)
        | exact fin _ _ (by rw [lft, if_neg (show ¬ lMO (lgC σ) k = nI 1 from h32)]; rfl) (by rw [cmt, if_neg (show ¬ lMO (lgC σ) k = nI 1 from h32)]; rfl)
        | exact absurd h32 h54
        | exact absurd h54 h32
    · skip
      refine sx_invI2 dX6_readPass_57 mk_X3_roomComeTo vk_X3_roomComeTo lk_X6_138 o2 (Nat.le_of_ble_eq_true rfl) (Nat.le_of_ble_eq_true rfl) ?_
      refine c_X3_roomComeTo (σ := setI σ 37 i _) hP hV t2 ?_
      refine sx_iast (i) dX6_readPass_60 a38 (rfl) (by omega) (by decide) ?_
      first
        | exact fin _ _ (by rw [lft, if_pos (show lMO (lgC σ) k = nI 1 from h32)]; rfl) (by rw [cmt, if_pos (show lMO (lgC σ) k = nI 1 from h32)]; rfl)
        | exact fin _ _ (by rw [lft, if_neg (show ¬ lMO (lgC σ) k = nI 1 from h32)]; rfl) (by rw [cmt, if_neg (show ¬ lMO (lgC σ) k = nI 1 from h32)]; rfl)
        | exact absurd h32 h54
        | exact absurd h54 h32
theorem row_room {rm room a : Nat} (hr : rm < 8) (hq : room < 8) (ha : a ≤ 4) : pb (4311810305 <<< ((nI room).toInt64 &&& 63)) rm a = true ↔ rm = room := by
  unfold pb
  rw [mb_shl _ (by omega), mb_row]
  simp only [Bool.and_eq_true, Bool.not_eq_true', decide_eq_true_iff, decide_eq_false_iff_not]
  omega
theorem c_demand {f : Mem → Prop} {t room : Nat} {S : Nat → Nat → Prop} (ht : t < 200) (hr : room < 8) (hS : celH (σ.2 42 t) S) (h : ∀ z, celH z (fun rm a => S rm a ∧ rm = room) → f (setJ σ 42 t z)) : SW G d M_X6_demand 0 [some (.ref 35), some (.int (nI room)), some (.int (nI t))] [] σ (RV f) := by
  refine sw_aloadn dX6_demand_0 rfl ?_
  refine sw_getR dX6_demand_1 fs_X6_34 o35 r35_10 ?_
  refine sw_iloadn dX6_demand_4 rfl ?_
  refine sw_dup2 dX6_demand_5 rfl rfl ?_
  refine sx_lald (t) dX6_demand_6 a42 (rfl) (by omega) (by decide) ?_
  refine sw_ldc2 dX6_demand_7 kl_X6_106 ?_
  refine sw_iloadn dX6_demand_10 rfl ?_
  refine sw_lshl dX6_demand_11 ?_
  refine sw_land dX6_demand_12 ?_
  refine sx_last (t) dX6_demand_13 a42 (rfl) (by omega) (by decide) ?_
  refine sx_ret0 dX6_demand_14 rfl ?_
  refine h _ ⟨fun rm a hrm ha => ?_, fun i hi => ?_⟩
  · have e : pb (σ.2 42 t &&& (4311810305 <<< ((nI room).toInt64 &&& 63))) rm a = (pb (σ.2 42 t) rm a && pb (4311810305 <<< ((nI room).toInt64 &&& 63)) rm a) := mb_and _ _ _
    rw [e, Bool.and_eq_true, hS.1 rm a hrm ha, row_room hrm hr ha]
  · rw [mb_and, hS.2 i hi]; rfl
/-- seen holds the sights s -/
def SNs (τ : Mem) (s : Nat → Nat → Prop) : Prop := ∀ t, t < 200 → celH (τ.2 42 t) (fun rm _ => s t rm)
theorem c_addSights {f : Mem → Prop} {P : PL} {nc n m : Nat} {y : Int32} (hV : PV P) (hm : m ≤ n) (hn : n ≤ 100) (hL : LV P nc n (lgC σ)) (h0 : SNs σ (fun _ _ => True)) (h : ∀ τ, fr 42 42 σ τ → SNs τ (skn (lgC σ) y m) → f τ) : SW G (d + 1) M_X6_addSights 0 [some (.ref 35), some (.int y), some (.int (nI m)), none] [] σ (RV f) := by
  have h8 := hV.1
  have loop : ∀ (q k : Nat), q = m - k → k ≤ m → ∀ τ, fr 42 42 σ τ → SNs τ (skn (lgC σ) y k) → SW G (d + 1) M_X6_addSights 2 [some (.ref 35), some (.int y), some (.int (nI m)), some (.int (nI k))] [] τ (RV f) := by
    intro q
    induction q with
    | zero =>
      intro k hq hk τ hf hs
      obtain rfl : k = m := by omega
      refine sw_iloadn dX6_addSights_2 rfl ?_
      refine sw_iloadn dX6_addSights_3 rfl ?_
      refine sw_icmp_ge (tgt := 61) dX6_addSights_4 (by decide) (fun h4 => ?_) (fun h4 => ?_)
      · skip
        refine sx_ret0 dX6_addSights_61 rfl ?_
        exact h τ hf hs
      · exact absurd ((nI_le (Nat.le_refl _) (by omega))) h4
    | succ q ih =>
      intro k hq hk τ hf hs
      have e18 := (hf 18 (by omega)).1
      have e19 := (hf 19 (by omega)).1
      have e20 := (hf 20 (by omega)).1
      have e21 := (hf 21 (by omega)).1
      have skip : ¬ (lKD (lgC σ) k = nI 2 ∧ lCA (lgC σ) k = y) → SW G (d + 1) M_X6_addSights 2 [some (.ref 35), some (.int y), some (.int (nI m)), some (.int (nI (k + 1)))] [] τ (RV f) := fun hno => ih (k + 1) (by omega) (by omega) τ hf (fun t ht => celH_congr (hs t ht) (fun rm a _ _ => ⟨fun z k' hk' b1 b2 b3 => by
        rcases Nat.lt_succ_iff_lt_or_eq.mp hk' with e | rfl
        · exact z k' e b1 b2 b3
        · exact absurd ⟨b1, b2⟩ hno, fun z k' hk' => z k' (by omega)⟩))
      refine sw_iloadn dX6_addSights_2 rfl ?_
      refine sw_iloadn dX6_addSights_3 rfl ?_
      refine sw_icmp_ge (tgt := 61) dX6_addSights_4 (by decide) (fun h4 => ?_) (fun h4 => ?_)
      · exact absurd h4 ((by rw [nI_le' (by omega) (by omega)]; omega))
      · skip
        refine sw_aloadn dX6_addSights_7 rfl ?_
        refine sw_getR dX6_addSights_8 fs_X6_51 o35 r35_1 ?_
        refine sw_getR dX6_addSights_11 fs_X6_90 o17 r17_1 ?_
        refine sw_iloadn dX6_addSights_14 rfl ?_
        refine sx_iald (k) dX6_addSights_15 a18 (rfl) (by omega) (by decide) ?_
        rw [e18]
        refine sx_iconst (v := nI 2) dX6_addSights_16 (by decide) ?_
        refine sw_icmp_ne (tgt := 55) dX6_addSights_17 (by decide) (fun h17 => ?_) (fun h17 => ?_)
        · skip
          refine sx_iinc (nI (k + 1)) dX6_addSights_55 rfl (nI_inc _) ?_
          refine sw_goto (tgt := 2) dX6_addSights_58 (by decide) ?_
          first
            | exact skip (fun z => h17 z.1)
            | exact skip (fun z => h30 z.2)
            | (refine ih (k + 1) (by omega) (by omega) _ (fr_J hf (by omega)) (fun t ht => ?_)
               by_cases e : t = nv (lTK (lgC σ)) k
               · subst e
                 rw [setJ_at, updL_same]
                 refine celH_congr hz (fun rm a _ _ => ⟨fun b k' hk' b1 b2 b3 => ?_, fun b => ⟨fun k' hk' => b k' (by omega), (b k (by omega) hgk h30 rfl).symm⟩⟩)
                 rcases Nat.lt_succ_iff_lt_or_eq.mp hk' with e | rfl
                 · exact b.1 k' e b1 b2 b3
                 · exact b.2.symm
               · rw [setJ_at, updL_ne _ _ e]
                 refine celH_congr (hs t ht) (fun rm a _ _ => ⟨fun b k' hk' b1 b2 b3 => ?_, fun b k' hk' => b k' (by omega)⟩)
                 rcases Nat.lt_succ_iff_lt_or_eq.mp hk' with e' | rfl
                 · exact b k' e' b1 b2 b3
                 · exact absurd b3.symm e)
        · skip
          refine sw_aloadn dX6_addSights_20 rfl ?_
          refine sw_getR dX6_addSights_21 fs_X6_51 o35 r35_1 ?_
          refine sw_getR dX6_addSights_24 fs_X6_93 o17 r17_2 ?_
          refine sw_iloadn dX6_addSights_27 rfl ?_
          refine sx_iald (k) dX6_addSights_28 a19 (rfl) (by omega) (by decide) ?_
          rw [e19]
          refine sw_iloadn dX6_addSights_29 rfl ?_
          refine sw_icmp_ne (tgt := 55) dX6_addSights_30 (by decide) (fun h30 => ?_) (fun h30 => ?_)
          · skip
            refine sx_iinc (nI (k + 1)) dX6_addSights_55 rfl (nI_inc _) ?_
            refine sw_goto (tgt := 2) dX6_addSights_58 (by decide) ?_
            first
              | exact skip (fun z => h17 z.1)
              | exact skip (fun z => h30 z.2)
              | (refine ih (k + 1) (by omega) (by omega) _ (fr_J hf (by omega)) (fun t ht => ?_)
                 by_cases e : t = nv (lTK (lgC σ)) k
                 · subst e
                   rw [setJ_at, updL_same]
                   refine celH_congr hz (fun rm a _ _ => ⟨fun b k' hk' b1 b2 b3 => ?_, fun b => ⟨fun k' hk' => b k' (by omega), (b k (by omega) hgk h30 rfl).symm⟩⟩)
                   rcases Nat.lt_succ_iff_lt_or_eq.mp hk' with e | rfl
                   · exact b.1 k' e b1 b2 b3
                   · exact b.2.symm
                 · rw [setJ_at, updL_ne _ _ e]
                   refine celH_congr (hs t ht) (fun rm a _ _ => ⟨fun b k' hk' b1 b2 b3 => ?_, fun b k' hk' => b k' (by omega)⟩)
                   rcases Nat.lt_succ_iff_lt_or_eq.mp hk' with e' | rfl
                   · exact b k' e' b1 b2 b3
                   · exact absurd b3.symm e)
          · skip
            have hgk : lKD (lgC σ) k = nI 2 := h17
            have hrow : okv (lTG (lgC σ)) (pR P) k ∧ okv (lTK (lgC σ)) 200 k := by
              rcases hL k (by omega) with z | z | z
              · rw [z.1] at hgk; exact absurd hgk (by decide)
              · rw [z.1] at hgk; exact absurd hgk (by decide)
              · exact ⟨z.2.2.1, z.2.2.2.1⟩
            have r1 : σ.1 20 k = nI (nv (lTG (lgC σ)) k) := hrow.1.1
            have r2 : σ.1 21 k = nI (nv (lTK (lgC σ)) k) := hrow.2.1
            have r4 := hrow.1.2
            have r5 := hrow.2.2
            refine sw_aloadn dX6_addSights_33 rfl ?_
            refine sw_aloadn dX6_addSights_34 rfl ?_
            refine sw_getR dX6_addSights_35 fs_X6_51 o35 r35_1 ?_
            refine sw_getR dX6_addSights_38 fs_X6_96 o17 r17_3 ?_
            refine sw_iloadn dX6_addSights_41 rfl ?_
            refine sx_iald (k) dX6_addSights_42 a20 (rfl) (by omega) (by decide) ?_
            rw [e20, r1]
            refine sw_aloadn dX6_addSights_43 rfl ?_
            refine sw_getR dX6_addSights_44 fs_X6_51 o35 r35_1 ?_
            refine sw_getR dX6_addSights_47 fs_X6_99 o17 r17_4 ?_
            refine sw_iloadn dX6_addSights_50 rfl ?_
            refine sx_iald (k) dX6_addSights_51 a21 (rfl) (by omega) (by decide) ?_
            rw [e21, r2]
            refine sx_invV2 dX6_addSights_52 mk_X6_demand vk_X6_demand lk_X6_102 o35 (Nat.le_of_ble_eq_true rfl) (Nat.le_of_ble_eq_true rfl) ?_
            refine c_demand r5 (by omega) (hs _ r5) (fun z hz => ?_)
            refine sx_iinc (nI (k + 1)) dX6_addSights_55 rfl (nI_inc _) ?_
            refine sw_goto (tgt := 2) dX6_addSights_58 (by decide) ?_
            first
              | exact skip (fun z => h17 z.1)
              | exact skip (fun z => h30 z.2)
              | (refine ih (k + 1) (by omega) (by omega) _ (fr_J hf (by omega)) (fun t ht => ?_)
                 by_cases e : t = nv (lTK (lgC σ)) k
                 · subst e
                   rw [setJ_at, updL_same]
                   refine celH_congr hz (fun rm a _ _ => ⟨fun b k' hk' b1 b2 b3 => ?_, fun b => ⟨fun k' hk' => b k' (by omega), (b k (by omega) hgk h30 rfl).symm⟩⟩)
                   rcases Nat.lt_succ_iff_lt_or_eq.mp hk' with e | rfl
                   · exact b.1 k' e b1 b2 b3
                   · exact b.2.symm
                 · rw [setJ_at, updL_ne _ _ e]
                   refine celH_congr (hs t ht) (fun rm a _ _ => ⟨fun b k' hk' b1 b2 b3 => ?_, fun b k' hk' => b k' (by omega)⟩)
                   rcases Nat.lt_succ_iff_lt_or_eq.mp hk' with e' | rfl
                   · exact b k' e' b1 b2 b3
                   · exact absurd b3.symm e)
  refine sx_iconst (v := nI 0) dX6_addSights_0 (by decide) ?_
  refine sw_istoren dX6_addSights_1 (Nat.le_of_ble_eq_true rfl) ?_
  exact loop m 0 (by omega) (by omega) σ fr_rf (fun t ht => celH_congr (h0 t ht) (fun rm a _ _ => ⟨fun _ k hk => absurd hk (by omega), fun _ => trivial⟩))
end LOOK2
