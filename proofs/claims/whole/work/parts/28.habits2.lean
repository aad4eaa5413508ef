/-! ===== the earliest of each day; days; pairs ===== -/
def dy (g : LG) (k : Nat) : Nat := nv (lTK g) k / 25
theorem dy_lt {g : LG} {k : Nat} (h : okv (lTK g) 200 k) : dy g k < 8 := by
  have := h.2
  unfold dy
  omega
def eqv (P : PL) (g : LG) (k j : Nat) : Prop := pas g (lCA g k) j ∧ lft P g j = 0
noncomputable def ear (P : PL) (g : LG) (k day : Nat) : Nat → Int32
  | 0 => -1
  | j + 1 => @ite Int32 (eqv P g k j ∧ dy g j = day ∧ (ear P g k day j = -1 ∨ lTK g j < ear P g k day j)) (Classical.propDecidable _) (lTK g j) (ear P g k day j)
theorem ear_pos {P : PL} {g : LG} {k day j : Nat} (h : eqv P g k j ∧ dy g j = day ∧ (ear P g k day j = -1 ∨ lTK g j < ear P g k day j)) : ear P g k day (j + 1) = lTK g j := by
  rw [ear, if_pos h]
theorem ear_neg {P : PL} {g : LG} {k day j : Nat} (h : ¬ (eqv P g k j ∧ dy g j = day ∧ (ear P g k day j = -1 ∨ lTK g j < ear P g k day j))) : ear P g k day (j + 1) = ear P g k day j := by
  rw [ear, if_neg h]
def remI (x : Int32) : Int32 := x - x / nI 25 * nI 25
noncomputable def ahd (P : PL) (g : LG) (k : Nat) (day : Nat) : Bool := decide (¬ ear P g k day k = -1)
noncomputable def lat (P : PL) (g : LG) (k : Nat) (day : Nat) : Bool := decide (¬ ear P g k day k = -1 ∧ ¬ remI (ear P g k day k) < remI (lTK g k))
section HABITS2
variable {G : GG} {d : Nat} {σ : Mem}
theorem c_X0_findEarliest {f : Mem → Prop} {P : PL} (hP : PlC σ P) (hV : PV P) {nc n k : Nat} (hs : σ.1 17 0 = nI n) (hn : n ≤ 100) (hk : k < n) (hL : LV P nc n (lgC σ)) (h : ∀ g8, (∀ dd, dd < 8 → g8 dd = ear P (lgC σ) k dd k) → f (setA σ 30 g8)) : SW G (d + 3) M_X0_findEarliest 0 [some (.ref 29), some (.int (nI k)), none, none] [] σ (RV f) := by
  have loop : ∀ (m j : Nat), m = k - j → j ≤ k → ∀ (g8 : Nat → Int32) (o : Option Value), (∀ dd, dd < 8 → g8 dd = ear P (lgC σ) k dd j) → SW G (d + 3) M_X0_findEarliest 10 [some (.ref 29), some (.int (nI k)), some (.int (nI j)), o] [] (setA σ 30 g8) (RV f) := by
    intro m
    induction m with
    | zero =>
      intro j hm hj g8 o hg
      obtain rfl : j = k := by omega
      refine sw_iloadn dX0_findEarliest_10 rfl ?_
      refine sw_iloadn dX0_findEarliest_11 rfl ?_
      refine sw_icmp_ge (tgt := 98) dX0_findEarliest_12 (by decide) (fun h12 => ?_) (fun h12 => ?_)
      · skip
        refine sx_ret0 dX0_findEarliest_98 rfl ?_
        exact h g8 hg
      · exact absurd ((nI_le (Nat.le_refl _) (by omega))) h12
    | succ m ih =>
      intro j hm hj g8 o hg
      have skip : ∀ o, (∀ dd, dd < 8 → ¬ (eqv P (lgC σ) k j ∧ dy (lgC σ) j = dd ∧ (ear P (lgC σ) k dd j = -1 ∨ lTK (lgC σ) j < ear P (lgC σ) k dd j))) → SW G (d + 3) M_X0_findEarliest 10 [some (.ref 29), some (.int (nI k)), some (.int (nI (j + 1))), o] [] (setA σ 30 g8) (RV f) := fun o q => ih (j + 1) (by omega) (by omega) g8 o (fun dd hd => by rw [ear_neg (q dd hd)]; exact hg dd hd)
      refine sw_iloadn dX0_findEarliest_10 rfl ?_
      refine sw_iloadn dX0_findEarliest_11 rfl ?_
      refine sw_icmp_ge (tgt := 98) dX0_findEarliest_12 (by decide) (fun h12 => ?_) (fun h12 => ?_)
      · exact absurd h12 ((by rw [nI_le' (by omega) (by omega)]; omega))
      · skip
        refine sw_aloadn dX0_findEarliest_15 rfl ?_
        refine sw_getR dX0_findEarliest_16 fs_X0_19 o29 r29_1 ?_
        refine sw_iloadn dX0_findEarliest_19 rfl ?_
        refine sw_aloadn dX0_findEarliest_20 rfl ?_
        refine sw_getR dX0_findEarliest_21 fs_X0_19 o29 r29_1 ?_
        refine sw_getR dX0_findEarliest_24 fs_X0_44 o17 r17_2 ?_
        refine sw_iloadn dX0_findEarliest_27 rfl ?_
        refine sx_iald (k) dX0_findEarliest_28 a19 (rfl) (by omega) (by decide) ?_
        refine sx_invI2 dX0_findEarliest_29 mk_X2_isPassOf vk_X2_isPassOf lk_X0_47 o17 (Nat.le_of_ble_eq_true rfl) (Nat.le_of_ble_eq_true rfl) ?_
        refine c_X2_isPassOf (σ := setA σ 30 g8) hs hn (show j < n by omega) (fun h29 => ?_) (fun h29 => ?_)
        · skip
          refine sw_if_eq (tgt := 92) dX0_findEarliest_32 (by decide) (fun h32 => ?_) (fun h32 => ?_)
          · exact absurd h32 (by decide)
          · skip
            refine sw_aloadn dX0_findEarliest_35 rfl ?_
            refine sw_iloadn dX0_findEarliest_36 rfl ?_
            refine sx_invI1 dX0_findEarliest_37 mk_X0_isFromOutside vk_X0_isFromOutside lk_X0_67 o29 (Nat.le_of_ble_eq_true rfl) (Nat.le_of_ble_eq_true rfl) ?_
            refine c_X0_isFromOutside (σ := setA σ 30 g8) hP hV hn (show j < n by omega) hL h29.1 (fun h37 => ?_) (fun h37 => ?_)
            · skip
              refine sw_if_eq (tgt := 92) dX0_findEarliest_40 (by decide) (fun h40 => ?_) (fun h40 => ?_)
              · exact absurd h40 (by decide)
              · skip
                have hp := hL.pass (show j < n by omega) h29.1
                have h8 : dy (lgC σ) j < 8 := dy_lt hp.2.2.1
                have hgd := hg _ h8
                refine sw_aloadn dX0_findEarliest_43 rfl ?_
                refine sw_iloadn dX0_findEarliest_44 rfl ?_
                refine sx_invI1 dX0_findEarliest_45 mk_X0_dayOf vk_X0_dayOf lk_X0_55 o29 (Nat.le_of_ble_eq_true rfl) (Nat.le_of_ble_eq_true rfl) ?_
                refine c_X0_dayOf (σ := setA σ 30 g8) (nv (lTK (lgC σ)) j) (dy (lgC σ) j) rfl (by omega) hp.2.2.1.1 hp.2.2.1.2 ?_
                refine sw_istoren dX0_findEarliest_48 (Nat.le_of_ble_eq_true rfl) ?_
                refine sw_aloadn dX0_findEarliest_49 rfl ?_
                refine sw_getR dX0_findEarliest_50 fs_X0_9 o29 r29_2 ?_
                refine sw_iloadn dX0_findEarliest_53 rfl ?_
                refine sx_iald (dy (lgC σ) j) dX0_findEarliest_54 a30 (rfl) (by omega) (by decide) ?_
                refine sx_iconst (v := (-1)) dX0_findEarliest_55 (by decide) ?_
                refine sw_icmp_eq (tgt := 77) dX0_findEarliest_56 (by decide) (fun h56 => ?_) (fun h56 => ?_)
                · skip
                  refine sw_aloadn dX0_findEarliest_77 rfl ?_
                  refine sw_getR dX0_findEarliest_78 fs_X0_9 o29 r29_2 ?_
                  refine sw_iloadn dX0_findEarliest_81 rfl ?_
                  refine sw_aloadn dX0_findEarliest_82 rfl ?_
                  refine sw_getR dX0_findEarliest_83 fs_X0_19 o29 r29_1 ?_
                  refine sw_getR dX0_findEarliest_86 fs_X0_58 o17 r17_4 ?_
                  refine sw_iloadn dX0_findEarliest_89 rfl ?_
                  refine sx_iald (j) dX0_findEarliest_90 a21 (rfl) (by omega) (by decide) ?_
                  refine sx_iast (dy (lgC σ) j) dX0_findEarliest_91 a30 (rfl) (by omega) (by decide) ?_
                  rw [setI_setA, setA_setA, setA_at]
                  refine sx_iinc (nI (j + 1)) dX0_findEarliest_92 rfl (nI_inc _) ?_
                  refine sw_goto (tgt := 10) dX0_findEarliest_95 (by decide) ?_
                  first
                    | exact skip _ (fun dd _ q => h29 q.1.1)
                    | exact skip _ (fun dd _ q => h37 q.1.2)
                    | (refine skip _ (fun dd _ q => ?_)
                       obtain ⟨q1, rfl, q3⟩ := q
                       have h56 : ¬ g8 (dy (lgC σ) j) = -1 := h56
                       have h74 : g8 (dy (lgC σ) j) ≤ lTK (lgC σ) j := h74
                       rw [hgd] at h56 h74
                       rcases q3 with q3 | q3
                       · exact h56 q3
                       · exact absurd q3 (Int32.not_lt.mpr h74))
                    | (refine ih (j + 1) (by omega) (by omega) _ _ (fun dd hd => ?_)
                       by_cases e : dd = dy (lgC σ) j
                       · subst e
                         rw [upd_same, ear_pos]
                         · rfl
                         · refine ⟨⟨h29, h37⟩, rfl, ?_⟩
                           rw [← hgd]
                           first
                             | exact Or.inl h56
                             | exact Or.inr (Int32.not_le.mp h74)
                       · rw [upd_ne _ _ e, ear_neg (fun q => e q.2.1.symm)]
                         exact hg dd hd)
                · skip
                  refine sw_aloadn dX0_findEarliest_59 rfl ?_
                  refine sw_getR dX0_findEarliest_60 fs_X0_19 o29 r29_1 ?_
                  refine sw_getR dX0_findEarliest_63 fs_X0_58 o17 r17_4 ?_
                  refine sw_iloadn dX0_findEarliest_66 rfl ?_
                  refine sx_iald (j) dX0_findEarliest_67 a21 (rfl) (by omega) (by decide) ?_
                  refine sw_aloadn dX0_findEarliest_68 rfl ?_
                  refine sw_getR dX0_findEarliest_69 fs_X0_9 o29 r29_2 ?_
                  refine sw_iloadn dX0_findEarliest_72 rfl ?_
                  refine sx_iald (dy (lgC σ) j) dX0_findEarliest_73 a30 (rfl) (by omega) (by decide) ?_
                  refine sw_icmp_ge (tgt := 92) dX0_findEarliest_74 (by decide) (fun h74 => ?_) (fun h74 => ?_)
                  · skip
                    refine sx_iinc (nI (j + 1)) dX0_findEarliest_92 rfl (nI_inc _) ?_
                    refine sw_goto (tgt := 10) dX0_findEarliest_95 (by decide) ?_
                    first
                      | exact skip _ (fun dd _ q => h29 q.1.1)
                      | exact skip _ (fun dd _ q => h37 q.1.2)
                      | (refine skip _ (fun dd _ q => ?_)
                         obtain ⟨q1, rfl, q3⟩ := q
                         have h56 : ¬ g8 (dy (lgC σ) j) = -1 := h56
                         have h74 : g8 (dy (lgC σ) j) ≤ lTK (lgC σ) j := h74
                         rw [hgd] at h56 h74
                         rcases q3 with q3 | q3
                         · exact h56 q3
                         · exact absurd q3 (Int32.not_lt.mpr h74))
                      | (refine ih (j + 1) (by omega) (by omega) _ _ (fun dd hd => ?_)
                         by_cases e : dd = dy (lgC σ) j
                         · subst e
                           rw [upd_same, ear_pos]
                           · rfl
                           · refine ⟨⟨h29, h37⟩, rfl, ?_⟩
                             rw [← hgd]
                             first
                               | exact Or.inl h56
                               | exact Or.inr (Int32.not_le.mp h74)
                         · rw [upd_ne _ _ e, ear_neg (fun q => e q.2.1.symm)]
                           exact hg dd hd)
                  · skip
                    refine sw_aloadn dX0_findEarliest_77 rfl ?_
                    refine sw_getR dX0_findEarliest_78 fs_X0_9 o29 r29_2 ?_
                    refine sw_iloadn dX0_findEarliest_81 rfl ?_
                    refine sw_aloadn dX0_findEarliest_82 rfl ?_
                    refine sw_getR dX0_findEarliest_83 fs_X0_19 o29 r29_1 ?_
                    refine sw_getR dX0_findEarliest_86 fs_X0_58 o17 r17_4 ?_
                    refine sw_iloadn dX0_findEarliest_89 rfl ?_
                    refine sx_iald (j) dX0_findEarliest_90 a21 (rfl) (by omega) (by decide) ?_
                    refine sx_iast (dy (lgC σ) j) dX0_findEarliest_91 a30 (rfl) (by omega) (by decide) ?_
                    rw [setI_setA, setA_setA, setA_at]
                    refine sx_iinc (nI (j + 1)) dX0_findEarliest_92 rfl (nI_inc _) ?_
                    refine sw_goto (tgt := 10) dX0_findEarliest_95 (by decide) ?_
                    first
                      | exact skip _ (fun dd _ q => h29 q.1.1)
                      | exact skip _ (fun dd _ q => h37 q.1.2)
                      | (refine skip _ (fun dd _ q => ?_)
                         obtain ⟨q1, rfl, q3⟩ := q
                         have h56 : ¬ g8 (dy (lgC σ) j) = -1 := h56
                         have h74 : g8 (dy (lgC σ) j) ≤ lTK (lgC σ) j := h74
                         rw [hgd] at h56 h74
                         rcases q3 with q3 | q3
                         · exact h56 q3
                         · exact absurd q3 (Int32.not_lt.mpr h74))
                      | (refine ih (j + 1) (by omega) (by omega) _ _ (fun dd hd => ?_)
                         by_cases e : dd = dy (lgC σ) j
                         · subst e
                           rw [upd_same, ear_pos]
                           · rfl
                           · refine ⟨⟨h29, h37⟩, rfl, ?_⟩
                             rw [← hgd]
                             first
                               | exact Or.inl h56
                               | exact Or.inr (Int32.not_le.mp h74)
                         · rw [upd_ne _ _ e, ear_neg (fun q => e q.2.1.symm)]
                           exact hg dd hd)
            · skip
              refine sw_if_eq (tgt := 92) dX0_findEarliest_40 (by decide) (fun h40 => ?_) (fun h40 => ?_)
              · skip
                refine sx_iinc (nI (j + 1)) dX0_findEarliest_92 rfl (nI_inc _) ?_
                refine sw_goto (tgt := 10) dX0_findEarliest_95 (by decide) ?_
                first
                  | exact skip _ (fun dd _ q => h29 q.1.1)
                  | exact skip _ (fun dd _ q => h37 q.1.2)
                  | (refine skip _ (fun dd _ q => ?_)
                     obtain ⟨q1, rfl, q3⟩ := q
                     have h56 : ¬ g8 (dy (lgC σ) j) = -1 := h56
                     have h74 : g8 (dy (lgC σ) j) ≤ lTK (lgC σ) j := h74
                     rw [hgd] at h56 h74
                     rcases q3 with q3 | q3
                     · exact h56 q3
                     · exact absurd q3 (Int32.not_lt.mpr h74))
                  | (refine ih (j + 1) (by omega) (by omega) _ _ (fun dd hd => ?_)
                     by_cases e : dd = dy (lgC σ) j
                     · subst e
                       rw [upd_same, ear_pos]
                       · rfl
                       · refine ⟨⟨h29, h37⟩, rfl, ?_⟩
                         rw [← hgd]
                         first
                           | exact Or.inl h56
                           | exact Or.inr (Int32.not_le.mp h74)
                     · rw [upd_ne _ _ e, ear_neg (fun q => e q.2.1.symm)]
                       exact hg dd hd)
              · exact absurd h40 (by decide)
        · skip
          refine sw_if_eq (tgt := 92) dX0_findEarliest_32 (by decide) (fun h32 => ?_) (fun h32 => ?_)
          · skip
            refine sx_iinc (nI (j + 1)) dX0_findEarliest_92 rfl (nI_inc _) ?_
            refine sw_goto (tgt := 10) dX0_findEarliest_95 (by decide) ?_
            first
              | exact skip _ (fun dd _ q => h29 q.1.1)
              | exact skip _ (fun dd _ q => h37 q.1.2)
              | (refine skip _ (fun dd _ q => ?_)
                 obtain ⟨q1, rfl, q3⟩ := q
                 have h56 : ¬ g8 (dy (lgC σ) j) = -1 := h56
                 have h74 : g8 (dy (lgC σ) j) ≤ lTK (lgC σ) j := h74
                 rw [hgd] at h56 h74
                 rcases q3 with q3 | q3
                 · exact h56 q3
                 · exact absurd q3 (Int32.not_lt.mpr h74))
              | (refine ih (j + 1) (by omega) (by omega) _ _ (fun dd hd => ?_)
                 by_cases e : dd = dy (lgC σ) j
                 · subst e
                   rw [upd_same, ear_pos]
                   · rfl
                   · refine ⟨⟨h29, h37⟩, rfl, ?_⟩
                     rw [← hgd]
                     first
                       | exact Or.inl h56
                       | exact Or.inr (Int32.not_le.mp h74)
                 · rw [upd_ne _ _ e, ear_neg (fun q => e q.2.1.symm)]
                   exact hg dd hd)
          · exact absurd h32 (by decide)
  refine sw_aloadn dX0_findEarliest_0 rfl ?_
  refine sw_getR dX0_findEarliest_1 fs_X0_9 o29 r29_2 ?_
  refine sx_iconst (v := (-1)) dX0_findEarliest_4 (by decide) ?_
  refine sx_insV2 dX0_findEarliest_5 mk_J7_fill_53178 sk_J7_fill_53178 lk_X0_61 (Nat.le_of_ble_eq_true rfl) (Nat.le_of_ble_eq_true rfl) ?_
  refine c_fillI a30 (by decide) ?_
  refine sx_iconst (v := nI 0) dX0_findEarliest_8 (by decide) ?_
  refine sw_istoren dX0_findEarliest_9 (Nat.le_of_ble_eq_true rfl) ?_
  exact loop k 0 (by omega) (by omega) _ _ (fun dd hd => by simp [filI, hd, ear])
theorem c_X0_daysAhead {f : Int32 → Mem → Prop} {P : PL} (hP : PlC σ P) (hV : PV P) {nc n k : Nat} (hs : σ.1 17 0 = nI n) (hn : n ≤ 100) (hk : k < n) (hL : LV P nc n (lgC σ)) (h0 : σ.1 18 k = 0) (h : ∀ g8, f (nI (cnt (ahd P (lgC σ) k) (dy (lgC σ) k))) (setA σ 30 g8)) : SW G (d + 4) M_X0_daysAhead 0 [some (.ref 29), some (.int (nI k)), none, none] [] σ (RI f) := by
  have hp := hL.pass hk h0
  have h8 : dy (lgC σ) k < 8 := dy_lt hp.2.2.1
  have loop : ∀ (g8 : Nat → Int32), (∀ dd, dd < 8 → g8 dd = ear P (lgC σ) k dd k) → ∀ (m i : Nat), m = dy (lgC σ) k - i → i ≤ dy (lgC σ) k → SW G (d + 4) M_X0_daysAhead 9 [some (.ref 29), some (.int (nI k)), some (.int (nI (cnt (ahd P (lgC σ) k) i))), some (.int (nI i))] [] (setA σ 30 g8) (RI f) := by
    intro g8 hg m
    induction m with
    | zero =>
      intro i hm hi
      obtain rfl : i = dy (lgC σ) k := by omega
      refine sw_iloadn dX0_daysAhead_9 rfl ?_
      refine sw_aloadn dX0_daysAhead_10 rfl ?_
      refine sw_iloadn dX0_daysAhead_11 rfl ?_
      refine sx_invI1 dX0_daysAhead_12 mk_X0_dayOf vk_X0_dayOf lk_X0_55 o29 (Nat.le_of_ble_eq_true rfl) (Nat.le_of_ble_eq_true rfl) ?_
      refine c_X0_dayOf (σ := setA σ 30 g8) (nv (lTK (lgC σ)) k) (dy (lgC σ) k) rfl (by omega) hp.2.2.1.1 hp.2.2.1.2 ?_
      refine sw_icmp_ge (tgt := 37) dX0_daysAhead_15 (by decide) (fun h15 => ?_) (fun h15 => ?_)
      · skip
        refine sw_iloadn dX0_daysAhead_37 rfl ?_
        refine sx_reti dX0_daysAhead_38 rfl ?_
        exact h g8
      · exact absurd ((nI_le (Nat.le_refl _) (by omega))) h15
    | succ m ih =>
      intro i hm hi
      have ih := ih (i + 1) (by omega) (by omega)
      refine sw_iloadn dX0_daysAhead_9 rfl ?_
      refine sw_aloadn dX0_daysAhead_10 rfl ?_
      refine sw_iloadn dX0_daysAhead_11 rfl ?_
      refine sx_invI1 dX0_daysAhead_12 mk_X0_dayOf vk_X0_dayOf lk_X0_55 o29 (Nat.le_of_ble_eq_true rfl) (Nat.le_of_ble_eq_true rfl) ?_
      refine c_X0_dayOf (σ := setA σ 30 g8) (nv (lTK (lgC σ)) k) (dy (lgC σ) k) rfl (by omega) hp.2.2.1.1 hp.2.2.1.2 ?_
      refine sw_icmp_ge (tgt := 37) dX0_daysAhead_15 (by decide) (fun h15 => ?_) (fun h15 => ?_)
      · exact absurd h15 ((by rw [nI_le' (by omega) (by omega)]; omega))
      · skip
        refine sw_aloadn dX0_daysAhead_18 rfl ?_
        refine sw_getR dX0_daysAhead_19 fs_X0_9 o29 r29_2 ?_
        refine sw_iloadn dX0_daysAhead_22 rfl ?_
        refine sx_iald (i) dX0_daysAhead_23 a30 (rfl) (by omega) (by decide) ?_
        refine sx_iconst (v := (-1)) dX0_daysAhead_24 (by decide) ?_
        refine sw_icmp_eq (tgt := 31) dX0_daysAhead_25 (by decide) (fun h25 => ?_) (fun h25 => ?_)
        · skip
          refine sx_iinc (nI (i + 1)) dX0_daysAhead_31 rfl (nI_inc _) ?_
          refine sw_goto (tgt := 9) dX0_daysAhead_34 (by decide) ?_
          have h25 := h25
          rw [setA_at, hg i (by omega)] at h25
          first
            | (rw [cnt, if_pos (show ahd P (lgC σ) k i = true from decide_eq_true h25)] at ih; exact ih)
            | (rw [cnt, if_neg (show ¬ ahd P (lgC σ) k i = true from fun q => (of_decide_eq_true q) h25)] at ih; exact ih)
        · skip
          refine sx_iinc (nI (cnt (ahd P (lgC σ) k) i + 1)) dX0_daysAhead_28 rfl (nI_inc _) ?_
          refine sx_iinc (nI (i + 1)) dX0_daysAhead_31 rfl (nI_inc _) ?_
          refine sw_goto (tgt := 9) dX0_daysAhead_34 (by decide) ?_
          have h25 := h25
          rw [setA_at, hg i (by omega)] at h25
          first
            | (rw [cnt, if_pos (show ahd P (lgC σ) k i = true from decide_eq_true h25)] at ih; exact ih)
            | (rw [cnt, if_neg (show ¬ ahd P (lgC σ) k i = true from fun q => (of_decide_eq_true q) h25)] at ih; exact ih)
  refine sw_aloadn dX0_daysAhead_0 rfl ?_
  refine sw_iloadn dX0_daysAhead_1 rfl ?_
  refine sx_invV1 dX0_daysAhead_2 mk_X0_findEarliest vk_X0_findEarliest lk_X0_51 o29 (Nat.le_of_ble_eq_true rfl) (Nat.le_of_ble_eq_true rfl) ?_
  refine c_X0_findEarliest hP hV hs hn hk hL (fun g8 hg => ?_)
  refine sx_iconst (v := nI 0) dX0_daysAhead_5 (by decide) ?_
  refine sw_istoren dX0_daysAhead_6 (Nat.le_of_ble_eq_true rfl) ?_
  refine sx_iconst (v := nI 0) dX0_daysAhead_7 (by decide) ?_
  refine sw_istoren dX0_daysAhead_8 (Nat.le_of_ble_eq_true rfl) ?_
  exact loop g8 hg (dy (lgC σ) k) 0 (by omega) (by omega)
theorem c_X0_daysAsLate {f : Int32 → Mem → Prop} {P : PL} (hP : PlC σ P) (hV : PV P) {nc n k : Nat} (hs : σ.1 17 0 = nI n) (hn : n ≤ 100) (hk : k < n) (hL : LV P nc n (lgC σ)) (h0 : σ.1 18 k = 0) (h : ∀ g8, f (nI (cnt (lat P (lgC σ) k) (dy (lgC σ) k))) (setA σ 30 g8)) : SW G (d + 4) M_X0_daysAsLate 0 [some (.ref 29), some (.int (nI k)), none, none, none] [] σ (RI f) := by
  have hp := hL.pass hk h0
  have h8 : dy (lgC σ) k < 8 := dy_lt hp.2.2.1
  have loop : ∀ (g8 : Nat → Int32), (∀ dd, dd < 8 → g8 dd = ear P (lgC σ) k dd k) → ∀ (m i : Nat), m = dy (lgC σ) k - i → i ≤ dy (lgC σ) k → SW G (d + 4) M_X0_daysAsLate 23 [some (.ref 29), some (.int (nI k)), some (.int (remI (lTK (lgC σ) k))), some (.int (nI (cnt (lat P (lgC σ) k) i))), some (.int (nI i))] [] (setA σ 30 g8) (RI f) := by
    intro g8 hg m
    induction m with
    | zero =>
      intro i hm hi
      obtain rfl : i = dy (lgC σ) k := by omega
      refine sw_iload dX0_daysAsLate_23 rfl ?_
      refine sw_aloadn dX0_daysAsLate_25 rfl ?_
      refine sw_iloadn dX0_daysAsLate_26 rfl ?_
      refine sx_invI1 dX0_daysAsLate_27 mk_X0_dayOf vk_X0_dayOf lk_X0_55 o29 (Nat.le_of_ble_eq_true rfl) (Nat.le_of_ble_eq_true rfl) ?_
      refine c_X0_dayOf (σ := setA σ 30 g8) (nv (lTK (lgC σ)) k) (dy (lgC σ) k) rfl (by omega) hp.2.2.1.1 hp.2.2.1.2 ?_
      refine sw_icmp_ge (tgt := 67) dX0_daysAsLate_30 (by decide) (fun h30 => ?_) (fun h30 => ?_)
      · skip
        refine sw_iloadn dX0_daysAsLate_67 rfl ?_
        refine sx_reti dX0_daysAsLate_68 rfl ?_
        exact h g8
      · exact absurd ((nI_le (Nat.le_refl _) (by omega))) h30
    | succ m ih =>
      intro i hm hi
      have ih := ih (i + 1) (by omega) (by omega)
      have hgi := hg i (by omega)
      refine sw_iload dX0_daysAsLate_23 rfl ?_
      refine sw_aloadn dX0_daysAsLate_25 rfl ?_
      refine sw_iloadn dX0_daysAsLate_26 rfl ?_
      refine sx_invI1 dX0_daysAsLate_27 mk_X0_dayOf vk_X0_dayOf lk_X0_55 o29 (Nat.le_of_ble_eq_true rfl) (Nat.le_of_ble_eq_true rfl) ?_
      refine c_X0_dayOf (σ := setA σ 30 g8) (nv (lTK (lgC σ)) k) (dy (lgC σ) k) rfl (by omega) hp.2.2.1.1 hp.2.2.1.2 ?_
      refine sw_icmp_ge (tgt := 67) dX0_daysAsLate_30 (by decide) (fun h30 => ?_) (fun h30 => ?_)
      · exact absurd h30 ((by rw [nI_le' (by omega) (by omega)]; omega))
      · skip
        refine sw_aloadn dX0_daysAsLate_33 rfl ?_
        refine sw_getR dX0_daysAsLate_34 fs_X0_9 o29 r29_2 ?_
        refine sw_iload dX0_daysAsLate_37 rfl ?_
        refine sx_iald (i) dX0_daysAsLate_39 a30 (rfl) (by omega) (by decide) ?_
        refine sx_iconst (v := (-1)) dX0_daysAsLate_40 (by decide) ?_
        refine sw_icmp_eq (tgt := 61) dX0_daysAsLate_41 (by decide) (fun h41 => ?_) (fun h41 => ?_)
        · skip
          refine sx_iinc (nI (i + 1)) dX0_daysAsLate_61 rfl (nI_inc _) ?_
          refine sw_goto (tgt := 23) dX0_daysAsLate_64 (by decide) ?_
          have h41 := h41
          rw [setA_at, hgi] at h41
          first
            | (have h55 : ¬ remI (g8 i) < remI (lTK (lgC σ) k) := h55
               rw [hgi] at h55
               rw [cnt, if_pos (show lat P (lgC σ) k i = true from decide_eq_true ⟨h41, h55⟩)] at ih; exact ih)
            | (have h55 : remI (g8 i) < remI (lTK (lgC σ) k) := h55
               rw [hgi] at h55
               rw [cnt, if_neg (show ¬ lat P (lgC σ) k i = true from fun q => (of_decide_eq_true q).2 h55)] at ih; exact ih)
            | (rw [cnt, if_neg (show ¬ lat P (lgC σ) k i = true from fun q => (of_decide_eq_true q).1 h41)] at ih; exact ih)
        · skip
          refine sw_aloadn dX0_daysAsLate_44 rfl ?_
          refine sw_getR dX0_daysAsLate_45 fs_X0_9 o29 r29_2 ?_
          refine sw_iload dX0_daysAsLate_48 rfl ?_
          refine sx_iald (i) dX0_daysAsLate_50 a30 (rfl) (by omega) (by decide) ?_
          refine sx_bipush (v := nI 25) dX0_daysAsLate_51 (by decide) ?_
          refine sw_irem dX0_daysAsLate_53 (by decide) ?_
          refine sw_iloadn dX0_daysAsLate_54 rfl ?_
          refine sw_icmp_lt (tgt := 61) dX0_daysAsLate_55 (by decide) (fun h55 => ?_) (fun h55 => ?_)
          · skip
            refine sx_iinc (nI (i + 1)) dX0_daysAsLate_61 rfl (nI_inc _) ?_
            refine sw_goto (tgt := 23) dX0_daysAsLate_64 (by decide) ?_
            have h41 := h41
            rw [setA_at, hgi] at h41
            first
              | (have h55 : ¬ remI (g8 i) < remI (lTK (lgC σ) k) := h55
                 rw [hgi] at h55
                 rw [cnt, if_pos (show lat P (lgC σ) k i = true from decide_eq_true ⟨h41, h55⟩)] at ih; exact ih)
              | (have h55 : remI (g8 i) < remI (lTK (lgC σ) k) := h55
                 rw [hgi] at h55
                 rw [cnt, if_neg (show ¬ lat P (lgC σ) k i = true from fun q => (of_decide_eq_true q).2 h55)] at ih; exact ih)
              | (rw [cnt, if_neg (show ¬ lat P (lgC σ) k i = true from fun q => (of_decide_eq_true q).1 h41)] at ih; exact ih)
          · skip
            refine sx_iinc (nI (cnt (lat P (lgC σ) k) i + 1)) dX0_daysAsLate_58 rfl (nI_inc _) ?_
            refine sx_iinc (nI (i + 1)) dX0_daysAsLate_61 rfl (nI_inc _) ?_
            refine sw_goto (tgt := 23) dX0_daysAsLate_64 (by decide) ?_
            have h41 := h41
            rw [setA_at, hgi] at h41
            first
              | (have h55 : ¬ remI (g8 i) < remI (lTK (lgC σ) k) := h55
                 rw [hgi] at h55
                 rw [cnt, if_pos (show lat P (lgC σ) k i = true from decide_eq_true ⟨h41, h55⟩)] at ih; exact ih)
              | (have h55 : remI (g8 i) < remI (lTK (lgC σ) k) := h55
                 rw [hgi] at h55
                 rw [cnt, if_neg (show ¬ lat P (lgC σ) k i = true from fun q => (of_decide_eq_true q).2 h55)] at ih; exact ih)
              | (rw [cnt, if_neg (show ¬ lat P (lgC σ) k i = true from fun q => (of_decide_eq_true q).1 h41)] at ih; exact ih)
  refine sw_aloadn dX0_daysAsLate_0 rfl ?_
  refine sw_iloadn dX0_daysAsLate_1 rfl ?_
  refine sx_invV1 dX0_daysAsLate_2 mk_X0_findEarliest vk_X0_findEarliest lk_X0_51 o29 (Nat.le_of_ble_eq_true rfl) (Nat.le_of_ble_eq_true rfl) ?_
  refine c_X0_findEarliest hP hV hs hn hk hL (fun g8 hg => ?_)
  refine sw_aloadn dX0_daysAsLate_5 rfl ?_
  refine sw_getR dX0_daysAsLate_6 fs_X0_19 o29 r29_1 ?_
  refine sw_getR dX0_daysAsLate_9 fs_X0_58 o17 r17_4 ?_
  refine sw_iloadn dX0_daysAsLate_12 rfl ?_
  refine sx_iald (k) dX0_daysAsLate_13 a21 (rfl) (by omega) (by decide) ?_
  refine sx_bipush (v := nI 25) dX0_daysAsLate_14 (by decide) ?_
  refine sw_irem dX0_daysAsLate_16 (by decide) ?_
  refine sw_istoren dX0_daysAsLate_17 (Nat.le_of_ble_eq_true rfl) ?_
  refine sx_iconst (v := nI 0) dX0_daysAsLate_18 (by decide) ?_
  refine sw_istoren dX0_daysAsLate_19 (Nat.le_of_ble_eq_true rfl) ?_
  refine sx_iconst (v := nI 0) dX0_daysAsLate_20 (by decide) ?_
  refine sw_istore dX0_daysAsLate_21 (Nat.le_of_ble_eq_true rfl) ?_
  exact loop g8 hg (dy (lgC σ) k) 0 (by omega) (by omega)
end HABITS2
