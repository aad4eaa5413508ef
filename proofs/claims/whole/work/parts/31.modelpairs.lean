/-! ===== pairs, of the model ===== -/
/-- passes k of x and i of y on the day, near where that is asked -/
def tgt (g : LG) (x y s w : Int32) (day k i : Nat) : Prop := pas g x k ∧ dy g k = day ∧ pas g y i ∧ dy g i = day ∧ (w = nI 1 ∨ (lTG g k = lTG g i ∧ lMO g k = lMO g i ∧ ¬ s < nI (absD (nv (lTK g) k) (nv (lTK g) i))))
def tgs (g : LG) (n : Nat) (x y s w : Int32) (day k i : Nat) : Prop := ∃ a b, ((a < k ∧ b < n) ∨ (a = k ∧ b < i)) ∧ tgt g x y s w day a b
noncomputable def tgB (g : LG) (n : Nat) (x y s w : Int32) (day : Nat) : Bool := @decide (∃ a b, a < n ∧ b < n ∧ tgt g x y s w day a b) (Classical.propDecidable _)
/-- v tells whether E holds -/
def isV (v : Int32) (E : Prop) : Prop := (v = nI 1 ∧ E) ∨ (v = nI 0 ∧ ¬ E)
theorem isV_iff {v : Int32} {E F : Prop} (h : isV v E) (e : E ↔ F) : isV v F := h.elim (fun q => Or.inl ⟨q.1, e.mp q.2⟩) (fun q => Or.inr ⟨q.1, fun z => q.2 (e.mpr z)⟩)
theorem prV_eq {P : PL} {nc n : Nat} {g : LG} {x y s w : Int32} (hL : LV P nc n g) (hw : w = nI 0 ∨ w = nI 1) : prV g n x y s w = nI (cnt (tgB g n x y s w) 8) := by
  rcases hw with rfl | rfl
  · rw [prV, if_pos rfl]
    congr 1
    refine cnt_cong (fun j hj => ?_)
    rw [Bool.eq_iff_iff, bts_bit]
    unfold tgB
    rw [@decide_eq_true_iff _ (Classical.propDecidable _)]
    constructor
    · rintro ⟨k, hk, h1, h2⟩
      obtain ⟨h3, i, hi, h4, h5, h6, h7, h8⟩ := neB_iff.mp h1
      exact ⟨k, i, hk, hi, h3, h2, h4, by rw [h7]; exact h2, Or.inr ⟨h5.symm, h6.symm, by rw [absD_comm]; exact h8⟩⟩
    · rintro ⟨k, i, hk, hi, h3, h2, h4, h5, h6⟩
      have h6 := h6.resolve_left (by decide)
      exact ⟨k, hk, neB_iff.mpr ⟨h3, i, hi, h4, h6.1.symm, h6.2.1.symm, by rw [h2]; exact h5, by rw [absD_comm]; exact h6.2.2⟩, h2⟩
  · rw [prV, if_neg (by decide), if_pos rfl]
    congr 1
    refine cnt_cong (fun j hj => ?_)
    rw [Bool.eq_iff_iff, Nat.testBit_and, Bool.and_eq_true, bts_bit, bts_bit]
    unfold tgB
    rw [@decide_eq_true_iff _ (Classical.propDecidable _)]
    constructor
    · rintro ⟨⟨k, hk, h1, h2⟩, i, hi, h3, h4⟩
      exact ⟨k, i, hk, hi, pasB_iff.mp h1, h2, pasB_iff.mp h3, h4, Or.inl rfl⟩
    · rintro ⟨k, i, hk, hi, h1, h2, h3, h4, -⟩
      exact ⟨⟨k, hk, pasB_iff.mpr h1, h2⟩, i, hi, pasB_iff.mpr h3, h4⟩
section MPAIRS
variable {G : GG} {d : Nat} {σ : Mem}
theorem m_isTogether {f : Int32 → Mem → Prop} {k i : Nat} {s : Int32} (hk : k < 100) (hi : i < 100) (tk : okv (lTK (lgM σ)) 200 k) (ti : okv (lTK (lgM σ)) 200 i) (k1 : (lTG (lgM σ) k = lTG (lgM σ) i ∧ lMO (lgM σ) k = lMO (lgM σ) i ∧ ¬ s < nI (absD (nv (lTK (lgM σ)) k) (nv (lTK (lgM σ)) i))) → f (nI 1) σ) (k0 : ¬ (lTG (lgM σ) k = lTG (lgM σ) i ∧ lMO (lgM σ) k = lMO (lgM σ) i ∧ ¬ s < nI (absD (nv (lTK (lgM σ)) k) (nv (lTK (lgM σ)) i))) → f (nI 0) σ) : SW G d M_X8_isTogether 0 [some (.ref 46), some (.int (nI k)), some (.int (nI i)), some (.int s), none] [] σ (RI f) := by
  have e1 := tk.2
  have e2 := ti.2
  refine sw_aloadn dX8_isTogether_0 rfl ?_
  refine sw_getR dX8_isTogether_1 fs_X8_60 o46 r46_30 ?_
  refine sw_iloadn dX8_isTogether_4 rfl ?_
  refine sx_iald (k) dX8_isTogether_5 a61 (rfl) (by omega) (by decide) ?_
  refine sw_aloadn dX8_isTogether_6 rfl ?_
  refine sw_getR dX8_isTogether_7 fs_X8_60 o46 r46_30 ?_
  refine sw_iloadn dX8_isTogether_10 rfl ?_
  refine sx_iald (i) dX8_isTogether_11 a61 (rfl) (by omega) (by decide) ?_
  rw [show σ.1 61 k = nI (nv (lTK (lgM σ)) k) from tk.1, show σ.1 61 i = nI (nv (lTK (lgM σ)) i) from ti.1]
  refine sw_isub dX8_isTogether_12 ?_
  refine sw_istore dX8_isTogether_13 (Nat.le_of_ble_eq_true rfl) ?_
  refine sw_aloadn dX8_isTogether_15 rfl ?_
  refine sw_getR dX8_isTogether_16 fs_X8_57 o46 r46_29 ?_
  refine sw_iloadn dX8_isTogether_19 rfl ?_
  refine sx_iald (k) dX8_isTogether_20 a60 (rfl) (by omega) (by decide) ?_
  refine sw_aloadn dX8_isTogether_21 rfl ?_
  refine sw_getR dX8_isTogether_22 fs_X8_57 o46 r46_29 ?_
  refine sw_iloadn dX8_isTogether_25 rfl ?_
  refine sx_iald (i) dX8_isTogether_26 a60 (rfl) (by omega) (by decide) ?_
  refine sw_icmp_ne (tgt := 66) dX8_isTogether_27 (by decide) (fun h27 => ?_) (fun h27 => ?_)
  · skip
    refine sx_iconst (v := nI 0) dX8_isTogether_66 (by decide) ?_
    refine sx_retz dX8_isTogether_67 rfl (Or.inl rfl) ?_
    first
      | exact k1 ⟨h27, h42, h59⟩
      | exact k0 (fun q => q.2.2 h59)
      | exact k0 (fun q => h42 q.2.1)
      | exact k0 (fun q => h27 q.1)
  · skip
    refine sw_aloadn dX8_isTogether_30 rfl ?_
    refine sw_getR dX8_isTogether_31 fs_X8_63 o46 r46_31 ?_
    refine sw_iloadn dX8_isTogether_34 rfl ?_
    refine sx_iald (k) dX8_isTogether_35 a62 (rfl) (by omega) (by decide) ?_
    refine sw_aloadn dX8_isTogether_36 rfl ?_
    refine sw_getR dX8_isTogether_37 fs_X8_63 o46 r46_31 ?_
    refine sw_iloadn dX8_isTogether_40 rfl ?_
    refine sx_iald (i) dX8_isTogether_41 a62 (rfl) (by omega) (by decide) ?_
    refine sw_icmp_ne (tgt := 66) dX8_isTogether_42 (by decide) (fun h42 => ?_) (fun h42 => ?_)
    · skip
      refine sx_iconst (v := nI 0) dX8_isTogether_66 (by decide) ?_
      refine sx_retz dX8_isTogether_67 rfl (Or.inl rfl) ?_
      first
        | exact k1 ⟨h27, h42, h59⟩
        | exact k0 (fun q => q.2.2 h59)
        | exact k0 (fun q => h42 q.2.1)
        | exact k0 (fun q => h27 q.1)
    · skip
      refine sw_iload dX8_isTogether_45 rfl ?_
      refine sw_if_ge (tgt := 56) dX8_isTogether_47 (by decide) (fun h47 => ?_) (fun h47 => ?_)
      · skip
        refine sw_iload dX8_isTogether_56 rfl ?_
        rw [abs_M1 (by omega) (by omega) h47]
        refine sw_iloadn dX8_isTogether_58 rfl ?_
        refine sw_icmp_gt (tgt := 66) dX8_isTogether_59 (by decide) (fun h59 => ?_) (fun h59 => ?_)
        · skip
          refine sx_iconst (v := nI 0) dX8_isTogether_66 (by decide) ?_
          refine sx_retz dX8_isTogether_67 rfl (Or.inl rfl) ?_
          first
            | exact k1 ⟨h27, h42, h59⟩
            | exact k0 (fun q => q.2.2 h59)
            | exact k0 (fun q => h42 q.2.1)
            | exact k0 (fun q => h27 q.1)
        · skip
          refine sx_iconst (v := nI 1) dX8_isTogether_62 (by decide) ?_
          refine sw_goto (tgt := 67) dX8_isTogether_63 (by decide) ?_
          refine sx_retz dX8_isTogether_67 rfl (Or.inr rfl) ?_
          first
            | exact k1 ⟨h27, h42, h59⟩
            | exact k0 (fun q => q.2.2 h59)
            | exact k0 (fun q => h42 q.2.1)
            | exact k0 (fun q => h27 q.1)
      · skip
        refine sw_iload dX8_isTogether_50 rfl ?_
        refine sw_ineg dX8_isTogether_52 ?_
        rw [abs_M2 (by omega) (by omega) h47]
        refine sw_goto (tgt := 58) dX8_isTogether_53 (by decide) ?_
        refine sw_iloadn dX8_isTogether_58 rfl ?_
        refine sw_icmp_gt (tgt := 66) dX8_isTogether_59 (by decide) (fun h59 => ?_) (fun h59 => ?_)
        · skip
          refine sx_iconst (v := nI 0) dX8_isTogether_66 (by decide) ?_
          refine sx_retz dX8_isTogether_67 rfl (Or.inl rfl) ?_
          first
            | exact k1 ⟨h27, h42, h59⟩
            | exact k0 (fun q => q.2.2 h59)
            | exact k0 (fun q => h42 q.2.1)
            | exact k0 (fun q => h27 q.1)
        · skip
          refine sx_iconst (v := nI 1) dX8_isTogether_62 (by decide) ?_
          refine sw_goto (tgt := 67) dX8_isTogether_63 (by decide) ?_
          refine sx_retz dX8_isTogether_67 rfl (Or.inr rfl) ?_
          first
            | exact k1 ⟨h27, h42, h59⟩
            | exact k0 (fun q => q.2.2 h59)
            | exact k0 (fun q => h42 q.2.1)
            | exact k0 (fun q => h27 q.1)
theorem m_pairs_in {f : Int32 → Mem → Prop} {P : PL} {nc n k day : Nat} {x y s w v5 : Int32} (hs : σ.1 46 25 = nI n) (hn : n ≤ 100) (hL : LV P nc n (lgM σ)) (hk : k < n) (hd : day < 8)
    (hend : ∀ v7 o, isV v7 (tgs (lgM σ) n x y s w day (k + 1) 0) → SW G (d + 1) M_X8_pairs 174 [some (.ref 46), some (.int x), some (.int y), some (.int s), some (.int w), some (.int v5), some (.int (nI day)), some (.int v7), some (.int (nI k)), o] [] σ (RI f)) :
    ∀ (m i : Nat), m = n - i → i ≤ n → ∀ v7, isV v7 (tgs (lgM σ) n x y s w day k i) → SW G (d + 1) M_X8_pairs 79 [some (.ref 46), some (.int x), some (.int y), some (.int s), some (.int w), some (.int v5), some (.int (nI day)), some (.int v7), some (.int (nI k)), some (.int (nI i))] [] σ (RI f) := by
  have out : ¬ (pas (lgM σ) x k ∧ dy (lgM σ) k = day) → ∀ i, i ≤ n → (tgs (lgM σ) n x y s w day k i ↔ tgs (lgM σ) n x y s w day (k + 1) 0) := by
    intro hno i hi
    constructor
    · rintro ⟨a, b, h | h, ht⟩
      · exact ⟨a, b, Or.inl ⟨by omega, h.2⟩, ht⟩
      · obtain ⟨rfl, -⟩ := h
        exact absurd ⟨ht.1, ht.2.1⟩ hno
    · rintro ⟨a, b, h | h, ht⟩
      · by_cases e : a = k
        · subst e; exact absurd ⟨ht.1, ht.2.1⟩ hno
        · exact ⟨a, b, Or.inl ⟨by omega, h.2⟩, ht⟩
      · exact absurd h.2 (by omega)
  have full : tgs (lgM σ) n x y s w day k n ↔ tgs (lgM σ) n x y s w day (k + 1) 0 := by
    constructor
    · rintro ⟨a, b, h | h, ht⟩
      · exact ⟨a, b, Or.inl ⟨by omega, h.2⟩, ht⟩
      · exact ⟨a, b, Or.inl ⟨by omega, h.2⟩, ht⟩
    · rintro ⟨a, b, h | h, ht⟩
      · by_cases e : a = k
        · exact ⟨a, b, Or.inr ⟨e, h.2⟩, ht⟩
        · exact ⟨a, b, Or.inl ⟨by omega, h.2⟩, ht⟩
      · exact absurd h.2 (by omega)
  have stp : ∀ i, tgs (lgM σ) n x y s w day k (i + 1) ↔ (tgs (lgM σ) n x y s w day k i ∨ tgt (lgM σ) x y s w day k i) := by
    intro i
    constructor
    · rintro ⟨a, b, h | h, ht⟩
      · exact Or.inl ⟨a, b, Or.inl h, ht⟩
      · by_cases e : b = i
        · obtain ⟨rfl, -⟩ := h; subst e; exact Or.inr ht
        · exact Or.inl ⟨a, b, Or.inr ⟨h.1, by omega⟩, ht⟩
    · rintro (⟨a, b, h | h, ht⟩ | ht)
      · exact ⟨a, b, Or.inl h, ht⟩
      · exact ⟨a, b, Or.inr ⟨h.1, by omega⟩, ht⟩
      · exact ⟨k, i, Or.inr ⟨rfl, by omega⟩, ht⟩
  intro m
  induction m with
  | zero =>
    intro i hm hi v7 hv
    obtain rfl : i = n := by omega
    refine sw_iload dX8_pairs_79 rfl ?_
    refine sw_aloadn dX8_pairs_81 rfl ?_
    refine sw_getI dX8_pairs_82 fs_X8_207 o46 ?_
    rw [hs]
    refine sw_icmp_ge (tgt := 174) dX8_pairs_85 (by decide) (fun h85 => ?_) (fun h85 => ?_)
    · skip
      exact hend _ _ (isV_iff hv full)
    · exact absurd ((nI_le (Nat.le_refl _) (by omega))) h85
  | succ m ih =>
    intro i hm hi v7 hv
    have ih := ih (i + 1) (by omega) (by omega)
    refine sw_iload dX8_pairs_79 rfl ?_
    refine sw_aloadn dX8_pairs_81 rfl ?_
    refine sw_getI dX8_pairs_82 fs_X8_207 o46 ?_
    rw [hs]
    refine sw_icmp_ge (tgt := 174) dX8_pairs_85 (by decide) (fun h85 => ?_) (fun h85 => ?_)
    · exact absurd h85 ((by rw [nI_le' (by omega) (by omega)]; omega))
    · skip
      refine sw_aloadn dX8_pairs_88 rfl ?_
      refine sw_iload dX8_pairs_89 rfl ?_
      refine sw_iloadn dX8_pairs_91 rfl ?_
      refine sx_invI2 dX8_pairs_92 mk_X8_isPassOf vk_X8_isPassOf lk_X8_309 o46 (Nat.le_of_ble_eq_true rfl) (Nat.le_of_ble_eq_true rfl) ?_
      refine m_isPassOf (show k < 100 by omega) (fun h92 => ?_) (fun h92 => ?_)
      · skip
        refine sw_if_eq (tgt := 174) dX8_pairs_95 (by decide) (fun h95 => ?_) (fun h95 => ?_)
        · exact absurd h95 (by decide)
        · skip
          have hpk := hL.pass hk h92.1
          have hdk := dy_lt hpk.2.2.1
          refine sw_aloadn dX8_pairs_98 rfl ?_
          refine sw_getR dX8_pairs_99 fs_X8_60 o46 r46_30 ?_
          refine sw_iload dX8_pairs_102 rfl ?_
          refine sx_iald (k) dX8_pairs_104 a61 (rfl) (by omega) (by decide) ?_
          refine sx_insI1 dX8_pairs_105 mk_X8_dayOf sk_X8_dayOf lk_X8_312 (Nat.le_of_ble_eq_true rfl) (Nat.le_of_ble_eq_true rfl) ?_
          refine m_dayOf (nv (lTK (lgM σ)) k) (dy (lgM σ) k) rfl hpk.2.2.1.1 hpk.2.2.1.2 ?_
          refine sw_iload dX8_pairs_108 rfl ?_
          refine sw_icmp_ne (tgt := 174) dX8_pairs_110 (by decide) (fun h110 => ?_) (fun h110 => ?_)
          · skip
            first
              | exact hend _ _ (isV_iff hv (out (fun q => h92 q.1) i hi))
              | exact hend _ _ (isV_iff hv (out (fun q => h110 (congrArg nI q.2)) i hi))
          · skip
            have hdd := nI_inj (by omega) (by omega) h110
            refine sw_aloadn dX8_pairs_113 rfl ?_
            refine sw_iload dX8_pairs_114 rfl ?_
            refine sw_iloadn dX8_pairs_116 rfl ?_
            refine sx_invI2 dX8_pairs_117 mk_X8_isPassOf vk_X8_isPassOf lk_X8_309 o46 (Nat.le_of_ble_eq_true rfl) (Nat.le_of_ble_eq_true rfl) ?_
            refine m_isPassOf (show i < 100 by omega) (fun h117 => ?_) (fun h117 => ?_)
            · skip
              refine sw_if_eq (tgt := 168) dX8_pairs_120 (by decide) (fun h120 => ?_) (fun h120 => ?_)
              · exact absurd h120 (by decide)
              · skip
                have hpi := hL.pass (show i < n by omega) h117.1
                have hdi := dy_lt hpi.2.2.1
                refine sw_aloadn dX8_pairs_123 rfl ?_
                refine sw_getR dX8_pairs_124 fs_X8_60 o46 r46_30 ?_
                refine sw_iload dX8_pairs_127 rfl ?_
                refine sx_iald (i) dX8_pairs_129 a61 (rfl) (by omega) (by decide) ?_
                refine sx_insI1 dX8_pairs_130 mk_X8_dayOf sk_X8_dayOf lk_X8_312 (Nat.le_of_ble_eq_true rfl) (Nat.le_of_ble_eq_true rfl) ?_
                refine m_dayOf (nv (lTK (lgM σ)) i) (dy (lgM σ) i) rfl hpi.2.2.1.1 hpi.2.2.1.2 ?_
                refine sw_iload dX8_pairs_133 rfl ?_
                refine sw_icmp_ne (tgt := 168) dX8_pairs_135 (by decide) (fun h135 => ?_) (fun h135 => ?_)
                · skip
                  refine sx_iinc (nI (i + 1)) dX8_pairs_168 rfl (nI_inc _) ?_
                  refine sw_goto (tgt := 79) dX8_pairs_171 (by decide) ?_
                  first
                    | exact ih _ (isV_iff hv ((stp i).trans ⟨fun q => q.elim id (fun z => absurd z.2.2.1 h117), Or.inl⟩).symm)
                    | exact ih _ (isV_iff hv ((stp i).trans ⟨fun q => q.elim id (fun z => absurd (congrArg nI z.2.2.2.1) h135), Or.inl⟩).symm)
                    | exact ih _ (Or.inl ⟨rfl, (stp i).mpr (Or.inr ⟨h92, hdd, h117, hde, Or.inl h146⟩)⟩)
                    | exact ih _ (Or.inl ⟨rfl, (stp i).mpr (Or.inr ⟨h92, hdd, h117, hde, Or.inr h155⟩)⟩)
                    | (rcases hv with hv | hv
                       · exact absurd hv.1 (by rw [show v7 = nI 0 from h140]; decide)
                       · exact ih _ (Or.inr ⟨rfl, fun q => ((stp i).mp q).elim hv.2 (fun z => z.2.2.2.2.elim h146 h155)⟩))
                    | (rcases hv with hv | hv
                       · exact ih _ (Or.inl ⟨rfl, (stp i).mpr (Or.inl hv.2)⟩)
                       · exact absurd hv.1 h140)
                · skip
                  have hde := nI_inj (by omega) (by omega) h135
                  refine sw_iload dX8_pairs_138 rfl ?_
                  refine sw_if_ne (tgt := 161) dX8_pairs_140 (by decide) (fun h140 => ?_) (fun h140 => ?_)
                  · skip
                    refine sx_iconst (v := nI 1) dX8_pairs_161 (by decide) ?_
                    refine sw_goto (tgt := 166) dX8_pairs_162 (by decide) ?_
                    refine sw_istore dX8_pairs_166 (Nat.le_of_ble_eq_true rfl) ?_
                    refine sx_iinc (nI (i + 1)) dX8_pairs_168 rfl (nI_inc _) ?_
                    refine sw_goto (tgt := 79) dX8_pairs_171 (by decide) ?_
                    first
                      | exact ih _ (isV_iff hv ((stp i).trans ⟨fun q => q.elim id (fun z => absurd z.2.2.1 h117), Or.inl⟩).symm)
                      | exact ih _ (isV_iff hv ((stp i).trans ⟨fun q => q.elim id (fun z => absurd (congrArg nI z.2.2.2.1) h135), Or.inl⟩).symm)
                      | exact ih _ (Or.inl ⟨rfl, (stp i).mpr (Or.inr ⟨h92, hdd, h117, hde, Or.inl h146⟩)⟩)
                      | exact ih _ (Or.inl ⟨rfl, (stp i).mpr (Or.inr ⟨h92, hdd, h117, hde, Or.inr h155⟩)⟩)
                      | (rcases hv with hv | hv
                         · exact absurd hv.1 (by rw [show v7 = nI 0 from h140]; decide)
                         · exact ih _ (Or.inr ⟨rfl, fun q => ((stp i).mp q).elim hv.2 (fun z => z.2.2.2.2.elim h146 h155)⟩))
                      | (rcases hv with hv | hv
                         · exact ih _ (Or.inl ⟨rfl, (stp i).mpr (Or.inl hv.2)⟩)
                         · exact absurd hv.1 h140)
                  · skip
                    refine sw_iload dX8_pairs_143 rfl ?_
                    refine sx_iconst (v := nI 1) dX8_pairs_145 (by decide) ?_
                    refine sw_icmp_eq (tgt := 161) dX8_pairs_146 (by decide) (fun h146 => ?_) (fun h146 => ?_)
                    · skip
                      refine sx_iconst (v := nI 1) dX8_pairs_161 (by decide) ?_
                      refine sw_goto (tgt := 166) dX8_pairs_162 (by decide) ?_
                      refine sw_istore dX8_pairs_166 (Nat.le_of_ble_eq_true rfl) ?_
                      refine sx_iinc (nI (i + 1)) dX8_pairs_168 rfl (nI_inc _) ?_
                      refine sw_goto (tgt := 79) dX8_pairs_171 (by decide) ?_
                      first
                        | exact ih _ (isV_iff hv ((stp i).trans ⟨fun q => q.elim id (fun z => absurd z.2.2.1 h117), Or.inl⟩).symm)
                        | exact ih _ (isV_iff hv ((stp i).trans ⟨fun q => q.elim id (fun z => absurd (congrArg nI z.2.2.2.1) h135), Or.inl⟩).symm)
                        | exact ih _ (Or.inl ⟨rfl, (stp i).mpr (Or.inr ⟨h92, hdd, h117, hde, Or.inl h146⟩)⟩)
                        | exact ih _ (Or.inl ⟨rfl, (stp i).mpr (Or.inr ⟨h92, hdd, h117, hde, Or.inr h155⟩)⟩)
                        | (rcases hv with hv | hv
                           · exact absurd hv.1 (by rw [show v7 = nI 0 from h140]; decide)
                           · exact ih _ (Or.inr ⟨rfl, fun q => ((stp i).mp q).elim hv.2 (fun z => z.2.2.2.2.elim h146 h155)⟩))
                        | (rcases hv with hv | hv
                           · exact ih _ (Or.inl ⟨rfl, (stp i).mpr (Or.inl hv.2)⟩)
                           · exact absurd hv.1 h140)
                    · skip
                      refine sw_aloadn dX8_pairs_149 rfl ?_
                      refine sw_iload dX8_pairs_150 rfl ?_
                      refine sw_iload dX8_pairs_152 rfl ?_
                      refine sw_iloadn dX8_pairs_154 rfl ?_
                      refine sx_invI3 dX8_pairs_155 mk_X8_isTogether vk_X8_isTogether lk_X8_321 o46 (Nat.le_of_ble_eq_true rfl) (Nat.le_of_ble_eq_true rfl) ?_
                      refine m_isTogether (show k < 100 by omega) (show i < 100 by omega) hpk.2.2.1 hpi.2.2.1 (fun h155 => ?_) (fun h155 => ?_)
                      · skip
                        refine sw_if_eq (tgt := 165) dX8_pairs_158 (by decide) (fun h158 => ?_) (fun h158 => ?_)
                        · exact absurd h158 (by decide)
                        · skip
                          refine sx_iconst (v := nI 1) dX8_pairs_161 (by decide) ?_
                          refine sw_goto (tgt := 166) dX8_pairs_162 (by decide) ?_
                          refine sw_istore dX8_pairs_166 (Nat.le_of_ble_eq_true rfl) ?_
                          refine sx_iinc (nI (i + 1)) dX8_pairs_168 rfl (nI_inc _) ?_
                          refine sw_goto (tgt := 79) dX8_pairs_171 (by decide) ?_
                          first
                            | exact ih _ (isV_iff hv ((stp i).trans ⟨fun q => q.elim id (fun z => absurd z.2.2.1 h117), Or.inl⟩).symm)
                            | exact ih _ (isV_iff hv ((stp i).trans ⟨fun q => q.elim id (fun z => absurd (congrArg nI z.2.2.2.1) h135), Or.inl⟩).symm)
                            | exact ih _ (Or.inl ⟨rfl, (stp i).mpr (Or.inr ⟨h92, hdd, h117, hde, Or.inl h146⟩)⟩)
                            | exact ih _ (Or.inl ⟨rfl, (stp i).mpr (Or.inr ⟨h92, hdd, h117, hde, Or.inr h155⟩)⟩)
                            | (rcases hv with hv | hv
                               · exact absurd hv.1 (by rw [show v7 = nI 0 from h140]; decide)
                               · exact ih _ (Or.inr ⟨rfl, fun q => ((stp i).mp q).elim hv.2 (fun z => z.2.2.2.2.elim h146 h155)⟩))
                            | (rcases hv with hv | hv
                               · exact ih _ (Or.inl ⟨rfl, (stp i).mpr (Or.inl hv.2)⟩)
                               · exact absurd hv.1 h140)
                      · skip
                        refine sw_if_eq (tgt := 165) dX8_pairs_158 (by decide) (fun h158 => ?_) (fun h158 => ?_)
                        · skip
                          refine sx_iconst (v := nI 0) dX8_pairs_165 (by decide) ?_
                          refine sw_istore dX8_pairs_166 (Nat.le_of_ble_eq_true rfl) ?_
                          refine sx_iinc (nI (i + 1)) dX8_pairs_168 rfl (nI_inc _) ?_
                          refine sw_goto (tgt := 79) dX8_pairs_171 (by decide) ?_
                          first
                            | exact ih _ (isV_iff hv ((stp i).trans ⟨fun q => q.elim id (fun z => absurd z.2.2.1 h117), Or.inl⟩).symm)
                            | exact ih _ (isV_iff hv ((stp i).trans ⟨fun q => q.elim id (fun z => absurd (congrArg nI z.2.2.2.1) h135), Or.inl⟩).symm)
                            | exact ih _ (Or.inl ⟨rfl, (stp i).mpr (Or.inr ⟨h92, hdd, h117, hde, Or.inl h146⟩)⟩)
                            | exact ih _ (Or.inl ⟨rfl, (stp i).mpr (Or.inr ⟨h92, hdd, h117, hde, Or.inr h155⟩)⟩)
                            | (rcases hv with hv | hv
                               · exact absurd hv.1 (by rw [show v7 = nI 0 from h140]; decide)
                               · exact ih _ (Or.inr ⟨rfl, fun q => ((stp i).mp q).elim hv.2 (fun z => z.2.2.2.2.elim h146 h155)⟩))
                            | (rcases hv with hv | hv
                               · exact ih _ (Or.inl ⟨rfl, (stp i).mpr (Or.inl hv.2)⟩)
                               · exact absurd hv.1 h140)
                        · exact absurd h158 (by decide)
            · skip
              refine sw_if_eq (tgt := 168) dX8_pairs_120 (by decide) (fun h120 => ?_) (fun h120 => ?_)
              · skip
                refine sx_iinc (nI (i + 1)) dX8_pairs_168 rfl (nI_inc _) ?_
                refine sw_goto (tgt := 79) dX8_pairs_171 (by decide) ?_
                first
                  | exact ih _ (isV_iff hv ((stp i).trans ⟨fun q => q.elim id (fun z => absurd z.2.2.1 h117), Or.inl⟩).symm)
                  | exact ih _ (isV_iff hv ((stp i).trans ⟨fun q => q.elim id (fun z => absurd (congrArg nI z.2.2.2.1) h135), Or.inl⟩).symm)
                  | exact ih _ (Or.inl ⟨rfl, (stp i).mpr (Or.inr ⟨h92, hdd, h117, hde, Or.inl h146⟩)⟩)
                  | exact ih _ (Or.inl ⟨rfl, (stp i).mpr (Or.inr ⟨h92, hdd, h117, hde, Or.inr h155⟩)⟩)
                  | (rcases hv with hv | hv
                     · exact absurd hv.1 (by rw [show v7 = nI 0 from h140]; decide)
                     · exact ih _ (Or.inr ⟨rfl, fun q => ((stp i).mp q).elim hv.2 (fun z => z.2.2.2.2.elim h146 h155)⟩))
                  | (rcases hv with hv | hv
                     · exact ih _ (Or.inl ⟨rfl, (stp i).mpr (Or.inl hv.2)⟩)
                     · exact absurd hv.1 h140)
              · exact absurd h120 (by decide)
      · skip
        refine sw_if_eq (tgt := 174) dX8_pairs_95 (by decide) (fun h95 => ?_) (fun h95 => ?_)
        · skip
          first
            | exact hend _ _ (isV_iff hv (out (fun q => h92 q.1) i hi))
            | exact hend _ _ (isV_iff hv (out (fun q => h110 (congrArg nI q.2)) i hi))
        · exact absurd h95 (by decide)
theorem m_pairs_k {f : Int32 → Mem → Prop} {P : PL} {nc n day : Nat} {x y s w v5 : Int32} (hs : σ.1 46 25 = nI n) (hn : n ≤ 100) (hL : LV P nc n (lgM σ)) (hd : day < 8)
    (hend : ∀ v7 o o', isV v7 (tgs (lgM σ) n x y s w day n 0) → SW G (d + 1) M_X8_pairs 180 [some (.ref 46), some (.int x), some (.int y), some (.int s), some (.int w), some (.int v5), some (.int (nI day)), some (.int v7), o, o'] [] σ (RI f)) :
    ∀ (m k : Nat), m = n - k → k ≤ n → ∀ v7 o, isV v7 (tgs (lgM σ) n x y s w day k 0) → SW G (d + 1) M_X8_pairs 67 [some (.ref 46), some (.int x), some (.int y), some (.int s), some (.int w), some (.int v5), some (.int (nI day)), some (.int v7), some (.int (nI k)), o] [] σ (RI f) := by
  intro m
  induction m with
  | zero =>
    intro k hm hk v7 o hv
    obtain rfl : k = n := by omega
    refine sw_iload dX8_pairs_67 rfl ?_
    refine sw_aloadn dX8_pairs_69 rfl ?_
    refine sw_getI dX8_pairs_70 fs_X8_207 o46 ?_
    rw [hs]
    refine sw_icmp_ge (tgt := 180) dX8_pairs_73 (by decide) (fun h73 => ?_) (fun h73 => ?_)
    · skip
      exact hend _ _ _ hv
    · exact absurd ((nI_le (Nat.le_refl _) (by omega))) h73
  | succ m ih =>
    intro k hm hk v7 o hv
    have ih := ih (k + 1) (by omega) (by omega)
    have c174 : ∀ v7 o, isV v7 (tgs (lgM σ) n x y s w day (k + 1) 0) → SW G (d + 1) M_X8_pairs 174 [some (.ref 46), some (.int x), some (.int y), some (.int s), some (.int w), some (.int v5), some (.int (nI day)), some (.int v7), some (.int (nI k)), o] [] σ (RI f) := by
      intro v7 o hv
      refine sx_iinc (nI (k + 1)) dX8_pairs_174 rfl (nI_inc _) ?_
      refine sw_goto (tgt := 67) dX8_pairs_177 (by decide) ?_
      exact ih _ _ hv
    refine sw_iload dX8_pairs_67 rfl ?_
    refine sw_aloadn dX8_pairs_69 rfl ?_
    refine sw_getI dX8_pairs_70 fs_X8_207 o46 ?_
    rw [hs]
    refine sw_icmp_ge (tgt := 180) dX8_pairs_73 (by decide) (fun h73 => ?_) (fun h73 => ?_)
    · exact absurd h73 ((by rw [nI_le' (by omega) (by omega)]; omega))
    · skip
      refine sx_iconst (v := nI 0) dX8_pairs_76 (by decide) ?_
      refine sw_istore dX8_pairs_77 (Nat.le_of_ble_eq_true rfl) ?_
      refine m_pairs_in hs hn hL (show k < n by omega) hd (fun v7 o hv => ?_) n 0 (by omega) (by omega) _ hv
      exact c174 _ _ hv
theorem m_pairs_d {f : Int32 → Mem → Prop} {P : PL} {nc n : Nat} {x y s w : Int32} (hs : σ.1 46 25 = nI n) (hn : n ≤ 100) (hL : LV P nc n (lgM σ)) (h : f (nI (cnt (tgB (lgM σ) n x y s w) 8)) σ) :
    ∀ (m day : Nat), m = 8 - day → day ≤ 8 → ∀ o o' o'', SW G (d + 1) M_X8_pairs 54 [some (.ref 46), some (.int x), some (.int y), some (.int s), some (.int w), some (.int (nI (cnt (tgB (lgM σ) n x y s w) day))), some (.int (nI day)), o, o', o''] [] σ (RI f) := by
  intro m
  induction m with
  | zero =>
    intro day hm hk o o' o''
    obtain rfl : day = 8 := by omega
    refine sw_iload dX8_pairs_54 rfl ?_
    refine sx_bipush (v := nI 8) dX8_pairs_56 (by decide) ?_
    refine sw_icmp_ge (tgt := 194) dX8_pairs_58 (by decide) (fun h58 => ?_) (fun h58 => ?_)
    · skip
      refine sw_iload dX8_pairs_194 rfl ?_
      refine sx_reti dX8_pairs_196 rfl ?_
      exact h
    · exact absurd ((by decide)) h58
  | succ m ih =>
    intro day hm hk o o' o''
    have ih := ih (day + 1) (by omega) (by omega)
    have hB : tgs (lgM σ) n x y s w day n 0 ↔ tgB (lgM σ) n x y s w day = true := by
      unfold tgB
      rw [@decide_eq_true_iff _ (Classical.propDecidable _)]
      constructor
      · rintro ⟨a, b, h | h, ht⟩
        · exact ⟨a, b, h.1, h.2, ht⟩
        · exact absurd h.2 (by omega)
      · rintro ⟨a, b, h1, h2, ht⟩
        exact ⟨a, b, Or.inl ⟨h1, h2⟩, ht⟩
    have c180 : ∀ v7 o o', isV v7 (tgB (lgM σ) n x y s w day = true) → SW G (d + 1) M_X8_pairs 180 [some (.ref 46), some (.int x), some (.int y), some (.int s), some (.int w), some (.int (nI (cnt (tgB (lgM σ) n x y s w) day))), some (.int (nI day)), some (.int v7), o, o'] [] σ (RI f) := by
      intro v7 o o' hv
      refine sw_iload dX8_pairs_180 rfl ?_
      refine sw_if_eq (tgt := 188) dX8_pairs_182 (by decide) (fun h182 => ?_) (fun h182 => ?_)
      · skip
        refine sx_iinc (nI (day + 1)) dX8_pairs_188 rfl (nI_inc _) ?_
        refine sw_goto (tgt := 54) dX8_pairs_191 (by decide) ?_
        rcases hv with hv | hv
        · first
            | (rw [cnt, if_pos hv.2] at ih; exact ih _ _ _)
            | exact absurd h182 (by rw [hv.1]; decide)
        · first
            | (rw [cnt, if_neg hv.2] at ih; exact ih _ _ _)
            | exact absurd hv.1 h182
      · skip
        refine sx_iinc (nI (cnt (tgB (lgM σ) n x y s w) day + 1)) dX8_pairs_185 rfl (nI_inc _) ?_
        refine sx_iinc (nI (day + 1)) dX8_pairs_188 rfl (nI_inc _) ?_
        refine sw_goto (tgt := 54) dX8_pairs_191 (by decide) ?_
        rcases hv with hv | hv
        · first
            | (rw [cnt, if_pos hv.2] at ih; exact ih _ _ _)
            | exact absurd h182 (by rw [hv.1]; decide)
        · first
            | (rw [cnt, if_neg hv.2] at ih; exact ih _ _ _)
            | exact absurd hv.1 h182
    refine sw_iload dX8_pairs_54 rfl ?_
    refine sx_bipush (v := nI 8) dX8_pairs_56 (by decide) ?_
    refine sw_icmp_ge (tgt := 194) dX8_pairs_58 (by decide) (fun h58 => ?_) (fun h58 => ?_)
    · exact absurd h58 ((by rw [nI_le' (by omega) (by omega)]; omega))
    · skip
      refine sx_iconst (v := nI 0) dX8_pairs_61 (by decide) ?_
      refine sw_istore dX8_pairs_62 (Nat.le_of_ble_eq_true rfl) ?_
      refine sx_iconst (v := nI 0) dX8_pairs_64 (by decide) ?_
      refine sw_istore dX8_pairs_65 (Nat.le_of_ble_eq_true rfl) ?_
      refine m_pairs_k hs hn hL (show day < 8 by omega) (fun v7 o o' hv => ?_) n 0 (by omega) (by omega) _ _ (Or.inr ⟨rfl, fun ⟨a, b, h, _⟩ => by omega⟩)
      exact c180 _ _ _ (isV_iff hv hB)
def okPairW (nc : Nat) (x y s w : Int32) : Prop := okPair nc x y s ∧ (w = nI 0 ∨ w = nI 1)
theorem m_pairs {f : Int32 → Mem → Prop} {P : PL} {nc n : Nat} {x y s w : Int32} (hc : σ.1 46 24 = nI nc) (hcb : nc ≤ 10) (hs : σ.1 46 25 = nI n) (hn : n ≤ 100) (hL : LV P nc n (lgM σ)) (k1 : okPair nc x y s → f (prV (lgM σ) n x y s w) (th σ)) (k0 : ¬ okPair nc x y s → f (-1) (th σ)) : SW G (d + 1) M_X8_pairs 0 [some (.ref 46), some (.int x), some (.int y), some (.int s), some (.int w), none, none, none, none, none] [] σ (RI f) := by
  refine sw_aloadn dX8_pairs_0 rfl ?_
  refine sx_iconst (v := nI 0) dX8_pairs_1 (by decide) ?_
  refine sw_putI dX8_pairs_2 fs_X8_1 o46 ?_
  refine sw_aloadn dX8_pairs_5 rfl ?_
  refine sw_iloadn dX8_pairs_6 rfl ?_
  refine sx_invI1 dX8_pairs_7 mk_X8_isCard vk_X8_isCard lk_X8_213 o46 (Nat.le_of_ble_eq_true rfl) (Nat.le_of_ble_eq_true rfl) ?_
  refine m_isCard (σ := th σ) hc hcb (fun h7 => ?_) (fun h7 => ?_)
  · skip
    refine sw_if_eq (tgt := 46) dX8_pairs_10 (by decide) (fun h10 => ?_) (fun h10 => ?_)
    · exact absurd h10 (by decide)
    · skip
      refine sw_aloadn dX8_pairs_13 rfl ?_
      refine sw_iloadn dX8_pairs_14 rfl ?_
      refine sx_invI1 dX8_pairs_15 mk_X8_isCard vk_X8_isCard lk_X8_213 o46 (Nat.le_of_ble_eq_true rfl) (Nat.le_of_ble_eq_true rfl) ?_
      refine m_isCard (σ := th σ) hc hcb (fun h15 => ?_) (fun h15 => ?_)
      · skip
        refine sw_if_eq (tgt := 46) dX8_pairs_18 (by decide) (fun h18 => ?_) (fun h18 => ?_)
        · exact absurd h18 (by decide)
        · skip
          refine sw_iloadn dX8_pairs_21 rfl ?_
          refine sw_iloadn dX8_pairs_22 rfl ?_
          refine sw_icmp_eq (tgt := 46) dX8_pairs_23 (by decide) (fun h23 => ?_) (fun h23 => ?_)
          · skip
            refine sx_iconst (v := (-1)) dX8_pairs_46 (by decide) ?_
            refine sx_reti dX8_pairs_47 rfl ?_
            first
              | (have h40 : ¬ inR w 2 := fun q => h40 ((wi_in0 (by omega)).mpr q)
                 have k1 := k1 ⟨h7, h15, h23, (wi_in0 (by omega)).mp h30⟩
                 rw [prV, if_neg (fun q => h40 ⟨0, by omega, q⟩), if_neg (fun q => h40 ⟨1, by omega, q⟩)] at k1
                 exact k1)
              | exact k0 (fun q => h30 ((wi_in0 (by omega)).mpr q.2.2.2))
              | exact k0 (fun q => q.2.2.1 h23)
              | exact k0 (fun q => h15 q.2.1)
              | exact k0 (fun q => h7 q.1)
          · skip
            refine sw_iloadn dX8_pairs_26 rfl ?_
            refine sx_iconst (v := nI 0) dX8_pairs_27 (by decide) ?_
            refine sx_bipush (v := nI 24) dX8_pairs_28 (by decide) ?_
            refine sx_insI3 dX8_pairs_30 mk_X8_within sk_X8_within lk_X8_216 (Nat.le_of_ble_eq_true rfl) (Nat.le_of_ble_eq_true rfl) ?_
            refine m_within (fun h30 => ?_) (fun h30 => ?_)
            · skip
              refine sw_if_eq (tgt := 46) dX8_pairs_33 (by decide) (fun h33 => ?_) (fun h33 => ?_)
              · exact absurd h33 (by decide)
              · skip
                refine sw_iload dX8_pairs_36 rfl ?_
                refine sx_iconst (v := nI 0) dX8_pairs_38 (by decide) ?_
                refine sx_iconst (v := nI 1) dX8_pairs_39 (by decide) ?_
                refine sx_insI3 dX8_pairs_40 mk_X8_within sk_X8_within lk_X8_216 (Nat.le_of_ble_eq_true rfl) (Nat.le_of_ble_eq_true rfl) ?_
                refine m_within (fun h40 => ?_) (fun h40 => ?_)
                · skip
                  refine sw_if_ne (tgt := 48) dX8_pairs_43 (by decide) (fun h43 => ?_) (fun h43 => ?_)
                  · skip
                    refine sx_iconst (v := nI 0) dX8_pairs_48 (by decide) ?_
                    refine sw_istore dX8_pairs_49 (Nat.le_of_ble_eq_true rfl) ?_
                    refine sx_iconst (v := nI 0) dX8_pairs_51 (by decide) ?_
                    refine sw_istore dX8_pairs_52 (Nat.le_of_ble_eq_true rfl) ?_
                    have k1 := k1 ⟨h7, h15, h23, (wi_in0 (by omega)).mp h30⟩
                    have hw : w = nI 0 ∨ w = nI 1 := by
                      obtain ⟨j, hj, e⟩ := (wi_in0 (by omega)).mp h40
                      rcases (show j = 0 ∨ j = 1 by omega) with rfl | rfl
                      · exact Or.inl e
                      · exact Or.inr e
                    rw [prV_eq hL hw] at k1
                    exact m_pairs_d (σ := th σ) hs hn hL k1 8 0 (by omega) (by omega) _ _ _
                  · exact absurd h43 (by decide)
                · skip
                  refine sw_if_ne (tgt := 48) dX8_pairs_43 (by decide) (fun h43 => ?_) (fun h43 => ?_)
                  · exact absurd h43 (by decide)
                  · skip
                    refine sx_iconst (v := (-1)) dX8_pairs_46 (by decide) ?_
                    refine sx_reti dX8_pairs_47 rfl ?_
                    first
                      | (have h40 : ¬ inR w 2 := fun q => h40 ((wi_in0 (by omega)).mpr q)
                         have k1 := k1 ⟨h7, h15, h23, (wi_in0 (by omega)).mp h30⟩
                         rw [prV, if_neg (fun q => h40 ⟨0, by omega, q⟩), if_neg (fun q => h40 ⟨1, by omega, q⟩)] at k1
                         exact k1)
                      | exact k0 (fun q => h30 ((wi_in0 (by omega)).mpr q.2.2.2))
                      | exact k0 (fun q => q.2.2.1 h23)
                      | exact k0 (fun q => h15 q.2.1)
                      | exact k0 (fun q => h7 q.1)
            · skip
              refine sw_if_eq (tgt := 46) dX8_pairs_33 (by decide) (fun h33 => ?_) (fun h33 => ?_)
              · skip
                refine sx_iconst (v := (-1)) dX8_pairs_46 (by decide) ?_
                refine sx_reti dX8_pairs_47 rfl ?_
                first
                  | (have h40 : ¬ inR w 2 := fun q => h40 ((wi_in0 (by omega)).mpr q)
                     have k1 := k1 ⟨h7, h15, h23, (wi_in0 (by omega)).mp h30⟩
                     rw [prV, if_neg (fun q => h40 ⟨0, by omega, q⟩), if_neg (fun q => h40 ⟨1, by omega, q⟩)] at k1
                     exact k1)
                  | exact k0 (fun q => h30 ((wi_in0 (by omega)).mpr q.2.2.2))
                  | exact k0 (fun q => q.2.2.1 h23)
                  | exact k0 (fun q => h15 q.2.1)
                  | exact k0 (fun q => h7 q.1)
              · exact absurd h33 (by decide)
      · skip
        refine sw_if_eq (tgt := 46) dX8_pairs_18 (by decide) (fun h18 => ?_) (fun h18 => ?_)
        · skip
          refine sx_iconst (v := (-1)) dX8_pairs_46 (by decide) ?_
          refine sx_reti dX8_pairs_47 rfl ?_
          first
            | (have h40 : ¬ inR w 2 := fun q => h40 ((wi_in0 (by omega)).mpr q)
               have k1 := k1 ⟨h7, h15, h23, (wi_in0 (by omega)).mp h30⟩
               rw [prV, if_neg (fun q => h40 ⟨0, by omega, q⟩), if_neg (fun q => h40 ⟨1, by omega, q⟩)] at k1
               exact k1)
            | exact k0 (fun q => h30 ((wi_in0 (by omega)).mpr q.2.2.2))
            | exact k0 (fun q => q.2.2.1 h23)
            | exact k0 (fun q => h15 q.2.1)
            | exact k0 (fun q => h7 q.1)
        · exact absurd h18 (by decide)
  · skip
    refine sw_if_eq (tgt := 46) dX8_pairs_10 (by decide) (fun h10 => ?_) (fun h10 => ?_)
    · skip
      refine sx_iconst (v := (-1)) dX8_pairs_46 (by decide) ?_
      refine sx_reti dX8_pairs_47 rfl ?_
      first
        | (have h40 : ¬ inR w 2 := fun q => h40 ((wi_in0 (by omega)).mpr q)
           have k1 := k1 ⟨h7, h15, h23, (wi_in0 (by omega)).mp h30⟩
           rw [prV, if_neg (fun q => h40 ⟨0, by omega, q⟩), if_neg (fun q => h40 ⟨1, by omega, q⟩)] at k1
           exact k1)
        | exact k0 (fun q => h30 ((wi_in0 (by omega)).mpr q.2.2.2))
        | exact k0 (fun q => q.2.2.1 h23)
        | exact k0 (fun q => h15 q.2.1)
        | exact k0 (fun q => h7 q.1)
    · exact absurd h10 (by decide)
end MPAIRS
