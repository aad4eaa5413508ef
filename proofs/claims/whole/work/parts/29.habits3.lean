/-! ===== days and pairs, of the class ===== -/
def pasB (g : LG) (y : Int32) (k : Nat) : Bool := decide (lKD g k = 0 ∧ lCA g k = y)
theorem pasB_iff {g : LG} {y : Int32} {k : Nat} : pasB g y k = true ↔ pas g y k := by unfold pasB pas; exact decide_eq_true_iff
/-- log i is a pass of y that is near pass k -/
def nea (g : LG) (y span : Int32) (k i : Nat) : Prop := pas g y i ∧ lTG g i = lTG g k ∧ lMO g i = lMO g k ∧ dy g i = dy g k ∧ ¬ span < nI (absD (nv (lTK g) i) (nv (lTK g) k))
noncomputable def neB (g : LG) (n : Nat) (x y span : Int32) (k : Nat) : Bool := @decide (pas g x k ∧ ∃ i, i < n ∧ nea g y span k i) (Classical.propDecidable _)
theorem neB_iff {g : LG} {n : Nat} {x y span : Int32} {k : Nat} : neB g n x y span k = true ↔ (pas g x k ∧ ∃ i, i < n ∧ nea g y span k i) := by unfold neB; exact @decide_eq_true_iff _ (Classical.propDecidable _)
section HABITS3
variable {G : GG} {d : Nat} {σ : Mem}
theorem c_X0_daysOf {f : Int32 → Mem → Prop} {P : PL} {nc n : Nat} {y : Int32} (hs : σ.1 17 0 = nI n) (hn : n ≤ 100) (hL : LV P nc n (lgC σ)) (h : f (nI (bts (pasB (lgC σ) y) (dy (lgC σ)) n)) σ) : SW G (d + 3) M_X0_daysOf 0 [some (.ref 29), some (.int y), none, none] [] σ (RI f) := by
  have hd8 : ∀ k, k < n → pasB (lgC σ) y k = true → dy (lgC σ) k < 8 := fun k hk q => dy_lt (hL.pass hk (pasB_iff.mp q).1).2.2.1
  have loop : ∀ (m k : Nat), m = n - k → k ≤ n → SW G (d + 3) M_X0_daysOf 4 [some (.ref 29), some (.int y), some (.int (nI (bts (pasB (lgC σ) y) (dy (lgC σ)) k))), some (.int (nI k))] [] σ (RI f) := by
    intro m
    induction m with
    | zero =>
      intro k hm hk
      obtain rfl : k = n := by omega
      refine sw_iloadn dX0_daysOf_4 rfl ?_
      refine sw_aloadn dX0_daysOf_5 rfl ?_
      refine sw_getR dX0_daysOf_6 fs_X0_19 o29 r29_1 ?_
      refine sw_getI dX0_daysOf_9 fs_X0_70 o17 ?_
      rw [hs]
      refine sw_icmp_ge (tgt := 43) dX0_daysOf_12 (by decide) (fun h12 => ?_) (fun h12 => ?_)
      · skip
        refine sw_iloadn dX0_daysOf_43 rfl ?_
        refine sx_reti dX0_daysOf_44 rfl ?_
        exact h
      · exact absurd ((nI_le (Nat.le_refl _) (by omega))) h12
    | succ m ih =>
      intro k hm hk
      have ih := ih (k + 1) (by omega) (by omega)
      refine sw_iloadn dX0_daysOf_4 rfl ?_
      refine sw_aloadn dX0_daysOf_5 rfl ?_
      refine sw_getR dX0_daysOf_6 fs_X0_19 o29 r29_1 ?_
      refine sw_getI dX0_daysOf_9 fs_X0_70 o17 ?_
      rw [hs]
      refine sw_icmp_ge (tgt := 43) dX0_daysOf_12 (by decide) (fun h12 => ?_) (fun h12 => ?_)
      · exact absurd h12 ((by rw [nI_le' (by omega) (by omega)]; omega))
      · skip
        refine sw_aloadn dX0_daysOf_15 rfl ?_
        refine sw_getR dX0_daysOf_16 fs_X0_19 o29 r29_1 ?_
        refine sw_iloadn dX0_daysOf_19 rfl ?_
        refine sw_iloadn dX0_daysOf_20 rfl ?_
        refine sx_invI2 dX0_daysOf_21 mk_X2_isPassOf vk_X2_isPassOf lk_X0_47 o17 (Nat.le_of_ble_eq_true rfl) (Nat.le_of_ble_eq_true rfl) ?_
        refine c_X2_isPassOf hs hn (show k < n by omega) (fun h21 => ?_) (fun h21 => ?_)
        · skip
          refine sw_if_eq (tgt := 37) dX0_daysOf_24 (by decide) (fun h24 => ?_) (fun h24 => ?_)
          · exact absurd h24 (by decide)
          · skip
            have hp := hL.pass (show k < n by omega) h21.1
            refine sw_iloadn dX0_daysOf_27 rfl ?_
            refine sx_iconst (v := nI 1) dX0_daysOf_28 (by decide) ?_
            refine sw_aloadn dX0_daysOf_29 rfl ?_
            refine sw_iloadn dX0_daysOf_30 rfl ?_
            refine sx_invI1 dX0_daysOf_31 mk_X0_dayOf vk_X0_dayOf lk_X0_55 o29 (Nat.le_of_ble_eq_true rfl) (Nat.le_of_ble_eq_true rfl) ?_
            refine c_X0_dayOf (nv (lTK (lgC σ)) k) (dy (lgC σ) k) rfl (by omega) hp.2.2.1.1 hp.2.2.1.2 ?_
            refine sw_ishl dX0_daysOf_34 ?_
            refine sw_ior dX0_daysOf_35 ?_
            rw [or_bit _ (Nat.lt_of_lt_of_le (bts_lt (b := 8) (fun j hj => hd8 j (by omega))) (by decide)) _ (by have := dy_lt hp.2.2.1; omega)]
            refine sw_istoren dX0_daysOf_36 (Nat.le_of_ble_eq_true rfl) ?_
            refine sx_iinc (nI (k + 1)) dX0_daysOf_37 rfl (nI_inc _) ?_
            refine sw_goto (tgt := 4) dX0_daysOf_40 (by decide) ?_
            first
              | (rw [bts, if_pos (show pasB (lgC σ) y k = true from pasB_iff.mpr h21)] at ih; exact ih)
              | (rw [bts, if_neg (show ¬ pasB (lgC σ) y k = true from fun q => h21 (pasB_iff.mp q))] at ih; exact ih)
        · skip
          refine sw_if_eq (tgt := 37) dX0_daysOf_24 (by decide) (fun h24 => ?_) (fun h24 => ?_)
          · skip
            refine sx_iinc (nI (k + 1)) dX0_daysOf_37 rfl (nI_inc _) ?_
            refine sw_goto (tgt := 4) dX0_daysOf_40 (by decide) ?_
            first
              | (rw [bts, if_pos (show pasB (lgC σ) y k = true from pasB_iff.mpr h21)] at ih; exact ih)
              | (rw [bts, if_neg (show ¬ pasB (lgC σ) y k = true from fun q => h21 (pasB_iff.mp q))] at ih; exact ih)
          · exact absurd h24 (by decide)
  refine sx_iconst (v := nI 0) dX0_daysOf_0 (by decide) ?_
  refine sw_istoren dX0_daysOf_1 (Nat.le_of_ble_eq_true rfl) ?_
  refine sx_iconst (v := nI 0) dX0_daysOf_2 (by decide) ?_
  refine sw_istoren dX0_daysOf_3 (Nat.le_of_ble_eq_true rfl) ?_
  exact loop n 0 (by omega) (by omega)
theorem c_X0_isNear {f : Int32 → Mem → Prop} {P : PL} {nc n k : Nat} {y span : Int32} (hs : σ.1 17 0 = nI n) (hn : n ≤ 100) (hk : k < n) (hL : LV P nc n (lgC σ)) (h0 : σ.1 18 k = 0) (k1 : (∃ i, i < n ∧ nea (lgC σ) y span k i) → f (nI 1) σ) (k0 : ¬ (∃ i, i < n ∧ nea (lgC σ) y span k i) → f (nI 0) σ) : SW G (d + 3) M_X0_isNear 0 [some (.ref 29), some (.int (nI k)), some (.int y), some (.int span), none] [] σ (RI f) := by
  have hpk := hL.pass hk h0
  have hd8 := dy_lt hpk.2.2.1
  have loop : ∀ (m i : Nat), m = n - i → i ≤ n → (∀ j, j < i → ¬ nea (lgC σ) y span k j) → SW G (d + 3) M_X0_isNear 3 [some (.ref 29), some (.int (nI k)), some (.int y), some (.int span), some (.int (nI i))] [] σ (RI f) := by
    intro m
    induction m with
    | zero =>
      intro i hm hi hI
      obtain rfl : i = n := by omega
      refine sw_iload dX0_isNear_3 rfl ?_
      refine sw_aloadn dX0_isNear_5 rfl ?_
      refine sw_getR dX0_isNear_6 fs_X0_19 o29 r29_1 ?_
      refine sw_getI dX0_isNear_9 fs_X0_70 o17 ?_
      rw [hs]
      refine sw_icmp_ge (tgt := 121) dX0_isNear_12 (by decide) (fun h12 => ?_) (fun h12 => ?_)
      · skip
        refine sx_iconst (v := nI 0) dX0_isNear_121 (by decide) ?_
        refine sx_retz dX0_isNear_122 rfl (Or.inl rfl) ?_
        exact k0 (fun ⟨j, hj, q⟩ => hI j hj q)
      · exact absurd ((nI_le (Nat.le_refl _) (by omega))) h12
    | succ m ih =>
      intro i hm hi hI
      have nxt : ¬ nea (lgC σ) y span k i → SW G (d + 3) M_X0_isNear 3 [some (.ref 29), some (.int (nI k)), some (.int y), some (.int span), some (.int (nI (i + 1)))] [] σ (RI f) := fun q => ih (i + 1) (by omega) (by omega) (fun j hj => by
        rcases Nat.lt_succ_iff_lt_or_eq.mp hj with h | rfl
        · exact hI j h
        · exact q)
      refine sw_iload dX0_isNear_3 rfl ?_
      refine sw_aloadn dX0_isNear_5 rfl ?_
      refine sw_getR dX0_isNear_6 fs_X0_19 o29 r29_1 ?_
      refine sw_getI dX0_isNear_9 fs_X0_70 o17 ?_
      rw [hs]
      refine sw_icmp_ge (tgt := 121) dX0_isNear_12 (by decide) (fun h12 => ?_) (fun h12 => ?_)
      · exact absurd h12 ((by rw [nI_le' (by omega) (by omega)]; omega))
      · skip
        refine sw_aloadn dX0_isNear_15 rfl ?_
        refine sw_getR dX0_isNear_16 fs_X0_19 o29 r29_1 ?_
        refine sw_iload dX0_isNear_19 rfl ?_
        refine sw_iloadn dX0_isNear_21 rfl ?_
        refine sx_invI2 dX0_isNear_22 mk_X2_isPassOf vk_X2_isPassOf lk_X0_47 o17 (Nat.le_of_ble_eq_true rfl) (Nat.le_of_ble_eq_true rfl) ?_
        refine c_X2_isPassOf hs hn (show i < n by omega) (fun h22 => ?_) (fun h22 => ?_)
        · skip
          refine sw_if_eq (tgt := 115) dX0_isNear_25 (by decide) (fun h25 => ?_) (fun h25 => ?_)
          · exact absurd h25 (by decide)
          · skip
            have hpi := hL.pass (show i < n by omega) h22.1
            have hd8i := dy_lt hpi.2.2.1
            refine sw_aloadn dX0_isNear_28 rfl ?_
            refine sw_getR dX0_isNear_29 fs_X0_19 o29 r29_1 ?_
            refine sw_getR dX0_isNear_32 fs_X0_23 o17 r17_3 ?_
            refine sw_iload dX0_isNear_35 rfl ?_
            refine sx_iald (i) dX0_isNear_37 a20 (rfl) (by omega) (by decide) ?_
            refine sw_aloadn dX0_isNear_38 rfl ?_
            refine sw_getR dX0_isNear_39 fs_X0_19 o29 r29_1 ?_
            refine sw_getR dX0_isNear_42 fs_X0_23 o17 r17_3 ?_
            refine sw_iloadn dX0_isNear_45 rfl ?_
            refine sx_iald (k) dX0_isNear_46 a20 (rfl) (by omega) (by decide) ?_
            refine sw_icmp_ne (tgt := 115) dX0_isNear_47 (by decide) (fun h47 => ?_) (fun h47 => ?_)
            · skip
              refine sx_iinc (nI (i + 1)) dX0_isNear_115 rfl (nI_inc _) ?_
              refine sw_goto (tgt := 3) dX0_isNear_118 (by decide) ?_
              first
                | exact nxt (fun q => h22 q.1)
                | exact nxt (fun q => h47 q.2.1)
                | exact nxt (fun q => h69 q.2.2.1)
                | exact nxt (fun q => h83 (congrArg nI q.2.2.2.1))
                | exact nxt (fun q => q.2.2.2.2 h110)
            · skip
              refine sw_aloadn dX0_isNear_50 rfl ?_
              refine sw_getR dX0_isNear_51 fs_X0_19 o29 r29_1 ?_
              refine sw_getR dX0_isNear_54 fs_X0_78 o17 r17_5 ?_
              refine sw_iload dX0_isNear_57 rfl ?_
              refine sx_iald (i) dX0_isNear_59 a22 (rfl) (by omega) (by decide) ?_
              refine sw_aloadn dX0_isNear_60 rfl ?_
              refine sw_getR dX0_isNear_61 fs_X0_19 o29 r29_1 ?_
              refine sw_getR dX0_isNear_64 fs_X0_78 o17 r17_5 ?_
              refine sw_iloadn dX0_isNear_67 rfl ?_
              refine sx_iald (k) dX0_isNear_68 a22 (rfl) (by omega) (by decide) ?_
              refine sw_icmp_ne (tgt := 115) dX0_isNear_69 (by decide) (fun h69 => ?_) (fun h69 => ?_)
              · skip
                refine sx_iinc (nI (i + 1)) dX0_isNear_115 rfl (nI_inc _) ?_
                refine sw_goto (tgt := 3) dX0_isNear_118 (by decide) ?_
                first
                  | exact nxt (fun q => h22 q.1)
                  | exact nxt (fun q => h47 q.2.1)
                  | exact nxt (fun q => h69 q.2.2.1)
                  | exact nxt (fun q => h83 (congrArg nI q.2.2.2.1))
                  | exact nxt (fun q => q.2.2.2.2 h110)
              · skip
                refine sw_aloadn dX0_isNear_72 rfl ?_
                refine sw_iload dX0_isNear_73 rfl ?_
                refine sx_invI1 dX0_isNear_75 mk_X0_dayOf vk_X0_dayOf lk_X0_55 o29 (Nat.le_of_ble_eq_true rfl) (Nat.le_of_ble_eq_true rfl) ?_
                refine c_X0_dayOf (nv (lTK (lgC σ)) i) (dy (lgC σ) i) rfl (by omega) hpi.2.2.1.1 hpi.2.2.1.2 ?_
                refine sw_aloadn dX0_isNear_78 rfl ?_
                refine sw_iloadn dX0_isNear_79 rfl ?_
                refine sx_invI1 dX0_isNear_80 mk_X0_dayOf vk_X0_dayOf lk_X0_55 o29 (Nat.le_of_ble_eq_true rfl) (Nat.le_of_ble_eq_true rfl) ?_
                refine c_X0_dayOf (nv (lTK (lgC σ)) k) (dy (lgC σ) k) rfl (by omega) hpk.2.2.1.1 hpk.2.2.1.2 ?_
                refine sw_icmp_ne (tgt := 115) dX0_isNear_83 (by decide) (fun h83 => ?_) (fun h83 => ?_)
                · skip
                  refine sx_iinc (nI (i + 1)) dX0_isNear_115 rfl (nI_inc _) ?_
                  refine sw_goto (tgt := 3) dX0_isNear_118 (by decide) ?_
                  first
                    | exact nxt (fun q => h22 q.1)
                    | exact nxt (fun q => h47 q.2.1)
                    | exact nxt (fun q => h69 q.2.2.1)
                    | exact nxt (fun q => h83 (congrArg nI q.2.2.2.1))
                    | exact nxt (fun q => q.2.2.2.2 h110)
                · skip
                  refine sw_aloadn dX0_isNear_86 rfl ?_
                  refine sw_getR dX0_isNear_87 fs_X0_19 o29 r29_1 ?_
                  refine sw_getR dX0_isNear_90 fs_X0_58 o17 r17_4 ?_
                  refine sw_iload dX0_isNear_93 rfl ?_
                  refine sx_iald (i) dX0_isNear_95 a21 (rfl) (by omega) (by decide) ?_
                  refine sw_aloadn dX0_isNear_96 rfl ?_
                  refine sw_getR dX0_isNear_97 fs_X0_19 o29 r29_1 ?_
                  refine sw_getR dX0_isNear_100 fs_X0_58 o17 r17_4 ?_
                  refine sw_iloadn dX0_isNear_103 rfl ?_
                  refine sx_iald (k) dX0_isNear_104 a21 (rfl) (by omega) (by decide) ?_
                  rw [show σ.1 21 i = nI (nv (lTK (lgC σ)) i) from hpi.2.2.1.1, show σ.1 21 k = nI (nv (lTK (lgC σ)) k) from hpk.2.2.1.1]
                  refine sw_isub dX0_isNear_105 ?_
                  refine sw_abs dX0_isNear_106 lm_X0_81 (Nat.le_of_ble_eq_true rfl) ?_
                  rw [abs_C (by have := hpi.2.2.1.2; omega) (by have := hpk.2.2.1.2; omega)]
                  refine sw_iloadn dX0_isNear_109 rfl ?_
                  refine sw_icmp_gt (tgt := 115) dX0_isNear_110 (by decide) (fun h110 => ?_) (fun h110 => ?_)
                  · skip
                    refine sx_iinc (nI (i + 1)) dX0_isNear_115 rfl (nI_inc _) ?_
                    refine sw_goto (tgt := 3) dX0_isNear_118 (by decide) ?_
                    first
                      | exact nxt (fun q => h22 q.1)
                      | exact nxt (fun q => h47 q.2.1)
                      | exact nxt (fun q => h69 q.2.2.1)
                      | exact nxt (fun q => h83 (congrArg nI q.2.2.2.1))
                      | exact nxt (fun q => q.2.2.2.2 h110)
                  · skip
                    refine sx_iconst (v := nI 1) dX0_isNear_113 (by decide) ?_
                    refine sx_retz dX0_isNear_114 rfl (Or.inr rfl) ?_
                    exact k1 ⟨i, by omega, h22, h47, h69, nI_inj (by omega) (by omega) h83, h110⟩
        · skip
          refine sw_if_eq (tgt := 115) dX0_isNear_25 (by decide) (fun h25 => ?_) (fun h25 => ?_)
          · skip
            refine sx_iinc (nI (i + 1)) dX0_isNear_115 rfl (nI_inc _) ?_
            refine sw_goto (tgt := 3) dX0_isNear_118 (by decide) ?_
            first
              | exact nxt (fun q => h22 q.1)
              | exact nxt (fun q => h47 q.2.1)
              | exact nxt (fun q => h69 q.2.2.1)
              | exact nxt (fun q => h83 (congrArg nI q.2.2.2.1))
              | exact nxt (fun q => q.2.2.2.2 h110)
          · exact absurd h25 (by decide)
  refine sx_iconst (v := nI 0) dX0_isNear_0 (by decide) ?_
  refine sw_istore dX0_isNear_1 (Nat.le_of_ble_eq_true rfl) ?_
  exact loop n 0 (by omega) (by omega) (fun j hj => absurd hj (by omega))
theorem c_X0_daysTogether {f : Int32 → Mem → Prop} {P : PL} {nc n : Nat} {x y span : Int32} (hs : σ.1 17 0 = nI n) (hn : n ≤ 100) (hL : LV P nc n (lgC σ)) (h : f (nI (bts (neB (lgC σ) n x y span) (dy (lgC σ)) n)) σ) : SW G (d + 4) M_X0_daysTogether 0 [some (.ref 29), some (.int x), some (.int y), some (.int span), none, none] [] σ (RI f) := by
  have hd8 : ∀ k, k < n → neB (lgC σ) n x y span k = true → dy (lgC σ) k < 8 := fun k hk q => dy_lt (hL.pass hk (neB_iff.mp q).1.1).2.2.1
  have loop : ∀ (m k : Nat), m = n - k → k ≤ n → SW G (d + 4) M_X0_daysTogether 6 [some (.ref 29), some (.int x), some (.int y), some (.int span), some (.int (nI (bts (neB (lgC σ) n x y span) (dy (lgC σ)) k))), some (.int (nI k))] [] σ (RI f) := by
    intro m
    induction m with
    | zero =>
      intro k hm hk
      obtain rfl : k = n := by omega
      refine sw_iload dX0_daysTogether_6 rfl ?_
      refine sw_aloadn dX0_daysTogether_8 rfl ?_
      refine sw_getR dX0_daysTogether_9 fs_X0_19 o29 r29_1 ?_
      refine sw_getI dX0_daysTogether_12 fs_X0_70 o17 ?_
      rw [hs]
      refine sw_icmp_ge (tgt := 61) dX0_daysTogether_15 (by decide) (fun h15 => ?_) (fun h15 => ?_)
      · skip
        refine sw_iload dX0_daysTogether_61 rfl ?_
        refine sx_reti dX0_daysTogether_63 rfl ?_
        exact h
      · exact absurd ((nI_le (Nat.le_refl _) (by omega))) h15
    | succ m ih =>
      intro k hm hk
      have ih := ih (k + 1) (by omega) (by omega)
      refine sw_iload dX0_daysTogether_6 rfl ?_
      refine sw_aloadn dX0_daysTogether_8 rfl ?_
      refine sw_getR dX0_daysTogether_9 fs_X0_19 o29 r29_1 ?_
      refine sw_getI dX0_daysTogether_12 fs_X0_70 o17 ?_
      rw [hs]
      refine sw_icmp_ge (tgt := 61) dX0_daysTogether_15 (by decide) (fun h15 => ?_) (fun h15 => ?_)
      · exact absurd h15 ((by rw [nI_le' (by omega) (by omega)]; omega))
      · skip
        refine sw_aloadn dX0_daysTogether_18 rfl ?_
        refine sw_getR dX0_daysTogether_19 fs_X0_19 o29 r29_1 ?_
        refine sw_iload dX0_daysTogether_22 rfl ?_
        refine sw_iloadn dX0_daysTogether_24 rfl ?_
        refine sx_invI2 dX0_daysTogether_25 mk_X2_isPassOf vk_X2_isPassOf lk_X0_47 o17 (Nat.le_of_ble_eq_true rfl) (Nat.le_of_ble_eq_true rfl) ?_
        refine c_X2_isPassOf hs hn (show k < n by omega) (fun h25 => ?_) (fun h25 => ?_)
        · skip
          refine sw_if_eq (tgt := 55) dX0_daysTogether_28 (by decide) (fun h28 => ?_) (fun h28 => ?_)
          · exact absurd h28 (by decide)
          · skip
            have hp := hL.pass (show k < n by omega) h25.1
            refine sw_aloadn dX0_daysTogether_31 rfl ?_
            refine sw_iload dX0_daysTogether_32 rfl ?_
            refine sw_iloadn dX0_daysTogether_34 rfl ?_
            refine sw_iloadn dX0_daysTogether_35 rfl ?_
            refine sx_invI3 dX0_daysTogether_36 mk_X0_isNear vk_X0_isNear lk_X0_74 o29 (Nat.le_of_ble_eq_true rfl) (Nat.le_of_ble_eq_true rfl) ?_
            refine c_X0_isNear hs hn (show k < n by omega) hL h25.1 (fun h36 => ?_) (fun h36 => ?_)
            · skip
              refine sw_if_eq (tgt := 55) dX0_daysTogether_39 (by decide) (fun h39 => ?_) (fun h39 => ?_)
              · exact absurd h39 (by decide)
              · skip
                refine sw_iload dX0_daysTogether_42 rfl ?_
                refine sx_iconst (v := nI 1) dX0_daysTogether_44 (by decide) ?_
                refine sw_aloadn dX0_daysTogether_45 rfl ?_
                refine sw_iload dX0_daysTogether_46 rfl ?_
                refine sx_invI1 dX0_daysTogether_48 mk_X0_dayOf vk_X0_dayOf lk_X0_55 o29 (Nat.le_of_ble_eq_true rfl) (Nat.le_of_ble_eq_true rfl) ?_
                refine c_X0_dayOf (nv (lTK (lgC σ)) k) (dy (lgC σ) k) rfl (by omega) hp.2.2.1.1 hp.2.2.1.2 ?_
                refine sw_ishl dX0_daysTogether_51 ?_
                refine sw_ior dX0_daysTogether_52 ?_
                rw [or_bit _ (Nat.lt_of_lt_of_le (bts_lt (b := 8) (fun j hj => hd8 j (by omega))) (by decide)) _ (by have := dy_lt hp.2.2.1; omega)]
                refine sw_istore dX0_daysTogether_53 (Nat.le_of_ble_eq_true rfl) ?_
                refine sx_iinc (nI (k + 1)) dX0_daysTogether_55 rfl (nI_inc _) ?_
                refine sw_goto (tgt := 6) dX0_daysTogether_58 (by decide) ?_
                first
                  | (rw [bts, if_pos (show neB (lgC σ) n x y span k = true from neB_iff.mpr ⟨h25, h36⟩)] at ih; exact ih)
                  | (rw [bts, if_neg (show ¬ neB (lgC σ) n x y span k = true from fun q => h36 (neB_iff.mp q).2)] at ih; exact ih)
                  | (rw [bts, if_neg (show ¬ neB (lgC σ) n x y span k = true from fun q => h25 (neB_iff.mp q).1)] at ih; exact ih)
            · skip
              refine sw_if_eq (tgt := 55) dX0_daysTogether_39 (by decide) (fun h39 => ?_) (fun h39 => ?_)
              · skip
                refine sx_iinc (nI (k + 1)) dX0_daysTogether_55 rfl (nI_inc _) ?_
                refine sw_goto (tgt := 6) dX0_daysTogether_58 (by decide) ?_
                first
                  | (rw [bts, if_pos (show neB (lgC σ) n x y span k = true from neB_iff.mpr ⟨h25, h36⟩)] at ih; exact ih)
                  | (rw [bts, if_neg (show ¬ neB (lgC σ) n x y span k = true from fun q => h36 (neB_iff.mp q).2)] at ih; exact ih)
                  | (rw [bts, if_neg (show ¬ neB (lgC σ) n x y span k = true from fun q => h25 (neB_iff.mp q).1)] at ih; exact ih)
              · exact absurd h39 (by decide)
        · skip
          refine sw_if_eq (tgt := 55) dX0_daysTogether_28 (by decide) (fun h28 => ?_) (fun h28 => ?_)
          · skip
            refine sx_iinc (nI (k + 1)) dX0_daysTogether_55 rfl (nI_inc _) ?_
            refine sw_goto (tgt := 6) dX0_daysTogether_58 (by decide) ?_
            first
              | (rw [bts, if_pos (show neB (lgC σ) n x y span k = true from neB_iff.mpr ⟨h25, h36⟩)] at ih; exact ih)
              | (rw [bts, if_neg (show ¬ neB (lgC σ) n x y span k = true from fun q => h36 (neB_iff.mp q).2)] at ih; exact ih)
              | (rw [bts, if_neg (show ¬ neB (lgC σ) n x y span k = true from fun q => h25 (neB_iff.mp q).1)] at ih; exact ih)
          · exact absurd h28 (by decide)
  refine sx_iconst (v := nI 0) dX0_daysTogether_0 (by decide) ?_
  refine sw_istore dX0_daysTogether_1 (Nat.le_of_ble_eq_true rfl) ?_
  refine sx_iconst (v := nI 0) dX0_daysTogether_3 (by decide) ?_
  refine sw_istore dX0_daysTogether_4 (Nat.le_of_ble_eq_true rfl) ?_
  exact loop n 0 (by omega) (by omega)
/-- what odd answers of pass k -/
noncomputable def oddV (P : PL) (g : LG) (al : Int32 → Int32 → Int32 → Bool) (k : Nat) (w : Int32) : Int32 :=
  @ite _ (w = nI 0) (Classical.propDecidable _) (@ite _ (frs P g k) (Classical.propDecidable _) (nI 1) (nI 0)) (
  @ite _ (w = nI 1) (Classical.propDecidable _) (b2I (al (lCA g k) (nI (cmt P g k)) (lTK g k))) (
  @ite _ (w = nI 2 ∧ lft P g k = 0) (Classical.propDecidable _) (nI (cnt (lat P g k) (dy g k))) (
  @ite _ (w = nI 3 ∧ lft P g k = 0) (Classical.propDecidable _) (nI (cnt (ahd P g k) (dy g k))) (-1))))
theorem ne_of_nI {w : Int32} {a b : Nat} (h : w = nI a) (hn : ¬ nI a = nI b) : ¬ w = nI b := by rw [h]; exact hn
theorem c_X7_odd {f : Int32 → Mem → Prop} {P : PL} (hP : PlC σ P) (hV : PV P) {nc n nr : Nat} {x w : Int32} (hs : σ.1 17 0 = nI n) (hn : n ≤ 100) (hL : LV P nc n (lgC σ)) (hr : σ.1 23 0 = nI nr) (hrb : nr ≤ 100) (hg : ∀ k, k < nr → σ.1 28 k = nI 0 ∨ σ.1 28 k = nI 1)
    (k1 : ∀ k, k < n → x = nI k → σ.1 18 k = 0 → ∀ g8, f (oddV P (lgC σ) (fun a b c => alw (σ.1 24) (σ.1 25) (σ.1 26) (σ.1 27) (σ.1 28) a b c nr) k w) (setA σ 30 g8)) (k0 : ¬ (∃ k, k < n ∧ x = nI k ∧ σ.1 18 k = 0) → f (-1) σ) : SW G (d + 5) M_X7_odd 0 [some (.ref 0), some (.int x), some (.int w)] [] σ (RI f) := by
  refine sw_aloadn dX7_odd_0 rfl ?_
  refine sw_getR dX7_odd_1 fs_X7_39 o0 r0_7 ?_
  refine sw_iloadn dX7_odd_4 rfl ?_
  refine sx_invI1 dX7_odd_5 mk_X2_isPass vk_X2_isPass lk_X7_155 o17 (Nat.le_of_ble_eq_true rfl) (Nat.le_of_ble_eq_true rfl) ?_
  refine c_X2_isPass hs hn (fun h5 => ?_) (fun h5 => ?_)
  · skip
    refine sw_if_ne (tgt := 13) dX7_odd_8 (by decide) (fun h8 => ?_) (fun h8 => ?_)
    · skip
      obtain ⟨k, hk, rfl, h0⟩ := h5
      have k1 := k1 k hk rfl h0
      have k2 := k1 (σ.1 30)
      rw [setA_self] at k2
      have hpk := hL.pass hk h0
      refine sw_iloadn dX7_odd_13 rfl ?_
      refine sw_tab0 (tgt := 151) dX7_odd_14 (by decide) (fun kc hkc hsw => ?_) (fun hsw => ?_)
      · rcases (show kc = 0 ∨ kc = 1 ∨ kc = 2 ∨ kc = 3 by simp at hkc; omega) with rfl | rfl | rfl | rfl
        · refine ⟨30, 44, rfl, by decide, ?_⟩
          refine sw_aloadn dX7_odd_44 rfl ?_
          refine sw_getR dX7_odd_45 fs_X7_55 o0 r0_9 ?_
          refine sw_iloadn dX7_odd_48 rfl ?_
          refine sx_invI1 dX7_odd_49 mk_X0_isFirst vk_X0_isFirst lk_X7_158 o29 (Nat.le_of_ble_eq_true rfl) (Nat.le_of_ble_eq_true rfl) ?_
          refine c_X0_isFirst hP hV hs hn hk hL h0 (fun h49 => ?_) (fun h49 => ?_)
          · skip
            refine sw_if_eq (tgt := 59) dX7_odd_52 (by decide) (fun h52 => ?_) (fun h52 => ?_)
            · exact absurd h52 (by decide)
            · skip
              refine sx_iconst (v := nI 1) dX7_odd_55 (by decide) ?_
              refine sw_goto (tgt := 60) dX7_odd_56 (by decide) ?_
              refine sx_reti dX7_odd_60 rfl ?_
              first
                | (rw [oddV, if_pos hsw, if_pos h49] at k2; exact k2)
                | (rw [oddV, if_pos hsw, if_neg h49] at k2; exact k2)
          · skip
            refine sw_if_eq (tgt := 59) dX7_odd_52 (by decide) (fun h52 => ?_) (fun h52 => ?_)
            · skip
              refine sx_iconst (v := nI 0) dX7_odd_59 (by decide) ?_
              refine sx_reti dX7_odd_60 rfl ?_
              first
                | (rw [oddV, if_pos hsw, if_pos h49] at k2; exact k2)
                | (rw [oddV, if_pos hsw, if_neg h49] at k2; exact k2)
            · exact absurd h52 (by decide)
        · refine ⟨47, 61, rfl, by decide, ?_⟩
          refine sw_aloadn dX7_odd_61 rfl ?_
          refine sw_getR dX7_odd_62 fs_X7_46 o0 r0_8 ?_
          refine sw_aloadn dX7_odd_65 rfl ?_
          refine sw_getR dX7_odd_66 fs_X7_39 o0 r0_7 ?_
          refine sw_getR dX7_odd_69 fs_X7_161 o17 r17_2 ?_
          refine sw_iloadn dX7_odd_72 rfl ?_
          refine sx_iald (k) dX7_odd_73 a19 (rfl) (by omega) (by decide) ?_
          refine sw_aloadn dX7_odd_74 rfl ?_
          refine sw_getR dX7_odd_75 fs_X7_55 o0 r0_9 ?_
          refine sw_iloadn dX7_odd_78 rfl ?_
          refine sx_invI1 dX7_odd_79 mk_X0_roomComeTo vk_X0_roomComeTo lk_X7_165 o29 (Nat.le_of_ble_eq_true rfl) (Nat.le_of_ble_eq_true rfl) ?_
          refine c_X0_roomComeTo hP hV hn hk hL h0 ?_
          refine sw_aloadn dX7_odd_82 rfl ?_
          refine sw_getR dX7_odd_83 fs_X7_39 o0 r0_7 ?_
          refine sw_getR dX7_odd_86 fs_X7_168 o17 r17_4 ?_
          refine sw_iloadn dX7_odd_89 rfl ?_
          refine sx_iald (k) dX7_odd_90 a21 (rfl) (by omega) (by decide) ?_
          refine sx_invI3 dX7_odd_91 mk_X4_allows vk_X4_allows lk_X7_151 o23 (Nat.le_of_ble_eq_true rfl) (Nat.le_of_ble_eq_true rfl) ?_
          refine c_X4_allows hr hrb hg (fun h91 => ?_) (fun h91 => ?_)
          · skip
            refine sw_if_eq (tgt := 101) dX7_odd_94 (by decide) (fun h94 => ?_) (fun h94 => ?_)
            · exact absurd h94 (by decide)
            · skip
              refine sx_iconst (v := nI 1) dX7_odd_97 (by decide) ?_
              refine sw_goto (tgt := 102) dX7_odd_98 (by decide) ?_
              refine sx_reti dX7_odd_102 rfl ?_
              first
                | (rw [oddV, if_neg (ne_of_nI hsw (by decide)), if_pos hsw] at k2
                   rw [show alw (σ.1 24) (σ.1 25) (σ.1 26) (σ.1 27) (σ.1 28) (lCA (lgC σ) k) (nI (cmt P (lgC σ) k)) (lTK (lgC σ) k) nr = true from h91] at k2; exact k2)
                | (rw [oddV, if_neg (ne_of_nI hsw (by decide)), if_pos hsw] at k2
                   rw [show alw (σ.1 24) (σ.1 25) (σ.1 26) (σ.1 27) (σ.1 28) (lCA (lgC σ) k) (nI (cmt P (lgC σ) k)) (lTK (lgC σ) k) nr = false from Bool.eq_false_iff.mpr h91] at k2; exact k2)
          · skip
            refine sw_if_eq (tgt := 101) dX7_odd_94 (by decide) (fun h94 => ?_) (fun h94 => ?_)
            · skip
              refine sx_iconst (v := nI 0) dX7_odd_101 (by decide) ?_
              refine sx_reti dX7_odd_102 rfl ?_
              first
                | (rw [oddV, if_neg (ne_of_nI hsw (by decide)), if_pos hsw] at k2
                   rw [show alw (σ.1 24) (σ.1 25) (σ.1 26) (σ.1 27) (σ.1 28) (lCA (lgC σ) k) (nI (cmt P (lgC σ) k)) (lTK (lgC σ) k) nr = true from h91] at k2; exact k2)
                | (rw [oddV, if_neg (ne_of_nI hsw (by decide)), if_pos hsw] at k2
                   rw [show alw (σ.1 24) (σ.1 25) (σ.1 26) (σ.1 27) (σ.1 28) (lCA (lgC σ) k) (nI (cmt P (lgC σ) k)) (lTK (lgC σ) k) nr = false from Bool.eq_false_iff.mpr h91] at k2; exact k2)
            · exact absurd h94 (by decide)
        · refine ⟨89, 103, rfl, by decide, ?_⟩
          refine sw_aloadn dX7_odd_103 rfl ?_
          refine sw_getR dX7_odd_104 fs_X7_55 o0 r0_9 ?_
          refine sw_iloadn dX7_odd_107 rfl ?_
          refine sx_invI1 dX7_odd_108 mk_X0_isFromOutside vk_X0_isFromOutside lk_X7_171 o29 (Nat.le_of_ble_eq_true rfl) (Nat.le_of_ble_eq_true rfl) ?_
          refine c_X0_isFromOutside hP hV hn hk hL h0 (fun h108 => ?_) (fun h108 => ?_)
          · skip
            refine sw_if_eq (tgt := 125) dX7_odd_111 (by decide) (fun h111 => ?_) (fun h111 => ?_)
            · exact absurd h111 (by decide)
            · skip
              refine sw_aloadn dX7_odd_114 rfl ?_
              refine sw_getR dX7_odd_115 fs_X7_55 o0 r0_9 ?_
              refine sw_iloadn dX7_odd_118 rfl ?_
              refine sx_invI1 dX7_odd_119 mk_X0_daysAsLate vk_X0_daysAsLate lk_X7_174 o29 (Nat.le_of_ble_eq_true rfl) (Nat.le_of_ble_eq_true rfl) ?_
              refine c_X0_daysAsLate hP hV hs hn hk hL h0 (fun g8 => ?_)
              refine sw_goto (tgt := 126) dX7_odd_122 (by decide) ?_
              refine sx_reti dX7_odd_126 rfl ?_
              first
                | (have k3 := k1 g8
                   rw [oddV, if_neg (ne_of_nI hsw (by decide)), if_neg (ne_of_nI hsw (by decide)), if_pos ⟨hsw, h108⟩] at k3; exact k3)
                | (rw [oddV, if_neg (ne_of_nI hsw (by decide)), if_neg (ne_of_nI hsw (by decide)), if_neg (fun q => h108 q.2), if_neg (fun q => h108 q.2)] at k2; exact k2)
          · skip
            refine sw_if_eq (tgt := 125) dX7_odd_111 (by decide) (fun h111 => ?_) (fun h111 => ?_)
            · skip
              refine sx_iconst (v := (-1)) dX7_odd_125 (by decide) ?_
              refine sx_reti dX7_odd_126 rfl ?_
              first
                | (have k3 := k1 g8
                   rw [oddV, if_neg (ne_of_nI hsw (by decide)), if_neg (ne_of_nI hsw (by decide)), if_pos ⟨hsw, h108⟩] at k3; exact k3)
                | (rw [oddV, if_neg (ne_of_nI hsw (by decide)), if_neg (ne_of_nI hsw (by decide)), if_neg (fun q => h108 q.2), if_neg (fun q => h108 q.2)] at k2; exact k2)
            · exact absurd h111 (by decide)
        · refine ⟨113, 127, rfl, by decide, ?_⟩
          refine sw_aloadn dX7_odd_127 rfl ?_
          refine sw_getR dX7_odd_128 fs_X7_55 o0 r0_9 ?_
          refine sw_iloadn dX7_odd_131 rfl ?_
          refine sx_invI1 dX7_odd_132 mk_X0_isFromOutside vk_X0_isFromOutside lk_X7_171 o29 (Nat.le_of_ble_eq_true rfl) (Nat.le_of_ble_eq_true rfl) ?_
          refine c_X0_isFromOutside hP hV hn hk hL h0 (fun h132 => ?_) (fun h132 => ?_)
          · skip
            refine sw_if_eq (tgt := 149) dX7_odd_135 (by decide) (fun h135 => ?_) (fun h135 => ?_)
            · exact absurd h135 (by decide)
            · skip
              refine sw_aloadn dX7_odd_138 rfl ?_
              refine sw_getR dX7_odd_139 fs_X7_55 o0 r0_9 ?_
              refine sw_iloadn dX7_odd_142 rfl ?_
              refine sx_invI1 dX7_odd_143 mk_X0_daysAhead vk_X0_daysAhead lk_X7_177 o29 (Nat.le_of_ble_eq_true rfl) (Nat.le_of_ble_eq_true rfl) ?_
              refine c_X0_daysAhead hP hV hs hn hk hL h0 (fun g8 => ?_)
              refine sw_goto (tgt := 150) dX7_odd_146 (by decide) ?_
              refine sx_reti dX7_odd_150 rfl ?_
              first
                | (have k3 := k1 g8
                   rw [oddV, if_neg (ne_of_nI hsw (by decide)), if_neg (ne_of_nI hsw (by decide)), if_neg (fun q => ne_of_nI hsw (by decide) q.1), if_pos ⟨hsw, h132⟩] at k3; exact k3)
                | (rw [oddV, if_neg (ne_of_nI hsw (by decide)), if_neg (ne_of_nI hsw (by decide)), if_neg (fun q => h132 q.2), if_neg (fun q => h132 q.2)] at k2; exact k2)
          · skip
            refine sw_if_eq (tgt := 149) dX7_odd_135 (by decide) (fun h135 => ?_) (fun h135 => ?_)
            · skip
              refine sx_iconst (v := (-1)) dX7_odd_149 (by decide) ?_
              refine sx_reti dX7_odd_150 rfl ?_
              first
                | (have k3 := k1 g8
                   rw [oddV, if_neg (ne_of_nI hsw (by decide)), if_neg (ne_of_nI hsw (by decide)), if_neg (fun q => ne_of_nI hsw (by decide) q.1), if_pos ⟨hsw, h132⟩] at k3; exact k3)
                | (rw [oddV, if_neg (ne_of_nI hsw (by decide)), if_neg (ne_of_nI hsw (by decide)), if_neg (fun q => h132 q.2), if_neg (fun q => h132 q.2)] at k2; exact k2)
            · exact absurd h135 (by decide)
      · skip
        refine sx_iconst (v := (-1)) dX7_odd_151 (by decide) ?_
        refine sx_reti dX7_odd_152 rfl ?_
        rw [oddV, if_neg (hsw 0 (by decide)), if_neg (hsw 1 (by decide)), if_neg (fun q => hsw 2 (by decide) q.1), if_neg (fun q => hsw 3 (by decide) q.1)] at k2
        exact k2
    · exact absurd h8 (by decide)
  · skip
    refine sw_if_ne (tgt := 13) dX7_odd_8 (by decide) (fun h8 => ?_) (fun h8 => ?_)
    · exact absurd h8 (by decide)
    · skip
      refine sx_iconst (v := (-1)) dX7_odd_11 (by decide) ?_
      refine sx_reti dX7_odd_12 rfl ?_
      exact k0 h5
/-- days on which both have a pass near each other; any -/
noncomputable def prV (g : LG) (n : Nat) (x y span w : Int32) : Int32 :=
  @ite _ (w = nI 0) (Classical.propDecidable _) (nI (cnt (fun j => (bts (neB g n x y span) (dy g) n).testBit j) 8)) (
  @ite _ (w = nI 1) (Classical.propDecidable _) (nI (cnt (fun j => (bts (pasB g x) (dy g) n &&& bts (pasB g y) (dy g) n).testBit j) 8)) (-1))
def okPair (nc : Nat) (x y s : Int32) : Prop := inR x nc ∧ inR y nc ∧ ¬ x = y ∧ inR s 25
theorem c_X7_pairs {f : Int32 → Mem → Prop} {P : PL} {nc n : Nat} {x y s w : Int32} (hc : σ.1 0 3 = nI nc) (hcb : nc ≤ 10) (hs : σ.1 17 0 = nI n) (hn : n ≤ 100) (hL : LV P nc n (lgC σ)) (k1 : okPair nc x y s → f (prV (lgC σ) n x y s w) σ) (k0 : ¬ okPair nc x y s → f (-1) σ) : SW G (d + 5) M_X7_pairs 0 [some (.ref 0), some (.int x), some (.int y), some (.int s), some (.int w)] [] σ (RI f) := by
  have b1 : ∀ z, bts (pasB (lgC σ) z) (dy (lgC σ)) n < 256 := fun z => bts_lt (b := 8) (fun k hk q => dy_lt (hL.pass hk (pasB_iff.mp q).1).2.2.1)
  have b2 : bts (neB (lgC σ) n x y s) (dy (lgC σ)) n < 256 := bts_lt (b := 8) (fun k hk q => dy_lt (hL.pass hk (neB_iff.mp q).1.1).2.2.1)
  refine sw_aloadn dX7_pairs_0 rfl ?_
  refine sw_iloadn dX7_pairs_1 rfl ?_
  refine sx_invI1 dX7_pairs_2 mk_X7_hasCard vk_X7_hasCard lk_X7_100 o0 (Nat.le_of_ble_eq_true rfl) (Nat.le_of_ble_eq_true rfl) ?_
  refine c_X7_hasCard hc hcb (fun h2 => ?_) (fun h2 => ?_)
  · skip
    refine sw_if_eq (tgt := 31) dX7_pairs_5 (by decide) (fun h5 => ?_) (fun h5 => ?_)
    · exact absurd h5 (by decide)
    · skip
      refine sw_aloadn dX7_pairs_8 rfl ?_
      refine sw_iloadn dX7_pairs_9 rfl ?_
      refine sx_invI1 dX7_pairs_10 mk_X7_hasCard vk_X7_hasCard lk_X7_100 o0 (Nat.le_of_ble_eq_true rfl) (Nat.le_of_ble_eq_true rfl) ?_
      refine c_X7_hasCard hc hcb (fun h10 => ?_) (fun h10 => ?_)
      · skip
        refine sw_if_eq (tgt := 31) dX7_pairs_13 (by decide) (fun h13 => ?_) (fun h13 => ?_)
        · exact absurd h13 (by decide)
        · skip
          refine sw_iloadn dX7_pairs_16 rfl ?_
          refine sw_iloadn dX7_pairs_17 rfl ?_
          refine sw_icmp_eq (tgt := 31) dX7_pairs_18 (by decide) (fun h18 => ?_) (fun h18 => ?_)
          · skip
            refine sx_iconst (v := (-1)) dX7_pairs_31 (by decide) ?_
            refine sx_reti dX7_pairs_32 rfl ?_
            first
              | exact k0 (fun q => h2 q.1)
              | exact k0 (fun q => h10 q.2.1)
              | exact k0 (fun q => q.2.2.1 h18)
              | exact k0 (fun q => inR_lt h22 (by omega) q.2.2.2)
              | exact k0 (fun q => inR_ge' h28 (by omega) q.2.2.2)
          · skip
            refine sw_iloadn dX7_pairs_21 rfl ?_
            refine sw_if_lt (tgt := 31) dX7_pairs_22 (by decide) (fun h22 => ?_) (fun h22 => ?_)
            · skip
              refine sx_iconst (v := (-1)) dX7_pairs_31 (by decide) ?_
              refine sx_reti dX7_pairs_32 rfl ?_
              first
                | exact k0 (fun q => h2 q.1)
                | exact k0 (fun q => h10 q.2.1)
                | exact k0 (fun q => q.2.2.1 h18)
                | exact k0 (fun q => inR_lt h22 (by omega) q.2.2.2)
                | exact k0 (fun q => inR_ge' h28 (by omega) q.2.2.2)
            · skip
              refine sw_iloadn dX7_pairs_25 rfl ?_
              refine sx_bipush (v := nI 25) dX7_pairs_26 (by decide) ?_
              refine sw_icmp_lt (tgt := 33) dX7_pairs_28 (by decide) (fun h28 => ?_) (fun h28 => ?_)
              · skip
                refine sw_iload dX7_pairs_33 rfl ?_
                refine sw_look01 (t0 := 60) (t1 := 74) (td := 95) dX7_pairs_35 (by decide) (by decide) (by decide) (fun hsw => ?_) (fun hsw => ?_) (fun hsw hsx => ?_)
                · skip
                  refine sw_aloadn dX7_pairs_60 rfl ?_
                  refine sw_getR dX7_pairs_61 fs_X7_55 o0 r0_9 ?_
                  refine sw_iloadn dX7_pairs_64 rfl ?_
                  refine sw_iloadn dX7_pairs_65 rfl ?_
                  refine sw_iloadn dX7_pairs_66 rfl ?_
                  refine sx_invI3 dX7_pairs_67 mk_X0_daysTogether vk_X0_daysTogether lk_X7_180 o29 (Nat.le_of_ble_eq_true rfl) (Nat.le_of_ble_eq_true rfl) ?_
                  refine c_X0_daysTogether hs hn hL ?_
                  refine sx_insI1 dX7_pairs_70 mk_J6_bitCount_0f7a4 sk_J6_bitCount_0f7a4 lk_X7_146 (Nat.le_of_ble_eq_true rfl) (Nat.le_of_ble_eq_true rfl) ?_
                  refine c_bitCount ?_
                  refine sx_reti dX7_pairs_73 rfl ?_
                  have k1 := k1 ⟨h2, h10, h18, inR_of' h22 h28 (by omega)⟩
                  rw [prV, if_pos hsw] at k1
                  rw [bc_small _ (by omega), cnt8_10 b2]
                  exact k1
                · skip
                  refine sw_aloadn dX7_pairs_74 rfl ?_
                  refine sw_getR dX7_pairs_75 fs_X7_55 o0 r0_9 ?_
                  refine sw_iloadn dX7_pairs_78 rfl ?_
                  refine sx_invI1 dX7_pairs_79 mk_X0_daysOf vk_X0_daysOf lk_X7_183 o29 (Nat.le_of_ble_eq_true rfl) (Nat.le_of_ble_eq_true rfl) ?_
                  refine c_X0_daysOf hs hn hL ?_
                  refine sw_aloadn dX7_pairs_82 rfl ?_
                  refine sw_getR dX7_pairs_83 fs_X7_55 o0 r0_9 ?_
                  refine sw_iloadn dX7_pairs_86 rfl ?_
                  refine sx_invI1 dX7_pairs_87 mk_X0_daysOf vk_X0_daysOf lk_X7_183 o29 (Nat.le_of_ble_eq_true rfl) (Nat.le_of_ble_eq_true rfl) ?_
                  refine c_X0_daysOf hs hn hL ?_
                  refine sw_iand dX7_pairs_90 ?_
                  refine sx_insI1 dX7_pairs_91 mk_J6_bitCount_0f7a4 sk_J6_bitCount_0f7a4 lk_X7_146 (Nat.le_of_ble_eq_true rfl) (Nat.le_of_ble_eq_true rfl) ?_
                  refine c_bitCount ?_
                  refine sx_reti dX7_pairs_94 rfl ?_
                  have k1 := k1 ⟨h2, h10, h18, inR_of' h22 h28 (by omega)⟩
                  have b3 : bts (pasB (lgC σ) x) (dy (lgC σ)) n &&& bts (pasB (lgC σ) y) (dy (lgC σ)) n < 256 := Nat.lt_of_le_of_lt Nat.and_le_left (b1 x)
                  rw [prV, if_neg (ne_of_nI hsw (by decide)), if_pos hsw] at k1
                  rw [and_nI, bc_small _ (by omega), cnt8_10 b3]
                  exact k1
                · skip
                  refine sx_iconst (v := (-1)) dX7_pairs_95 (by decide) ?_
                  refine sx_reti dX7_pairs_96 rfl ?_
                  have k1 := k1 ⟨h2, h10, h18, inR_of' h22 h28 (by omega)⟩
                  rw [prV, if_neg hsw, if_neg hsx] at k1
                  exact k1
              · skip
                refine sx_iconst (v := (-1)) dX7_pairs_31 (by decide) ?_
                refine sx_reti dX7_pairs_32 rfl ?_
                first
                  | exact k0 (fun q => h2 q.1)
                  | exact k0 (fun q => h10 q.2.1)
                  | exact k0 (fun q => q.2.2.1 h18)
                  | exact k0 (fun q => inR_lt h22 (by omega) q.2.2.2)
                  | exact k0 (fun q => inR_ge' h28 (by omega) q.2.2.2)
      · skip
        refine sw_if_eq (tgt := 31) dX7_pairs_13 (by decide) (fun h13 => ?_) (fun h13 => ?_)
        · skip
          refine sx_iconst (v := (-1)) dX7_pairs_31 (by decide) ?_
          refine sx_reti dX7_pairs_32 rfl ?_
          first
            | exact k0 (fun q => h2 q.1)
            | exact k0 (fun q => h10 q.2.1)
            | exact k0 (fun q => q.2.2.1 h18)
            | exact k0 (fun q => inR_lt h22 (by omega) q.2.2.2)
            | exact k0 (fun q => inR_ge' h28 (by omega) q.2.2.2)
        · exact absurd h13 (by decide)
  · skip
    refine sw_if_eq (tgt := 31) dX7_pairs_5 (by decide) (fun h5 => ?_) (fun h5 => ?_)
    · skip
      refine sx_iconst (v := (-1)) dX7_pairs_31 (by decide) ?_
      refine sx_reti dX7_pairs_32 rfl ?_
      first
        | exact k0 (fun q => h2 q.1)
        | exact k0 (fun q => h10 q.2.1)
        | exact k0 (fun q => q.2.2.1 h18)
        | exact k0 (fun q => inR_lt h22 (by omega) q.2.2.2)
        | exact k0 (fun q => inR_ge' h28 (by omega) q.2.2.2)
    · exact absurd h5 (by decide)
end HABITS3
