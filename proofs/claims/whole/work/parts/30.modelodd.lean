/-! ===== odd and pairs, of the model ===== -/
theorem nI_z {a : Nat} (ha : a < 100000) (h : nI a = 0) : a = 0 := nI_inj (b := 0) ha (by omega) h
section MODD
variable {G : GG} {d : Nat} {σ : Mem}
theorem m_isPassOf {f : Int32 → Mem → Prop} {k : Nat} {y : Int32} (hk : k < 100) (k1 : (σ.1 58 k = 0 ∧ σ.1 59 k = y) → f (nI 1) σ) (k0 : ¬ (σ.1 58 k = 0 ∧ σ.1 59 k = y) → f (nI 0) σ) : SW G d M_X8_isPassOf 0 [some (.ref 46), some (.int (nI k)), some (.int y)] [] σ (RI f) := by
  refine sw_aloadn dX8_isPassOf_0 rfl ?_
  refine sw_getR dX8_isPassOf_1 fs_X8_51 o46 r46_27 ?_
  refine sw_iloadn dX8_isPassOf_4 rfl ?_
  refine sx_iald (k) dX8_isPassOf_5 a58 (rfl) (by omega) (by decide) ?_
  refine sw_if_ne (tgt := 23) dX8_isPassOf_6 (by decide) (fun h6 => ?_) (fun h6 => ?_)
  · skip
    refine sx_iconst (v := nI 0) dX8_isPassOf_23 (by decide) ?_
    refine sx_retz dX8_isPassOf_24 rfl (Or.inl rfl) ?_
    first
      | exact k1 ⟨h6, h16⟩
      | exact k0 (fun q => h16 q.2)
      | exact k0 (fun q => h6 q.1)
  · skip
    refine sw_aloadn dX8_isPassOf_9 rfl ?_
    refine sw_getR dX8_isPassOf_10 fs_X8_54 o46 r46_28 ?_
    refine sw_iloadn dX8_isPassOf_13 rfl ?_
    refine sx_iald (k) dX8_isPassOf_14 a59 (rfl) (by omega) (by decide) ?_
    refine sw_iloadn dX8_isPassOf_15 rfl ?_
    refine sw_icmp_ne (tgt := 23) dX8_isPassOf_16 (by decide) (fun h16 => ?_) (fun h16 => ?_)
    · skip
      refine sx_iconst (v := nI 0) dX8_isPassOf_23 (by decide) ?_
      refine sx_retz dX8_isPassOf_24 rfl (Or.inl rfl) ?_
      first
        | exact k1 ⟨h6, h16⟩
        | exact k0 (fun q => h16 q.2)
        | exact k0 (fun q => h6 q.1)
    · skip
      refine sx_iconst (v := nI 1) dX8_isPassOf_19 (by decide) ?_
      refine sw_goto (tgt := 24) dX8_isPassOf_20 (by decide) ?_
      refine sx_retz dX8_isPassOf_24 rfl (Or.inr rfl) ?_
      first
        | exact k1 ⟨h6, h16⟩
        | exact k0 (fun q => h16 q.2)
        | exact k0 (fun q => h6 q.1)
theorem m_dayOf {f : Int32 → Mem → Prop} {x : Int32} (t q : Nat) (hq : t / 25 = q) (t1 : x = nI t) (t2 : t < 200) (h : f (nI q) σ) : SW G d M_X8_dayOf 0 [some (.int x)] [] σ (RI f) := by
  subst t1
  refine sw_iloadn dX8_dayOf_0 rfl ?_
  refine sx_bipush (v := nI 25) dX8_dayOf_1 (by decide) ?_
  refine sw_idiv dX8_dayOf_3 (by decide) ?_
  rw [pk_div (by omega) (by omega) (by omega), hq]
  refine sx_reti dX8_dayOf_4 rfl ?_
  exact h
theorem m_enters {f : Int32 → Mem → Prop} {P : PL} (hP : PlM σ P) (hV : PV P) {nc n k : Nat} (hn : n ≤ 100) (hk : k < n) (hL : LV P nc n (lgM σ)) (h0 : σ.1 58 k = 0) (h : f (nI (cmt P (lgM σ) k)) σ) : SW G d M_X8_enters 0 [some (.ref 46), some (.int (nI k))] [] σ (RI f) := by
  obtain ⟨-, ⟨t1, t2⟩, -, -⟩ := hL.pass hk h0
  have t1 : σ.1 60 k = nI (nv (lTG (lgM σ)) k) := t1
  have hD := hV.2.1
  refine sw_aloadn dX8_enters_0 rfl ?_
  refine sw_getR dX8_enters_1 fs_X8_63 o46 r46_31 ?_
  refine sw_iloadn dX8_enters_4 rfl ?_
  refine sx_iald (k) dX8_enters_5 a62 (rfl) (by omega) (by decide) ?_
  refine sx_iconst (v := nI 1) dX8_enters_6 (by decide) ?_
  refine sw_icmp_ne (tgt := 24) dX8_enters_7 (by decide) (fun h7 => ?_) (fun h7 => ?_)
  · skip
    refine sw_aloadn dX8_enters_24 rfl ?_
    refine sw_getR dX8_enters_25 fs_X8_45 o46 r46_22 ?_
    refine sw_aloadn dX8_enters_28 rfl ?_
    refine sw_getR dX8_enters_29 fs_X8_57 o46 r46_29 ?_
    refine sw_iloadn dX8_enters_32 rfl ?_
    refine sx_iald (k) dX8_enters_33 a60 (rfl) (by omega) (by decide) ?_
    rw [t1]
    refine sx_iald (nv (lTG (lgM σ)) k) dX8_enters_34 a56 (rfl) (by omega) (by decide) ?_
    refine sx_reti dX8_enters_35 rfl ?_
    first
      | (rw [cmt, if_pos (show lMO (lgM σ) k = nI 1 from h7)] at h; rw [hP.2.2.2.1 _ t2]; exact h)
      | (rw [cmt, if_neg (show ¬ lMO (lgM σ) k = nI 1 from h7)] at h; rw [hP.2.2.2.2.1 _ t2]; exact h)
  · skip
    refine sw_aloadn dX8_enters_10 rfl ?_
    refine sw_getR dX8_enters_11 fs_X8_42 o46 r46_21 ?_
    refine sw_aloadn dX8_enters_14 rfl ?_
    refine sw_getR dX8_enters_15 fs_X8_57 o46 r46_29 ?_
    refine sw_iloadn dX8_enters_18 rfl ?_
    refine sx_iald (k) dX8_enters_19 a60 (rfl) (by omega) (by decide) ?_
    rw [t1]
    refine sx_iald (nv (lTG (lgM σ)) k) dX8_enters_20 a55 (rfl) (by omega) (by decide) ?_
    refine sw_goto (tgt := 35) dX8_enters_21 (by decide) ?_
    refine sx_reti dX8_enters_35 rfl ?_
    first
      | (rw [cmt, if_pos (show lMO (lgM σ) k = nI 1 from h7)] at h; rw [hP.2.2.2.1 _ t2]; exact h)
      | (rw [cmt, if_neg (show ¬ lMO (lgM σ) k = nI 1 from h7)] at h; rw [hP.2.2.2.2.1 _ t2]; exact h)
theorem m_leaves {f : Int32 → Mem → Prop} {P : PL} (hP : PlM σ P) (hV : PV P) {nc n k : Nat} (hn : n ≤ 100) (hk : k < n) (hL : LV P nc n (lgM σ)) (h0 : σ.1 58 k = 0) (h : f (nI (lft P (lgM σ) k)) σ) : SW G d M_X8_leaves 0 [some (.ref 46), some (.int (nI k))] [] σ (RI f) := by
  obtain ⟨-, ⟨t1, t2⟩, -, -⟩ := hL.pass hk h0
  have t1 : σ.1 60 k = nI (nv (lTG (lgM σ)) k) := t1
  have hD := hV.2.1
  refine sw_aloadn dX8_leaves_0 rfl ?_
  refine sw_getR dX8_leaves_1 fs_X8_63 o46 r46_31 ?_
  refine sw_iloadn dX8_leaves_4 rfl ?_
  refine sx_iald (k) dX8_leaves_5 a62 (rfl) (by omega) (by decide) ?_
  refine sx_iconst (v := nI 1) dX8_leaves_6 (by decide) ?_
  refine sw_icmp_ne (tgt := 24) dX8_leaves_7 (by decide) (fun h7 => ?_) (fun h7 => ?_)
  · skip
    refine sw_aloadn dX8_leaves_24 rfl ?_
    refine sw_getR dX8_leaves_25 fs_X8_42 o46 r46_21 ?_
    refine sw_aloadn dX8_leaves_28 rfl ?_
    refine sw_getR dX8_leaves_29 fs_X8_57 o46 r46_29 ?_
    refine sw_iloadn dX8_leaves_32 rfl ?_
    refine sx_iald (k) dX8_leaves_33 a60 (rfl) (by omega) (by decide) ?_
    rw [t1]
    refine sx_iald (nv (lTG (lgM σ)) k) dX8_leaves_34 a55 (rfl) (by omega) (by decide) ?_
    refine sx_reti dX8_leaves_35 rfl ?_
    first
      | (rw [lft, if_pos (show lMO (lgM σ) k = nI 1 from h7)] at h; rw [hP.2.2.2.2.1 _ t2]; exact h)
      | (rw [lft, if_neg (show ¬ lMO (lgM σ) k = nI 1 from h7)] at h; rw [hP.2.2.2.1 _ t2]; exact h)
  · skip
    refine sw_aloadn dX8_leaves_10 rfl ?_
    refine sw_getR dX8_leaves_11 fs_X8_45 o46 r46_22 ?_
    refine sw_aloadn dX8_leaves_14 rfl ?_
    refine sw_getR dX8_leaves_15 fs_X8_57 o46 r46_29 ?_
    refine sw_iloadn dX8_leaves_18 rfl ?_
    refine sx_iald (k) dX8_leaves_19 a60 (rfl) (by omega) (by decide) ?_
    rw [t1]
    refine sx_iald (nv (lTG (lgM σ)) k) dX8_leaves_20 a56 (rfl) (by omega) (by decide) ?_
    refine sw_goto (tgt := 35) dX8_leaves_21 (by decide) ?_
    refine sx_reti dX8_leaves_35 rfl ?_
    first
      | (rw [lft, if_pos (show lMO (lgM σ) k = nI 1 from h7)] at h; rw [hP.2.2.2.2.1 _ t2]; exact h)
      | (rw [lft, if_neg (show ¬ lMO (lgM σ) k = nI 1 from h7)] at h; rw [hP.2.2.2.1 _ t2]; exact h)
theorem lft_lt {P : PL} (hV : PV P) {nc n k : Nat} {g : LG} (hL : LV P nc n g) (hk : k < n) (h0 : lKD g k = 0) : lft P g k < 8 := by
  obtain ⟨-, ⟨t1, t2⟩, -, -⟩ := hL.pass hk h0
  have h3 := hV.2.2.2.1 _ t2
  have h8 := hV.1
  unfold lft
  split <;> omega
theorem m_isFirst {f : Int32 → Mem → Prop} {P : PL} (hP : PlM σ P) (hV : PV P) {nc n k : Nat} (hn : n ≤ 100) (hk : k < n) (hL : LV P nc n (lgM σ)) (h0 : σ.1 58 k = 0) (k1 : frs P (lgM σ) k → f (nI 1) σ) (k0 : ¬ frs P (lgM σ) k → f (nI 0) σ) : SW G (d + 1) M_X8_isFirst 0 [some (.ref 46), some (.int (nI k)), none] [] σ (RI f) := by
  have hck := cmt_lt hV hL hk h0
  have loop : ∀ (m i : Nat), m = k - i → i ≤ k → (∀ j, j < i → ¬ (pas (lgM σ) (lCA (lgM σ) k) j ∧ cmt P (lgM σ) j = cmt P (lgM σ) k)) → SW G (d + 1) M_X8_isFirst 2 [some (.ref 46), some (.int (nI k)), some (.int (nI i))] [] σ (RI f) := by
    intro m
    induction m with
    | zero =>
      intro i hm hi hI
      obtain rfl : i = k := by omega
      refine sw_iloadn dX8_isFirst_2 rfl ?_
      refine sw_iloadn dX8_isFirst_3 rfl ?_
      refine sw_icmp_ge (tgt := 42) dX8_isFirst_4 (by decide) (fun h4 => ?_) (fun h4 => ?_)
      · skip
        refine sx_iconst (v := nI 1) dX8_isFirst_42 (by decide) ?_
        refine sx_retz dX8_isFirst_43 rfl (Or.inr rfl) ?_
        exact k1 hI
      · exact absurd ((nI_le (Nat.le_refl _) (by omega))) h4
    | succ m ih =>
      intro i hm hi hI
      have nxt : ¬ (pas (lgM σ) (lCA (lgM σ) k) i ∧ cmt P (lgM σ) i = cmt P (lgM σ) k) → SW G (d + 1) M_X8_isFirst 2 [some (.ref 46), some (.int (nI k)), some (.int (nI (i + 1)))] [] σ (RI f) := fun q => ih (i + 1) (by omega) (by omega) (fun j hj => by
        rcases Nat.lt_succ_iff_lt_or_eq.mp hj with h | rfl
        · exact hI j h
        · exact q)
      refine sw_iloadn dX8_isFirst_2 rfl ?_
      refine sw_iloadn dX8_isFirst_3 rfl ?_
      refine sw_icmp_ge (tgt := 42) dX8_isFirst_4 (by decide) (fun h4 => ?_) (fun h4 => ?_)
      · exact absurd h4 ((by rw [nI_le' (by omega) (by omega)]; omega))
      · skip
        refine sw_aloadn dX8_isFirst_7 rfl ?_
        refine sw_iloadn dX8_isFirst_8 rfl ?_
        refine sw_aloadn dX8_isFirst_9 rfl ?_
        refine sw_getR dX8_isFirst_10 fs_X8_54 o46 r46_28 ?_
        refine sw_iloadn dX8_isFirst_13 rfl ?_
        refine sx_iald (k) dX8_isFirst_14 a59 (rfl) (by omega) (by decide) ?_
        refine sx_invI2 dX8_isFirst_15 mk_X8_isPassOf vk_X8_isPassOf lk_X8_309 o46 (Nat.le_of_ble_eq_true rfl) (Nat.le_of_ble_eq_true rfl) ?_
        refine m_isPassOf (show i < 100 by omega) (fun h15 => ?_) (fun h15 => ?_)
        · skip
          refine sw_if_eq (tgt := 36) dX8_isFirst_18 (by decide) (fun h18 => ?_) (fun h18 => ?_)
          · exact absurd h18 (by decide)
          · skip
            refine sw_aloadn dX8_isFirst_21 rfl ?_
            refine sw_iloadn dX8_isFirst_22 rfl ?_
            refine sx_invI1 dX8_isFirst_23 mk_X8_enters vk_X8_enters lk_X8_272 o46 (Nat.le_of_ble_eq_true rfl) (Nat.le_of_ble_eq_true rfl) ?_
            refine m_enters hP hV hn (show i < n by omega) hL h15.1 ?_
            refine sw_aloadn dX8_isFirst_26 rfl ?_
            refine sw_iloadn dX8_isFirst_27 rfl ?_
            refine sx_invI1 dX8_isFirst_28 mk_X8_enters vk_X8_enters lk_X8_272 o46 (Nat.le_of_ble_eq_true rfl) (Nat.le_of_ble_eq_true rfl) ?_
            refine m_enters hP hV hn hk hL h0 ?_
            refine sw_icmp_ne (tgt := 36) dX8_isFirst_31 (by decide) (fun h31 => ?_) (fun h31 => ?_)
            · skip
              refine sx_iinc (nI (i + 1)) dX8_isFirst_36 rfl (nI_inc _) ?_
              refine sw_goto (tgt := 2) dX8_isFirst_39 (by decide) ?_
              first
                | exact nxt (fun q => h15 q.1)
                | exact nxt (fun q => h31 (congrArg nI q.2))
            · skip
              refine sx_iconst (v := nI 0) dX8_isFirst_34 (by decide) ?_
              refine sx_retz dX8_isFirst_35 rfl (Or.inl rfl) ?_
              exact k0 (fun q => q i (by omega) ⟨h15, nI_inj (by have := cmt_lt hV hL (show i < n by omega) h15.1; omega) (by omega) h31⟩)
        · skip
          refine sw_if_eq (tgt := 36) dX8_isFirst_18 (by decide) (fun h18 => ?_) (fun h18 => ?_)
          · skip
            refine sx_iinc (nI (i + 1)) dX8_isFirst_36 rfl (nI_inc _) ?_
            refine sw_goto (tgt := 2) dX8_isFirst_39 (by decide) ?_
            first
              | exact nxt (fun q => h15 q.1)
              | exact nxt (fun q => h31 (congrArg nI q.2))
          · exact absurd h18 (by decide)
  refine sx_iconst (v := nI 0) dX8_isFirst_0 (by decide) ?_
  refine sw_istoren dX8_isFirst_1 (Nat.le_of_ble_eq_true rfl) ?_
  exact loop k 0 (by omega) (by omega) (fun j hj => absurd hj (by omega))
theorem m_earliest {f : Int32 → Mem → Prop} {P : PL} (hP : PlM σ P) (hV : PV P) {nc n k day : Nat} (hn : n ≤ 100) (hk : k < n) (hd : day < 8) (hL : LV P nc n (lgM σ)) (h : f (ear P (lgM σ) k day k) σ) : SW G (d + 1) M_X8_earliest 0 [some (.ref 46), some (.int (nI k)), some (.int (nI day)), none, none, none] [] σ (RI f) := by
  have loop : ∀ (m j : Nat), m = k - j → j ≤ k → ∀ (o : Option Value), SW G (d + 1) M_X8_earliest 5 [some (.ref 46), some (.int (nI k)), some (.int (nI day)), some (.int (ear P (lgM σ) k day j)), some (.int (nI j)), o] [] σ (RI f) := by
    intro m
    induction m with
    | zero =>
      intro j hm hj o
      obtain rfl : j = k := by omega
      refine sw_iload dX8_earliest_5 rfl ?_
      refine sw_iloadn dX8_earliest_7 rfl ?_
      refine sw_icmp_ge (tgt := 91) dX8_earliest_8 (by decide) (fun h8 => ?_) (fun h8 => ?_)
      · skip
        refine sw_iloadn dX8_earliest_91 rfl ?_
        refine sx_reti dX8_earliest_92 rfl ?_
        exact h
      · exact absurd ((nI_le (Nat.le_refl _) (by omega))) h8
    | succ m ih =>
      intro j hm hj o
      have ih := fun o => ih (j + 1) (by omega) (by omega) o
      have ep := ear_pos (P := P) (g := lgM σ) (k := k) (day := day) (j := j)
      have en := ear_neg (P := P) (g := lgM σ) (k := k) (day := day) (j := j)
      refine sw_iload dX8_earliest_5 rfl ?_
      refine sw_iloadn dX8_earliest_7 rfl ?_
      refine sw_icmp_ge (tgt := 91) dX8_earliest_8 (by decide) (fun h8 => ?_) (fun h8 => ?_)
      · exact absurd h8 ((by rw [nI_le' (by omega) (by omega)]; omega))
      · skip
        refine sw_aloadn dX8_earliest_11 rfl ?_
        refine sw_iload dX8_earliest_12 rfl ?_
        refine sw_aloadn dX8_earliest_14 rfl ?_
        refine sw_getR dX8_earliest_15 fs_X8_54 o46 r46_28 ?_
        refine sw_iloadn dX8_earliest_18 rfl ?_
        refine sx_iald (k) dX8_earliest_19 a59 (rfl) (by omega) (by decide) ?_
        refine sx_invI2 dX8_earliest_20 mk_X8_isPassOf vk_X8_isPassOf lk_X8_309 o46 (Nat.le_of_ble_eq_true rfl) (Nat.le_of_ble_eq_true rfl) ?_
        refine m_isPassOf (show j < 100 by omega) (fun h20 => ?_) (fun h20 => ?_)
        · skip
          refine sw_if_eq (tgt := 53) dX8_earliest_23 (by decide) (fun h23 => ?_) (fun h23 => ?_)
          · exact absurd h23 (by decide)
          · skip
            refine sw_aloadn dX8_earliest_26 rfl ?_
            refine sw_iload dX8_earliest_27 rfl ?_
            refine sx_invI1 dX8_earliest_29 mk_X8_leaves vk_X8_leaves lk_X8_269 o46 (Nat.le_of_ble_eq_true rfl) (Nat.le_of_ble_eq_true rfl) ?_
            refine m_leaves hP hV hn (show j < n by omega) hL h20.1 ?_
            refine sw_if_ne (tgt := 53) dX8_earliest_32 (by decide) (fun h32 => ?_) (fun h32 => ?_)
            · skip
              refine sx_iconst (v := nI 0) dX8_earliest_53 (by decide) ?_
              refine sw_istore dX8_earliest_54 (Nat.le_of_ble_eq_true rfl) ?_
              refine sw_iload dX8_earliest_56 rfl ?_
              refine sw_if_eq (tgt := 85) dX8_earliest_58 (by decide) (fun h58 => ?_) (fun h58 => ?_)
              · skip
                refine sx_iinc (nI (j + 1)) dX8_earliest_85 rfl (nI_inc _) ?_
                refine sw_goto (tgt := 5) dX8_earliest_88 (by decide) ?_
                first
                  | (rw [ep ⟨⟨h20, hl0⟩, hdd, Or.inl h63⟩] at ih; exact ih _)
                  | (rw [ep ⟨⟨h20, hl0⟩, hdd, Or.inr (Int32.not_le.mp h74)⟩] at ih; exact ih _)
                  | (rw [en (fun q => q.2.2.elim h63 (fun z => absurd z (Int32.not_lt.mpr h74)))] at ih; exact ih _)
                  | (rw [en (fun q => h46 (congrArg nI q.2.1))] at ih; exact ih _)
                  | (rw [en (fun q => h32 (congrArg nI q.1.2))] at ih; exact ih _)
                  | (rw [en (fun q => h20 q.1.1)] at ih; exact ih _)
              · exact absurd h58 (by decide)
            · skip
              have hp := hL.pass (show j < n by omega) h20.1
              have hl0 := nI_z (by have := lft_lt hV hL (show j < n by omega) h20.1; omega) h32
              have hdj := dy_lt hp.2.2.1
              refine sw_aloadn dX8_earliest_35 rfl ?_
              refine sw_getR dX8_earliest_36 fs_X8_60 o46 r46_30 ?_
              refine sw_iload dX8_earliest_39 rfl ?_
              refine sx_iald (j) dX8_earliest_41 a61 (rfl) (by omega) (by decide) ?_
              refine sx_insI1 dX8_earliest_42 mk_X8_dayOf sk_X8_dayOf lk_X8_312 (Nat.le_of_ble_eq_true rfl) (Nat.le_of_ble_eq_true rfl) ?_
              refine m_dayOf (nv (lTK (lgM σ)) j) (dy (lgM σ) j) rfl hp.2.2.1.1 hp.2.2.1.2 ?_
              refine sw_iloadn dX8_earliest_45 rfl ?_
              refine sw_icmp_ne (tgt := 53) dX8_earliest_46 (by decide) (fun h46 => ?_) (fun h46 => ?_)
              · skip
                refine sx_iconst (v := nI 0) dX8_earliest_53 (by decide) ?_
                refine sw_istore dX8_earliest_54 (Nat.le_of_ble_eq_true rfl) ?_
                refine sw_iload dX8_earliest_56 rfl ?_
                refine sw_if_eq (tgt := 85) dX8_earliest_58 (by decide) (fun h58 => ?_) (fun h58 => ?_)
                · skip
                  refine sx_iinc (nI (j + 1)) dX8_earliest_85 rfl (nI_inc _) ?_
                  refine sw_goto (tgt := 5) dX8_earliest_88 (by decide) ?_
                  first
                    | (rw [ep ⟨⟨h20, hl0⟩, hdd, Or.inl h63⟩] at ih; exact ih _)
                    | (rw [ep ⟨⟨h20, hl0⟩, hdd, Or.inr (Int32.not_le.mp h74)⟩] at ih; exact ih _)
                    | (rw [en (fun q => q.2.2.elim h63 (fun z => absurd z (Int32.not_lt.mpr h74)))] at ih; exact ih _)
                    | (rw [en (fun q => h46 (congrArg nI q.2.1))] at ih; exact ih _)
                    | (rw [en (fun q => h32 (congrArg nI q.1.2))] at ih; exact ih _)
                    | (rw [en (fun q => h20 q.1.1)] at ih; exact ih _)
                · exact absurd h58 (by decide)
              · skip
                have hdd := nI_inj (by omega) (by omega) h46
                refine sx_iconst (v := nI 1) dX8_earliest_49 (by decide) ?_
                refine sw_goto (tgt := 54) dX8_earliest_50 (by decide) ?_
                refine sw_istore dX8_earliest_54 (Nat.le_of_ble_eq_true rfl) ?_
                refine sw_iload dX8_earliest_56 rfl ?_
                refine sw_if_eq (tgt := 85) dX8_earliest_58 (by decide) (fun h58 => ?_) (fun h58 => ?_)
                · exact absurd h58 (by decide)
                · skip
                  refine sw_iloadn dX8_earliest_61 rfl ?_
                  refine sx_iconst (v := (-1)) dX8_earliest_62 (by decide) ?_
                  refine sw_icmp_eq (tgt := 77) dX8_earliest_63 (by decide) (fun h63 => ?_) (fun h63 => ?_)
                  · skip
                    refine sw_aloadn dX8_earliest_77 rfl ?_
                    refine sw_getR dX8_earliest_78 fs_X8_60 o46 r46_30 ?_
                    refine sw_iload dX8_earliest_81 rfl ?_
                    refine sx_iald (j) dX8_earliest_83 a61 (rfl) (by omega) (by decide) ?_
                    refine sw_istoren dX8_earliest_84 (Nat.le_of_ble_eq_true rfl) ?_
                    refine sx_iinc (nI (j + 1)) dX8_earliest_85 rfl (nI_inc _) ?_
                    refine sw_goto (tgt := 5) dX8_earliest_88 (by decide) ?_
                    first
                      | (rw [ep ⟨⟨h20, hl0⟩, hdd, Or.inl h63⟩] at ih; exact ih _)
                      | (rw [ep ⟨⟨h20, hl0⟩, hdd, Or.inr (Int32.not_le.mp h74)⟩] at ih; exact ih _)
                      | (rw [en (fun q => q.2.2.elim h63 (fun z => absurd z (Int32.not_lt.mpr h74)))] at ih; exact ih _)
                      | (rw [en (fun q => h46 (congrArg nI q.2.1))] at ih; exact ih _)
                      | (rw [en (fun q => h32 (congrArg nI q.1.2))] at ih; exact ih _)
                      | (rw [en (fun q => h20 q.1.1)] at ih; exact ih _)
                  · skip
                    refine sw_aloadn dX8_earliest_66 rfl ?_
                    refine sw_getR dX8_earliest_67 fs_X8_60 o46 r46_30 ?_
                    refine sw_iload dX8_earliest_70 rfl ?_
                    refine sx_iald (j) dX8_earliest_72 a61 (rfl) (by omega) (by decide) ?_
                    refine sw_iloadn dX8_earliest_73 rfl ?_
                    refine sw_icmp_ge (tgt := 85) dX8_earliest_74 (by decide) (fun h74 => ?_) (fun h74 => ?_)
                    · skip
                      refine sx_iinc (nI (j + 1)) dX8_earliest_85 rfl (nI_inc _) ?_
                      refine sw_goto (tgt := 5) dX8_earliest_88 (by decide) ?_
                      first
                        | (rw [ep ⟨⟨h20, hl0⟩, hdd, Or.inl h63⟩] at ih; exact ih _)
                        | (rw [ep ⟨⟨h20, hl0⟩, hdd, Or.inr (Int32.not_le.mp h74)⟩] at ih; exact ih _)
                        | (rw [en (fun q => q.2.2.elim h63 (fun z => absurd z (Int32.not_lt.mpr h74)))] at ih; exact ih _)
                        | (rw [en (fun q => h46 (congrArg nI q.2.1))] at ih; exact ih _)
                        | (rw [en (fun q => h32 (congrArg nI q.1.2))] at ih; exact ih _)
                        | (rw [en (fun q => h20 q.1.1)] at ih; exact ih _)
                    · skip
                      refine sw_aloadn dX8_earliest_77 rfl ?_
                      refine sw_getR dX8_earliest_78 fs_X8_60 o46 r46_30 ?_
                      refine sw_iload dX8_earliest_81 rfl ?_
                      refine sx_iald (j) dX8_earliest_83 a61 (rfl) (by omega) (by decide) ?_
                      refine sw_istoren dX8_earliest_84 (Nat.le_of_ble_eq_true rfl) ?_
                      refine sx_iinc (nI (j + 1)) dX8_earliest_85 rfl (nI_inc _) ?_
                      refine sw_goto (tgt := 5) dX8_earliest_88 (by decide) ?_
                      first
                        | (rw [ep ⟨⟨h20, hl0⟩, hdd, Or.inl h63⟩] at ih; exact ih _)
                        | (rw [ep ⟨⟨h20, hl0⟩, hdd, Or.inr (Int32.not_le.mp h74)⟩] at ih; exact ih _)
                        | (rw [en (fun q => q.2.2.elim h63 (fun z => absurd z (Int32.not_lt.mpr h74)))] at ih; exact ih _)
                        | (rw [en (fun q => h46 (congrArg nI q.2.1))] at ih; exact ih _)
                        | (rw [en (fun q => h32 (congrArg nI q.1.2))] at ih; exact ih _)
                        | (rw [en (fun q => h20 q.1.1)] at ih; exact ih _)
        · skip
          refine sw_if_eq (tgt := 53) dX8_earliest_23 (by decide) (fun h23 => ?_) (fun h23 => ?_)
          · skip
            refine sx_iconst (v := nI 0) dX8_earliest_53 (by decide) ?_
            refine sw_istore dX8_earliest_54 (Nat.le_of_ble_eq_true rfl) ?_
            refine sw_iload dX8_earliest_56 rfl ?_
            refine sw_if_eq (tgt := 85) dX8_earliest_58 (by decide) (fun h58 => ?_) (fun h58 => ?_)
            · skip
              refine sx_iinc (nI (j + 1)) dX8_earliest_85 rfl (nI_inc _) ?_
              refine sw_goto (tgt := 5) dX8_earliest_88 (by decide) ?_
              first
                | (rw [ep ⟨⟨h20, hl0⟩, hdd, Or.inl h63⟩] at ih; exact ih _)
                | (rw [ep ⟨⟨h20, hl0⟩, hdd, Or.inr (Int32.not_le.mp h74)⟩] at ih; exact ih _)
                | (rw [en (fun q => q.2.2.elim h63 (fun z => absurd z (Int32.not_lt.mpr h74)))] at ih; exact ih _)
                | (rw [en (fun q => h46 (congrArg nI q.2.1))] at ih; exact ih _)
                | (rw [en (fun q => h32 (congrArg nI q.1.2))] at ih; exact ih _)
                | (rw [en (fun q => h20 q.1.1)] at ih; exact ih _)
            · exact absurd h58 (by decide)
          · exact absurd h23 (by decide)
  refine sx_iconst (v := (-1)) dX8_earliest_0 (by decide) ?_
  refine sw_istoren dX8_earliest_1 (Nat.le_of_ble_eq_true rfl) ?_
  refine sx_iconst (v := nI 0) dX8_earliest_2 (by decide) ?_
  refine sw_istore dX8_earliest_3 (Nat.le_of_ble_eq_true rfl) ?_
  exact loop k 0 (by omega) (by omega) _
theorem m_odd_loop {f : Int32 → Mem → Prop} {P : PL} (hP : PlM σ P) (hV : PV P) {nc n k : Nat} {w : Int32} (hn : n ≤ 100) (hk : k < n) (hL : LV P nc n (lgM σ)) (h0 : σ.1 58 k = 0) (hend : ∀ o o', SW G (d + 2) M_X8_odd 169 [some (.ref 46), some (.int (nI k)), some (.int w), some (.int (nI (cnt (lat P (lgM σ) k) (dy (lgM σ) k)))), some (.int (nI (cnt (ahd P (lgM σ) k) (dy (lgM σ) k)))), o, o'] [] σ (RI f)) :
    ∀ (m i : Nat), m = dy (lgM σ) k - i → i ≤ dy (lgM σ) k → ∀ (o : Option Value), SW G (d + 2) M_X8_odd 108 [some (.ref 46), some (.int (nI k)), some (.int w), some (.int (nI (cnt (lat P (lgM σ) k) i))), some (.int (nI (cnt (ahd P (lgM σ) k) i))), some (.int (nI i)), o] [] σ (RI f) := by
  have hpk := hL.pass hk h0
  have hdk := dy_lt hpk.2.2.1
  intro m
  induction m with
  | zero =>
    intro i hm hi o
    obtain rfl : i = dy (lgM σ) k := by omega
    refine sw_iload dX8_odd_108 rfl ?_
    refine sw_aloadn dX8_odd_110 rfl ?_
    refine sw_getR dX8_odd_111 fs_X8_60 o46 r46_30 ?_
    refine sw_iloadn dX8_odd_114 rfl ?_
    refine sx_iald (k) dX8_odd_115 a61 (rfl) (by omega) (by decide) ?_
    refine sx_insI1 dX8_odd_116 mk_X8_dayOf sk_X8_dayOf lk_X8_312 (Nat.le_of_ble_eq_true rfl) (Nat.le_of_ble_eq_true rfl) ?_
    refine m_dayOf (nv (lTK (lgM σ)) k) (dy (lgM σ) k) rfl hpk.2.2.1.1 hpk.2.2.1.2 ?_
    refine sw_icmp_ge (tgt := 169) dX8_odd_119 (by decide) (fun h119 => ?_) (fun h119 => ?_)
    · skip
      exact hend _ _
    · exact absurd ((nI_le (Nat.le_refl _) (by omega))) h119
  | succ m ih =>
    intro i hm hi o
    have ih := fun o => ih (i + 1) (by omega) (by omega) o
    refine sw_iload dX8_odd_108 rfl ?_
    refine sw_aloadn dX8_odd_110 rfl ?_
    refine sw_getR dX8_odd_111 fs_X8_60 o46 r46_30 ?_
    refine sw_iloadn dX8_odd_114 rfl ?_
    refine sx_iald (k) dX8_odd_115 a61 (rfl) (by omega) (by decide) ?_
    refine sx_insI1 dX8_odd_116 mk_X8_dayOf sk_X8_dayOf lk_X8_312 (Nat.le_of_ble_eq_true rfl) (Nat.le_of_ble_eq_true rfl) ?_
    refine m_dayOf (nv (lTK (lgM σ)) k) (dy (lgM σ) k) rfl hpk.2.2.1.1 hpk.2.2.1.2 ?_
    refine sw_icmp_ge (tgt := 169) dX8_odd_119 (by decide) (fun h119 => ?_) (fun h119 => ?_)
    · exact absurd h119 ((by rw [nI_le' (by omega) (by omega)]; omega))
    · skip
      refine sw_aloadn dX8_odd_122 rfl ?_
      refine sw_iloadn dX8_odd_123 rfl ?_
      refine sw_iload dX8_odd_124 rfl ?_
      refine sx_invI2 dX8_odd_126 mk_X8_earliest vk_X8_earliest lk_X8_318 o46 (Nat.le_of_ble_eq_true rfl) (Nat.le_of_ble_eq_true rfl) ?_
      refine m_earliest hP hV hn hk (show i < 8 by omega) hL ?_
      refine sw_istore dX8_odd_129 (Nat.le_of_ble_eq_true rfl) ?_
      refine sw_iload dX8_odd_131 rfl ?_
      refine sx_iconst (v := (-1)) dX8_odd_133 (by decide) ?_
      refine sw_icmp_ne (tgt := 140) dX8_odd_134 (by decide) (fun h134 => ?_) (fun h134 => ?_)
      · skip
        refine sx_iinc (nI (cnt (ahd P (lgM σ) k) i + 1)) dX8_odd_140 rfl (nI_inc _) ?_
        refine sw_iload dX8_odd_143 rfl ?_
        refine sx_bipush (v := nI 25) dX8_odd_145 (by decide) ?_
        refine sw_irem dX8_odd_147 (by decide) ?_
        refine sw_aloadn dX8_odd_148 rfl ?_
        refine sw_getR dX8_odd_149 fs_X8_60 o46 r46_30 ?_
        refine sw_iloadn dX8_odd_152 rfl ?_
        refine sx_iald (k) dX8_odd_153 a61 (rfl) (by omega) (by decide) ?_
        refine sx_bipush (v := nI 25) dX8_odd_154 (by decide) ?_
        refine sw_irem dX8_odd_156 (by decide) ?_
        refine sw_icmp_lt (tgt := 163) dX8_odd_157 (by decide) (fun h157 => ?_) (fun h157 => ?_)
        · skip
          refine sx_iinc (nI (i + 1)) dX8_odd_163 rfl (nI_inc _) ?_
          refine sw_goto (tgt := 108) dX8_odd_166 (by decide) ?_
          first
            | (have h157 : ¬ remI (ear P (lgM σ) k i k) < remI (lTK (lgM σ) k) := h157
               rw [cnt, cnt, if_pos (show lat P (lgM σ) k i = true from decide_eq_true ⟨h134, h157⟩), if_pos (show ahd P (lgM σ) k i = true from decide_eq_true h134)] at ih; exact ih _)
            | (have h157 : remI (ear P (lgM σ) k i k) < remI (lTK (lgM σ) k) := h157
               rw [cnt, cnt, if_neg (show ¬ lat P (lgM σ) k i = true from fun q => (of_decide_eq_true q).2 h157), if_pos (show ahd P (lgM σ) k i = true from decide_eq_true h134)] at ih; exact ih _)
            | (rw [cnt, cnt, if_neg (show ¬ lat P (lgM σ) k i = true from fun q => (of_decide_eq_true q).1 h134), if_neg (show ¬ ahd P (lgM σ) k i = true from fun q => (of_decide_eq_true q) h134)] at ih; exact ih _)
        · skip
          refine sx_iinc (nI (cnt (lat P (lgM σ) k) i + 1)) dX8_odd_160 rfl (nI_inc _) ?_
          refine sx_iinc (nI (i + 1)) dX8_odd_163 rfl (nI_inc _) ?_
          refine sw_goto (tgt := 108) dX8_odd_166 (by decide) ?_
          first
            | (have h157 : ¬ remI (ear P (lgM σ) k i k) < remI (lTK (lgM σ) k) := h157
               rw [cnt, cnt, if_pos (show lat P (lgM σ) k i = true from decide_eq_true ⟨h134, h157⟩), if_pos (show ahd P (lgM σ) k i = true from decide_eq_true h134)] at ih; exact ih _)
            | (have h157 : remI (ear P (lgM σ) k i k) < remI (lTK (lgM σ) k) := h157
               rw [cnt, cnt, if_neg (show ¬ lat P (lgM σ) k i = true from fun q => (of_decide_eq_true q).2 h157), if_pos (show ahd P (lgM σ) k i = true from decide_eq_true h134)] at ih; exact ih _)
            | (rw [cnt, cnt, if_neg (show ¬ lat P (lgM σ) k i = true from fun q => (of_decide_eq_true q).1 h134), if_neg (show ¬ ahd P (lgM σ) k i = true from fun q => (of_decide_eq_true q) h134)] at ih; exact ih _)
      · skip
        refine sw_goto (tgt := 163) dX8_odd_137 (by decide) ?_
        refine sx_iinc (nI (i + 1)) dX8_odd_163 rfl (nI_inc _) ?_
        refine sw_goto (tgt := 108) dX8_odd_166 (by decide) ?_
        first
          | (have h157 : ¬ remI (ear P (lgM σ) k i k) < remI (lTK (lgM σ) k) := h157
             rw [cnt, cnt, if_pos (show lat P (lgM σ) k i = true from decide_eq_true ⟨h134, h157⟩), if_pos (show ahd P (lgM σ) k i = true from decide_eq_true h134)] at ih; exact ih _)
          | (have h157 : remI (ear P (lgM σ) k i k) < remI (lTK (lgM σ) k) := h157
             rw [cnt, cnt, if_neg (show ¬ lat P (lgM σ) k i = true from fun q => (of_decide_eq_true q).2 h157), if_pos (show ahd P (lgM σ) k i = true from decide_eq_true h134)] at ih; exact ih _)
          | (rw [cnt, cnt, if_neg (show ¬ lat P (lgM σ) k i = true from fun q => (of_decide_eq_true q).1 h134), if_neg (show ¬ ahd P (lgM σ) k i = true from fun q => (of_decide_eq_true q) h134)] at ih; exact ih _)
theorem m_odd {f : Int32 → Mem → Prop} {P : PL} (hP : PlM σ P) (hV : PV P) {nc n nr : Nat} {x w : Int32} (hs : σ.1 46 25 = nI n) (hn : n ≤ 100) (hL : LV P nc n (lgM σ)) (hr : σ.1 46 26 = nI nr) (hrb : nr ≤ 100) (hg : ∀ k, k < nr → σ.1 67 k = nI 0 ∨ σ.1 67 k = nI 1)
    (k1 : ∀ k, k < n → x = nI k → σ.1 58 k = 0 → f (oddV P (lgM σ) (fun a b c => alM σ a b c nr) k w) (th σ)) (k0 : ¬ (∃ k, k < n ∧ x = nI k ∧ σ.1 58 k = 0) → f (-1) (th σ)) : SW G (d + 2) M_X8_odd 0 [some (.ref 46), some (.int x), some (.int w), none, none, none, none] [] σ (RI f) := by
  have fin : ∀ (k : Nat) (w : Int32), k < n → σ.1 58 k = 0 → (nI 0 ≤ w ∧ w ≤ nI 3) → ¬ w = nI 0 → ¬ w = nI 1 → lft P (lgM σ) k = 0 → f (oddV P (lgM σ) (fun a b c => alM σ a b c nr) k w) (th σ) → ∀ o o', SW G (d + 2) M_X8_odd 169 [some (.ref 46), some (.int (nI k)), some (.int w), some (.int (nI (cnt (lat P (lgM σ) k) (dy (lgM σ) k)))), some (.int (nI (cnt (ahd P (lgM σ) k) (dy (lgM σ) k)))), o, o'] [] (th σ) (RI f) := by
    intro k w hk hz hw h38 h57 hl k1 o o'
    rw [wi_in0 (by omega)] at hw
    obtain ⟨j, hj, rfl⟩ := hw
    refine sw_iloadn dX8_odd_169 rfl ?_
    refine sx_iconst (v := nI 2) dX8_odd_170 (by decide) ?_
    refine sw_icmp_ne (tgt := 178) dX8_odd_171 (by decide) (fun h171 => ?_) (fun h171 => ?_)
    · skip
      refine sw_iload dX8_odd_178 rfl ?_
      refine sx_reti dX8_odd_180 rfl ?_
      first
        | (rw [oddV, if_neg h38, if_neg h57, if_pos ⟨h171, hl⟩] at k1; exact k1)
        | (have hj3 : j = 3 := by
             have a0 : ¬ j = 0 := fun e => h38 (by rw [e])
             have a1 : ¬ j = 1 := fun e => h57 (by rw [e])
             have a2 : ¬ j = 2 := fun e => h171 (by rw [e])
             omega
           subst hj3
           rw [oddV, if_neg h38, if_neg h57, if_neg (fun q => h171 q.1), if_pos ⟨rfl, hl⟩] at k1; exact k1)
    · skip
      refine sw_iloadn dX8_odd_174 rfl ?_
      refine sw_goto (tgt := 180) dX8_odd_175 (by decide) ?_
      refine sx_reti dX8_odd_180 rfl ?_
      first
        | (rw [oddV, if_neg h38, if_neg h57, if_pos ⟨h171, hl⟩] at k1; exact k1)
        | (have hj3 : j = 3 := by
             have a0 : ¬ j = 0 := fun e => h38 (by rw [e])
             have a1 : ¬ j = 1 := fun e => h57 (by rw [e])
             have a2 : ¬ j = 2 := fun e => h171 (by rw [e])
             omega
           subst hj3
           rw [oddV, if_neg h38, if_neg h57, if_neg (fun q => h171 q.1), if_pos ⟨rfl, hl⟩] at k1; exact k1)
  refine sw_aloadn dX8_odd_0 rfl ?_
  refine sx_iconst (v := nI 0) dX8_odd_1 (by decide) ?_
  refine sw_putI dX8_odd_2 fs_X8_1 o46 ?_
  refine sw_iloadn dX8_odd_5 rfl ?_
  refine sw_if_lt (tgt := 35) dX8_odd_6 (by decide) (fun h6 => ?_) (fun h6 => ?_)
  · skip
    refine sx_iconst (v := (-1)) dX8_odd_35 (by decide) ?_
    refine sx_reti dX8_odd_36 rfl ?_
    first
      | (have h29 : ¬ (nI 0 ≤ w ∧ w ≤ nI 3) := h29
         rw [wi_in0 (by omega)] at h29
         rw [oddV, if_neg (fun q => h29 ⟨0, by omega, q⟩), if_neg (fun q => h29 ⟨1, by omega, q⟩), if_neg (fun q => h29 ⟨2, by omega, q.1⟩), if_neg (fun q => h29 ⟨3, by omega, q.1⟩)] at k1
         exact k1)
      | exact k0 (fun ⟨j, hj, e, z⟩ => inR_lt h6 (show n < 100000 by omega) ⟨j, hj, e⟩)
      | exact k0 (fun ⟨j, hj, e, z⟩ => inR_ge h14 (by omega) ⟨j, hj, e⟩)
      | exact k0 (fun ⟨j, hj, e, z⟩ => h23 (by rw [nI_inj (by omega) (by omega) e]; exact z))
  · skip
    refine sw_iloadn dX8_odd_9 rfl ?_
    refine sw_aloadn dX8_odd_10 rfl ?_
    refine sw_getI dX8_odd_11 fs_X8_207 o46 ?_
    rw [show (th σ).1 46 25 = nI n from hs]
    refine sw_icmp_ge (tgt := 35) dX8_odd_14 (by decide) (fun h14 => ?_) (fun h14 => ?_)
    · skip
      refine sx_iconst (v := (-1)) dX8_odd_35 (by decide) ?_
      refine sx_reti dX8_odd_36 rfl ?_
      first
        | (have h29 : ¬ (nI 0 ≤ w ∧ w ≤ nI 3) := h29
           rw [wi_in0 (by omega)] at h29
           rw [oddV, if_neg (fun q => h29 ⟨0, by omega, q⟩), if_neg (fun q => h29 ⟨1, by omega, q⟩), if_neg (fun q => h29 ⟨2, by omega, q.1⟩), if_neg (fun q => h29 ⟨3, by omega, q.1⟩)] at k1
           exact k1)
        | exact k0 (fun ⟨j, hj, e, z⟩ => inR_lt h6 (show n < 100000 by omega) ⟨j, hj, e⟩)
        | exact k0 (fun ⟨j, hj, e, z⟩ => inR_ge h14 (by omega) ⟨j, hj, e⟩)
        | exact k0 (fun ⟨j, hj, e, z⟩ => h23 (by rw [nI_inj (by omega) (by omega) e]; exact z))
    · skip
      obtain ⟨k, hk, rfl⟩ := inR_of h6 h14 (by omega)
      refine sw_aloadn dX8_odd_17 rfl ?_
      refine sw_getR dX8_odd_18 fs_X8_51 o46 r46_27 ?_
      refine sw_iloadn dX8_odd_21 rfl ?_
      refine sx_iald (k) dX8_odd_22 a58 (rfl) (by omega) (by decide) ?_
      refine sw_if_ne (tgt := 35) dX8_odd_23 (by decide) (fun h23 => ?_) (fun h23 => ?_)
      · skip
        refine sx_iconst (v := (-1)) dX8_odd_35 (by decide) ?_
        refine sx_reti dX8_odd_36 rfl ?_
        first
          | (have h29 : ¬ (nI 0 ≤ w ∧ w ≤ nI 3) := h29
             rw [wi_in0 (by omega)] at h29
             rw [oddV, if_neg (fun q => h29 ⟨0, by omega, q⟩), if_neg (fun q => h29 ⟨1, by omega, q⟩), if_neg (fun q => h29 ⟨2, by omega, q.1⟩), if_neg (fun q => h29 ⟨3, by omega, q.1⟩)] at k1
             exact k1)
          | exact k0 (fun ⟨j, hj, e, z⟩ => inR_lt h6 (show n < 100000 by omega) ⟨j, hj, e⟩)
          | exact k0 (fun ⟨j, hj, e, z⟩ => inR_ge h14 (by omega) ⟨j, hj, e⟩)
          | exact k0 (fun ⟨j, hj, e, z⟩ => h23 (by rw [nI_inj (by omega) (by omega) e]; exact z))
      · skip
        have h23 : σ.1 58 k = 0 := h23
        have k1 := k1 k hk rfl h23
        have hpk := hL.pass hk h23
        refine sw_iloadn dX8_odd_26 rfl ?_
        refine sx_iconst (v := nI 0) dX8_odd_27 (by decide) ?_
        refine sx_iconst (v := nI 3) dX8_odd_28 (by decide) ?_
        refine sx_insI3 dX8_odd_29 mk_X8_within sk_X8_within lk_X8_216 (Nat.le_of_ble_eq_true rfl) (Nat.le_of_ble_eq_true rfl) ?_
        refine m_within (fun h29 => ?_) (fun h29 => ?_)
        · skip
          refine sw_if_ne (tgt := 37) dX8_odd_32 (by decide) (fun h32 => ?_) (fun h32 => ?_)
          · skip
            refine sw_iloadn dX8_odd_37 rfl ?_
            refine sw_if_ne (tgt := 55) dX8_odd_38 (by decide) (fun h38 => ?_) (fun h38 => ?_)
            · skip
              refine sw_iloadn dX8_odd_55 rfl ?_
              refine sx_iconst (v := nI 1) dX8_odd_56 (by decide) ?_
              refine sw_icmp_ne (tgt := 90) dX8_odd_57 (by decide) (fun h57 => ?_) (fun h57 => ?_)
              · skip
                refine sw_aloadn dX8_odd_90 rfl ?_
                refine sw_iloadn dX8_odd_91 rfl ?_
                refine sx_invI1 dX8_odd_92 mk_X8_leaves vk_X8_leaves lk_X8_269 o46 (Nat.le_of_ble_eq_true rfl) (Nat.le_of_ble_eq_true rfl) ?_
                refine m_leaves (σ := th σ) hP hV hn hk hL h23 ?_
                refine sw_if_eq (tgt := 100) dX8_odd_95 (by decide) (fun h95 => ?_) (fun h95 => ?_)
                · skip
                  refine sx_iconst (v := nI 0) dX8_odd_100 (by decide) ?_
                  refine sw_istoren dX8_odd_101 (Nat.le_of_ble_eq_true rfl) ?_
                  refine sx_iconst (v := nI 0) dX8_odd_102 (by decide) ?_
                  refine sw_istore dX8_odd_103 (Nat.le_of_ble_eq_true rfl) ?_
                  refine sx_iconst (v := nI 0) dX8_odd_105 (by decide) ?_
                  refine sw_istore dX8_odd_106 (Nat.le_of_ble_eq_true rfl) ?_
                  have hl0 := nI_z (a := lft P (lgM σ) k) (by have := lft_lt hV hL hk h23; omega) h95
                  refine m_odd_loop (σ := th σ) hP hV hn hk hL h23 (fun o o' => ?_) (dy (lgM σ) k) 0 (Nat.sub_zero _).symm (Nat.zero_le _) _
                  have h38 : ¬ w = nI 0 := h38
                  exact fin k w hk h23 h29 h38 h57 hl0 k1 o o'
                · skip
                  refine sx_iconst (v := (-1)) dX8_odd_98 (by decide) ?_
                  refine sx_reti dX8_odd_99 rfl ?_
                  have h38 : ¬ w = nI 0 := h38
                  have hl : ¬ lft P (lgM σ) k = 0 := fun e => h95 (congrArg nI e)
                  rw [oddV, if_neg h38, if_neg h57, if_neg (fun q => hl q.2), if_neg (fun q => hl q.2)] at k1
                  exact k1
              · skip
                refine sw_aloadn dX8_odd_60 rfl ?_
                refine sw_aloadn dX8_odd_61 rfl ?_
                refine sw_getR dX8_odd_62 fs_X8_54 o46 r46_28 ?_
                refine sw_iloadn dX8_odd_65 rfl ?_
                refine sx_iald (k) dX8_odd_66 a59 (rfl) (by omega) (by decide) ?_
                refine sw_aloadn dX8_odd_67 rfl ?_
                refine sw_iloadn dX8_odd_68 rfl ?_
                refine sx_invI1 dX8_odd_69 mk_X8_enters vk_X8_enters lk_X8_272 o46 (Nat.le_of_ble_eq_true rfl) (Nat.le_of_ble_eq_true rfl) ?_
                refine m_enters (σ := th σ) hP hV hn hk hL h23 ?_
                refine sw_aloadn dX8_odd_72 rfl ?_
                refine sw_getR dX8_odd_73 fs_X8_60 o46 r46_30 ?_
                refine sw_iloadn dX8_odd_76 rfl ?_
                refine sx_iald (k) dX8_odd_77 a61 (rfl) (by omega) (by decide) ?_
                refine sx_invI3 dX8_odd_78 mk_X8_isAllowed vk_X8_isAllowed lk_X8_230 o46 (Nat.le_of_ble_eq_true rfl) (Nat.le_of_ble_eq_true rfl) ?_
                refine m_isAllowed (σ := th σ) hr hrb hg (fun h78 => ?_) (fun h78 => ?_)
                · skip
                  refine sw_if_eq (tgt := 88) dX8_odd_81 (by decide) (fun h81 => ?_) (fun h81 => ?_)
                  · exact absurd h81 (by decide)
                  · skip
                    refine sx_iconst (v := nI 1) dX8_odd_84 (by decide) ?_
                    refine sw_goto (tgt := 89) dX8_odd_85 (by decide) ?_
                    refine sx_reti dX8_odd_89 rfl ?_
                    have h38 : ¬ w = nI 0 := h38
                    rw [oddV, if_neg h38, if_pos h57] at k1
                    first
                      | (rw [show alM σ (lCA (lgM σ) k) (nI (cmt P (lgM σ) k)) (lTK (lgM σ) k) nr = true from h78] at k1; exact k1)
                      | (rw [show alM σ (lCA (lgM σ) k) (nI (cmt P (lgM σ) k)) (lTK (lgM σ) k) nr = false from Bool.eq_false_iff.mpr h78] at k1; exact k1)
                · skip
                  refine sw_if_eq (tgt := 88) dX8_odd_81 (by decide) (fun h81 => ?_) (fun h81 => ?_)
                  · skip
                    refine sx_iconst (v := nI 0) dX8_odd_88 (by decide) ?_
                    refine sx_reti dX8_odd_89 rfl ?_
                    have h38 : ¬ w = nI 0 := h38
                    rw [oddV, if_neg h38, if_pos h57] at k1
                    first
                      | (rw [show alM σ (lCA (lgM σ) k) (nI (cmt P (lgM σ) k)) (lTK (lgM σ) k) nr = true from h78] at k1; exact k1)
                      | (rw [show alM σ (lCA (lgM σ) k) (nI (cmt P (lgM σ) k)) (lTK (lgM σ) k) nr = false from Bool.eq_false_iff.mpr h78] at k1; exact k1)
                  · exact absurd h81 (by decide)
            · skip
              refine sw_aloadn dX8_odd_41 rfl ?_
              refine sw_iloadn dX8_odd_42 rfl ?_
              refine sx_invI1 dX8_odd_43 mk_X8_isFirst vk_X8_isFirst lk_X8_315 o46 (Nat.le_of_ble_eq_true rfl) (Nat.le_of_ble_eq_true rfl) ?_
              refine m_isFirst (σ := th σ) hP hV hn hk hL h23 (fun h43 => ?_) (fun h43 => ?_)
              · skip
                refine sw_if_eq (tgt := 53) dX8_odd_46 (by decide) (fun h46 => ?_) (fun h46 => ?_)
                · exact absurd h46 (by decide)
                · skip
                  refine sx_iconst (v := nI 1) dX8_odd_49 (by decide) ?_
                  refine sw_goto (tgt := 54) dX8_odd_50 (by decide) ?_
                  refine sx_reti dX8_odd_54 rfl ?_
                  have h38 : w = nI 0 := h38
                  first
                    | (have h43 : frs P (lgM σ) k := h43
                       rw [oddV, if_pos h38, if_pos h43] at k1; exact k1)
                    | (have h43 : ¬ frs P (lgM σ) k := h43
                       rw [oddV, if_pos h38, if_neg h43] at k1; exact k1)
              · skip
                refine sw_if_eq (tgt := 53) dX8_odd_46 (by decide) (fun h46 => ?_) (fun h46 => ?_)
                · skip
                  refine sx_iconst (v := nI 0) dX8_odd_53 (by decide) ?_
                  refine sx_reti dX8_odd_54 rfl ?_
                  have h38 : w = nI 0 := h38
                  first
                    | (have h43 : frs P (lgM σ) k := h43
                       rw [oddV, if_pos h38, if_pos h43] at k1; exact k1)
                    | (have h43 : ¬ frs P (lgM σ) k := h43
                       rw [oddV, if_pos h38, if_neg h43] at k1; exact k1)
                · exact absurd h46 (by decide)
          · exact absurd h32 (by decide)
        · skip
          refine sw_if_ne (tgt := 37) dX8_odd_32 (by decide) (fun h32 => ?_) (fun h32 => ?_)
          · exact absurd h32 (by decide)
          · skip
            refine sx_iconst (v := (-1)) dX8_odd_35 (by decide) ?_
            refine sx_reti dX8_odd_36 rfl ?_
            first
              | (have h29 : ¬ (nI 0 ≤ w ∧ w ≤ nI 3) := h29
                 rw [wi_in0 (by omega)] at h29
                 rw [oddV, if_neg (fun q => h29 ⟨0, by omega, q⟩), if_neg (fun q => h29 ⟨1, by omega, q⟩), if_neg (fun q => h29 ⟨2, by omega, q.1⟩), if_neg (fun q => h29 ⟨3, by omega, q.1⟩)] at k1
                 exact k1)
              | exact k0 (fun ⟨j, hj, e, z⟩ => inR_lt h6 (show n < 100000 by omega) ⟨j, hj, e⟩)
              | exact k0 (fun ⟨j, hj, e, z⟩ => inR_ge h14 (by omega) ⟨j, hj, e⟩)
              | exact k0 (fun ⟨j, hj, e, z⟩ => h23 (by rw [nI_inj (by omega) (by omega) e]; exact z))
end MODD
