/-! ===== the model's tokens ===== -/
def FM (τ : Mem) (a : Nat × Nat) : Prop := τ.1 46 7 = nI a.1 ∧ a.1 ≤ 6 ∧ (a.1 ≠ 0 → τ.1 46 8 = nI a.2)
def MTok (T : Nat → Int32) (N s : Nat) (τ : Mem) : Prop := s ≤ N ∧ τ.1 46 3 = nI (eS T N s) ∧ τ.1 46 4 = nI s ∧ τ.1 46 5 = nI (mS T N s) ∧ (kdS T N s = 2 → lS T N s ≤ 4 → τ.1 46 6 = nI (nvS T N s))
def MTp (T : Nat → Int32) (N : Nat) (τ : Mem) : Prop := τ.1 47 = T ∧ τ.1 46 2 = nI N
/-- only at, place, sort, value have changed -/
def Mp (σ τ : Mem) : Prop := (∀ c, c ≠ 46 → τ.1 c = σ.1 c) ∧ τ.2 = σ.2 ∧ (∀ k, (k < 3 ∨ 6 < k) → τ.1 46 k = σ.1 46 k)
theorem Mp_rf {σ : Mem} : Mp σ σ := ⟨fun _ _ => rfl, rfl, fun _ _ => rfl⟩
theorem Mp_tr {σ τ ρ : Mem} (h : Mp σ τ) (g : Mp τ ρ) : Mp σ ρ := ⟨fun c hc => (g.1 c hc).trans (h.1 c hc), g.2.1.trans h.2.1, fun c hc => (g.2.2 c hc).trans (h.2.2 c hc)⟩
theorem Mp_I {σ τ : Mem} (h : Mp σ τ) {k : Nat} {v : Int32} (hk : 3 ≤ k ∧ k ≤ 6) : Mp σ (setI τ 46 k v) := Mp_tr h ⟨fun c hc => setI_ne _ _ _ hc, rfl, fun j hj => by rw [setI_at, upd_ne _ _ (by omega)]⟩
theorem Mp_T {T : Nat → Int32} {N : Nat} {σ τ : Mem} (h : Mp σ τ) (g : MTp T N σ) : MTp T N τ := ⟨(h.1 47 (by decide)).trans g.1, (h.2.2 2 (by omega)).trans g.2⟩
theorem wR_c : ∀ j, j < 4 → ∃ c, c < 128 ∧ wR j = nI c := by
  intro j hj
  rcases (show j = 0 ∨ j = 1 ∨ j = 2 ∨ j = 3 by omega) with rfl | rfl | rfl | rfl
  · exact ⟨114, by omega, rfl⟩
  · exact ⟨111, by omega, rfl⟩
  · exact ⟨111, by omega, rfl⟩
  · exact ⟨109, by omega, rfl⟩
theorem wD_c : ∀ j, j < 4 → ∃ c, c < 128 ∧ wD j = nI c := by
  intro j hj
  rcases (show j = 0 ∨ j = 1 ∨ j = 2 ∨ j = 3 by omega) with rfl | rfl | rfl | rfl
  · exact ⟨100, by omega, rfl⟩
  · exact ⟨111, by omega, rfl⟩
  · exact ⟨111, by omega, rfl⟩
  · exact ⟨114, by omega, rfl⟩
theorem isLt0 : isLt 0 = false := by decide
theorem isDg0 : isDg 0 = false := by decide
section MTEXT
variable {G : GG} {d : Nat} {σ : Mem} {T : Nat → Int32} {N s : Nat}
theorem m_isSmall {f : Int32 → Mem → Prop} {v : Int32} (k1 : isLt v = true → f (nI 1) σ) (k0 : isLt v = false → f (nI 0) σ) : SW G d M_X8_isSmall 0 [some (.int v)] [] σ (RI f) := by
  refine sw_iloadn dX8_isSmall_0 rfl ?_
  refine sx_bipush (v := nI 97) dX8_isSmall_1 (by decide) ?_
  refine sw_icmp_lt (tgt := 16) dX8_isSmall_3 (by decide) (fun h3 => ?_) (fun h3 => ?_)
  · skip
    refine sx_iconst (v := nI 0) dX8_isSmall_16 (by decide) ?_
    refine sx_retz dX8_isSmall_17 rfl (Or.inl rfl) ?_
    first
      | exact k1 (isLt_t h3 h9)
      | exact k0 (isLt_f1 h3)
      | exact k0 (isLt_f2 h9)
  · skip
    refine sw_iloadn dX8_isSmall_6 rfl ?_
    refine sx_bipush (v := nI 122) dX8_isSmall_7 (by decide) ?_
    refine sw_icmp_gt (tgt := 16) dX8_isSmall_9 (by decide) (fun h9 => ?_) (fun h9 => ?_)
    · skip
      refine sx_iconst (v := nI 0) dX8_isSmall_16 (by decide) ?_
      refine sx_retz dX8_isSmall_17 rfl (Or.inl rfl) ?_
      first
        | exact k1 (isLt_t h3 h9)
        | exact k0 (isLt_f1 h3)
        | exact k0 (isLt_f2 h9)
    · skip
      refine sx_iconst (v := nI 1) dX8_isSmall_12 (by decide) ?_
      refine sw_goto (tgt := 17) dX8_isSmall_13 (by decide) ?_
      refine sx_retz dX8_isSmall_17 rfl (Or.inr rfl) ?_
      first
        | exact k1 (isLt_t h3 h9)
        | exact k0 (isLt_f1 h3)
        | exact k0 (isLt_f2 h9)
theorem m_isDigit {f : Int32 → Mem → Prop} {v : Int32} (k1 : isDg v = true → f (nI 1) σ) (k0 : isDg v = false → f (nI 0) σ) : SW G d M_X8_isDigit 0 [some (.int v)] [] σ (RI f) := by
  refine sw_iloadn dX8_isDigit_0 rfl ?_
  refine sx_bipush (v := nI 48) dX8_isDigit_1 (by decide) ?_
  refine sw_icmp_lt (tgt := 16) dX8_isDigit_3 (by decide) (fun h3 => ?_) (fun h3 => ?_)
  · skip
    refine sx_iconst (v := nI 0) dX8_isDigit_16 (by decide) ?_
    refine sx_retz dX8_isDigit_17 rfl (Or.inl rfl) ?_
    first
      | exact k1 (isDg_t h3 h9)
      | exact k0 (isDg_f1 h3)
      | exact k0 (isDg_f2 h9)
  · skip
    refine sw_iloadn dX8_isDigit_6 rfl ?_
    refine sx_bipush (v := nI 57) dX8_isDigit_7 (by decide) ?_
    refine sw_icmp_gt (tgt := 16) dX8_isDigit_9 (by decide) (fun h9 => ?_) (fun h9 => ?_)
    · skip
      refine sx_iconst (v := nI 0) dX8_isDigit_16 (by decide) ?_
      refine sx_retz dX8_isDigit_17 rfl (Or.inl rfl) ?_
      first
        | exact k1 (isDg_t h3 h9)
        | exact k0 (isDg_f1 h3)
        | exact k0 (isDg_f2 h9)
    · skip
      refine sx_iconst (v := nI 1) dX8_isDigit_12 (by decide) ?_
      refine sw_goto (tgt := 17) dX8_isDigit_13 (by decide) ?_
      refine sx_retz dX8_isDigit_17 rfl (Or.inr rfl) ?_
      first
        | exact k1 (isDg_t h3 h9)
        | exact k0 (isDg_f1 h3)
        | exact k0 (isDg_f2 h9)
/-- what the model sees at k -/
def sT (T : Nat → Int32) (N k : Nat) : Int32 := if k < N then T k else 0
theorem m_see {f : Int32 → Mem → Prop} {k : Nat} (hT : MTp T N σ) (hb : N ≤ 600) (hk : k ≤ 600) (h : f (sT T N k) σ) : SW G d M_X8_see 0 [some (.ref 46), some (.int (nI k))] [] σ (RI f) := by
  refine sw_iloadn dX8_see_0 rfl ?_
  refine sw_aloadn dX8_see_1 rfl ?_
  refine sw_getI dX8_see_2 fs_X8_104 o46 ?_
  rw [hT.2]
  refine sw_icmp_ge (tgt := 17) dX8_see_5 (by decide) (fun h5 => ?_) (fun h5 => ?_)
  · skip
    refine sx_iconst (v := nI 0) dX8_see_17 (by decide) ?_
    refine sx_reti dX8_see_18 rfl ?_
    first
      | (have q : ¬ k < N := by have := (nI_le' (by omega) (by omega)).mp h5; omega
         unfold sT at h
         rw [if_neg q] at h
         exact h)
      | (have q : k < N := by have := mt (nI_le' (by omega) (by omega)).mpr h5; omega
         unfold sT at h
         rw [if_pos q] at h
         exact h)
  · skip
    refine sw_aloadn dX8_see_8 rfl ?_
    refine sw_getR dX8_see_9 fs_X8_13 o46 r46_1 ?_
    refine sw_iloadn dX8_see_12 rfl ?_
    refine sx_bald (k) dX8_see_13 a47 (rfl) (by have := mt (nI_le' (by omega) (by omega)).mpr h5; omega) (by decide) ?_
    rw [hT.1]
    refine sw_goto (tgt := 18) dX8_see_14 (by decide) ?_
    refine sx_reti dX8_see_18 rfl ?_
    first
      | (have q : ¬ k < N := by have := (nI_le' (by omega) (by omega)).mp h5; omega
         unfold sT at h
         rw [if_neg q] at h
         exact h)
      | (have q : k < N := by have := mt (nI_le' (by omega) (by omega)).mpr h5; omega
         unfold sT at h
         rw [if_pos q] at h
         exact h)
theorem sT_lt {k : Nat} (h : isLt (sT T N k) = true) : k < N ∧ isLt (T k) = true := by
  unfold sT at h
  split at h
  · next q => exact ⟨q, h⟩
  · rw [isLt0] at h; cases h
theorem sT_nlt {k : Nat} (h : isLt (sT T N k) = false) : ¬ (k < N ∧ isLt (T k) = true) := fun q => by
  unfold sT at h
  rw [if_pos q.1, q.2] at h
  cases h
theorem sT_dg {k : Nat} (h : isDg (sT T N k) = true) : k < N ∧ isDg (T k) = true := by
  unfold sT at h
  split at h
  · next q => exact ⟨q, h⟩
  · rw [isDg0] at h; cases h
theorem sT_ndg {k : Nat} (h : isDg (sT T N k) = false) : ¬ (k < N ∧ isDg (T k) = true) := fun q => by
  unfold sT at h
  rw [if_pos q.1, q.2] at h
  cases h
theorem m_isWord {f : Int32 → Mem → Prop} {q b : Nat} {w : Nat → Int32} (hG : Str G) (hq : StrI G q b w) (hw : ∀ j, j < 4 → ∃ c, c < 128 ∧ w j = nI c) (hT : MTp T N σ) (hb : N ≤ 600) (hk : MTok T N s σ) (k1 : isWd T N w s → f (nI 1) σ) (k0 : ¬ isWd T N w s → f (nI 0) σ) : SW G (d + 4) M_X8_isWord 0 [some (.ref 46), some (.ref q), none] [] σ (RI f) := by
  obtain ⟨e0, e3, e4, e5, -⟩ := hk
  have hse := eS_N (T := T) e0
  have hm := mS_le (T := T) (N := N) (s := s)
  have hl : lS T N s ≤ 600 := by unfold lS; omega
  have loop : ∀ (m k : Nat), m = 4 - k → k ≤ 4 → mS T N s = 3 → lS T N s = 4 → (∀ i, i < k → T (s + i) = w i) → SW G (d + 4) M_X8_isWord 28 [some (.ref 46), some (.ref q), some (.int (nI k))] [] σ (RI f) := by
    intro m
    induction m with
    | zero =>
      intro k hm' hk' h3 h4 hp
      refine sw_iloadn dX8_isWord_28 rfl ?_
      refine sw_aloadn dX8_isWord_29 rfl ?_
      refine sx_invS0 dX8_isWord_30 mk_J0_length_8abf5 im_J0_length_8abf5 se_J0_length_8abf5 (by decide +kernel) lk_X8_130 hq.1 (Nat.le_of_ble_eq_true rfl) (Nat.le_of_ble_eq_true rfl) ?_
      refine c_length hG hq ?_
      refine sw_icmp_ge (tgt := 63) dX8_isWord_33 (by decide) (fun h33 => ?_) (fun h33 => ?_)
      · skip
        refine sx_iconst (v := nI 1) dX8_isWord_63 (by decide) ?_
        refine sx_retz dX8_isWord_64 rfl (Or.inr rfl) ?_
        exact k1 ⟨(mS_3.mp h3).1, h4, fun i hi => hp i (by omega)⟩
      · exact absurd ((nI_le (by omega) (by omega))) h33
    | succ m ih =>
      intro k hm' hk' h3 h4 hp
      have hs4 : s + 4 ≤ N := by unfold lS at h4; omega
      refine sw_iloadn dX8_isWord_28 rfl ?_
      refine sw_aloadn dX8_isWord_29 rfl ?_
      refine sx_invS0 dX8_isWord_30 mk_J0_length_8abf5 im_J0_length_8abf5 se_J0_length_8abf5 (by decide +kernel) lk_X8_130 hq.1 (Nat.le_of_ble_eq_true rfl) (Nat.le_of_ble_eq_true rfl) ?_
      refine c_length hG hq ?_
      refine sw_icmp_ge (tgt := 63) dX8_isWord_33 (by decide) (fun h33 => ?_) (fun h33 => ?_)
      · exact absurd h33 ((by rw [nI_le' (by omega) (by omega)]; omega))
      · skip
        refine sw_aloadn dX8_isWord_36 rfl ?_
        refine sw_getR dX8_isWord_37 fs_X8_13 o46 r46_1 ?_
        refine sw_aloadn dX8_isWord_40 rfl ?_
        refine sw_getI dX8_isWord_41 fs_X8_110 o46 ?_
        rw [e4]
        refine sw_iloadn dX8_isWord_44 rfl ?_
        refine sw_iadd dX8_isWord_45 ?_
        refine sw_topI (y := nI (s + k)) (nI_add _ _) ?_
        refine sx_bald (s + k) dX8_isWord_46 a47 (rfl) (by omega) (by decide) ?_
        rw [hT.1]
        refine sw_aloadn dX8_isWord_47 rfl ?_
        refine sw_iloadn dX8_isWord_48 rfl ?_
        refine sx_invS1 dX8_isWord_49 mk_J0_charAt_5068e im_J0_charAt_5068e se_J0_charAt_5068e (by decide +kernel) lk_X8_136 hq.1 (Nat.le_of_ble_eq_true rfl) (Nat.le_of_ble_eq_true rfl) ?_
        refine c_charAt hG hq (by omega) hw ?_
        refine sw_icmp_eq (tgt := 57) dX8_isWord_52 (by decide) (fun h52 => ?_) (fun h52 => ?_)
        · skip
          refine sx_iinc (nI (k + 1)) dX8_isWord_57 rfl (nI_inc _) ?_
          refine sw_goto (tgt := 28) dX8_isWord_60 (by decide) ?_
          exact ih (k + 1) (by omega) (by omega) h3 h4 (fun i hi => by
            rcases Nat.lt_or_ge i k with z | z
            · exact hp i z
            · obtain rfl : i = k := by omega
              exact h52)
        · skip
          refine sx_iconst (v := nI 0) dX8_isWord_55 (by decide) ?_
          refine sx_retz dX8_isWord_56 rfl (Or.inl rfl) ?_
          exact k0 (fun z => h52 (z.2.2 k (by omega)))
  refine sw_aloadn dX8_isWord_0 rfl ?_
  refine sw_getI dX8_isWord_1 fs_X8_113 o46 ?_
  rw [e5]
  refine sx_iconst (v := nI 3) dX8_isWord_4 (by decide) ?_
  refine sw_icmp_ne (tgt := 24) dX8_isWord_5 (by decide) (fun h5 => ?_) (fun h5 => ?_)
  · skip
    refine sx_iconst (v := nI 0) dX8_isWord_24 (by decide) ?_
    refine sx_retz dX8_isWord_25 rfl (Or.inl rfl) ?_
    first
      | exact k0 (fun z => h5 (by rw [mS_3.mpr ⟨z.1, by have := z.2.1; omega⟩]))
      | exact k0 (fun z => h21 (by rw [z.2.1]))
  · skip
    refine sw_aloadn dX8_isWord_8 rfl ?_
    refine sw_getI dX8_isWord_9 fs_X8_107 o46 ?_
    rw [e3]
    refine sw_aloadn dX8_isWord_12 rfl ?_
    refine sw_getI dX8_isWord_13 fs_X8_110 o46 ?_
    rw [e4]
    refine sw_isub dX8_isWord_16 ?_
    refine sw_topI (y := nI (lS T N s)) (nI_sub hse.2) ?_
    refine sw_aloadn dX8_isWord_17 rfl ?_
    refine sx_invS0 dX8_isWord_18 mk_J0_length_8abf5 im_J0_length_8abf5 se_J0_length_8abf5 (by decide +kernel) lk_X8_130 hq.1 (Nat.le_of_ble_eq_true rfl) (Nat.le_of_ble_eq_true rfl) ?_
    refine c_length hG hq ?_
    refine sw_icmp_eq (tgt := 26) dX8_isWord_21 (by decide) (fun h21 => ?_) (fun h21 => ?_)
    · skip
      refine sx_iconst (v := nI 0) dX8_isWord_26 (by decide) ?_
      refine sw_istoren dX8_isWord_27 (Nat.le_of_ble_eq_true rfl) ?_
      exact loop 4 0 rfl (by omega) (nI_inj (by omega) (by omega) h5) (nI_inj (by omega) (by omega) h21) (fun i hi => absurd hi (Nat.not_lt_zero _))
    · skip
      refine sx_iconst (v := nI 0) dX8_isWord_24 (by decide) ?_
      refine sx_retz dX8_isWord_25 rfl (Or.inl rfl) ?_
      first
        | exact k0 (fun z => h5 (by rw [mS_3.mpr ⟨z.1, by have := z.2.1; omega⟩]))
        | exact k0 (fun z => h21 (by rw [z.2.1]))
theorem m_isName {f : Int32 → Mem → Prop} (hG : Str G) (hT : MTp T N σ) (hb : N ≤ 600) (hk : MTok T N s σ) (k1 : isNm T N s → f (nI 1) σ) (k0 : ¬ isNm T N s → f (nI 0) σ) : SW G (d + 5) M_X8_isName 0 [some (.ref 46)] [] σ (RI f) := by
  have e5 := hk.2.2.2.1
  have hm := mS_le (T := T) (N := N) (s := s)
  refine sw_aloadn dX8_isName_0 rfl ?_
  refine sw_getI dX8_isName_1 fs_X8_113 o46 ?_
  rw [e5]
  refine sx_iconst (v := nI 3) dX8_isName_4 (by decide) ?_
  refine sw_icmp_ne (tgt := 30) dX8_isName_5 (by decide) (fun h5 => ?_) (fun h5 => ?_)
  · skip
    refine sx_iconst (v := nI 0) dX8_isName_30 (by decide) ?_
    refine sx_retz dX8_isName_31 rfl (Or.inl rfl) ?_
    first
      | exact k0 (fun z => h5 (by rw [mS_3.mpr ⟨z.1, z.2.1⟩]))
      | (have g := mS_3.mp (nI_inj (by omega) (by omega) h5)
         exact k1 ⟨g.1, g.2, h11, h20⟩)
      | exact k0 (fun z => z.2.2.1 h11)
      | exact k0 (fun z => z.2.2.2 h20)
  · skip
    refine sw_aloadn dX8_isName_8 rfl ?_
    refine sw_ldcS hG.2.2.1 dX8_isName_9 ?_
    refine sx_invI1 dX8_isName_11 mk_X8_isWord vk_X8_isWord lk_X8_142 o46 (Nat.le_of_ble_eq_true rfl) (Nat.le_of_ble_eq_true rfl) ?_
    refine m_isWord hG hG.1 wR_c hT hb hk (fun h11 => ?_) (fun h11 => ?_)
    · skip
      refine sw_if_ne (tgt := 30) dX8_isName_14 (by decide) (fun h14 => ?_) (fun h14 => ?_)
      · skip
        refine sx_iconst (v := nI 0) dX8_isName_30 (by decide) ?_
        refine sx_retz dX8_isName_31 rfl (Or.inl rfl) ?_
        first
          | exact k0 (fun z => h5 (by rw [mS_3.mpr ⟨z.1, z.2.1⟩]))
          | (have g := mS_3.mp (nI_inj (by omega) (by omega) h5)
             exact k1 ⟨g.1, g.2, h11, h20⟩)
          | exact k0 (fun z => z.2.2.1 h11)
          | exact k0 (fun z => z.2.2.2 h20)
      · exact absurd h14 (by decide)
    · skip
      refine sw_if_ne (tgt := 30) dX8_isName_14 (by decide) (fun h14 => ?_) (fun h14 => ?_)
      · exact absurd h14 (by decide)
      · skip
        refine sw_aloadn dX8_isName_17 rfl ?_
        refine sw_ldcS hG.2.2.2.1 dX8_isName_18 ?_
        refine sx_invI1 dX8_isName_20 mk_X8_isWord vk_X8_isWord lk_X8_142 o46 (Nat.le_of_ble_eq_true rfl) (Nat.le_of_ble_eq_true rfl) ?_
        refine m_isWord hG hG.2.1 wD_c hT hb hk (fun h20 => ?_) (fun h20 => ?_)
        · skip
          refine sw_if_ne (tgt := 30) dX8_isName_23 (by decide) (fun h23 => ?_) (fun h23 => ?_)
          · skip
            refine sx_iconst (v := nI 0) dX8_isName_30 (by decide) ?_
            refine sx_retz dX8_isName_31 rfl (Or.inl rfl) ?_
            first
              | exact k0 (fun z => h5 (by rw [mS_3.mpr ⟨z.1, z.2.1⟩]))
              | (have g := mS_3.mp (nI_inj (by omega) (by omega) h5)
                 exact k1 ⟨g.1, g.2, h11, h20⟩)
              | exact k0 (fun z => z.2.2.1 h11)
              | exact k0 (fun z => z.2.2.2 h20)
          · exact absurd h23 (by decide)
        · skip
          refine sw_if_ne (tgt := 30) dX8_isName_23 (by decide) (fun h23 => ?_) (fun h23 => ?_)
          · exact absurd h23 (by decide)
          · skip
            refine sx_iconst (v := nI 1) dX8_isName_26 (by decide) ?_
            refine sw_goto (tgt := 31) dX8_isName_27 (by decide) ?_
            refine sx_retz dX8_isName_31 rfl (Or.inr rfl) ?_
            first
              | exact k0 (fun z => h5 (by rw [mS_3.mpr ⟨z.1, z.2.1⟩]))
              | (have g := mS_3.mp (nI_inj (by omega) (by omega) h5)
                 exact k1 ⟨g.1, g.2, h11, h20⟩)
              | exact k0 (fun z => z.2.2.1 h11)
              | exact k0 (fun z => z.2.2.2 h20)
end MTEXT
