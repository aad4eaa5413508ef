/-- all but the name at k is as it was (and at, place, sort, value, fault, faultPlace) -/
def frN (k : Nat) (σ τ : Mem) : Prop := (∀ c, c ≠ 46 → c ≠ 48 → c ≠ 49 → τ.1 c = σ.1 c) ∧ τ.2 = σ.2 ∧ (∀ j, (j < 3 ∨ 8 < j) → τ.1 46 j = σ.1 46 j) ∧ (∀ j, j ≠ k → τ.1 49 j = σ.1 49 j) ∧ (∀ j, (j < 8 * k ∨ 8 * k + 8 ≤ j) → τ.1 48 j = σ.1 48 j)
theorem frN_rf {k : Nat} {σ : Mem} : frN k σ σ := ⟨fun _ _ _ _ => rfl, rfl, fun _ _ => rfl, fun _ _ => rfl, fun _ _ => rfl⟩
theorem frN_tr {k : Nat} {σ τ ρ : Mem} (h : frN k σ τ) (g : frN k τ ρ) : frN k σ ρ := ⟨fun c h1 h2 h3 => (g.1 c h1 h2 h3).trans (h.1 c h1 h2 h3), g.2.1.trans h.2.1, fun j hj => (g.2.2.1 j hj).trans (h.2.2.1 j hj), fun j hj => (g.2.2.2.1 j hj).trans (h.2.2.2.1 j hj), fun j hj => (g.2.2.2.2 j hj).trans (h.2.2.2.2 j hj)⟩
theorem frN_m {k : Nat} {σ τ : Mem} (h : frm σ τ) : frN k σ τ := ⟨fun c h1 _ _ => h.1 c h1, h.2.1, h.2.2, fun j _ => by rw [h.1 49 (by decide)], fun j _ => by rw [h.1 48 (by decide)]⟩
theorem nar_lt {v : Int32} (h : isLt v = true) : vp_nar .byte v = v := by
  obtain ⟨c, c1, c2, rfl⟩ := isLt_nI h
  have key : ∀ c, c < 128 → vp_nar .byte (nI c) = nI c := by decide +kernel
  exact key c (by omega)
theorem nmM_fr {T : Nat → Int32} {N k s : Nat} {σ τ : Mem} (h1 : τ.1 49 = σ.1 49) (h2 : τ.1 48 = σ.1 48) (h : nmM T N σ k s) : nmM T N τ k s := by
  unfold nmM
  rw [h1, h2]
  exact h
section MTAKE2
variable {G : GG} {d : Nat} {σ : Mem} {T : Nat → Int32} {N s : Nat} {a : Nat × Nat} {D : DR}
theorem MTk_cg {τ : Mem} (h1 : τ.1 47 = σ.1 47) (h2 : ∀ k, k ≤ 8 → τ.1 46 k = σ.1 46 k) (h : MTk T N s a σ) : MTk T N s a τ := by
  unfold MTk MTp FM MTok at h ⊢
  rw [h1, h2 2 (by omega), h2 3 (by omega), h2 4 (by omega), h2 5 (by omega), h2 6 (by omega), h2 7 (by omega), h2 8 (by omega)]
  exact h
theorem m_ends {f : Mem → Prop} (hb : N ≤ 600) (hk : MTk T N s a σ) (h : ∀ τ, frm σ τ → MTk T N (nS T N s) (fh a (ckS T N s) s) τ → f τ) : SW G (d + 2) M_X8_ends 0 [some (.ref 46)] [] σ (RV f) := by
  have hm' := mS_le (T := T) (N := N) (s := s)
  refine sw_aloadn dX8_ends_0 rfl ?_
  refine sx_invI0 dX8_ends_1 mk_X8_isWell vk_X8_isWell lk_X8_177 o46 (Nat.le_of_ble_eq_true rfl) (Nat.le_of_ble_eq_true rfl) ?_
  refine m_isWell hk.2.1 (fun h1 => ?_) (fun h1 => ?_)
  · skip
    refine sw_if_ne (tgt := 8) dX8_ends_4 (by decide) (fun h4 => ?_) (fun h4 => ?_)
    · skip
      obtain ⟨t0, t3, t4, t5, t6⟩ := hk.2.2 h1
      refine sw_aloadn dX8_ends_8 rfl ?_
      refine sw_getI dX8_ends_9 fs_X8_113 o46 ?_
      rw [t5]
      refine sx_iconst (v := nI 4) dX8_ends_12 (by decide) ?_
      refine sw_icmp_ne (tgt := 23) dX8_ends_13 (by decide) (fun h13 => ?_) (fun h13 => ?_)
      · skip
        refine sw_aloadn dX8_ends_23 rfl ?_
        refine sx_iconst (v := nI 1) dX8_ends_24 (by decide) ?_
        refine sx_invV1 dX8_ends_25 mk_X8_fails vk_X8_fails lk_X8_167 o46 (Nat.le_of_ble_eq_true rfl) (Nat.le_of_ble_eq_true rfl) ?_
        refine m_fails (c := 1) (by omega) hk (fun τ hf hk' => ?_)
        refine sx_ret0 dX8_ends_28 rfl ?_
        first
          | (have e : ckS T N s = 0 := if_pos (mS_4.mp (nI_inj (by omega) (by omega) h13))
             exact h _ hf (by rw [e, fh_c0]; exact hk'))
          | (have e : ckS T N s = 1 := if_neg (fun q => h13 (by rw [mS_4.mpr q]))
             rw [fh_c h1 (by omega)] at hk'
             exact h _ hf (by rw [e, fh_c h1 (by omega)]; exact ⟨hk'.1, hk'.2.1, fun q => by cases q⟩))
      · skip
        refine sw_aloadn dX8_ends_16 rfl ?_
        refine sx_invV0 dX8_ends_17 mk_X8_next vk_X8_next lk_X8_180 o46 (Nat.le_of_ble_eq_true rfl) (Nat.le_of_ble_eq_true rfl) ?_
        refine m_nextT hb h1 hk (fun τ hf hk' => ?_)
        refine sw_goto (tgt := 28) dX8_ends_20 (by decide) ?_
        refine sx_ret0 dX8_ends_28 rfl ?_
        first
          | (have e : ckS T N s = 0 := if_pos (mS_4.mp (nI_inj (by omega) (by omega) h13))
             exact h _ hf (by rw [e, fh_c0]; exact hk'))
          | (have e : ckS T N s = 1 := if_neg (fun q => h13 (by rw [mS_4.mpr q]))
             rw [fh_c h1 (by omega)] at hk'
             exact h _ hf (by rw [e, fh_c h1 (by omega)]; exact ⟨hk'.1, hk'.2.1, fun q => by cases q⟩))
    · exact absurd h4 (by decide)
  · skip
    refine sw_if_ne (tgt := 8) dX8_ends_4 (by decide) (fun h4 => ?_) (fun h4 => ?_)
    · exact absurd h4 (by decide)
    · skip
      refine sx_ret0 dX8_ends_7 rfl ?_
      refine h _ frm_rf ?_
      rw [fh_a h1]
      exact ⟨hk.1, hk.2.1, fun q => absurd q h1⟩
theorem m_roomTold {f : Int32 → Mem → Prop} {y : Int32} {o : Nat} (hG : Str G) (hb : N ≤ 600) (hk : MTk T N s a σ) (hD : GD T N D) (hd : MDr T N D σ) (hy : a.1 = 0 → ∀ j, j < 8 → (nI j = y ↔ j = o)) (h : ∀ τ r, frm σ τ → MTk T N (nS T N s) (fh a (ckR T N D s o) s) τ → ((fh a (ckR T N D s o) s).1 = 0 → r = nI (rmX T N D s)) → f r τ) : SW G (d + 6) M_X8_roomTold 0 [some (.ref 46), some (.int y), none] [] σ (RI f) := by
  have p1 := hD.1.1
  have hx := rmX_le (T := T) (N := N) D s
  have fin : ∀ τ r, frm σ τ → MTk T N s (fh a (ckR T N D s o) s) τ → ((fh a (ckR T N D s o) s).1 = 0 → r = nI (rmX T N D s)) → SW G (d + 6) M_X8_roomTold 55 [some (.ref 46), some (.int y), some (.int r)] [] τ (RI f) := by
    intro τ r hf hk' hr
    refine sw_aloadn dX8_roomTold_55 rfl ?_
    refine sx_invI0 dX8_roomTold_56 mk_X8_isWell vk_X8_isWell lk_X8_177 o46 (Nat.le_of_ble_eq_true rfl) (Nat.le_of_ble_eq_true rfl) ?_
    refine m_isWell hk'.2.1 (fun h56 => ?_) (fun h56 => ?_)
    · skip
      refine sw_if_eq (tgt := 66) dX8_roomTold_59 (by decide) (fun h59 => ?_) (fun h59 => ?_)
      · exact absurd h59 (by decide)
      · skip
        refine sw_aloadn dX8_roomTold_62 rfl ?_
        refine sx_invV0 dX8_roomTold_63 mk_X8_next vk_X8_next lk_X8_180 o46 (Nat.le_of_ble_eq_true rfl) (Nat.le_of_ble_eq_true rfl) ?_
        refine m_nextT hb h56 hk' (fun ρ hg hr' => ?_)
        refine sw_iloadn dX8_roomTold_66 rfl ?_
        refine sx_reti dX8_roomTold_67 rfl ?_
        first
          | exact h _ _ (frm_tr hf hg) hr' hr
          | exact h _ _ hf ⟨hk'.1, hk'.2.1, fun q => absurd q h56⟩ hr
    · skip
      refine sw_if_eq (tgt := 66) dX8_roomTold_59 (by decide) (fun h59 => ?_) (fun h59 => ?_)
      · skip
        refine sw_iloadn dX8_roomTold_66 rfl ?_
        refine sx_reti dX8_roomTold_67 rfl ?_
        first
          | exact h _ _ (frm_tr hf hg) hr' hr
          | exact h _ _ hf ⟨hk'.1, hk'.2.1, fun q => absurd q h56⟩ hr
      · exact absurd h59 (by decide)
  have hz : ∀ c, ¬ c = 0 → ¬ (fh a c s).1 = 0 := fun c hc q => hc (fh_0.mp q).2
  refine sw_aloadn dX8_roomTold_0 rfl ?_
  refine sx_invI0 dX8_roomTold_1 mk_X8_isWell vk_X8_isWell lk_X8_177 o46 (Nat.le_of_ble_eq_true rfl) (Nat.le_of_ble_eq_true rfl) ?_
  refine m_isWell hk.2.1 (fun h1 => ?_) (fun h1 => ?_)
  · skip
    refine sw_if_ne (tgt := 9) dX8_roomTold_4 (by decide) (fun h4 => ?_) (fun h4 => ?_)
    · skip
      have ht := hk.2.2 h1
      have hy := hy h1
      refine sw_aloadn dX8_roomTold_9 rfl ?_
      refine sx_invI0 dX8_roomTold_10 mk_X8_isName vk_X8_isName lk_X8_163 o46 (Nat.le_of_ble_eq_true rfl) (Nat.le_of_ble_eq_true rfl) ?_
      refine m_isName hG hk.1 hb ht (fun h10 => ?_) (fun h10 => ?_)
      · skip
        refine sw_if_eq (tgt := 23) dX8_roomTold_13 (by decide) (fun h13 => ?_) (fun h13 => ?_)
        · exact absurd h13 (by decide)
        · skip
          refine sw_aloadn dX8_roomTold_16 rfl ?_
          refine sx_invI0 dX8_roomTold_17 mk_X8_roomHere vk_X8_roomHere lk_X8_171 o46 (Nat.le_of_ble_eq_true rfl) (Nat.le_of_ble_eq_true rfl) ?_
          refine m_roomHere hb hk.1 ht hD hd (fun r hr => ?_)
          refine sw_goto (tgt := 24) dX8_roomTold_20 (by decide) ?_
          refine sw_istoren dX8_roomTold_24 (Nat.le_of_ble_eq_true rfl) ?_
          refine sw_aloadn dX8_roomTold_25 rfl ?_
          refine sx_invI0 dX8_roomTold_26 mk_X8_isName vk_X8_isName lk_X8_163 o46 (Nat.le_of_ble_eq_true rfl) (Nat.le_of_ble_eq_true rfl) ?_
          refine m_isName hG hk.1 hb ht (fun h26 => ?_) (fun h26 => ?_)
          · skip
            refine sw_if_ne (tgt := 40) dX8_roomTold_29 (by decide) (fun h29 => ?_) (fun h29 => ?_)
            · skip
              refine sw_iloadn dX8_roomTold_40 rfl ?_
              refine sx_iconst (v := (-1)) dX8_roomTold_41 (by decide) ?_
              refine sw_icmp_eq (tgt := 50) dX8_roomTold_42 (by decide) (fun h42 => ?_) (fun h42 => ?_)
              · skip
                refine sw_aloadn dX8_roomTold_50 rfl ?_
                refine sx_iconst (v := nI 4) dX8_roomTold_51 (by decide) ?_
                refine sx_invV1 dX8_roomTold_52 mk_X8_fails vk_X8_fails lk_X8_167 o46 (Nat.le_of_ble_eq_true rfl) (Nat.le_of_ble_eq_true rfl) ?_
                refine m_fails (c := 4) (by omega) hk (fun τ hf hr' => ?_)
                first
                  | exact fin _ _ hf (by rw [ckR_1 h26]; exact hr') (by rw [ckR_1 h26]; exact fun q => absurd q (hz 1 (by omega)))
                  | exact absurd h26 h10
                  | (rcases hr with ⟨x1, x2⟩ | ⟨x1, x2⟩
                     · first
                         | exact absurd (h42 ▸ x2).symm (nI_nm1 (by omega))
                         | (have e4 := ckR_4 (o := o) h10 (Or.inr ((hy _ (by omega)).mp (x2 ▸ h47)))
                            exact fin _ _ hf (by rw [e4]; exact hr') (by rw [e4]; exact fun q => absurd q (hz 4 (by omega))))
                         | (have e4 := ckR_0 (o := o) h10 (fun q => q.elim (fun z => by omega) (fun z => h47 (x2.trans ((hy _ (by omega)).mpr z))))
                            exact fin _ _ frm_rf (by rw [e4, fh_c0]; exact hk) (fun _ => x2))
                     · first
                         | (have e4 := ckR_4 (o := o) h10 (Or.inl x1)
                            exact fin _ _ hf (by rw [e4]; exact hr') (by rw [e4]; exact fun q => absurd q (hz 4 (by omega))))
                         | exact absurd x2 h42)
              · skip
                refine sw_iloadn dX8_roomTold_45 rfl ?_
                refine sw_iloadn dX8_roomTold_46 rfl ?_
                refine sw_icmp_ne (tgt := 55) dX8_roomTold_47 (by decide) (fun h47 => ?_) (fun h47 => ?_)
                · skip
                  first
                    | exact fin _ _ hf (by rw [ckR_1 h26]; exact hr') (by rw [ckR_1 h26]; exact fun q => absurd q (hz 1 (by omega)))
                    | exact absurd h26 h10
                    | (rcases hr with ⟨x1, x2⟩ | ⟨x1, x2⟩
                       · first
                           | exact absurd (h42 ▸ x2).symm (nI_nm1 (by omega))
                           | (have e4 := ckR_4 (o := o) h10 (Or.inr ((hy _ (by omega)).mp (x2 ▸ h47)))
                              exact fin _ _ hf (by rw [e4]; exact hr') (by rw [e4]; exact fun q => absurd q (hz 4 (by omega))))
                           | (have e4 := ckR_0 (o := o) h10 (fun q => q.elim (fun z => by omega) (fun z => h47 (x2.trans ((hy _ (by omega)).mpr z))))
                              exact fin _ _ frm_rf (by rw [e4, fh_c0]; exact hk) (fun _ => x2))
                       · first
                           | (have e4 := ckR_4 (o := o) h10 (Or.inl x1)
                              exact fin _ _ hf (by rw [e4]; exact hr') (by rw [e4]; exact fun q => absurd q (hz 4 (by omega))))
                           | exact absurd x2 h42)
                · skip
                  refine sw_aloadn dX8_roomTold_50 rfl ?_
                  refine sx_iconst (v := nI 4) dX8_roomTold_51 (by decide) ?_
                  refine sx_invV1 dX8_roomTold_52 mk_X8_fails vk_X8_fails lk_X8_167 o46 (Nat.le_of_ble_eq_true rfl) (Nat.le_of_ble_eq_true rfl) ?_
                  refine m_fails (c := 4) (by omega) hk (fun τ hf hr' => ?_)
                  first
                    | exact fin _ _ hf (by rw [ckR_1 h26]; exact hr') (by rw [ckR_1 h26]; exact fun q => absurd q (hz 1 (by omega)))
                    | exact absurd h26 h10
                    | (rcases hr with ⟨x1, x2⟩ | ⟨x1, x2⟩
                       · first
                           | exact absurd (h42 ▸ x2).symm (nI_nm1 (by omega))
                           | (have e4 := ckR_4 (o := o) h10 (Or.inr ((hy _ (by omega)).mp (x2 ▸ h47)))
                              exact fin _ _ hf (by rw [e4]; exact hr') (by rw [e4]; exact fun q => absurd q (hz 4 (by omega))))
                           | (have e4 := ckR_0 (o := o) h10 (fun q => q.elim (fun z => by omega) (fun z => h47 (x2.trans ((hy _ (by omega)).mpr z))))
                              exact fin _ _ frm_rf (by rw [e4, fh_c0]; exact hk) (fun _ => x2))
                       · first
                           | (have e4 := ckR_4 (o := o) h10 (Or.inl x1)
                              exact fin _ _ hf (by rw [e4]; exact hr') (by rw [e4]; exact fun q => absurd q (hz 4 (by omega))))
                           | exact absurd x2 h42)
            · exact absurd h29 (by decide)
          · skip
            refine sw_if_ne (tgt := 40) dX8_roomTold_29 (by decide) (fun h29 => ?_) (fun h29 => ?_)
            · exact absurd h29 (by decide)
            · skip
              refine sw_aloadn dX8_roomTold_32 rfl ?_
              refine sx_iconst (v := nI 1) dX8_roomTold_33 (by decide) ?_
              refine sx_invV1 dX8_roomTold_34 mk_X8_fails vk_X8_fails lk_X8_167 o46 (Nat.le_of_ble_eq_true rfl) (Nat.le_of_ble_eq_true rfl) ?_
              refine m_fails (c := 1) (by omega) hk (fun τ hf hr' => ?_)
              refine sw_goto (tgt := 55) dX8_roomTold_37 (by decide) ?_
              first
                | exact fin _ _ hf (by rw [ckR_1 h26]; exact hr') (by rw [ckR_1 h26]; exact fun q => absurd q (hz 1 (by omega)))
                | exact absurd h26 h10
                | (rcases hr with ⟨x1, x2⟩ | ⟨x1, x2⟩
                   · first
                       | exact absurd (h42 ▸ x2).symm (nI_nm1 (by omega))
                       | (have e4 := ckR_4 (o := o) h10 (Or.inr ((hy _ (by omega)).mp (x2 ▸ h47)))
                          exact fin _ _ hf (by rw [e4]; exact hr') (by rw [e4]; exact fun q => absurd q (hz 4 (by omega))))
                       | (have e4 := ckR_0 (o := o) h10 (fun q => q.elim (fun z => by omega) (fun z => h47 (x2.trans ((hy _ (by omega)).mpr z))))
                          exact fin _ _ frm_rf (by rw [e4, fh_c0]; exact hk) (fun _ => x2))
                   · first
                       | (have e4 := ckR_4 (o := o) h10 (Or.inl x1)
                          exact fin _ _ hf (by rw [e4]; exact hr') (by rw [e4]; exact fun q => absurd q (hz 4 (by omega))))
                       | exact absurd x2 h42)
      · skip
        refine sw_if_eq (tgt := 23) dX8_roomTold_13 (by decide) (fun h13 => ?_) (fun h13 => ?_)
        · skip
          refine sx_iconst (v := (-1)) dX8_roomTold_23 (by decide) ?_
          refine sw_istoren dX8_roomTold_24 (Nat.le_of_ble_eq_true rfl) ?_
          refine sw_aloadn dX8_roomTold_25 rfl ?_
          refine sx_invI0 dX8_roomTold_26 mk_X8_isName vk_X8_isName lk_X8_163 o46 (Nat.le_of_ble_eq_true rfl) (Nat.le_of_ble_eq_true rfl) ?_
          refine m_isName hG hk.1 hb ht (fun h26 => ?_) (fun h26 => ?_)
          · skip
            refine sw_if_ne (tgt := 40) dX8_roomTold_29 (by decide) (fun h29 => ?_) (fun h29 => ?_)
            · skip
              refine sw_iloadn dX8_roomTold_40 rfl ?_
              refine sx_iconst (v := (-1)) dX8_roomTold_41 (by decide) ?_
              refine sw_icmp_eq (tgt := 50) dX8_roomTold_42 (by decide) (fun h42 => ?_) (fun h42 => ?_)
              · skip
                refine sw_aloadn dX8_roomTold_50 rfl ?_
                refine sx_iconst (v := nI 4) dX8_roomTold_51 (by decide) ?_
                refine sx_invV1 dX8_roomTold_52 mk_X8_fails vk_X8_fails lk_X8_167 o46 (Nat.le_of_ble_eq_true rfl) (Nat.le_of_ble_eq_true rfl) ?_
                refine m_fails (c := 4) (by omega) hk (fun τ hf hr' => ?_)
                first
                  | exact fin _ _ hf (by rw [ckR_1 h26]; exact hr') (by rw [ckR_1 h26]; exact fun q => absurd q (hz 1 (by omega)))
                  | exact absurd h26 h10
                  | (rcases hr with ⟨x1, x2⟩ | ⟨x1, x2⟩
                     · first
                         | exact absurd (h42 ▸ x2).symm (nI_nm1 (by omega))
                         | (have e4 := ckR_4 (o := o) h10 (Or.inr ((hy _ (by omega)).mp (x2 ▸ h47)))
                            exact fin _ _ hf (by rw [e4]; exact hr') (by rw [e4]; exact fun q => absurd q (hz 4 (by omega))))
                         | (have e4 := ckR_0 (o := o) h10 (fun q => q.elim (fun z => by omega) (fun z => h47 (x2.trans ((hy _ (by omega)).mpr z))))
                            exact fin _ _ frm_rf (by rw [e4, fh_c0]; exact hk) (fun _ => x2))
                     · first
                         | (have e4 := ckR_4 (o := o) h10 (Or.inl x1)
                            exact fin _ _ hf (by rw [e4]; exact hr') (by rw [e4]; exact fun q => absurd q (hz 4 (by omega))))
                         | exact absurd x2 h42)
              · exact absurd h42 (by decide)
            · exact absurd h29 (by decide)
          · skip
            refine sw_if_ne (tgt := 40) dX8_roomTold_29 (by decide) (fun h29 => ?_) (fun h29 => ?_)
            · exact absurd h29 (by decide)
            · skip
              refine sw_aloadn dX8_roomTold_32 rfl ?_
              refine sx_iconst (v := nI 1) dX8_roomTold_33 (by decide) ?_
              refine sx_invV1 dX8_roomTold_34 mk_X8_fails vk_X8_fails lk_X8_167 o46 (Nat.le_of_ble_eq_true rfl) (Nat.le_of_ble_eq_true rfl) ?_
              refine m_fails (c := 1) (by omega) hk (fun τ hf hr' => ?_)
              refine sw_goto (tgt := 55) dX8_roomTold_37 (by decide) ?_
              first
                | exact fin _ _ hf (by rw [ckR_1 h26]; exact hr') (by rw [ckR_1 h26]; exact fun q => absurd q (hz 1 (by omega)))
                | exact absurd h26 h10
                | (rcases hr with ⟨x1, x2⟩ | ⟨x1, x2⟩
                   · first
                       | exact absurd (h42 ▸ x2).symm (nI_nm1 (by omega))
                       | (have e4 := ckR_4 (o := o) h10 (Or.inr ((hy _ (by omega)).mp (x2 ▸ h47)))
                          exact fin _ _ hf (by rw [e4]; exact hr') (by rw [e4]; exact fun q => absurd q (hz 4 (by omega))))
                       | (have e4 := ckR_0 (o := o) h10 (fun q => q.elim (fun z => by omega) (fun z => h47 (x2.trans ((hy _ (by omega)).mpr z))))
                          exact fin _ _ frm_rf (by rw [e4, fh_c0]; exact hk) (fun _ => x2))
                   · first
                       | (have e4 := ckR_4 (o := o) h10 (Or.inl x1)
                          exact fin _ _ hf (by rw [e4]; exact hr') (by rw [e4]; exact fun q => absurd q (hz 4 (by omega))))
                       | exact absurd x2 h42)
        · exact absurd h13 (by decide)
    · exact absurd h4 (by decide)
  · skip
    refine sw_if_ne (tgt := 9) dX8_roomTold_4 (by decide) (fun h4 => ?_) (fun h4 => ?_)
    · exact absurd h4 (by decide)
    · skip
      refine sx_iconst (v := nI 0) dX8_roomTold_7 (by decide) ?_
      refine sx_reti dX8_roomTold_8 rfl ?_
      refine h _ _ frm_rf ?_ ?_
      · rw [fh_a h1]; exact ⟨hk.1, hk.2.1, fun q => absurd q h1⟩
      · rw [fh_a h1]; exact fun q => absurd q h1
theorem m_newName {f : Mem → Prop} {k : Nat} (hG : Str G) (hb : N ≤ 600) (hk18 : k < 18) (hk : MTk T N s (0, 0) σ) (hD : GD T N D) (hd : MDr T N D σ) (h : ∀ τ, frN k σ τ → MTk T N (nS T N s) (fh (0, 0) (ckN T N D s) s) τ → (ckN T N D s = 0 → nmM T N τ k s) → f τ) : SW G (d + 6) M_X8_newName 0 [some (.ref 46), some (.int (nI k)), none] [] σ (RV f) := by
  have ht := hk.2.2 rfl
  obtain ⟨t0, t3, t4, t5, t6⟩ := ht
  have ht := hk.2.2 rfl
  have hse := eS_N (T := T) t0
  have hm' := mS_le (T := T) (N := N) (s := s)
  have hl : lS T N s ≤ 600 := by unfold lS; omega
  have bad : ∀ τ (c : Nat), frm σ τ → ckN T N D s = c → c ≠ 0 → MTk T N s (fh (0, 0) c s) τ → SW G (d + 6) M_X8_newName 35 [some (.ref 46), some (.int (nI k)), none] [] τ (RV f) := by
    intro τ c hf e hc hk'
    have hz : ¬ (fh (0, 0) c s).1 = 0 := fun q => hc (fh_0.mp q).2
    refine sw_aloadn dX8_newName_35 rfl ?_
    refine sx_invI0 dX8_newName_36 mk_X8_isWell vk_X8_isWell lk_X8_177 o46 (Nat.le_of_ble_eq_true rfl) (Nat.le_of_ble_eq_true rfl) ?_
    refine m_isWell hk'.2.1 (fun h36 => ?_) (fun h36 => ?_)
    · skip
      refine sw_if_ne (tgt := 43) dX8_newName_39 (by decide) (fun h39 => ?_) (fun h39 => ?_)
      · skip
        exact absurd h36 hz
      · exact absurd h39 (by decide)
    · skip
      refine sw_if_ne (tgt := 43) dX8_newName_39 (by decide) (fun h39 => ?_) (fun h39 => ?_)
      · exact absurd h39 (by decide)
      · skip
        refine sx_ret0 dX8_newName_42 rfl ?_
        exact h τ (frN_m hf) (by rw [e]; exact ⟨hk'.1, hk'.2.1, fun q => absurd q hz⟩) (fun q => absurd (e.symm.trans q) hc)
  have loop : ∀ (m j : Nat) (τ : Mem), m = lS T N s - j → j ≤ lS T N s → isNm T N s → ckN T N D s = 0 → frN k σ τ → (∀ i, i ≤ 8 → τ.1 46 i = σ.1 46 i) → τ.1 49 k = nI (lS T N s) → (∀ i, i < j → τ.1 48 (8 * k + i) = T (s + i)) → SW G (d + 6) M_X8_newName 60 [some (.ref 46), some (.int (nI k)), some (.int (nI j))] [] τ (RV f) := by
    intro m
    induction m with
    | zero =>
      intro j τ hm hj hn e0 hf h46 h49 h48
      have hk' : MTk T N s (0, 0) τ := MTk_cg (hf.1 47 (by decide) (by decide) (by decide)) h46 hk
      refine sw_iloadn dX8_newName_60 rfl ?_
      refine sw_aloadn dX8_newName_61 rfl ?_
      refine sw_getR dX8_newName_62 fs_X8_23 o46 r46_11 ?_
      refine sw_iloadn dX8_newName_65 rfl ?_
      refine sx_iald (k) dX8_newName_66 a49 (rfl) (by omega) (by decide) ?_
      rw [h49]
      refine sw_icmp_ge (tgt := 98) dX8_newName_67 (by decide) (fun h67 => ?_) (fun h67 => ?_)
      · skip
        refine sw_aloadn dX8_newName_98 rfl ?_
        refine sx_invV0 dX8_newName_99 mk_X8_next vk_X8_next lk_X8_180 o46 (Nat.le_of_ble_eq_true rfl) (Nat.le_of_ble_eq_true rfl) ?_
        refine m_nextT hb rfl hk' (fun ρ hg hr => ?_)
        refine sx_ret0 dX8_newName_102 rfl ?_
        refine h ρ (frN_tr hf (frN_m hg)) (by rw [e0, fh_c0]; exact hr) (fun _ => nmM_fr (hg.1 49 (by decide)) (hg.1 48 (by decide)) ⟨h49, fun i hi => h48 i (by omega)⟩)
      · exact absurd ((nI_le (by omega) (by omega))) h67
    | succ m ih =>
      intro j τ hm hj hn e0 hf h46 h49 h48
      have hk' : MTk T N s (0, 0) τ := MTk_cg (hf.1 47 (by decide) (by decide) (by decide)) h46 hk
      have hs4 : s + j < N := by unfold lS at hm hj; omega
      have h8 := hn.2.1
      refine sw_iloadn dX8_newName_60 rfl ?_
      refine sw_aloadn dX8_newName_61 rfl ?_
      refine sw_getR dX8_newName_62 fs_X8_23 o46 r46_11 ?_
      refine sw_iloadn dX8_newName_65 rfl ?_
      refine sx_iald (k) dX8_newName_66 a49 (rfl) (by omega) (by decide) ?_
      rw [h49]
      refine sw_icmp_ge (tgt := 98) dX8_newName_67 (by decide) (fun h67 => ?_) (fun h67 => ?_)
      · exact absurd h67 ((by rw [nI_le' (by omega) (by omega)]; omega))
      · skip
        refine sw_aloadn dX8_newName_70 rfl ?_
        refine sw_getR dX8_newName_71 fs_X8_20 o46 r46_10 ?_
        refine sx_bipush (v := nI 8) dX8_newName_74 (by decide) ?_
        refine sw_iloadn dX8_newName_76 rfl ?_
        refine sw_imul dX8_newName_77 ?_
        refine sw_iloadn dX8_newName_78 rfl ?_
        refine sw_iadd dX8_newName_79 ?_
        refine sw_topI (y := nI (8 * k + j)) (by rw [nI_mul, nI_add]) ?_
        refine sw_aloadn dX8_newName_80 rfl ?_
        refine sw_getR dX8_newName_81 fs_X8_13 o46 r46_1 ?_
        refine sw_aloadn dX8_newName_84 rfl ?_
        refine sw_getI dX8_newName_85 fs_X8_110 o46 ?_
        rw [(h46 4 (by omega)).trans t4]
        refine sw_iloadn dX8_newName_88 rfl ?_
        refine sw_iadd dX8_newName_89 ?_
        refine sw_topI (y := nI (s + j)) (nI_add _ _) ?_
        refine sx_bald (s + j) dX8_newName_90 a47 (rfl) (by omega) (by decide) ?_
        rw [hk'.1.1]
        refine sx_bast (8 * k + j) dX8_newName_91 a48 (rfl) (by omega) (by decide) ?_
        rw [nar_lt (w_lt hn.1 (by omega))]
        refine sx_iinc (nI (j + 1)) dX8_newName_92 rfl (nI_inc _) ?_
        refine sw_goto (tgt := 60) dX8_newName_95 (by decide) ?_
        refine ih (j + 1) _ (by omega) (by omega) hn e0 (frN_tr hf ⟨fun c h1 h2 h3 => setI_ne _ _ _ h2, rfl, fun _ _ => rfl, fun _ _ => rfl, fun i hi => by rw [setI_at, upd_ne _ _ (by omega)]⟩) h46 h49 (fun i hi => ?_)
        rw [setI_at]
        rcases Nat.lt_or_ge i j with z | z
        · rw [upd_ne _ _ (by omega)]; exact h48 i z
        · obtain rfl : i = j := by omega
          rw [upd_same]
  have good : isNm T N s → ckN T N D s = 0 → SW G (d + 6) M_X8_newName 35 [some (.ref 46), some (.int (nI k)), none] [] σ (RV f) := by
    intro hn e0
    refine sw_aloadn dX8_newName_35 rfl ?_
    refine sx_invI0 dX8_newName_36 mk_X8_isWell vk_X8_isWell lk_X8_177 o46 (Nat.le_of_ble_eq_true rfl) (Nat.le_of_ble_eq_true rfl) ?_
    refine m_isWell hk.2.1 (fun h36 => ?_) (fun h36 => ?_)
    · skip
      refine sw_if_ne (tgt := 43) dX8_newName_39 (by decide) (fun h39 => ?_) (fun h39 => ?_)
      · skip
        refine sw_aloadn dX8_newName_43 rfl ?_
        refine sw_getR dX8_newName_44 fs_X8_23 o46 r46_11 ?_
        refine sw_iloadn dX8_newName_47 rfl ?_
        refine sw_aloadn dX8_newName_48 rfl ?_
        refine sw_getI dX8_newName_49 fs_X8_107 o46 ?_
        rw [t3]
        refine sw_aloadn dX8_newName_52 rfl ?_
        refine sw_getI dX8_newName_53 fs_X8_110 o46 ?_
        rw [t4]
        refine sw_isub dX8_newName_56 ?_
        refine sw_topI (y := nI (lS T N s)) (nI_sub hse.2) ?_
        refine sx_iast (k) dX8_newName_57 a49 (rfl) (by omega) (by decide) ?_
        refine sx_iconst (v := nI 0) dX8_newName_58 (by decide) ?_
        refine sw_istoren dX8_newName_59 (Nat.le_of_ble_eq_true rfl) ?_
        exact loop _ 0 _ rfl (by omega) hn e0 ⟨fun c h1 h2 h3 => setI_ne _ _ _ h3, rfl, fun _ _ => rfl, fun j hj => by rw [setI_at, upd_ne _ _ hj], fun _ _ => rfl⟩ (fun _ _ => rfl) (by rw [setI_at, upd_same]) (fun i hi => absurd hi (Nat.not_lt_zero _))
      · exact absurd h39 (by decide)
    · skip
      refine sw_if_ne (tgt := 43) dX8_newName_39 (by decide) (fun h39 => ?_) (fun h39 => ?_)
      · exact absurd h39 (by decide)
      · skip
        refine sx_ret0 dX8_newName_42 rfl ?_
        exact absurd rfl h36
  have dup1 : rmX T N D s < pR D.1 → ∃ j, j < pR D.1 ∧ sam T N (rn D j) s := fun q => ⟨_, q, dB_t.mp ((fnd_all _ _).2.1 q)⟩
  have dup0 : rmX T N D s = pR D.1 → ¬ ∃ j, j < pR D.1 ∧ sam T N (rn D j) s := fun q ⟨j, hj, z⟩ => by
    have := (fnd_all (fun k => dB (sam T N (rn D k) s)) (pR D.1)).2.2 j (by show j < rmX T N D s; omega)
    rw [dB_t.mpr z] at this
    cases this
  have p1 := hD.1.1
  refine sw_aloadn dX8_newName_0 rfl ?_
  refine sx_invI0 dX8_newName_1 mk_X8_isName vk_X8_isName lk_X8_163 o46 (Nat.le_of_ble_eq_true rfl) (Nat.le_of_ble_eq_true rfl) ?_
  refine m_isName hG hk.1 hb ht (fun h1 => ?_) (fun h1 => ?_)
  · skip
    refine sw_if_ne (tgt := 15) dX8_newName_4 (by decide) (fun h4 => ?_) (fun h4 => ?_)
    · skip
      refine sw_aloadn dX8_newName_15 rfl ?_
      refine sx_invI0 dX8_newName_16 mk_X8_roomHere vk_X8_roomHere lk_X8_171 o46 (Nat.le_of_ble_eq_true rfl) (Nat.le_of_ble_eq_true rfl) ?_
      refine m_roomHere hb hk.1 ht hD hd (fun r hr => ?_)
      refine sx_iconst (v := (-1)) dX8_newName_19 (by decide) ?_
      refine sw_icmp_ne (tgt := 30) dX8_newName_20 (by decide) (fun h20 => ?_) (fun h20 => ?_)
      · skip
        refine sw_aloadn dX8_newName_30 rfl ?_
        refine sx_iconst (v := nI 3) dX8_newName_31 (by decide) ?_
        refine sx_invV1 dX8_newName_32 mk_X8_fails vk_X8_fails lk_X8_167 o46 (Nat.le_of_ble_eq_true rfl) (Nat.le_of_ble_eq_true rfl) ?_
        refine m_fails (c := 3) (by omega) hk (fun τ hf hr' => ?_)
        first
          | exact bad τ 1 hf (ckN_1 h1) (by omega) hr'
          | exact bad τ 3 hf (ckN_3 h1 (Or.inr h24)) (by omega) hr'
          | (rcases hr with ⟨x1, x2⟩ | ⟨x1, x2⟩
             · first
                 | exact bad τ 3 hf (ckN_3 h1 (Or.inl (dup1 x1))) (by omega) hr'
                 | exact absurd (h20 ▸ x2).symm (nI_nm1 (by omega))
             · first
                 | exact absurd x2 h20
                 | exact good h1 (ckN_0 h1 (fun q => q.elim (dup0 x1) h24)))
      · skip
        refine sw_aloadn dX8_newName_23 rfl ?_
        refine sx_invI0 dX8_newName_24 mk_X8_isDoorHere vk_X8_isDoorHere lk_X8_174 o46 (Nat.le_of_ble_eq_true rfl) (Nat.le_of_ble_eq_true rfl) ?_
        refine m_isDoorHere hb hk.1 ht hD hd (fun h24 => ?_) (fun h24 => ?_)
        · skip
          refine sw_if_eq (tgt := 35) dX8_newName_27 (by decide) (fun h27 => ?_) (fun h27 => ?_)
          · exact absurd h27 (by decide)
          · skip
            refine sw_aloadn dX8_newName_30 rfl ?_
            refine sx_iconst (v := nI 3) dX8_newName_31 (by decide) ?_
            refine sx_invV1 dX8_newName_32 mk_X8_fails vk_X8_fails lk_X8_167 o46 (Nat.le_of_ble_eq_true rfl) (Nat.le_of_ble_eq_true rfl) ?_
            refine m_fails (c := 3) (by omega) hk (fun τ hf hr' => ?_)
            first
              | exact bad τ 1 hf (ckN_1 h1) (by omega) hr'
              | exact bad τ 3 hf (ckN_3 h1 (Or.inr h24)) (by omega) hr'
              | (rcases hr with ⟨x1, x2⟩ | ⟨x1, x2⟩
                 · first
                     | exact bad τ 3 hf (ckN_3 h1 (Or.inl (dup1 x1))) (by omega) hr'
                     | exact absurd (h20 ▸ x2).symm (nI_nm1 (by omega))
                 · first
                     | exact absurd x2 h20
                     | exact good h1 (ckN_0 h1 (fun q => q.elim (dup0 x1) h24)))
        · skip
          refine sw_if_eq (tgt := 35) dX8_newName_27 (by decide) (fun h27 => ?_) (fun h27 => ?_)
          · skip
            first
              | exact bad τ 1 hf (ckN_1 h1) (by omega) hr'
              | exact bad τ 3 hf (ckN_3 h1 (Or.inr h24)) (by omega) hr'
              | (rcases hr with ⟨x1, x2⟩ | ⟨x1, x2⟩
                 · first
                     | exact bad τ 3 hf (ckN_3 h1 (Or.inl (dup1 x1))) (by omega) hr'
                     | exact absurd (h20 ▸ x2).symm (nI_nm1 (by omega))
                 · first
                     | exact absurd x2 h20
                     | exact good h1 (ckN_0 h1 (fun q => q.elim (dup0 x1) h24)))
          · exact absurd h27 (by decide)
    · exact absurd h4 (by decide)
  · skip
    refine sw_if_ne (tgt := 15) dX8_newName_4 (by decide) (fun h4 => ?_) (fun h4 => ?_)
    · exact absurd h4 (by decide)
    · skip
      refine sw_aloadn dX8_newName_7 rfl ?_
      refine sx_iconst (v := nI 1) dX8_newName_8 (by decide) ?_
      refine sx_invV1 dX8_newName_9 mk_X8_fails vk_X8_fails lk_X8_167 o46 (Nat.le_of_ble_eq_true rfl) (Nat.le_of_ble_eq_true rfl) ?_
      refine m_fails (c := 1) (by omega) hk (fun τ hf hr' => ?_)
      refine sw_goto (tgt := 35) dX8_newName_12 (by decide) ?_
      first
        | exact bad τ 1 hf (ckN_1 h1) (by omega) hr'
        | exact bad τ 3 hf (ckN_3 h1 (Or.inr h24)) (by omega) hr'
        | (rcases hr with ⟨x1, x2⟩ | ⟨x1, x2⟩
           · first
               | exact bad τ 3 hf (ckN_3 h1 (Or.inl (dup1 x1))) (by omega) hr'
               | exact absurd (h20 ▸ x2).symm (nI_nm1 (by omega))
           · first
               | exact absurd x2 h20
               | exact good h1 (ckN_0 h1 (fun q => q.elim (dup0 x1) h24)))
end MTAKE2
