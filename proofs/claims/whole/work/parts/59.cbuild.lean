/-! ===== the class's building ===== -/
section CBUILD
variable {G : GG} {d : Nat} {σ : Mem} {T : Nat → Int32} {N : Nat}
theorem c_X3_clear {f : Mem → Prop} (h : f (setI (setI σ 9 0 (nI 0)) 9 1 (nI 0))) : SW G d M_X3_clear 0 [some (.ref 9)] [] σ (RV f) := by
  refine sw_aloadn dX3_clear_0 rfl ?_
  refine sx_iconst (v := nI 0) dX3_clear_1 (by decide) ?_
  refine sw_putI dX3_clear_2 fs_X3_31 o9 ?_
  refine sw_aloadn dX3_clear_5 rfl ?_
  refine sx_iconst (v := nI 0) dX3_clear_6 (by decide) ?_
  refine sw_putI dX3_clear_7 fs_X3_35 o9 ?_
  refine sx_ret0 dX3_clear_10 rfl ?_
  exact h
theorem c_X5_readInto {f : Int32 → Mem → Prop} (hT : σ.1 1 = T) (hb : N ≤ 600)
    (h : ∀ τ, frD σ τ → FC τ (prs T N 601 D0 (rE isBl T N 0)).1 → ((prs T N 601 D0 (rE isBl T N 0)).1.1 = 0 → CDr T N (prs T N 601 D0 (rE isBl T N 0)).2 τ) → f (nI (prs T N 601 D0 (rE isBl T N 0)).1.1) τ) : SW G (d + 5) M_X5_readInto 0 [some (.ref 16), some (.ref 9), some (.int (nI N)), none] [] σ (RI f) := by
  have hs0 : rE isBl T N 0 ≤ N := rE_N (by omega)
  generalize hR : prs T N 601 D0 (rE isBl T N 0) = R at h
  have bad : ∀ (τ : Mem) (i : Nat) (a : Nat × Nat), i ≤ 601 → FC τ a → ¬ a.1 = 0 → a = R.1 → frD σ τ → SW G (d + 5) M_X5_readInto 38 [some (.ref 16), some (.ref 9), some (.int (nI N)), some (.int (nI i))] [] τ (RI f) := by
    intro τ i a hi hF ha eR hf
    have hz : ¬ nI a.1 = 0 := fun q => ha (nI_inj (by have := hF.2.1; omega) (by omega) q)
    have fin : SW G (d + 5) M_X5_readInto 124 [some (.ref 16), some (.ref 9), some (.int (nI N)), some (.int (nI i))] [] τ (RI f) := by
      refine sw_aloadn dX5_readInto_124 rfl ?_
      refine sw_getI dX5_readInto_125 fs_X5_33 o16 ?_
      rw [hF.1]
      refine sw_if_ne (tgt := 145) dX5_readInto_128 (by decide) (fun h128 => ?_) (fun h128 => ?_)
      · skip
        refine sw_aloadn dX5_readInto_145 rfl ?_
        refine sw_getI dX5_readInto_146 fs_X5_33 o16 ?_
        rw [hF.1]
        refine sx_reti dX5_readInto_149 rfl ?_
        have h := h τ hf (eR ▸ hF) (fun q => absurd (eR ▸ q) ha)
        rw [← eR] at h
        exact h
      · exact absurd h128 (hz)
    refine sw_iloadn dX5_readInto_38 rfl ?_
    refine sx_sipush (v := nI 600) dX5_readInto_39 (by decide) ?_
    refine sw_icmp_gt (tgt := 124) dX5_readInto_42 (by decide) (fun h42 => ?_) (fun h42 => ?_)
    · skip
      exact fin
    · skip
      refine sw_aloadn dX5_readInto_45 rfl ?_
      refine sw_getI dX5_readInto_46 fs_X5_33 o16 ?_
      rw [hF.1]
      refine sw_if_ne (tgt := 124) dX5_readInto_49 (by decide) (fun h49 => ?_) (fun h49 => ?_)
      · skip
        exact fin
      · exact absurd h49 (hz)
  have loop : ∀ (m i : Nat) (D : DR) (s : Nat) (τ : Mem), N - s < m → i ≤ s → s ≤ N → CTk T N s (0, 0) τ → CDr T N D τ → GD T N D → frD σ τ → prs T N m D s = R → SW G (d + 5) M_X5_readInto 38 [some (.ref 16), some (.ref 9), some (.int (nI N)), some (.int (nI i))] [] τ (RI f) := by
    intro m
    induction m with
    | zero => intro i D s τ hm; omega
    | succ m ih =>
      intro i D s τ hm hi hs hk hd hD hf eR
      have p1 := hD.1.1
      have k4 := kdS_le (T := T) (N := N) (s := s)
      have hF := hk.2.2.2.2.2.2.2.2
      have e5 := hk.2.2.2.2.1
      have ev := hk.2.2.2.2.2.2.2.1
      have e7 : τ.1 16 7 = nI 0 := hF.1
      have step : ∀ ρ, kdS T N s ≠ 0 → frD τ ρ → FC ρ (tng T N D s).1 → ((tng T N D s).1.1 = 0 → CTk T N (tng T N D s).2.2 (0, 0) ρ ∧ CDr T N (tng T N D s).2.1 ρ) → SW G (d + 5) M_X5_readInto 38 [some (.ref 16), some (.ref 9), some (.int (nI N)), some (.int (nI (i + 1)))] [] ρ (RI f) := by
        intro ρ h0 hg hF' hc
        have hs' : s < N := by
          have := mt kdS_0.mpr h0
          omega
        unfold prs at eR
        rw [if_neg h0] at eR
        by_cases h3 : (tng T N D s).1.1 = 0
        · rw [if_pos h3] at eR
          have := tng_ok hD hs' h3
          exact ih (i + 1) _ _ ρ (by omega) (by omega) this.2.2 (hc h3).1 (hc h3).2 this.1 (frD_tr hf hg) eR
        · rw [if_neg h3] at eR
          exact bad ρ (i + 1) _ (by omega) hF' h3 (by rw [← eR]) (frD_tr hf hg)
      refine sw_iloadn dX5_readInto_38 rfl ?_
      refine sx_sipush (v := nI 600) dX5_readInto_39 (by decide) ?_
      refine sw_icmp_gt (tgt := 124) dX5_readInto_42 (by decide) (fun h42 => ?_) (fun h42 => ?_)
      · exact absurd h42 ((by rw [nI_lt' (by omega) (by omega)]; omega))
      · skip
        refine sw_aloadn dX5_readInto_45 rfl ?_
        refine sw_getI dX5_readInto_46 fs_X5_33 o16 ?_
        rw [e7]
        refine sw_if_ne (tgt := 124) dX5_readInto_49 (by decide) (fun h49 => ?_) (fun h49 => ?_)
        · exact absurd ((show nI 0 = 0 from rfl)) h49
        · skip
          refine sw_aloadn dX5_readInto_52 rfl ?_
          refine sw_getI dX5_readInto_53 fs_X5_42 o16 ?_
          rw [e5]
          refine sw_if_eq (tgt := 124) dX5_readInto_56 (by decide) (fun h56 => ?_) (fun h56 => ?_)
          · skip
            refine sw_aloadn dX5_readInto_124 rfl ?_
            refine sw_getI dX5_readInto_125 fs_X5_33 o16 ?_
            rw [e7]
            refine sw_if_ne (tgt := 145) dX5_readInto_128 (by decide) (fun h128 => ?_) (fun h128 => ?_)
            · exact absurd ((show nI 0 = 0 from rfl)) h128
            · skip
              refine sw_aloadn dX5_readInto_131 rfl ?_
              refine sw_getI dX5_readInto_132 fs_X5_64 o9 ?_
              rw [hd.1]
              refine sx_iconst (v := nI 2) dX5_readInto_135 (by decide) ?_
              refine sw_icmp_ge (tgt := 145) dX5_readInto_136 (by decide) (fun h136 => ?_) (fun h136 => ?_)
              · skip
                refine sw_aloadn dX5_readInto_145 rfl ?_
                refine sw_getI dX5_readInto_146 fs_X5_33 o16 ?_
                skip
                refine sx_reti dX5_readInto_149 rfl ?_
                have h0 : kdS T N s = 0 := nI_inj (by omega) (by omega) h56
                unfold prs at eR
                rw [if_pos h0] at eR
                first
                  | (have h2 : pR D.1 < 2 := by have := mt (nI_le' (by omega) (by omega)).mpr h136; omega
                     rw [if_pos h2] at eR
                     have hF' := hr.2.2.2.2.2.2.2.2
                     rw [fh_c rfl (by omega)] at hF'
                     have hh := h ρ (frD_tr hf (frD_16 hg)) (by rw [← eR]; exact hF') (fun q => by rw [← eR] at q; cases q)
                     rw [← eR] at hh
                     rw [hF'.1]
                     exact hh)
                  | (have h2 : ¬ pR D.1 < 2 := by have := (nI_le' (by omega) (by omega)).mp h136; omega
                     rw [if_neg h2] at eR
                     have hh := h τ hf (by rw [← eR]; exact hF) (fun _ => by rw [← eR]; exact hd)
                     rw [← eR] at hh
                     rw [e7]
                     exact hh)
              · skip
                refine sw_aloadn dX5_readInto_139 rfl ?_
                refine sx_bipush (v := nI 6) dX5_readInto_140 (by decide) ?_
                refine sx_invV1 dX5_readInto_142 mk_X5_faultHere vk_X5_faultHere lk_X5_60 o16 (Nat.le_of_ble_eq_true rfl) (Nat.le_of_ble_eq_true rfl) ?_
                refine c_X5_faultHere (c := 6) (by omega) hk (fun ρ hg hr => ?_)
                refine sw_aloadn dX5_readInto_145 rfl ?_
                refine sw_getI dX5_readInto_146 fs_X5_33 o16 ?_
                skip
                refine sx_reti dX5_readInto_149 rfl ?_
                have h0 : kdS T N s = 0 := nI_inj (by omega) (by omega) h56
                unfold prs at eR
                rw [if_pos h0] at eR
                first
                  | (have h2 : pR D.1 < 2 := by have := mt (nI_le' (by omega) (by omega)).mpr h136; omega
                     rw [if_pos h2] at eR
                     have hF' := hr.2.2.2.2.2.2.2.2
                     rw [fh_c rfl (by omega)] at hF'
                     have hh := h ρ (frD_tr hf (frD_16 hg)) (by rw [← eR]; exact hF') (fun q => by rw [← eR] at q; cases q)
                     rw [← eR] at hh
                     rw [hF'.1]
                     exact hh)
                  | (have h2 : ¬ pR D.1 < 2 := by have := (nI_le' (by omega) (by omega)).mp h136; omega
                     rw [if_neg h2] at eR
                     have hh := h τ hf (by rw [← eR]; exact hF) (fun _ => by rw [← eR]; exact hd)
                     rw [← eR] at hh
                     rw [e7]
                     exact hh)
          · skip
            have h0 : kdS T N s ≠ 0 := fun q => h56 (by rw [q]; rfl)
            refine sw_aloadn dX5_readInto_59 rfl ?_
            refine sw_getI dX5_readInto_60 fs_X5_42 o16 ?_
            rw [e5]
            refine sx_iconst (v := nI 1) dX5_readInto_63 (by decide) ?_
            refine sw_icmp_ne (tgt := 86) dX5_readInto_64 (by decide) (fun h64 => ?_) (fun h64 => ?_)
            · skip
              refine sw_aloadn dX5_readInto_86 rfl ?_
              refine sw_getI dX5_readInto_87 fs_X5_42 o16 ?_
              rw [e5]
              refine sx_iconst (v := nI 1) dX5_readInto_90 (by decide) ?_
              refine sw_icmp_ne (tgt := 113) dX5_readInto_91 (by decide) (fun h91 => ?_) (fun h91 => ?_)
              · skip
                refine sw_aloadn dX5_readInto_113 rfl ?_
                refine sx_iconst (v := nI 1) dX5_readInto_114 (by decide) ?_
                refine sx_invV1 dX5_readInto_115 mk_X5_faultHere vk_X5_faultHere lk_X5_60 o16 (Nat.le_of_ble_eq_true rfl) (Nat.le_of_ble_eq_true rfl) ?_
                refine c_X5_faultHere (c := 1) (by omega) hk (fun ρ hg hr => ?_)
                refine sx_iinc (nI (i + 1)) dX5_readInto_118 rfl (nI_inc _) ?_
                refine sw_goto (tgt := 38) dX5_readInto_121 (by decide) ?_
                first
                  | exact step _ h0 hg (eG ▸ hF') (by rw [eG]; exact hc)
                  | (have k1 : kdS T N s = 1 := nI_inj (by omega) (by omega) h91
                     have n1 : ¬ isWd T N wR s := fun q => h74 ((vS_room k1).mpr q)
                     have w2 : isWd T N wD s := (vS_door k1).mp h101
                     have eG : tng T N D s = drT T N D s := by unfold tng; rw [if_neg (dB_f.mpr n1), if_pos (dB_t.mpr w2)]
                     exact step _ h0 hg (eG ▸ hF') (by rw [eG]; exact hc))
                  | (have k1 : kdS T N s = 1 := nI_inj (by omega) (by omega) h91
                     exact absurd (congrArg nI k1) h64)
                  | (have k1 : kdS T N s = 1 := nI_inj (by omega) (by omega) h64
                     exact absurd (congrArg nI k1) h91)
                  | (have k1 : kdS T N s = 1 := nI_inj (by omega) (by omega) h64
                     have n1 : ¬ isWd T N wR s := fun q => h74 ((vS_room k1).mpr q)
                     have n2 : ¬ isWd T N wD s := fun q => h101 ((vS_door k1).mpr q)
                     have eG : tng T N D s = ((1, s), D, s) := by unfold tng; rw [if_neg (dB_f.mpr n1), if_neg (dB_f.mpr n2)]
                     refine step _ h0 (frD_16 hg) ?_ (fun q => ?_)
                     · rw [eG]; exact hr.2.2.2.2.2.2.2.2
                     · rw [eG] at q; cases q)
                  | (have n1 : ¬ isWd T N wR s := fun q => h64 (congrArg nI q.1)
                     have n2 : ¬ isWd T N wD s := fun q => h64 (congrArg nI q.1)
                     have eG : tng T N D s = ((1, s), D, s) := by unfold tng; rw [if_neg (dB_f.mpr n1), if_neg (dB_f.mpr n2)]
                     refine step _ h0 (frD_16 hg) ?_ (fun q => ?_)
                     · rw [eG]; exact hr.2.2.2.2.2.2.2.2
                     · rw [eG] at q; cases q)
              · skip
                refine sw_aloadn dX5_readInto_94 rfl ?_
                refine sw_getJ dX5_readInto_95 fs_X5_45 o16 ?_
                rw [ev]
                refine sw_ldc2 dX5_readInto_98 kl_X5_55 ?_
                refine sw_lc_ne (tgt := 113) dX5_readInto_101 dX5_readInto_102 (by decide) (fun h101 => ?_) (fun h101 => ?_)
                · skip
                  refine sw_aloadn dX5_readInto_113 rfl ?_
                  refine sx_iconst (v := nI 1) dX5_readInto_114 (by decide) ?_
                  refine sx_invV1 dX5_readInto_115 mk_X5_faultHere vk_X5_faultHere lk_X5_60 o16 (Nat.le_of_ble_eq_true rfl) (Nat.le_of_ble_eq_true rfl) ?_
                  refine c_X5_faultHere (c := 1) (by omega) hk (fun ρ hg hr => ?_)
                  refine sx_iinc (nI (i + 1)) dX5_readInto_118 rfl (nI_inc _) ?_
                  refine sw_goto (tgt := 38) dX5_readInto_121 (by decide) ?_
                  first
                    | exact step _ h0 hg (eG ▸ hF') (by rw [eG]; exact hc)
                    | (have k1 : kdS T N s = 1 := nI_inj (by omega) (by omega) h91
                       have n1 : ¬ isWd T N wR s := fun q => h74 ((vS_room k1).mpr q)
                       have w2 : isWd T N wD s := (vS_door k1).mp h101
                       have eG : tng T N D s = drT T N D s := by unfold tng; rw [if_neg (dB_f.mpr n1), if_pos (dB_t.mpr w2)]
                       exact step _ h0 hg (eG ▸ hF') (by rw [eG]; exact hc))
                    | (have k1 : kdS T N s = 1 := nI_inj (by omega) (by omega) h91
                       exact absurd (congrArg nI k1) h64)
                    | (have k1 : kdS T N s = 1 := nI_inj (by omega) (by omega) h64
                       exact absurd (congrArg nI k1) h91)
                    | (have k1 : kdS T N s = 1 := nI_inj (by omega) (by omega) h64
                       have n1 : ¬ isWd T N wR s := fun q => h74 ((vS_room k1).mpr q)
                       have n2 : ¬ isWd T N wD s := fun q => h101 ((vS_door k1).mpr q)
                       have eG : tng T N D s = ((1, s), D, s) := by unfold tng; rw [if_neg (dB_f.mpr n1), if_neg (dB_f.mpr n2)]
                       refine step _ h0 (frD_16 hg) ?_ (fun q => ?_)
                       · rw [eG]; exact hr.2.2.2.2.2.2.2.2
                       · rw [eG] at q; cases q)
                    | (have n1 : ¬ isWd T N wR s := fun q => h64 (congrArg nI q.1)
                       have n2 : ¬ isWd T N wD s := fun q => h64 (congrArg nI q.1)
                       have eG : tng T N D s = ((1, s), D, s) := by unfold tng; rw [if_neg (dB_f.mpr n1), if_neg (dB_f.mpr n2)]
                       refine step _ h0 (frD_16 hg) ?_ (fun q => ?_)
                       · rw [eG]; exact hr.2.2.2.2.2.2.2.2
                       · rw [eG] at q; cases q)
                · skip
                  refine sw_aloadn dX5_readInto_105 rfl ?_
                  refine sw_aloadn dX5_readInto_106 rfl ?_
                  refine sx_invV1 dX5_readInto_107 mk_X5_readDoor vk_X5_readDoor lk_X5_57 o16 (Nat.le_of_ble_eq_true rfl) (Nat.le_of_ble_eq_true rfl) ?_
                  refine c_X5_readDoor hb hk hD hd (fun ρ hg hF' hc => ?_)
                  refine sw_goto (tgt := 118) dX5_readInto_110 (by decide) ?_
                  refine sx_iinc (nI (i + 1)) dX5_readInto_118 rfl (nI_inc _) ?_
                  refine sw_goto (tgt := 38) dX5_readInto_121 (by decide) ?_
                  first
                    | exact step _ h0 hg (eG ▸ hF') (by rw [eG]; exact hc)
                    | (have k1 : kdS T N s = 1 := nI_inj (by omega) (by omega) h91
                       have n1 : ¬ isWd T N wR s := fun q => h74 ((vS_room k1).mpr q)
                       have w2 : isWd T N wD s := (vS_door k1).mp h101
                       have eG : tng T N D s = drT T N D s := by unfold tng; rw [if_neg (dB_f.mpr n1), if_pos (dB_t.mpr w2)]
                       exact step _ h0 hg (eG ▸ hF') (by rw [eG]; exact hc))
                    | (have k1 : kdS T N s = 1 := nI_inj (by omega) (by omega) h91
                       exact absurd (congrArg nI k1) h64)
                    | (have k1 : kdS T N s = 1 := nI_inj (by omega) (by omega) h64
                       exact absurd (congrArg nI k1) h91)
                    | (have k1 : kdS T N s = 1 := nI_inj (by omega) (by omega) h64
                       have n1 : ¬ isWd T N wR s := fun q => h74 ((vS_room k1).mpr q)
                       have n2 : ¬ isWd T N wD s := fun q => h101 ((vS_door k1).mpr q)
                       have eG : tng T N D s = ((1, s), D, s) := by unfold tng; rw [if_neg (dB_f.mpr n1), if_neg (dB_f.mpr n2)]
                       refine step _ h0 (frD_16 hg) ?_ (fun q => ?_)
                       · rw [eG]; exact hr.2.2.2.2.2.2.2.2
                       · rw [eG] at q; cases q)
                    | (have n1 : ¬ isWd T N wR s := fun q => h64 (congrArg nI q.1)
                       have n2 : ¬ isWd T N wD s := fun q => h64 (congrArg nI q.1)
                       have eG : tng T N D s = ((1, s), D, s) := by unfold tng; rw [if_neg (dB_f.mpr n1), if_neg (dB_f.mpr n2)]
                       refine step _ h0 (frD_16 hg) ?_ (fun q => ?_)
                       · rw [eG]; exact hr.2.2.2.2.2.2.2.2
                       · rw [eG] at q; cases q)
            · skip
              refine sw_aloadn dX5_readInto_67 rfl ?_
              refine sw_getJ dX5_readInto_68 fs_X5_45 o16 ?_
              rw [ev]
              refine sw_ldc2 dX5_readInto_71 kl_X5_49 ?_
              refine sw_lc_ne (tgt := 86) dX5_readInto_74 dX5_readInto_75 (by decide) (fun h74 => ?_) (fun h74 => ?_)
              · skip
                refine sw_aloadn dX5_readInto_86 rfl ?_
                refine sw_getI dX5_readInto_87 fs_X5_42 o16 ?_
                rw [e5]
                refine sx_iconst (v := nI 1) dX5_readInto_90 (by decide) ?_
                refine sw_icmp_ne (tgt := 113) dX5_readInto_91 (by decide) (fun h91 => ?_) (fun h91 => ?_)
                · skip
                  refine sw_aloadn dX5_readInto_113 rfl ?_
                  refine sx_iconst (v := nI 1) dX5_readInto_114 (by decide) ?_
                  refine sx_invV1 dX5_readInto_115 mk_X5_faultHere vk_X5_faultHere lk_X5_60 o16 (Nat.le_of_ble_eq_true rfl) (Nat.le_of_ble_eq_true rfl) ?_
                  refine c_X5_faultHere (c := 1) (by omega) hk (fun ρ hg hr => ?_)
                  refine sx_iinc (nI (i + 1)) dX5_readInto_118 rfl (nI_inc _) ?_
                  refine sw_goto (tgt := 38) dX5_readInto_121 (by decide) ?_
                  first
                    | exact step _ h0 hg (eG ▸ hF') (by rw [eG]; exact hc)
                    | (have k1 : kdS T N s = 1 := nI_inj (by omega) (by omega) h91
                       have n1 : ¬ isWd T N wR s := fun q => h74 ((vS_room k1).mpr q)
                       have w2 : isWd T N wD s := (vS_door k1).mp h101
                       have eG : tng T N D s = drT T N D s := by unfold tng; rw [if_neg (dB_f.mpr n1), if_pos (dB_t.mpr w2)]
                       exact step _ h0 hg (eG ▸ hF') (by rw [eG]; exact hc))
                    | (have k1 : kdS T N s = 1 := nI_inj (by omega) (by omega) h91
                       exact absurd (congrArg nI k1) h64)
                    | (have k1 : kdS T N s = 1 := nI_inj (by omega) (by omega) h64
                       exact absurd (congrArg nI k1) h91)
                    | (have k1 : kdS T N s = 1 := nI_inj (by omega) (by omega) h64
                       have n1 : ¬ isWd T N wR s := fun q => h74 ((vS_room k1).mpr q)
                       have n2 : ¬ isWd T N wD s := fun q => h101 ((vS_door k1).mpr q)
                       have eG : tng T N D s = ((1, s), D, s) := by unfold tng; rw [if_neg (dB_f.mpr n1), if_neg (dB_f.mpr n2)]
                       refine step _ h0 (frD_16 hg) ?_ (fun q => ?_)
                       · rw [eG]; exact hr.2.2.2.2.2.2.2.2
                       · rw [eG] at q; cases q)
                    | (have n1 : ¬ isWd T N wR s := fun q => h64 (congrArg nI q.1)
                       have n2 : ¬ isWd T N wD s := fun q => h64 (congrArg nI q.1)
                       have eG : tng T N D s = ((1, s), D, s) := by unfold tng; rw [if_neg (dB_f.mpr n1), if_neg (dB_f.mpr n2)]
                       refine step _ h0 (frD_16 hg) ?_ (fun q => ?_)
                       · rw [eG]; exact hr.2.2.2.2.2.2.2.2
                       · rw [eG] at q; cases q)
                · skip
                  refine sw_aloadn dX5_readInto_94 rfl ?_
                  refine sw_getJ dX5_readInto_95 fs_X5_45 o16 ?_
                  rw [ev]
                  refine sw_ldc2 dX5_readInto_98 kl_X5_55 ?_
                  refine sw_lc_ne (tgt := 113) dX5_readInto_101 dX5_readInto_102 (by decide) (fun h101 => ?_) (fun h101 => ?_)
                  · skip
                    refine sw_aloadn dX5_readInto_113 rfl ?_
                    refine sx_iconst (v := nI 1) dX5_readInto_114 (by decide) ?_
                    refine sx_invV1 dX5_readInto_115 mk_X5_faultHere vk_X5_faultHere lk_X5_60 o16 (Nat.le_of_ble_eq_true rfl) (Nat.le_of_ble_eq_true rfl) ?_
                    refine c_X5_faultHere (c := 1) (by omega) hk (fun ρ hg hr => ?_)
                    refine sx_iinc (nI (i + 1)) dX5_readInto_118 rfl (nI_inc _) ?_
                    refine sw_goto (tgt := 38) dX5_readInto_121 (by decide) ?_
                    first
                      | exact step _ h0 hg (eG ▸ hF') (by rw [eG]; exact hc)
                      | (have k1 : kdS T N s = 1 := nI_inj (by omega) (by omega) h91
                         have n1 : ¬ isWd T N wR s := fun q => h74 ((vS_room k1).mpr q)
                         have w2 : isWd T N wD s := (vS_door k1).mp h101
                         have eG : tng T N D s = drT T N D s := by unfold tng; rw [if_neg (dB_f.mpr n1), if_pos (dB_t.mpr w2)]
                         exact step _ h0 hg (eG ▸ hF') (by rw [eG]; exact hc))
                      | (have k1 : kdS T N s = 1 := nI_inj (by omega) (by omega) h91
                         exact absurd (congrArg nI k1) h64)
                      | (have k1 : kdS T N s = 1 := nI_inj (by omega) (by omega) h64
                         exact absurd (congrArg nI k1) h91)
                      | (have k1 : kdS T N s = 1 := nI_inj (by omega) (by omega) h64
                         have n1 : ¬ isWd T N wR s := fun q => h74 ((vS_room k1).mpr q)
                         have n2 : ¬ isWd T N wD s := fun q => h101 ((vS_door k1).mpr q)
                         have eG : tng T N D s = ((1, s), D, s) := by unfold tng; rw [if_neg (dB_f.mpr n1), if_neg (dB_f.mpr n2)]
                         refine step _ h0 (frD_16 hg) ?_ (fun q => ?_)
                         · rw [eG]; exact hr.2.2.2.2.2.2.2.2
                         · rw [eG] at q; cases q)
                      | (have n1 : ¬ isWd T N wR s := fun q => h64 (congrArg nI q.1)
                         have n2 : ¬ isWd T N wD s := fun q => h64 (congrArg nI q.1)
                         have eG : tng T N D s = ((1, s), D, s) := by unfold tng; rw [if_neg (dB_f.mpr n1), if_neg (dB_f.mpr n2)]
                         refine step _ h0 (frD_16 hg) ?_ (fun q => ?_)
                         · rw [eG]; exact hr.2.2.2.2.2.2.2.2
                         · rw [eG] at q; cases q)
                  · skip
                    refine sw_aloadn dX5_readInto_105 rfl ?_
                    refine sw_aloadn dX5_readInto_106 rfl ?_
                    refine sx_invV1 dX5_readInto_107 mk_X5_readDoor vk_X5_readDoor lk_X5_57 o16 (Nat.le_of_ble_eq_true rfl) (Nat.le_of_ble_eq_true rfl) ?_
                    refine c_X5_readDoor hb hk hD hd (fun ρ hg hF' hc => ?_)
                    refine sw_goto (tgt := 118) dX5_readInto_110 (by decide) ?_
                    refine sx_iinc (nI (i + 1)) dX5_readInto_118 rfl (nI_inc _) ?_
                    refine sw_goto (tgt := 38) dX5_readInto_121 (by decide) ?_
                    first
                      | exact step _ h0 hg (eG ▸ hF') (by rw [eG]; exact hc)
                      | (have k1 : kdS T N s = 1 := nI_inj (by omega) (by omega) h91
                         have n1 : ¬ isWd T N wR s := fun q => h74 ((vS_room k1).mpr q)
                         have w2 : isWd T N wD s := (vS_door k1).mp h101
                         have eG : tng T N D s = drT T N D s := by unfold tng; rw [if_neg (dB_f.mpr n1), if_pos (dB_t.mpr w2)]
                         exact step _ h0 hg (eG ▸ hF') (by rw [eG]; exact hc))
                      | (have k1 : kdS T N s = 1 := nI_inj (by omega) (by omega) h91
                         exact absurd (congrArg nI k1) h64)
                      | (have k1 : kdS T N s = 1 := nI_inj (by omega) (by omega) h64
                         exact absurd (congrArg nI k1) h91)
                      | (have k1 : kdS T N s = 1 := nI_inj (by omega) (by omega) h64
                         have n1 : ¬ isWd T N wR s := fun q => h74 ((vS_room k1).mpr q)
                         have n2 : ¬ isWd T N wD s := fun q => h101 ((vS_door k1).mpr q)
                         have eG : tng T N D s = ((1, s), D, s) := by unfold tng; rw [if_neg (dB_f.mpr n1), if_neg (dB_f.mpr n2)]
                         refine step _ h0 (frD_16 hg) ?_ (fun q => ?_)
                         · rw [eG]; exact hr.2.2.2.2.2.2.2.2
                         · rw [eG] at q; cases q)
                      | (have n1 : ¬ isWd T N wR s := fun q => h64 (congrArg nI q.1)
                         have n2 : ¬ isWd T N wD s := fun q => h64 (congrArg nI q.1)
                         have eG : tng T N D s = ((1, s), D, s) := by unfold tng; rw [if_neg (dB_f.mpr n1), if_neg (dB_f.mpr n2)]
                         refine step _ h0 (frD_16 hg) ?_ (fun q => ?_)
                         · rw [eG]; exact hr.2.2.2.2.2.2.2.2
                         · rw [eG] at q; cases q)
              · skip
                have w1 : isWd T N wR s := (vS_room (nI_inj (by omega) (by omega) h64)).mp h74
                have eG : tng T N D s = rmT T N D s := if_pos (dB_t.mpr w1)
                refine sw_aloadn dX5_readInto_78 rfl ?_
                refine sw_aloadn dX5_readInto_79 rfl ?_
                refine sx_invV1 dX5_readInto_80 mk_X5_readRoom vk_X5_readRoom lk_X5_51 o16 (Nat.le_of_ble_eq_true rfl) (Nat.le_of_ble_eq_true rfl) ?_
                refine c_X5_readRoom hb hk hD hd (fun ρ hg hF' _ hc => ?_)
                refine sw_goto (tgt := 118) dX5_readInto_83 (by decide) ?_
                refine sx_iinc (nI (i + 1)) dX5_readInto_118 rfl (nI_inc _) ?_
                refine sw_goto (tgt := 38) dX5_readInto_121 (by decide) ?_
                first
                  | exact step _ h0 hg (eG ▸ hF') (by rw [eG]; exact hc)
                  | (have k1 : kdS T N s = 1 := nI_inj (by omega) (by omega) h91
                     have n1 : ¬ isWd T N wR s := fun q => h74 ((vS_room k1).mpr q)
                     have w2 : isWd T N wD s := (vS_door k1).mp h101
                     have eG : tng T N D s = drT T N D s := by unfold tng; rw [if_neg (dB_f.mpr n1), if_pos (dB_t.mpr w2)]
                     exact step _ h0 hg (eG ▸ hF') (by rw [eG]; exact hc))
                  | (have k1 : kdS T N s = 1 := nI_inj (by omega) (by omega) h91
                     exact absurd (congrArg nI k1) h64)
                  | (have k1 : kdS T N s = 1 := nI_inj (by omega) (by omega) h64
                     exact absurd (congrArg nI k1) h91)
                  | (have k1 : kdS T N s = 1 := nI_inj (by omega) (by omega) h64
                     have n1 : ¬ isWd T N wR s := fun q => h74 ((vS_room k1).mpr q)
                     have n2 : ¬ isWd T N wD s := fun q => h101 ((vS_door k1).mpr q)
                     have eG : tng T N D s = ((1, s), D, s) := by unfold tng; rw [if_neg (dB_f.mpr n1), if_neg (dB_f.mpr n2)]
                     refine step _ h0 (frD_16 hg) ?_ (fun q => ?_)
                     · rw [eG]; exact hr.2.2.2.2.2.2.2.2
                     · rw [eG] at q; cases q)
                  | (have n1 : ¬ isWd T N wR s := fun q => h64 (congrArg nI q.1)
                     have n2 : ¬ isWd T N wD s := fun q => h64 (congrArg nI q.1)
                     have eG : tng T N D s = ((1, s), D, s) := by unfold tng; rw [if_neg (dB_f.mpr n1), if_neg (dB_f.mpr n2)]
                     refine step _ h0 (frD_16 hg) ?_ (fun q => ?_)
                     · rw [eG]; exact hr.2.2.2.2.2.2.2.2
                     · rw [eG] at q; cases q)
  refine sw_aloadn dX5_readInto_0 rfl ?_
  refine sx_invV0 dX5_readInto_1 mk_X3_clear vk_X3_clear lk_X5_15 o9 (Nat.le_of_ble_eq_true rfl) (Nat.le_of_ble_eq_true rfl) ?_
  refine c_X3_clear ?_
  refine sw_aloadn dX5_readInto_4 rfl ?_
  refine sw_iloadn dX5_readInto_5 rfl ?_
  refine sw_aloadn dX5_readInto_6 rfl ?_
  refine sw_getR dX5_readInto_7 fs_X5_9 o16 r16_0 ?_
  refine sw_alen dX5_readInto_10 a1 (by decide) ?_
  refine sw_min dX5_readInto_11 lm_X5_20 (Nat.le_of_ble_eq_true rfl) ?_
  refine sw_topI (y := nI N) (if_neg (show ¬ nI 600 < nI N by rw [nI_lt' (by omega) (by omega)]; omega)) ?_
  refine sw_putI dX5_readInto_14 fs_X5_26 o16 ?_
  refine sw_aloadn dX5_readInto_17 rfl ?_
  refine sx_iconst (v := nI 0) dX5_readInto_18 (by decide) ?_
  refine sw_putI dX5_readInto_19 fs_X5_30 o16 ?_
  refine sw_aloadn dX5_readInto_22 rfl ?_
  refine sx_iconst (v := nI 0) dX5_readInto_23 (by decide) ?_
  refine sw_putI dX5_readInto_24 fs_X5_33 o16 ?_
  refine sw_aloadn dX5_readInto_27 rfl ?_
  refine sx_iconst (v := (-1)) dX5_readInto_28 (by decide) ?_
  refine sw_putI dX5_readInto_29 fs_X5_36 o16 ?_
  refine sw_aloadn dX5_readInto_32 rfl ?_
  refine sx_invV0 dX5_readInto_33 mk_X5_nextToken vk_X5_nextToken lk_X5_39 o16 (Nat.le_of_ble_eq_true rfl) (Nat.le_of_ble_eq_true rfl) ?_
  refine c_X5_nextToken (T := T) (N := N) (p := 0) (a := (0, 0)) hT rfl hb (by omega) rfl ⟨rfl, by omega, fun q => absurd rfl q⟩ (fun τ hf hk => ?_)
  refine sx_iconst (v := nI 0) dX5_readInto_36 (by decide) ?_
  refine sw_istoren dX5_readInto_37 (Nat.le_of_ble_eq_true rfl) ?_
  refine loop 601 0 D0 _ τ (by omega) (by omega) hs0 hk (CDr_fr hf ⟨rfl, rfl, fun k q => absurd q (Nat.not_lt_zero _), fun k q => absurd q (Nat.not_lt_zero _), fun k q => absurd q (Nat.not_lt_zero _), fun k q => absurd q (Nat.not_lt_zero _), fun k q => absurd q (Nat.not_lt_zero _), fun k q => absurd q (Nat.not_lt_zero _)⟩) GD_0 (frD_tr (frD_I (frD_I (frD_I (frD_I (frD_I (frD_I frD_rf (by omega)) (by omega)) (by omega)) (by omega)) (by omega)) (by omega)) (frD_16 hf)) hR
end CBUILD
