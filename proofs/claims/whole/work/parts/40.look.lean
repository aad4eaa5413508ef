/-! ===== Walks: the tables out of the logs ===== -/
section LOOK
variable {G : GG} {d : Nat} {σ : Mem}
theorem c_openGap {f : Mem → Prop} {P : PL} (hP : PlC σ P) (hV : PV P) {dd a b : Nat} {o : Nat → Nat} (hdd : dd < pD P) (ha : a < 200) (hb : b < 200) (hab : a ≤ b) (ho : ∀ t, t < 200 → o t < 1024 ∧ σ.1 41 t = nI (o t)) (h : ∀ τ, fr 41 41 σ τ → (∀ t, t < 200 → τ.1 41 t = nI (if a ≤ t + pE P dd ∧ t ≤ b + pE P dd then o t ||| 2 ^ dd else o t)) → f τ) : SW G (d + 1) M_X6_openGap 0 [some (.ref 35), some (.int (nI dd)), some (.int (nI a)), some (.int (nI b)), none, none, none] [] σ (RV f) := by
  obtain ⟨-, -, -, he⟩ := hV.2.2.2.1 dd hdd
  have hD := hV.2.1
  have hPe := hP.2.2.2.2.2 dd hdd
  have loop : ∀ (n t : Nat), n = 200 - t → a - pE P dd ≤ t → t ≤ min (b + pE P dd) 199 + 1 → ∀ τ, fr 41 41 σ τ → (∀ i, i < 200 → τ.1 41 i = nI (if a ≤ i + pE P dd ∧ i < t then o i ||| 2 ^ dd else o i)) → SW G (d + 1) M_X6_openGap 40 [some (.ref 35), some (.int (nI dd)), some (.int (nI a)), some (.int (nI b)), some (.int (nI (a - pE P dd))), some (.int (nI (min (b + pE P dd) 199))), some (.int (nI t))] [] τ (RV f) := by
    intro n
    induction n with
    | zero =>
      intro t hn h1 h2 τ hf hv
      have ht : ¬ t ≤ min (b + pE P dd) 199 := by omega
      refine sw_iload dX6_openGap_40 rfl ?_
      refine sw_iload dX6_openGap_42 rfl ?_
      refine sw_icmp_gt (tgt := 66) dX6_openGap_44 (by decide) (fun h44 => ?_) (fun h44 => ?_)
      · skip
        refine sx_ret0 dX6_openGap_66 rfl ?_
        refine h τ hf (fun i hi => ?_)
        rw [hv i hi]
        congr 1
        by_cases q : a ≤ i + pE P dd ∧ i < t
        · rw [if_pos q, if_pos (by omega)]
        · rw [if_neg q, if_neg (by omega)]
      · exact absurd ((nI_lt (by omega) (by omega))) h44
    | succ n ih =>
      intro t hn h1 h2 τ hf hv
      by_cases hc : t ≤ min (b + pE P dd) 199
      · have hold := hv t (by omega)
        rw [if_neg (by omega)] at hold
        refine sw_iload dX6_openGap_40 rfl ?_
        refine sw_iload dX6_openGap_42 rfl ?_
        refine sw_icmp_gt (tgt := 66) dX6_openGap_44 (by decide) (fun h44 => ?_) (fun h44 => ?_)
        · exact absurd h44 ((by rw [nI_lt' (by omega) (by omega)]; omega))
        · skip
          refine sw_aloadn dX6_openGap_47 rfl ?_
          refine sw_getR dX6_openGap_48 fs_X6_31 o35 r35_9 ?_
          refine sw_iload dX6_openGap_51 rfl ?_
          refine sw_dup2 dX6_openGap_53 rfl rfl ?_
          refine sx_iald (t) dX6_openGap_54 a41 (rfl) (by omega) (by decide) ?_
          rw [hold]
          refine sx_iconst (v := nI 1) dX6_openGap_55 (by decide) ?_
          refine sw_iloadn dX6_openGap_56 rfl ?_
          refine sw_ishl dX6_openGap_57 ?_
          refine sw_ior dX6_openGap_58 ?_
          rw [or_st _ (show dd < 31 by omega)]
          refine sx_iast (t) dX6_openGap_59 a41 (rfl) (by omega) (by decide) ?_
          refine sx_iinc (nI (t + 1)) dX6_openGap_60 rfl (nI_inc _) ?_
          refine sw_goto (tgt := 40) dX6_openGap_63 (by decide) ?_
          refine ih (t + 1) (by omega) (by omega) (by omega) _ (fr_I hf (by omega)) (fun i hi => ?_)
          rw [setI_at]
          by_cases e : i = t
          · subst e
            rw [upd_same, if_pos (by omega)]
          · rw [upd_ne _ _ e, hv i hi]
            congr 1
            by_cases q : a ≤ i + pE P dd ∧ i < t
            · rw [if_pos q, if_pos (by omega)]
            · rw [if_neg q, if_neg (by omega)]
      · skip
        refine sw_iload dX6_openGap_40 rfl ?_
        refine sw_iload dX6_openGap_42 rfl ?_
        refine sw_icmp_gt (tgt := 66) dX6_openGap_44 (by decide) (fun h44 => ?_) (fun h44 => ?_)
        · skip
          refine sx_ret0 dX6_openGap_66 rfl ?_
          refine h τ hf (fun i hi => ?_)
          rw [hv i hi]
          congr 1
          by_cases q : a ≤ i + pE P dd ∧ i < t
          · rw [if_pos q, if_pos (by omega)]
          · rw [if_neg q, if_neg (by omega)]
        · exact absurd ((nI_lt (by omega) (by omega))) h44
  refine sw_iloadn dX6_openGap_0 rfl ?_
  refine sw_aloadn dX6_openGap_1 rfl ?_
  refine sw_getR dX6_openGap_2 fs_X6_47 o35 r35_0 ?_
  refine sw_getR dX6_openGap_5 fs_X6_118 o2 r2_7 ?_
  refine sw_iloadn dX6_openGap_8 rfl ?_
  refine sx_iald (dd) dX6_openGap_9 a8 (rfl) (by omega) (by decide) ?_
  rw [hPe]
  refine sw_isub dX6_openGap_10 ?_
  refine sx_iconst (v := nI 0) dX6_openGap_11 (by decide) ?_
  refine sw_max dX6_openGap_12 lm_X6_121 (Nat.le_of_ble_eq_true rfl) ?_
  refine sw_topI (y := nI (a - pE P dd)) (mx_I (by omega) (by omega)) ?_
  refine sw_istore dX6_openGap_15 (Nat.le_of_ble_eq_true rfl) ?_
  refine sw_iloadn dX6_openGap_17 rfl ?_
  refine sw_aloadn dX6_openGap_18 rfl ?_
  refine sw_getR dX6_openGap_19 fs_X6_47 o35 r35_0 ?_
  refine sw_getR dX6_openGap_22 fs_X6_118 o2 r2_7 ?_
  refine sw_iloadn dX6_openGap_25 rfl ?_
  refine sx_iald (dd) dX6_openGap_26 a8 (rfl) (by omega) (by decide) ?_
  rw [hPe]
  refine sw_iadd dX6_openGap_27 ?_
  refine sx_sipush (v := nI 199) dX6_openGap_28 (by decide) ?_
  refine sw_min dX6_openGap_31 lm_X6_127 (Nat.le_of_ble_eq_true rfl) ?_
  refine sw_topI (y := nI (min (b + pE P dd) 199)) (mn_I (by omega) (by omega)) ?_
  refine sw_istore dX6_openGap_34 (Nat.le_of_ble_eq_true rfl) ?_
  refine sw_iload dX6_openGap_36 rfl ?_
  refine sw_istore dX6_openGap_38 (Nat.le_of_ble_eq_true rfl) ?_
  exact loop (200 - (a - pE P dd)) (a - pE P dd) rfl (Nat.le_refl _) (by omega) σ fr_rf (fun i hi => by rw [(ho i hi).2, if_neg (by omega)])
theorem c_openGaps {f : Mem → Prop} {P : PL} {nc n m : Nat} (hP : PlC σ P) (hV : PV P) (hm : m ≤ n) (hn : n ≤ 100) (hL : LV P nc n (lgC σ)) (hc : σ.1 35 8 = nI m → ODm σ P (lgC σ) m) (h : ∀ τ, fr 35 41 σ τ → (∀ c, c ≠ 35 → c ≠ 41 → τ.1 c = σ.1 c ∧ τ.2 c = σ.2 c) → τ.1 35 8 = nI m → ODm τ P (lgC σ) m → f τ) : SW G (d + 2) M_X6_openGaps 0 [some (.ref 35), some (.int (nI m)), none] [] σ (RV f) := by
  have hD := hV.2.1
  have loop : ∀ (q k : Nat), q = m - k → k ≤ m → ∀ τ, (∀ c, c ≠ 35 → c ≠ 41 → τ.1 c = σ.1 c ∧ τ.2 c = σ.2 c) → τ.1 35 8 = nI m → ODm τ P (lgC σ) k → SW G (d + 2) M_X6_openGaps 24 [some (.ref 35), some (.int (nI m)), some (.int (nI k))] [] τ (RV f) := by
    intro q
    induction q with
    | zero =>
      intro k hq hk τ hf h8 hod
      obtain rfl : k = m := by omega
      refine sw_iloadn dX6_openGaps_24 rfl ?_
      refine sw_iloadn dX6_openGaps_25 rfl ?_
      refine sw_icmp_ge (tgt := 79) dX6_openGaps_26 (by decide) (fun h26 => ?_) (fun h26 => ?_)
      · skip
        refine sx_ret0 dX6_openGaps_79 rfl ?_
        exact h τ (fun c hc => hf c (by omega) (by omega)) hf h8 hod
      · exact absurd ((nI_le (Nat.le_refl _) (by omega))) h26
    | succ q ih =>
      intro k hq hk τ hf h8 hod
      have e18 := (hf 18 (by decide) (by decide)).1
      have e20 := (hf 20 (by decide) (by decide)).1
      have e21 := (hf 21 (by decide) (by decide)).1
      have e22 := (hf 22 (by decide) (by decide)).1
      have hPτ : PlC τ P := by
        unfold PlC at *
        rw [(hf 2 (by decide) (by decide)).1, (hf 4 (by decide) (by decide)).1, (hf 6 (by decide) (by decide)).1, (hf 7 (by decide) (by decide)).1, (hf 8 (by decide) (by decide)).1]
        exact hP
      have skip : ¬ lKD (lgC σ) k = nI 1 → SW G (d + 2) M_X6_openGaps 24 [some (.ref 35), some (.int (nI m)), some (.int (nI (k + 1)))] [] τ (RV f) := fun hno => ih (k + 1) (by omega) (by omega) τ hf h8 (fun t ht => by
        obtain ⟨o, o1, o2, o3⟩ := hod t ht
        refine ⟨o, o1, o2, fun dd hdd => (o3 dd hdd).trans ⟨fun ⟨k', a1, a2⟩ => ⟨k', by omega, a2⟩, fun ⟨k', a1, a2, a3⟩ => ?_⟩⟩
        rcases Nat.lt_succ_iff_lt_or_eq.mp a1 with e | rfl
        · exact ⟨k', e, a2, a3⟩
        · exact absurd a2 hno)
      refine sw_iloadn dX6_openGaps_24 rfl ?_
      refine sw_iloadn dX6_openGaps_25 rfl ?_
      refine sw_icmp_ge (tgt := 79) dX6_openGaps_26 (by decide) (fun h26 => ?_) (fun h26 => ?_)
      · exact absurd h26 ((by rw [nI_le' (by omega) (by omega)]; omega))
      · skip
        refine sw_aloadn dX6_openGaps_29 rfl ?_
        refine sw_getR dX6_openGaps_30 fs_X6_51 o35 r35_1 ?_
        refine sw_getR dX6_openGaps_33 fs_X6_90 o17 r17_1 ?_
        refine sw_iloadn dX6_openGaps_36 rfl ?_
        refine sx_iald (k) dX6_openGaps_37 a18 (rfl) (by omega) (by decide) ?_
        rw [e18]
        refine sx_iconst (v := nI 1) dX6_openGaps_38 (by decide) ?_
        refine sw_icmp_ne (tgt := 73) dX6_openGaps_39 (by decide) (fun h39 => ?_) (fun h39 => ?_)
        · skip
          refine sx_iinc (nI (k + 1)) dX6_openGaps_73 rfl (nI_inc _) ?_
          refine sw_goto (tgt := 24) dX6_openGaps_76 (by decide) ?_
          first
            | exact skip h39
            | (refine ih (k + 1) (by omega) (by omega) τ' (fun c c1 c2 => ?_) (by rw [(hf' 35 (by omega)).1]; exact h8) (fun t ht => ?_)
               · exact ⟨(hf' c (by omega)).1.trans (hf c c1 c2).1, (hf' c (by omega)).2.trans (hf c c1 c2).2⟩
               · obtain ⟨b1, b2, b3⟩ := hof t ht
                 refine ⟨_, ?_, hv' t ht, fun dd hdd => ?_⟩
                 · split
                   · exact or_lt (b := 10) b1 (by omega)
                   · exact b1
                 · have old := b3 dd hdd
                   by_cases hin : nv (lTK (lgC σ)) k ≤ t + pE P (nv (lTG (lgC σ)) k) ∧ t ≤ nv (lMO (lgC σ)) k + pE P (nv (lTG (lgC σ)) k)
                   · rw [if_pos hin, tb_or, Bool.or_eq_true, decide_eq_true_iff, old]
                     constructor
                     · rintro (⟨k', a1, a2⟩ | rfl)
                       · exact ⟨k', by omega, a2⟩
                       · exact ⟨k, by omega, hgk, rfl, hin⟩
                     · rintro ⟨k', a1, a2, a3, a4⟩
                       rcases Nat.lt_succ_iff_lt_or_eq.mp a1 with e | rfl
                       · exact Or.inl ⟨k', e, a2, a3, a4⟩
                       · exact Or.inr a3.symm
                   · rw [if_neg hin, old]
                     constructor
                     · rintro ⟨k', a1, a2⟩
                       exact ⟨k', by omega, a2⟩
                     · rintro ⟨k', a1, a2, a3, a4⟩
                       rcases Nat.lt_succ_iff_lt_or_eq.mp a1 with e | rfl
                       · exact ⟨k', e, a2, a3, a4⟩
                       · subst a3
                         exact absurd a4 hin)
        · skip
          have hgk : lKD (lgC σ) k = nI 1 := h39
          have hrow : okv (lTG (lgC σ)) (pD P) k ∧ okv (lTK (lgC σ)) 200 k ∧ okv (lMO (lgC σ)) 200 k ∧ nv (lTK (lgC σ)) k ≤ nv (lMO (lgC σ)) k := by
            rcases hL k (by omega) with z | z | z
            · rw [z.1] at hgk; exact absurd hgk (by decide)
            · exact z.2.2
            · rw [z.1] at hgk; exact absurd hgk (by decide)
          have r1 : σ.1 20 k = nI (nv (lTG (lgC σ)) k) := hrow.1.1
          have r2 : σ.1 21 k = nI (nv (lTK (lgC σ)) k) := hrow.2.1.1
          have r3 : σ.1 22 k = nI (nv (lMO (lgC σ)) k) := hrow.2.2.1.1
          have r4 := hrow.1.2
          have r5 := hrow.2.1.2
          have r6 := hrow.2.2.1.2
          have r7 := hrow.2.2.2
          obtain ⟨of, hof⟩ : ∃ of : Nat → Nat, ∀ t, t < 200 → of t < 1024 ∧ τ.1 41 t = nI (of t) ∧ ∀ dd, dd < 10 → ((of t).testBit dd = true ↔ opn P (lgC σ) k t dd) := ⟨fun t => if ht : t < 200 then Classical.choose (hod t ht) else 0, fun t ht => by simp only [ht, dif_pos]; exact Classical.choose_spec (hod t ht)⟩
          refine sw_aloadn dX6_openGaps_42 rfl ?_
          refine sw_aloadn dX6_openGaps_43 rfl ?_
          refine sw_getR dX6_openGaps_44 fs_X6_51 o35 r35_1 ?_
          refine sw_getR dX6_openGaps_47 fs_X6_96 o17 r17_3 ?_
          refine sw_iloadn dX6_openGaps_50 rfl ?_
          refine sx_iald (k) dX6_openGaps_51 a20 (rfl) (by omega) (by decide) ?_
          rw [e20, r1]
          refine sw_aloadn dX6_openGaps_52 rfl ?_
          refine sw_getR dX6_openGaps_53 fs_X6_51 o35 r35_1 ?_
          refine sw_getR dX6_openGaps_56 fs_X6_99 o17 r17_4 ?_
          refine sw_iloadn dX6_openGaps_59 rfl ?_
          refine sx_iald (k) dX6_openGaps_60 a21 (rfl) (by omega) (by decide) ?_
          rw [e21, r2]
          refine sw_aloadn dX6_openGaps_61 rfl ?_
          refine sw_getR dX6_openGaps_62 fs_X6_51 o35 r35_1 ?_
          refine sw_getR dX6_openGaps_65 fs_X6_111 o17 r17_5 ?_
          refine sw_iloadn dX6_openGaps_68 rfl ?_
          refine sx_iald (k) dX6_openGaps_69 a22 (rfl) (by omega) (by decide) ?_
          rw [e22, r3]
          refine sx_invV3 dX6_openGaps_70 mk_X6_openGap vk_X6_openGap lk_X6_114 o35 (Nat.le_of_ble_eq_true rfl) (Nat.le_of_ble_eq_true rfl) ?_
          refine c_openGap hPτ hV r4 r5 r6 r7 (fun t ht => ⟨(hof t ht).1, (hof t ht).2.1⟩) (fun τ' hf' hv' => ?_)
          refine sx_iinc (nI (k + 1)) dX6_openGaps_73 rfl (nI_inc _) ?_
          refine sw_goto (tgt := 24) dX6_openGaps_76 (by decide) ?_
          first
            | exact skip h39
            | (refine ih (k + 1) (by omega) (by omega) τ' (fun c c1 c2 => ?_) (by rw [(hf' 35 (by omega)).1]; exact h8) (fun t ht => ?_)
               · exact ⟨(hf' c (by omega)).1.trans (hf c c1 c2).1, (hf' c (by omega)).2.trans (hf c c1 c2).2⟩
               · obtain ⟨b1, b2, b3⟩ := hof t ht
                 refine ⟨_, ?_, hv' t ht, fun dd hdd => ?_⟩
                 · split
                   · exact or_lt (b := 10) b1 (by omega)
                   · exact b1
                 · have old := b3 dd hdd
                   by_cases hin : nv (lTK (lgC σ)) k ≤ t + pE P (nv (lTG (lgC σ)) k) ∧ t ≤ nv (lMO (lgC σ)) k + pE P (nv (lTG (lgC σ)) k)
                   · rw [if_pos hin, tb_or, Bool.or_eq_true, decide_eq_true_iff, old]
                     constructor
                     · rintro (⟨k', a1, a2⟩ | rfl)
                       · exact ⟨k', by omega, a2⟩
                       · exact ⟨k, by omega, hgk, rfl, hin⟩
                     · rintro ⟨k', a1, a2, a3, a4⟩
                       rcases Nat.lt_succ_iff_lt_or_eq.mp a1 with e | rfl
                       · exact Or.inl ⟨k', e, a2, a3, a4⟩
                       · exact Or.inr a3.symm
                   · rw [if_neg hin, old]
                     constructor
                     · rintro ⟨k', a1, a2⟩
                       exact ⟨k', by omega, a2⟩
                     · rintro ⟨k', a1, a2, a3, a4⟩
                       rcases Nat.lt_succ_iff_lt_or_eq.mp a1 with e | rfl
                       · exact ⟨k', e, a2, a3, a4⟩
                       · subst a3
                         exact absurd a4 hin)
  refine sw_aloadn dX6_openGaps_0 rfl ?_
  refine sw_getI dX6_openGaps_1 fs_X6_27 o35 ?_
  refine sw_iloadn dX6_openGaps_4 rfl ?_
  refine sw_icmp_ne (tgt := 9) dX6_openGaps_5 (by decide) (fun h5 => ?_) (fun h5 => ?_)
  · skip
    refine sw_aloadn dX6_openGaps_9 rfl ?_
    refine sw_iloadn dX6_openGaps_10 rfl ?_
    refine sw_putI dX6_openGaps_11 fs_X6_27 o35 ?_
    refine sw_aloadn dX6_openGaps_14 rfl ?_
    refine sw_getR dX6_openGaps_15 fs_X6_31 o35 r35_9 ?_
    refine sx_iconst (v := nI 0) dX6_openGaps_18 (by decide) ?_
    refine sx_insV2 dX6_openGaps_19 mk_J7_fill_53178 sk_J7_fill_53178 lk_X6_108 (Nat.le_of_ble_eq_true rfl) (Nat.le_of_ble_eq_true rfl) ?_
    refine c_fillI a41 (by decide) ?_
    refine sx_iconst (v := nI 0) dX6_openGaps_22 (by decide) ?_
    refine sw_istoren dX6_openGaps_23 (Nat.le_of_ble_eq_true rfl) ?_
    refine loop m 0 (by omega) (by omega) _ (fun c c1 c2 => ?_) rfl (fun t ht => ⟨0, by omega, ?_, fun dd _ => ?_⟩)
    · exact ⟨by rw [setA_ne _ _ c2, setI_ne _ _ _ c1], rfl⟩
    · rw [setA_at, filI, if_pos ht]
    · rw [Nat.zero_testBit]
      exact ⟨fun z => Bool.noConfusion z, fun ⟨k, z, _⟩ => absurd z (by omega)⟩
  · skip
    refine sx_ret0 dX6_openGaps_8 rfl ?_
    exact h σ fr_rf (fun _ _ _ => ⟨rfl, rfl⟩) h5 (hc h5)
end LOOK
