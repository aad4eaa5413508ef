/-! ===== Walks: hope, going on ===== -/
section WALKS2
variable {G : GG} {d : Nat} {σ : Mem}
/-- entry j of a row holds H j -/
def celH (x : Int64) (H : Nat → Nat → Prop) : Prop := (∀ rm a, rm < 8 → a ≤ 4 → (pb x rm a = true ↔ H rm a)) ∧ ∀ i, 40 ≤ i → mb x i = false
theorem rowH_iff {K : WK} {h : Nat → Int64} {b : Nat} {H : Nat → Nat → Nat → Prop} : rowH K h b H ↔ ∀ j, j ≤ kN K → celH (h (b + j)) (H j) := Iff.rfl
theorem celH_and {x y : Int64} {H H' : Nat → Nat → Prop} (h : celH x H) (h' : celH y H') : celH (x &&& y) (fun rm a => H rm a ∧ H' rm a) := by
  refine ⟨fun rm a hr ha => ?_, fun i hi => by rw [mb_and, h.2 i hi]; rfl⟩
  have e : pb (x &&& y) rm a = (pb x rm a && pb y rm a) := mb_and _ _ _
  rw [e, Bool.and_eq_true, h.1 rm a hr ha, h'.1 rm a hr ha]
theorem celH_congr {x : Int64} {H H' : Nat → Nat → Prop} (h : celH x H) (e : ∀ rm a, rm < 8 → a ≤ 4 → (H rm a ↔ H' rm a)) : celH x H' := ⟨fun rm a hr ha => (h.1 rm a hr ha).trans (e rm a hr ha), h.2⟩
theorem celH_0 {H : Nat → Nat → Prop} (h : ∀ rm a, ¬ H rm a) : celH 0 H := ⟨fun rm a _ _ => by rw [pb, mb_0]; exact ⟨fun q => Bool.noConfusion q, fun q => absurd q (h rm a)⟩, fun i _ => mb_0 i⟩
theorem c_findHopeful {f : Mem → Prop} {P : PL} {K : WK} (hW : WT σ P K) (h : ∀ τ, fr 44 44 σ τ → (∀ t, t < 200 → rowH K (τ.2 44) (t * 13) (hop P K (199 - t))) → f τ) : SW G (d + 2) M_X6_findHopeful 0 [some (.ref 35), none, none, none] [] σ (RV f) := by
  have hK := hW.2.2.1
  have h12 := hK.1
  have hS := hW.2.2.2.2.2.2.2.2.1
  have sn : ∀ t, t < 200 → celH (σ.2 42 t) (fun rm _ => kS K t rm) := fun t ht => hS t ht
  have wt : ∀ τ, fr 44 44 σ τ → WT τ P K := fun τ hf => WT_fr (fr_wide hf (Nat.le_refl _) (by omega)) (Nat.le_refl _) hW
  have inner : ∀ T, T < 199 → ∀ (m s : Nat), m = kN K + 1 - s → s ≤ kN K + 1 → ∀ τ, fr 44 44 σ τ → (∀ t, T < t → t < 200 → rowH K (τ.2 44) (t * 13) (hop P K (199 - t))) → (∀ j, j < s → celH (τ.2 44 (T * 13 + j)) (hop P K (199 - T) j)) →
      (∀ τ, fr 44 44 σ τ → (∀ t, T ≤ t → t < 200 → rowH K (τ.2 44) (t * 13) (hop P K (199 - t))) → ∀ o3, SW G (d + 2) M_X6_findHopeful 99 [some (.ref 35), some (.int (nI 199)), some (.int (nI (T + 1))), o3] [] τ (RV f)) →
      SW G (d + 2) M_X6_findHopeful 57 [some (.ref 35), some (.int (nI 199)), some (.int (nI (T + 1))), some (.int (nI s))] [] τ (RV f) := by
    intro T hT m
    induction m with
    | zero =>
      intro s hm hs τ hf hr hp hend
      have wτ := wt τ hf
      obtain rfl : s = kN K + 1 := by omega
      refine sw_iloadn dX6_findHopeful_57 rfl ?_
      refine sw_aloadn dX6_findHopeful_58 rfl ?_
      refine sw_getI dX6_findHopeful_59 fs_X6_67 o35 ?_
      rw [wτ.2.2.2.1]
      refine sw_icmp_gt (tgt := 99) dX6_findHopeful_62 (by decide) (fun h62 => ?_) (fun h62 => ?_)
      · skip
        refine hend τ hf (fun t h1 h2 => ?_) _
        by_cases e : t = T
        · subst e
          exact fun j hj => hp j (by omega)
        · exact hr t (by omega) h2
      · exact absurd ((nI_lt (by omega) (by omega))) h62
    | succ m ih =>
      intro s hm hs τ hf hr hp hend
      have wτ := wt τ hf
      refine sw_iloadn dX6_findHopeful_57 rfl ?_
      refine sw_aloadn dX6_findHopeful_58 rfl ?_
      refine sw_getI dX6_findHopeful_59 fs_X6_67 o35 ?_
      rw [wτ.2.2.2.1]
      refine sw_icmp_gt (tgt := 99) dX6_findHopeful_62 (by decide) (fun h62 => ?_) (fun h62 => ?_)
      · exact absurd h62 ((by rw [nI_lt' (by omega) (by omega)]; omega))
      · skip
        refine sw_aloadn dX6_findHopeful_65 rfl ?_
        refine sw_getR dX6_findHopeful_66 fs_X6_41 o35 r35_12 ?_
        refine sw_iloadn dX6_findHopeful_69 rfl ?_
        refine sx_iconst (v := nI 1) dX6_findHopeful_70 (by decide) ?_
        refine sw_isub dX6_findHopeful_71 ?_
        refine sw_topI (y := nI T) (nI_pred T) ?_
        refine sx_bipush (v := nI 13) dX6_findHopeful_72 (by decide) ?_
        refine sw_imul dX6_findHopeful_74 ?_
        refine sw_iloadn dX6_findHopeful_75 rfl ?_
        refine sw_iadd dX6_findHopeful_76 ?_
        refine sw_aloadn dX6_findHopeful_77 rfl ?_
        refine sw_iloadn dX6_findHopeful_78 rfl ?_
        refine sw_iloadn dX6_findHopeful_79 rfl ?_
        refine sx_invJ2 dX6_findHopeful_80 mk_X6_hopefulAhead vk_X6_hopefulAhead lk_X6_141 o35 (Nat.le_of_ble_eq_true rfl) (Nat.le_of_ble_eq_true rfl) ?_
        refine c_hopefulAhead (t := T + 1) (j := s) wτ (by omega) (by omega) (hr (T + 1) (by omega) (by omega)) (fun z hz hzo => ?_)
        refine sw_aloadn dX6_findHopeful_83 rfl ?_
        refine sw_getR dX6_findHopeful_84 fs_X6_34 o35 r35_10 ?_
        refine sw_iloadn dX6_findHopeful_87 rfl ?_
        refine sx_iconst (v := nI 1) dX6_findHopeful_88 (by decide) ?_
        refine sw_isub dX6_findHopeful_89 ?_
        refine sx_lald (T) dX6_findHopeful_90 a42 (nI_pred T) (by omega) (by decide) ?_
        refine sw_land dX6_findHopeful_91 ?_
        refine sx_last (T * 13 + s) dX6_findHopeful_92 a44 (by rw [nI_mul, nI_add]) (by omega) (by decide) ?_
        refine sx_iinc (nI (s + 1)) dX6_findHopeful_93 rfl (nI_inc _) ?_
        refine sw_goto (tgt := 57) dX6_findHopeful_96 (by decide) ?_
        refine ih (s + 1) (by omega) (by omega) _ (fr_J hf (by omega)) (fun t h1 h2 => ?_) (fun j hj => ?_) hend
        · rw [rowH_iff]
          intro j hj
          rw [setJ_at, updL_ne _ _ (by omega)]
          exact hr t h1 h2 j hj
        · by_cases e : j = s
          · subst e
            rw [setJ_at, updL_same, (hf 42 (by omega)).2]
            refine celH_congr (celH_and ⟨hz, hzo⟩ (sn T (by omega))) (fun rm a _ _ => ?_)
            obtain ⟨r, hr'⟩ : ∃ r, 199 - T = r + 1 := ⟨198 - T, by omega⟩
            rw [hr', hop, show 198 - r = T by omega, show 199 - r = T + 1 by omega, show 199 - (T + 1) = r by omega]
            exact and_comm
          · rw [setJ_at, updL_ne _ _ (by omega)]
            exact hp j (by omega)
  have outer : ∀ (T : Nat), T < 200 → ∀ τ, fr 44 44 σ τ → (∀ t, T ≤ t → t < 200 → rowH K (τ.2 44) (t * 13) (hop P K (199 - t))) → ∀ o3, SW G (d + 2) M_X6_findHopeful 51 [some (.ref 35), some (.int (nI 199)), some (.int (nI T)), o3] [] τ (RV f) := by
    intro T
    induction T with
    | zero =>
      intro hT τ hf hr o3
      refine sw_iloadn dX6_findHopeful_51 rfl ?_
      refine sw_if_le (tgt := 105) dX6_findHopeful_52 (by decide) (fun h52 => ?_) (fun h52 => ?_)
      · skip
        refine sx_ret0 dX6_findHopeful_105 rfl ?_
        exact h τ hf (fun t ht => hr t (by omega) ht)
      · exact absurd ((by decide)) h52
    | succ T ih =>
      intro hT τ hf hr o3
      have c99 : ∀ τ, fr 44 44 σ τ → (∀ t, T ≤ t → t < 200 → rowH K (τ.2 44) (t * 13) (hop P K (199 - t))) → ∀ o3, SW G (d + 2) M_X6_findHopeful 99 [some (.ref 35), some (.int (nI 199)), some (.int (nI (T + 1))), o3] [] τ (RV f) := by
        intro τ hf hr o3
        refine sx_iinc (nI T) dX6_findHopeful_99 rfl (pk_m1 T) ?_
        refine sw_goto (tgt := 51) dX6_findHopeful_102 (by decide) ?_
        exact ih (by omega) τ hf hr _
      refine sw_iloadn dX6_findHopeful_51 rfl ?_
      refine sw_if_le (tgt := 105) dX6_findHopeful_52 (by decide) (fun h52 => ?_) (fun h52 => ?_)
      · exact absurd h52 ((nI_nle (by omega) (by omega)))
      · skip
        refine sx_iconst (v := nI 0) dX6_findHopeful_55 (by decide) ?_
        refine sw_istoren dX6_findHopeful_56 (Nat.le_of_ble_eq_true rfl) ?_
        exact inner T (by omega) (kN K + 1) 0 (by omega) (by omega) τ hf (fun t h1 h2 => hr t (by omega) h2) (fun j hj => absurd hj (by omega)) c99
  have first : ∀ (m s : Nat), m = kN K + 1 - s → s ≤ kN K + 1 → ∀ τ, fr 44 44 σ τ → (∀ j, j < s → celH (τ.2 44 (199 * 13 + j)) (hop P K 0 j)) → SW G (d + 2) M_X6_findHopeful 6 [some (.ref 35), some (.int (nI 199)), some (.int (nI s)), none] [] τ (RV f) := by
    intro m
    induction m with
    | zero =>
      intro s hm hs τ hf hp
      have wτ := wt τ hf
      obtain rfl : s = kN K + 1 := by omega
      refine sw_iloadn dX6_findHopeful_6 rfl ?_
      refine sw_aloadn dX6_findHopeful_7 rfl ?_
      refine sw_getI dX6_findHopeful_8 fs_X6_67 o35 ?_
      rw [wτ.2.2.2.1]
      refine sw_icmp_gt (tgt := 49) dX6_findHopeful_11 (by decide) (fun h11 => ?_) (fun h11 => ?_)
      · skip
        refine sw_iloadn dX6_findHopeful_49 rfl ?_
        refine sw_istoren dX6_findHopeful_50 (Nat.le_of_ble_eq_true rfl) ?_
        refine outer 199 (by omega) τ hf (fun t h1 h2 => ?_) _
        obtain rfl : t = 199 := by omega
        exact fun j hj => hp j (by omega)
      · exact absurd ((nI_lt (by omega) (by omega))) h11
    | succ m ih =>
      intro s hm hs τ hf hp
      have wτ := wt τ hf
      refine sw_iloadn dX6_findHopeful_6 rfl ?_
      refine sw_aloadn dX6_findHopeful_7 rfl ?_
      refine sw_getI dX6_findHopeful_8 fs_X6_67 o35 ?_
      rw [wτ.2.2.2.1]
      refine sw_icmp_gt (tgt := 49) dX6_findHopeful_11 (by decide) (fun h11 => ?_) (fun h11 => ?_)
      · exact absurd h11 ((by rw [nI_lt' (by omega) (by omega)]; omega))
      · skip
        refine sw_aloadn dX6_findHopeful_14 rfl ?_
        refine sw_getR dX6_findHopeful_15 fs_X6_41 o35 r35_12 ?_
        refine sw_iloadn dX6_findHopeful_18 rfl ?_
        refine sx_bipush (v := nI 13) dX6_findHopeful_19 (by decide) ?_
        refine sw_imul dX6_findHopeful_21 ?_
        refine sw_iloadn dX6_findHopeful_22 rfl ?_
        refine sw_iadd dX6_findHopeful_23 ?_
        refine sw_iloadn dX6_findHopeful_24 rfl ?_
        refine sw_aloadn dX6_findHopeful_25 rfl ?_
        refine sw_getI dX6_findHopeful_26 fs_X6_67 o35 ?_
        rw [wτ.2.2.2.1]
        refine sw_icmp_ne (tgt := 41) dX6_findHopeful_29 (by decide) (fun h29 => ?_) (fun h29 => ?_)
        · skip
          refine sx_lconst (v := 0) dX6_findHopeful_41 (by decide) ?_
          refine sx_last (199 * 13 + s) dX6_findHopeful_42 a44 (by rw [nI_mul, nI_add]) (by omega) (by decide) ?_
          refine sx_iinc (nI (s + 1)) dX6_findHopeful_43 rfl (nI_inc _) ?_
          refine sw_goto (tgt := 6) dX6_findHopeful_46 (by decide) ?_
          refine ih (s + 1) (by omega) (by omega) _ (fr_J hf (by omega)) (fun j hj => ?_)
          by_cases e : j = s
          · subst e
            rw [setJ_at, updL_same]
            first
              | (have hs' : j = kN K := nI_inj (by omega) (by omega) h29
                 rw [(hf 42 (by omega)).2]
                 exact celH_congr (sn 199 (by omega)) (fun rm a _ _ => ⟨fun q => ⟨q, hs'⟩, fun q => q.1⟩))
              | exact celH_0 (fun rm a q => h29 (congrArg nI q.2))
          · rw [setJ_at, updL_ne _ _ (by omega)]
            exact hp j (by omega)
        · skip
          refine sw_aloadn dX6_findHopeful_32 rfl ?_
          refine sw_getR dX6_findHopeful_33 fs_X6_34 o35 r35_10 ?_
          refine sw_iloadn dX6_findHopeful_36 rfl ?_
          refine sx_lald (199) dX6_findHopeful_37 a42 (rfl) (by omega) (by decide) ?_
          refine sw_goto (tgt := 42) dX6_findHopeful_38 (by decide) ?_
          refine sx_last (199 * 13 + s) dX6_findHopeful_42 a44 (by rw [nI_mul, nI_add]) (by omega) (by decide) ?_
          refine sx_iinc (nI (s + 1)) dX6_findHopeful_43 rfl (nI_inc _) ?_
          refine sw_goto (tgt := 6) dX6_findHopeful_46 (by decide) ?_
          refine ih (s + 1) (by omega) (by omega) _ (fr_J hf (by omega)) (fun j hj => ?_)
          by_cases e : j = s
          · subst e
            rw [setJ_at, updL_same]
            first
              | (have hs' : j = kN K := nI_inj (by omega) (by omega) h29
                 rw [(hf 42 (by omega)).2]
                 exact celH_congr (sn 199 (by omega)) (fun rm a _ _ => ⟨fun q => ⟨q, hs'⟩, fun q => q.1⟩))
              | exact celH_0 (fun rm a q => h29 (congrArg nI q.2))
          · rw [setJ_at, updL_ne _ _ (by omega)]
            exact hp j (by omega)
  refine sx_sipush (v := nI 199) dX6_findHopeful_0 (by decide) ?_
  refine sw_istoren dX6_findHopeful_3 (Nat.le_of_ble_eq_true rfl) ?_
  refine sx_iconst (v := nI 0) dX6_findHopeful_4 (by decide) ?_
  refine sw_istoren dX6_findHopeful_5 (Nat.le_of_ble_eq_true rfl) ?_
  exact first (kN K + 1) 0 (by omega) (by omega) σ fr_rf (fun j hj => absurd hj (by omega))
theorem c_startOutside {f : Mem → Prop} {K : WK} (h12 : kN K ≤ 12) (h : ∀ τ, fr 45 45 σ τ → rowH K (τ.2 45) 0 (fun j rm a => j = 0 ∧ rm = 0 ∧ a = 0) → f τ) : SW G (d + 1) M_X6_startOutside 0 [some (.ref 35)] [] σ (RV f) := by
  refine sw_aloadn dX6_startOutside_0 rfl ?_
  refine sw_getR dX6_startOutside_1 fs_X6_44 o35 r35_13 ?_
  refine sx_lconst (v := 0) dX6_startOutside_4 (by decide) ?_
  refine sx_insV2 dX6_startOutside_5 mk_J7_fill_d0a16 sk_J7_fill_d0a16 lk_X6_84 (Nat.le_of_ble_eq_true rfl) (Nat.le_of_ble_eq_true rfl) ?_
  refine c_fillJ a45 (by decide) ?_
  refine sw_aloadn dX6_startOutside_8 rfl ?_
  refine sw_getR dX6_startOutside_9 fs_X6_44 o35 r35_13 ?_
  refine sx_iconst (v := nI 0) dX6_startOutside_12 (by decide) ?_
  refine sx_lconst (v := 1) dX6_startOutside_13 (by decide) ?_
  refine sx_last (0) dX6_startOutside_14 a45 (rfl) (by omega) (by decide) ?_
  refine sx_ret0 dX6_startOutside_15 rfl ?_
  refine h _ (fr_J (fr_B fr_rf (by omega)) (by omega)) (fun j hj => ?_)
  rw [setJ_at, Nat.zero_add]
  by_cases e : j = 0
  · subst e
    rw [updL_same]
    refine ⟨fun rm a hr ha => ?_, fun i hi => by rw [mb_one, decide_eq_false (by omega)]⟩
    rw [pb, mb_one, decide_eq_true_iff]
    omega
  · rw [updL_ne _ _ e, setB_at, filJ, if_pos (by omega)]
    exact celH_0 (H := fun rm a => j = 0 ∧ rm = 0 ∧ a = 0) (fun rm a q => e q.1)
/-- what R becomes in tick t -/
def nxt (P : PL) (K : WK) (t : Nat) (R : Nat → Nat → Nat → Prop) (j' rm' a' : Nat) : Prop := kS K t rm' ∧ ∃ j rm a, R j rm a ∧ stp P K t j rm a j' rm' a'
theorem pb_dn {x : Int64} (hx : ∀ i, 40 ≤ i → mb x i = false) {rm a : Nat} (hr : rm < 8) (ha : a ≤ 4) : pb ((x.toUInt64 >>> ((nI 8).toInt64.toUInt64 &&& Int64.toUInt64 63)).toInt64 ||| (x &&& 255)) rm a = true ↔ ∃ b, b ≤ 4 ∧ pb x rm b = true ∧ a = b - 1 := by
  unfold pb
  rw [mb_or, mb_ushr x (by omega), mb_and, mb_255, Bool.or_eq_true, Bool.and_eq_true, decide_eq_true_iff]
  constructor
  · rintro (q | ⟨q, q2⟩)
    · by_cases e : a = 4
      · subst e
        rw [hx _ (by omega)] at q
        cases q
      · exact ⟨a + 1, by omega, by rw [show 8 * (a + 1) + rm = 8 + (8 * a + rm) by omega]; exact q, by omega⟩
    · have : a = 0 := by omega
      subst this
      exact ⟨0, by omega, q, by omega⟩
  · rintro ⟨b, hb, q, rfl⟩
    by_cases e : b = 0
    · subst e
      exact Or.inr ⟨q, by omega⟩
    · refine Or.inl ?_
      rw [show 8 + (8 * (b - 1) + rm) = 8 * b + rm by omega]
      exact q
theorem dn_out {x : Int64} (hx : ∀ i, 40 ≤ i → mb x i = false) {i : Nat} (hi : 40 ≤ i) : mb ((x.toUInt64 >>> ((nI 8).toInt64.toUInt64 &&& Int64.toUInt64 63)).toInt64 ||| (x &&& 255)) i = false := by
  rw [mb_or, mb_ushr x (by omega), mb_and, hx _ (by omega), hx _ (by omega)]
  rfl
theorem c_goOn {f : Mem → Prop} {P : PL} {K : WK} {t : Nat} {R : Nat → Nat → Nat → Prop} (hW : WT σ P K) (ht : t < 200) (hR : rowH K (σ.2 45) 0 R) (hB : ∀ j rm a, R j rm a → j ≤ kN K ∧ rm < 8 ∧ a ≤ 4) (h : ∀ τ, fr 45 45 σ τ → rowH K (τ.2 45) 0 (nxt P K t R) → f τ) : SW G (d + 1) M_X6_goOn 0 [some (.ref 35), some (.int (nI t)), none, none, none, none, none] [] σ (RV f) := by
  have hV := hW.2.1
  have hK := hW.2.2.1
  have h12 := hK.1
  have h8 := hV.1
  have wt : ∀ τ, fr 45 45 σ τ → WT τ P K := fun τ hf => WT_fr hf (by omega) hW
  have loop : ∀ k, k ≤ kN K + 1 → ∀ τ, fr 45 45 σ τ → (∀ j, j < k → τ.2 45 j = σ.2 45 j) → (∀ j, k ≤ j → j ≤ kN K → celH (τ.2 45 j) (nxt P K t R j)) → ∀ o3 o5, SW G (d + 1) M_X6_goOn 5 [some (.ref 35), some (.int (nI t)), some (.int (nI k - nI 1)), o3, none, o5, none] [] τ (RV f) := by
    intro k
    induction k with
    | zero =>
      intro _ τ hf _ hn o3 o5
      refine sw_iloadn dX6_goOn_5 rfl ?_
      refine sw_if_lt (tgt := 140) dX6_goOn_6 (by decide) (fun h6 => ?_) (fun h6 => ?_)
      · skip
        refine sx_ret0 dX6_goOn_140 rfl ?_
        exact h τ hf (fun j hj => by rw [Nat.zero_add]; exact hn j (by omega) hj)
      · exact absurd ((by decide)) h6
    | succ k ih =>
      intro hk τ hf ho hn o3 o5
      rw [show nI (k + 1) - nI 1 = nI k from nI_pred k]
      have wτ := wt τ hf
      have hx : τ.2 45 k = σ.2 45 k := ho k (by omega)
      obtain ⟨hR1, hR2⟩ := hR k (by omega)
      rw [Nat.zero_add, ← hx] at hR1 hR2
      obtain ⟨o, hol, ho1, ho2⟩ := wτ.2.2.2.2.2.2.2.1 t ht
      have hE := wτ.2.2.2.2.2.2.2.2.2
      have hSn := wτ.2.2.2.2.2.2.2.2.1 t ht
      have ih := ih (by omega)
      have fin : ∀ (x z : Int64), celH z (fun rm' a' => ∃ j rm a, R j rm a ∧ stp P K t j rm a k rm' a') → SW G (d + 1) M_X6_goOn 119 [some (.ref 35), some (.int (nI t)), some (.int (nI k)), some (.long x), none, some (.long z), none] [] τ (RV f) := by
        intro x z hz
        refine sw_aloadn dX6_goOn_119 rfl ?_
        refine sw_getR dX6_goOn_120 fs_X6_44 o35 r35_13 ?_
        refine sw_iloadn dX6_goOn_123 rfl ?_
        refine sw_lload dX6_goOn_124 rfl ?_
        refine sw_aloadn dX6_goOn_126 rfl ?_
        refine sw_getR dX6_goOn_127 fs_X6_34 o35 r35_10 ?_
        refine sw_iloadn dX6_goOn_130 rfl ?_
        refine sx_lald (t) dX6_goOn_131 a42 (rfl) (by omega) (by decide) ?_
        refine sw_land dX6_goOn_132 ?_
        refine sx_last (k) dX6_goOn_133 a45 (rfl) (by omega) (by decide) ?_
        refine sx_iinc (nI k - nI 1) dX6_goOn_134 rfl (dec1 _) ?_
        refine sw_goto (tgt := 5) dX6_goOn_137 (by decide) ?_
        refine ih _ (fr_J hf (by omega)) (fun j hj => ?_) (fun j h1 h2 => ?_) _ _
        · rw [setJ_at, updL_ne _ _ (by omega)]
          exact ho j (by omega)
        · by_cases e : j = k
          · subst e
            rw [setJ_at, updL_same]
            exact celH_congr (celH_and hz hSn) (fun rm a _ _ => and_comm)
          · rw [setJ_at, updL_ne _ _ e]
            exact hn j (by omega) h2
      have snd : ∀ (x z : Int64), celH z (fun rm' a' => (∃ a, R k rm' a ∧ a' = a - 1) ∨ (a' = pW P rm' ∧ ∃ rm, fre P K t rm rm' ∧ R k rm 0)) → SW G (d + 1) M_X6_goOn 62 [some (.ref 35), some (.int (nI t)), some (.int (nI k)), some (.long x), none, some (.long z), none] [] τ (RV f) := by
        intro x z hz
        have no : (∀ i, k = i + 1 → ¬ (kT K i t ∧ R i (kL K i) 0)) → celH z (fun rm' a' => ∃ j rm a, R j rm a ∧ stp P K t j rm a k rm' a') := by
          intro hno
          refine celH_congr hz (fun rm' a' _ _ => ⟨?_, ?_⟩)
          · rintro (⟨a, q, rfl⟩ | ⟨rfl, rm, q1, q2⟩)
            · exact ⟨k, rm', a, q, Or.inl ⟨rfl, rfl, rfl⟩⟩
            · exact ⟨k, rm, 0, q2, Or.inr (Or.inl ⟨rfl, rfl, rfl, q1⟩)⟩
          · rintro ⟨j, rm, a, q, ⟨rfl, rfl, rfl⟩ | ⟨rfl, rfl, rfl, q1⟩ | ⟨rfl, rfl, q1, q2, q3, q4, q5⟩⟩
            · exact Or.inl ⟨a, q, rfl⟩
            · exact Or.inr ⟨rfl, rm, q1, q⟩
            · exact absurd ⟨q3, by rw [q4]; exact q⟩ (hno j q2)
        refine sw_iloadn dX6_goOn_62 rfl ?_
        refine sw_if_le (tgt := 119) dX6_goOn_63 (by decide) (fun h63 => ?_) (fun h63 => ?_)
        · skip
          first
            | (have hr := (hQ1 (kL K i) 0 (by omega) (by omega)).mp (by rw [pb0]; exact mm.mp h97)
               refine fin _ _ ⟨fun rm' a' hr' ha' => ?_, fun i' hi' => ?_⟩
               · unfold pb
                 rw [ent_or_iff (hE _ hc) (by omega) (hz.1 rm' a' hr' ha')]
                 constructor
                 · rintro ((⟨a, q, rfl⟩ | ⟨rfl, rm, q1, q2⟩) | q)
                   · exact ⟨_, rm', a, q, Or.inl ⟨rfl, rfl, rfl⟩⟩
                   · exact ⟨_, rm, 0, q2, Or.inr (Or.inl ⟨rfl, rfl, rfl, q1⟩)⟩
                   · have e1 : rm' = kC K i := by omega
                     have e2 : a' = pW P rm' := by rw [e1]; omega
                     exact ⟨i, kL K i, 0, hr, Or.inr (Or.inr ⟨rfl, e2, hin, rfl, h71, rfl, e1.symm⟩)⟩
                 · rintro ⟨j, rm, a, q, ⟨rfl, rfl, rfl⟩ | ⟨rfl, rfl, rfl, q1⟩ | ⟨rfl, rfl, q1, q2, q3, q4, q5⟩⟩
                   · exact Or.inl (Or.inl ⟨a, q, rfl⟩)
                   · exact Or.inl (Or.inr ⟨rfl, rm, q1, q⟩)
                   · have e1 : j = i := by omega
                     subst e1
                     exact Or.inr (by rw [q5])
               · by_cases h64 : i' < 64
                 · rw [mb_or, hz.2 i' hi', hE _ hc i' h64, decide_eq_false (by omega)]; rfl
                 · exact mb_out _ (by omega))
            | exact fin _ _ (no (fun i' e q => by
                obtain rfl : i = i' := by omega
                exact absurd (mm.mpr (by rw [← pb0]; exact (hQ1 _ 0 (by omega) (by omega)).mpr q.2)) (fun z => z h97)))
            | exact fin _ _ (no (fun i' e q => by
                obtain rfl : i = i' := by omega
                exact h71 q.1))
            | exact fin _ _ (no (fun i' e q => absurd h63 (by rw [e]; exact nI_nle (by omega) (by omega))))
        · skip
          obtain ⟨i, rfl⟩ : ∃ i, k = i + 1 := ⟨k - 1, by
            rcases Nat.eq_zero_or_pos k with e | e
            · subst e; exact absurd (by decide) h63
            · omega⟩
          have hin : i < kN K := by omega
          obtain ⟨hl, hc⟩ := hK.2 i hin
          have hw := hV.2.2.1 _ hc
          have hy : τ.2 45 i = σ.2 45 i := ho i (by omega)
          obtain ⟨hQ1, hQ2⟩ := hR i (by omega)
          rw [Nat.zero_add, ← hy] at hQ1 hQ2
          have mm := mb_ask (τ.2 45 i) (show kL K i < 64 by omega)
          refine sw_aloadn dX6_goOn_66 rfl ?_
          refine sw_iloadn dX6_goOn_67 rfl ?_
          refine sx_iconst (v := nI 1) dX6_goOn_68 (by decide) ?_
          refine sw_isub dX6_goOn_69 ?_
          refine sw_topI (y := nI i) (nI_pred i) ?_
          refine sw_iloadn dX6_goOn_70 rfl ?_
          refine sx_invI2 dX6_goOn_71 mk_X6_isInTime vk_X6_isInTime lk_X6_151 o35 (Nat.le_of_ble_eq_true rfl) (Nat.le_of_ble_eq_true rfl) ?_
          refine c_isInTime wτ hin ht (fun h71 => ?_) (fun h71 => ?_)
          · skip
            refine sw_if_eq (tgt := 119) dX6_goOn_74 (by decide) (fun h74 => ?_) (fun h74 => ?_)
            · exact absurd h74 (by decide)
            · skip
              refine sw_aloadn dX6_goOn_77 rfl ?_
              refine sw_getR dX6_goOn_78 fs_X6_44 o35 r35_13 ?_
              refine sw_iloadn dX6_goOn_81 rfl ?_
              refine sx_iconst (v := nI 1) dX6_goOn_82 (by decide) ?_
              refine sw_isub dX6_goOn_83 ?_
              refine sw_topI (y := nI i) (nI_pred i) ?_
              refine sx_lald (i) dX6_goOn_84 a45 (rfl) (by omega) (by decide) ?_
              refine sw_aloadn dX6_goOn_85 rfl ?_
              refine sw_getR dX6_goOn_86 fs_X6_15 o35 r35_4 ?_
              refine sw_iloadn dX6_goOn_89 rfl ?_
              refine sx_iconst (v := nI 1) dX6_goOn_90 (by decide) ?_
              refine sw_isub dX6_goOn_91 ?_
              refine sw_topI (y := nI i) (nI_pred i) ?_
              refine sx_iald (i) dX6_goOn_92 a37 (rfl) (by omega) (by decide) ?_
              rw [wτ.2.2.2.2.1 i hin]
              refine sw_lushr dX6_goOn_93 ?_
              refine sx_lconst (v := 1) dX6_goOn_94 (by decide) ?_
              refine sw_land dX6_goOn_95 ?_
              refine sx_lconst (v := 0) dX6_goOn_96 (by decide) ?_
              refine sw_lc_eq (tgt := 119) dX6_goOn_97 dX6_goOn_98 (by decide) (fun h97 => ?_) (fun h97 => ?_)
              · skip
                first
                  | (have hr := (hQ1 (kL K i) 0 (by omega) (by omega)).mp (by rw [pb0]; exact mm.mp h97)
                     refine fin _ _ ⟨fun rm' a' hr' ha' => ?_, fun i' hi' => ?_⟩
                     · unfold pb
                       rw [ent_or_iff (hE _ hc) (by omega) (hz.1 rm' a' hr' ha')]
                       constructor
                       · rintro ((⟨a, q, rfl⟩ | ⟨rfl, rm, q1, q2⟩) | q)
                         · exact ⟨_, rm', a, q, Or.inl ⟨rfl, rfl, rfl⟩⟩
                         · exact ⟨_, rm, 0, q2, Or.inr (Or.inl ⟨rfl, rfl, rfl, q1⟩)⟩
                         · have e1 : rm' = kC K i := by omega
                           have e2 : a' = pW P rm' := by rw [e1]; omega
                           exact ⟨i, kL K i, 0, hr, Or.inr (Or.inr ⟨rfl, e2, hin, rfl, h71, rfl, e1.symm⟩)⟩
                       · rintro ⟨j, rm, a, q, ⟨rfl, rfl, rfl⟩ | ⟨rfl, rfl, rfl, q1⟩ | ⟨rfl, rfl, q1, q2, q3, q4, q5⟩⟩
                         · exact Or.inl (Or.inl ⟨a, q, rfl⟩)
                         · exact Or.inl (Or.inr ⟨rfl, rm, q1, q⟩)
                         · have e1 : j = i := by omega
                           subst e1
                           exact Or.inr (by rw [q5])
                     · by_cases h64 : i' < 64
                       · rw [mb_or, hz.2 i' hi', hE _ hc i' h64, decide_eq_false (by omega)]; rfl
                       · exact mb_out _ (by omega))
                  | exact fin _ _ (no (fun i' e q => by
                      obtain rfl : i = i' := by omega
                      exact absurd (mm.mpr (by rw [← pb0]; exact (hQ1 _ 0 (by omega) (by omega)).mpr q.2)) (fun z => z h97)))
                  | exact fin _ _ (no (fun i' e q => by
                      obtain rfl : i = i' := by omega
                      exact h71 q.1))
                  | exact fin _ _ (no (fun i' e q => absurd h63 (by rw [e]; exact nI_nle (by omega) (by omega))))
              · skip
                refine sw_lload dX6_goOn_101 rfl ?_
                refine sw_aloadn dX6_goOn_103 rfl ?_
                refine sw_getR dX6_goOn_104 fs_X6_38 o35 r35_11 ?_
                refine sw_aloadn dX6_goOn_107 rfl ?_
                refine sw_getR dX6_goOn_108 fs_X6_18 o35 r35_5 ?_
                refine sw_iloadn dX6_goOn_111 rfl ?_
                refine sx_iconst (v := nI 1) dX6_goOn_112 (by decide) ?_
                refine sw_isub dX6_goOn_113 ?_
                refine sw_topI (y := nI i) (nI_pred i) ?_
                refine sx_iald (i) dX6_goOn_114 a38 (rfl) (by omega) (by decide) ?_
                rw [wτ.2.2.2.2.2.1 i hin]
                refine sx_lald (kC K i) dX6_goOn_115 a43 (rfl) (by omega) (by decide) ?_
                refine sw_lor dX6_goOn_116 ?_
                refine sw_lstore dX6_goOn_117 (Nat.le_of_ble_eq_true rfl) ?_
                first
                  | (have hr := (hQ1 (kL K i) 0 (by omega) (by omega)).mp (by rw [pb0]; exact mm.mp h97)
                     refine fin _ _ ⟨fun rm' a' hr' ha' => ?_, fun i' hi' => ?_⟩
                     · unfold pb
                       rw [ent_or_iff (hE _ hc) (by omega) (hz.1 rm' a' hr' ha')]
                       constructor
                       · rintro ((⟨a, q, rfl⟩ | ⟨rfl, rm, q1, q2⟩) | q)
                         · exact ⟨_, rm', a, q, Or.inl ⟨rfl, rfl, rfl⟩⟩
                         · exact ⟨_, rm, 0, q2, Or.inr (Or.inl ⟨rfl, rfl, rfl, q1⟩)⟩
                         · have e1 : rm' = kC K i := by omega
                           have e2 : a' = pW P rm' := by rw [e1]; omega
                           exact ⟨i, kL K i, 0, hr, Or.inr (Or.inr ⟨rfl, e2, hin, rfl, h71, rfl, e1.symm⟩)⟩
                       · rintro ⟨j, rm, a, q, ⟨rfl, rfl, rfl⟩ | ⟨rfl, rfl, rfl, q1⟩ | ⟨rfl, rfl, q1, q2, q3, q4, q5⟩⟩
                         · exact Or.inl (Or.inl ⟨a, q, rfl⟩)
                         · exact Or.inl (Or.inr ⟨rfl, rm, q1, q⟩)
                         · have e1 : j = i := by omega
                           subst e1
                           exact Or.inr (by rw [q5])
                     · by_cases h64 : i' < 64
                       · rw [mb_or, hz.2 i' hi', hE _ hc i' h64, decide_eq_false (by omega)]; rfl
                       · exact mb_out _ (by omega))
                  | exact fin _ _ (no (fun i' e q => by
                      obtain rfl : i = i' := by omega
                      exact absurd (mm.mpr (by rw [← pb0]; exact (hQ1 _ 0 (by omega) (by omega)).mpr q.2)) (fun z => z h97)))
                  | exact fin _ _ (no (fun i' e q => by
                      obtain rfl : i = i' := by omega
                      exact h71 q.1))
                  | exact fin _ _ (no (fun i' e q => absurd h63 (by rw [e]; exact nI_nle (by omega) (by omega))))
          · skip
            refine sw_if_eq (tgt := 119) dX6_goOn_74 (by decide) (fun h74 => ?_) (fun h74 => ?_)
            · skip
              first
                | (have hr := (hQ1 (kL K i) 0 (by omega) (by omega)).mp (by rw [pb0]; exact mm.mp h97)
                   refine fin _ _ ⟨fun rm' a' hr' ha' => ?_, fun i' hi' => ?_⟩
                   · unfold pb
                     rw [ent_or_iff (hE _ hc) (by omega) (hz.1 rm' a' hr' ha')]
                     constructor
                     · rintro ((⟨a, q, rfl⟩ | ⟨rfl, rm, q1, q2⟩) | q)
                       · exact ⟨_, rm', a, q, Or.inl ⟨rfl, rfl, rfl⟩⟩
                       · exact ⟨_, rm, 0, q2, Or.inr (Or.inl ⟨rfl, rfl, rfl, q1⟩)⟩
                       · have e1 : rm' = kC K i := by omega
                         have e2 : a' = pW P rm' := by rw [e1]; omega
                         exact ⟨i, kL K i, 0, hr, Or.inr (Or.inr ⟨rfl, e2, hin, rfl, h71, rfl, e1.symm⟩)⟩
                     · rintro ⟨j, rm, a, q, ⟨rfl, rfl, rfl⟩ | ⟨rfl, rfl, rfl, q1⟩ | ⟨rfl, rfl, q1, q2, q3, q4, q5⟩⟩
                       · exact Or.inl (Or.inl ⟨a, q, rfl⟩)
                       · exact Or.inl (Or.inr ⟨rfl, rm, q1, q⟩)
                       · have e1 : j = i := by omega
                         subst e1
                         exact Or.inr (by rw [q5])
                   · by_cases h64 : i' < 64
                     · rw [mb_or, hz.2 i' hi', hE _ hc i' h64, decide_eq_false (by omega)]; rfl
                     · exact mb_out _ (by omega))
                | exact fin _ _ (no (fun i' e q => by
                    obtain rfl : i = i' := by omega
                    exact absurd (mm.mpr (by rw [← pb0]; exact (hQ1 _ 0 (by omega) (by omega)).mpr q.2)) (fun z => z h97)))
                | exact fin _ _ (no (fun i' e q => by
                    obtain rfl : i = i' := by omega
                    exact h71 q.1))
                | exact fin _ _ (no (fun i' e q => absurd h63 (by rw [e]; exact nI_nle (by omega) (by omega))))
            · exact absurd h74 (by decide)
      refine sw_iloadn dX6_goOn_5 rfl ?_
      refine sw_if_lt (tgt := 140) dX6_goOn_6 (by decide) (fun h6 => ?_) (fun h6 => ?_)
      · exact absurd h6 ((nI_pos (by omega)))
      · skip
        refine sw_aloadn dX6_goOn_9 rfl ?_
        refine sw_getR dX6_goOn_10 fs_X6_44 o35 r35_13 ?_
        refine sw_iloadn dX6_goOn_13 rfl ?_
        refine sx_lald (k) dX6_goOn_14 a45 (rfl) (by omega) (by decide) ?_
        refine sw_lstoren dX6_goOn_15 (Nat.le_of_ble_eq_true rfl) ?_
        refine sx_lconst (v := 0) dX6_goOn_16 (by decide) ?_
        refine sw_lstore dX6_goOn_17 (Nat.le_of_ble_eq_true rfl) ?_
        refine sw_lloadn dX6_goOn_19 rfl ?_
        refine sx_lconst (v := 0) dX6_goOn_20 (by decide) ?_
        refine sw_lc_eq (tgt := 62) dX6_goOn_21 dX6_goOn_22 (by decide) (fun h21 => ?_) (fun h21 => ?_)
        · skip
          first
            | (refine snd _ _ ⟨fun rm' a' hr' ha' => ?_, fun i' hi' => ?_⟩
               · unfold pb
                 rw [mb_or, Bool.or_eq_true, hz _ (by omega)]
                 have hd := pb_dn hR2 hr' ha'
                 unfold pb at hd
                 rw [hd]
                 refine or_congr ⟨?_, ?_⟩ ⟨?_, ?_⟩
                 · rintro ⟨b, hb, q, e⟩
                   exact ⟨b, (hR1 _ _ hr' hb).mp q, e⟩
                 · rintro ⟨b, q, e⟩
                   have := hB _ _ _ q
                   exact ⟨b, this.2.2, (hR1 _ _ hr' this.2.2).mpr q, e⟩
                 · rintro ⟨rm, rm2, q1, q2, q3⟩
                   have l1 := fre_lt hV q1
                   have hw := hV.2.2.1 _ l1.2
                   have e1 : rm2 = rm' := by omega
                   subst e1
                   exact ⟨by omega, rm, q1, (hR1 _ 0 (by omega) (by omega)).mp (by rw [pb0]; exact q2)⟩
                 · rintro ⟨rfl, rm, q1, q2⟩
                   have l1 := fre_lt hV q1
                   exact ⟨rm, rm', q1, by rw [← pb0]; exact (hR1 _ 0 (by omega) (by omega)).mpr q2, rfl⟩
               · rw [mb_or, dn_out hR2 hi', Bool.false_or]
                 by_cases h64 : i' < 64
                 · rw [Bool.eq_false_iff]
                   intro q
                   obtain ⟨rm, rm2, q1, q2, q3⟩ := (hz i' h64).mp q
                   have l1 := fre_lt hV q1
                   have hw := hV.2.2.1 _ l1.2
                   omega
                 · exact mb_out _ (by omega))
            | (have h43 : nI o = 0 := h43
               have o0 : o = 0 := nI_z (by omega) h43
               refine snd _ _ ⟨fun rm' a' hr' ha' => ?_, fun i' hi' => dn_out hR2 hi'⟩
               rw [pb_dn hR2 hr' ha']
               constructor
               · rintro ⟨b, hb, q, e⟩
                 exact Or.inl ⟨b, (hR1 _ _ hr' hb).mp q, e⟩
               · rintro (⟨b, q, e⟩ | ⟨_, rm, ⟨dd, b1, b2, _⟩, _⟩)
                 · have := hB _ _ _ q
                   exact ⟨b, this.2.2, (hR1 _ _ hr' this.2.2).mpr q, e⟩
                 · have hD := hV.2.1
                   have := (ho2 dd (by omega)).mpr b2
                   rw [o0, Nat.zero_testBit] at this
                   cases this)
            | (have hx0 : ∀ rm a, ¬ R k rm a := fun rm a q => by
                 have hb := hB _ _ _ q
                 have := (hR1 rm a hb.2.1 hb.2.2).mpr q
                 rw [show τ.2 45 k = 0 from h21, pb, mb_0] at this
                 cases this
               exact snd _ _ (celH_0 (fun rm a q => q.elim (fun ⟨b, q, _⟩ => hx0 _ _ q) (fun ⟨_, rm, _, q⟩ => hx0 _ _ q))))
        · skip
          refine sw_lloadn dX6_goOn_25 rfl ?_
          refine sx_bipush (v := nI 8) dX6_goOn_26 (by decide) ?_
          refine sw_lushr dX6_goOn_28 ?_
          refine sw_lloadn dX6_goOn_29 rfl ?_
          refine sw_ldc2 dX6_goOn_30 kl_X6_145 ?_
          refine sw_land dX6_goOn_33 ?_
          refine sw_lor dX6_goOn_34 ?_
          refine sw_lstore dX6_goOn_35 (Nat.le_of_ble_eq_true rfl) ?_
          refine sw_aloadn dX6_goOn_37 rfl ?_
          refine sw_getR dX6_goOn_38 fs_X6_31 o35 r35_9 ?_
          refine sw_iloadn dX6_goOn_41 rfl ?_
          refine sx_iald (t) dX6_goOn_42 a41 (rfl) (by omega) (by decide) ?_
          rw [ho1]
          refine sw_if_eq (tgt := 62) dX6_goOn_43 (by decide) (fun h43 => ?_) (fun h43 => ?_)
          · skip
            first
              | (refine snd _ _ ⟨fun rm' a' hr' ha' => ?_, fun i' hi' => ?_⟩
                 · unfold pb
                   rw [mb_or, Bool.or_eq_true, hz _ (by omega)]
                   have hd := pb_dn hR2 hr' ha'
                   unfold pb at hd
                   rw [hd]
                   refine or_congr ⟨?_, ?_⟩ ⟨?_, ?_⟩
                   · rintro ⟨b, hb, q, e⟩
                     exact ⟨b, (hR1 _ _ hr' hb).mp q, e⟩
                   · rintro ⟨b, q, e⟩
                     have := hB _ _ _ q
                     exact ⟨b, this.2.2, (hR1 _ _ hr' this.2.2).mpr q, e⟩
                   · rintro ⟨rm, rm2, q1, q2, q3⟩
                     have l1 := fre_lt hV q1
                     have hw := hV.2.2.1 _ l1.2
                     have e1 : rm2 = rm' := by omega
                     subst e1
                     exact ⟨by omega, rm, q1, (hR1 _ 0 (by omega) (by omega)).mp (by rw [pb0]; exact q2)⟩
                   · rintro ⟨rfl, rm, q1, q2⟩
                     have l1 := fre_lt hV q1
                     exact ⟨rm, rm', q1, by rw [← pb0]; exact (hR1 _ 0 (by omega) (by omega)).mpr q2, rfl⟩
                 · rw [mb_or, dn_out hR2 hi', Bool.false_or]
                   by_cases h64 : i' < 64
                   · rw [Bool.eq_false_iff]
                     intro q
                     obtain ⟨rm, rm2, q1, q2, q3⟩ := (hz i' h64).mp q
                     have l1 := fre_lt hV q1
                     have hw := hV.2.2.1 _ l1.2
                     omega
                   · exact mb_out _ (by omega))
              | (have h43 : nI o = 0 := h43
                 have o0 : o = 0 := nI_z (by omega) h43
                 refine snd _ _ ⟨fun rm' a' hr' ha' => ?_, fun i' hi' => dn_out hR2 hi'⟩
                 rw [pb_dn hR2 hr' ha']
                 constructor
                 · rintro ⟨b, hb, q, e⟩
                   exact Or.inl ⟨b, (hR1 _ _ hr' hb).mp q, e⟩
                 · rintro (⟨b, q, e⟩ | ⟨_, rm, ⟨dd, b1, b2, _⟩, _⟩)
                   · have := hB _ _ _ q
                     exact ⟨b, this.2.2, (hR1 _ _ hr' this.2.2).mpr q, e⟩
                   · have hD := hV.2.1
                     have := (ho2 dd (by omega)).mpr b2
                     rw [o0, Nat.zero_testBit] at this
                     cases this)
              | (have hx0 : ∀ rm a, ¬ R k rm a := fun rm a q => by
                   have hb := hB _ _ _ q
                   have := (hR1 rm a hb.2.1 hb.2.2).mpr q
                   rw [show τ.2 45 k = 0 from h21, pb, mb_0] at this
                   cases this
                 exact snd _ _ (celH_0 (fun rm a q => q.elim (fun ⟨b, q, _⟩ => hx0 _ _ q) (fun ⟨_, rm, _, q⟩ => hx0 _ _ q))))
          · skip
            refine sw_lload dX6_goOn_46 rfl ?_
            refine sw_aloadn dX6_goOn_48 rfl ?_
            refine sw_lloadn dX6_goOn_49 rfl ?_
            refine sw_aloadn dX6_goOn_50 rfl ?_
            refine sw_getR dX6_goOn_51 fs_X6_31 o35 r35_9 ?_
            refine sw_iloadn dX6_goOn_54 rfl ?_
            refine sx_iald (t) dX6_goOn_55 a41 (rfl) (by omega) (by decide) ?_
            rw [ho1]
            refine sx_invJ2 dX6_goOn_56 mk_X6_freeOutOf vk_X6_freeOutOf lk_X6_163 o35 (Nat.le_of_ble_eq_true rfl) (Nat.le_of_ble_eq_true rfl) ?_
            refine c_freeOutOf wτ hol ho2 (fun z hz => ?_)
            refine sw_lor dX6_goOn_59 ?_
            refine sw_lstore dX6_goOn_60 (Nat.le_of_ble_eq_true rfl) ?_
            first
              | (refine snd _ _ ⟨fun rm' a' hr' ha' => ?_, fun i' hi' => ?_⟩
                 · unfold pb
                   rw [mb_or, Bool.or_eq_true, hz _ (by omega)]
                   have hd := pb_dn hR2 hr' ha'
                   unfold pb at hd
                   rw [hd]
                   refine or_congr ⟨?_, ?_⟩ ⟨?_, ?_⟩
                   · rintro ⟨b, hb, q, e⟩
                     exact ⟨b, (hR1 _ _ hr' hb).mp q, e⟩
                   · rintro ⟨b, q, e⟩
                     have := hB _ _ _ q
                     exact ⟨b, this.2.2, (hR1 _ _ hr' this.2.2).mpr q, e⟩
                   · rintro ⟨rm, rm2, q1, q2, q3⟩
                     have l1 := fre_lt hV q1
                     have hw := hV.2.2.1 _ l1.2
                     have e1 : rm2 = rm' := by omega
                     subst e1
                     exact ⟨by omega, rm, q1, (hR1 _ 0 (by omega) (by omega)).mp (by rw [pb0]; exact q2)⟩
                   · rintro ⟨rfl, rm, q1, q2⟩
                     have l1 := fre_lt hV q1
                     exact ⟨rm, rm', q1, by rw [← pb0]; exact (hR1 _ 0 (by omega) (by omega)).mpr q2, rfl⟩
                 · rw [mb_or, dn_out hR2 hi', Bool.false_or]
                   by_cases h64 : i' < 64
                   · rw [Bool.eq_false_iff]
                     intro q
                     obtain ⟨rm, rm2, q1, q2, q3⟩ := (hz i' h64).mp q
                     have l1 := fre_lt hV q1
                     have hw := hV.2.2.1 _ l1.2
                     omega
                   · exact mb_out _ (by omega))
              | (have h43 : nI o = 0 := h43
                 have o0 : o = 0 := nI_z (by omega) h43
                 refine snd _ _ ⟨fun rm' a' hr' ha' => ?_, fun i' hi' => dn_out hR2 hi'⟩
                 rw [pb_dn hR2 hr' ha']
                 constructor
                 · rintro ⟨b, hb, q, e⟩
                   exact Or.inl ⟨b, (hR1 _ _ hr' hb).mp q, e⟩
                 · rintro (⟨b, q, e⟩ | ⟨_, rm, ⟨dd, b1, b2, _⟩, _⟩)
                   · have := hB _ _ _ q
                     exact ⟨b, this.2.2, (hR1 _ _ hr' this.2.2).mpr q, e⟩
                   · have hD := hV.2.1
                     have := (ho2 dd (by omega)).mpr b2
                     rw [o0, Nat.zero_testBit] at this
                     cases this)
              | (have hx0 : ∀ rm a, ¬ R k rm a := fun rm a q => by
                   have hb := hB _ _ _ q
                   have := (hR1 rm a hb.2.1 hb.2.2).mpr q
                   rw [show τ.2 45 k = 0 from h21, pb, mb_0] at this
                   cases this
                 exact snd _ _ (celH_0 (fun rm a q => q.elim (fun ⟨b, q, _⟩ => hx0 _ _ q) (fun ⟨_, rm, _, q⟩ => hx0 _ _ q))))
  refine sw_aloadn dX6_goOn_0 rfl ?_
  refine sw_getI dX6_goOn_1 fs_X6_67 o35 ?_
  rw [hW.2.2.2.1]
  refine sw_istoren dX6_goOn_4 (Nat.le_of_ble_eq_true rfl) ?_
  have l0 := loop (kN K + 1) (Nat.le_refl _) σ fr_rf (fun j _ => rfl) (fun j h1 h2 => absurd h1 (by omega)) none none
  rw [show nI (kN K + 1) - nI 1 = nI (kN K) from nI_pred _] at l0
  exact l0
end WALKS2
