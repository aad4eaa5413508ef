/-! ===== the model: ages and waits; front and back ===== -/
theorem ast_stp {P : PL} {K : WK} {t j rm g j' rm' g' : Nat} (hw : pW P rm ≤ 4) (h : ast P K t j rm g j' rm' g') : stp P K t j rm (pW P rm - g) j' rm' (pW P rm' - g') := by
  rcases h with ⟨rfl, rfl, rfl⟩ | ⟨h1, rfl, rfl, h2⟩ | ⟨h1, rfl, h2, rfl, h3⟩
  · exact Or.inl ⟨rfl, rfl, by unfold ag; omega⟩
  · exact Or.inr (Or.inl ⟨by omega, by omega, rfl, h2⟩)
  · exact Or.inr (Or.inr ⟨by omega, by omega, h2, rfl, h3⟩)
theorem stp_ast {P : PL} {K : WK} {t j rm g j' rm' a' : Nat} (hw : pW P rm ≤ 4) (h : stp P K t j rm (pW P rm - g) j' rm' a') : ∃ g', g' < 6 ∧ ast P K t j rm g j' rm' g' ∧ a' = pW P rm' - g' := by
  rcases h with ⟨rfl, rfl, rfl⟩ | ⟨h1, rfl, rfl, h2⟩ | ⟨h1, rfl, h2, rfl, h3⟩
  · exact ⟨ag g, by unfold ag; omega, Or.inl ⟨rfl, rfl, rfl⟩, by unfold ag; omega⟩
  · exact ⟨0, by omega, Or.inr (Or.inl ⟨by omega, rfl, rfl, h2⟩), by omega⟩
  · exact ⟨0, by omega, Or.inr (Or.inr ⟨by omega, rfl, h2, rfl, h3⟩), by omega⟩
theorem ast_in {P : PL} (hV : PV P) {K : WK} (hK : KV P K) {t j rm g j' rm' g' : Nat} (hj : j ≤ kN K) (hr : rm < pR P) (h : ast P K t j rm g j' rm' g') : j' ≤ kN K ∧ rm' < pR P ∧ g' < 6 := by
  rcases h with ⟨rfl, rfl, rfl⟩ | ⟨h1, rfl, rfl, h2⟩ | ⟨h1, rfl, h2, rfl, -, -, rfl⟩
  · exact ⟨hj, hr, by unfold ag; omega⟩
  · exact ⟨hj, (fre_lt hV h2).2, by omega⟩
  · exact ⟨h2, (hK.2 j h2).2, by omega⟩
def arch (P : PL) (K : WK) : Nat → Nat → Nat → Nat → Prop
  | 0, j, rm, g => j = 0 ∧ rm = 0 ∧ g = 5
  | t + 1, j', rm', g' => kS K t rm' ∧ ∃ j rm g, j ≤ kN K ∧ g < 6 ∧ arch P K t j rm g ∧ ast P K t j rm g j' rm' g'
theorem arch_in {P : PL} (hV : PV P) {K : WK} (hK : KV P K) (hR : 0 < pR P) : ∀ (t j rm g : Nat), arch P K t j rm g → j ≤ kN K ∧ rm < pR P ∧ g < 6
  | 0, j, rm, g, h => by obtain ⟨rfl, rfl, rfl⟩ := h; exact ⟨Nat.zero_le _, hR, by omega⟩
  | t + 1, j', rm', g', h => by
    obtain ⟨-, j, rm, g, h1, h2, h3, h4⟩ := h
    exact ast_in hV hK h1 (arch_in hV hK hR t j rm g h3).2.1 h4
theorem arch_rch {P : PL} (hV : PV P) {K : WK} (hK : KV P K) (hR : 0 < pR P) : ∀ (t j rm a : Nat), rch P K t j rm a ↔ ∃ g, g < 6 ∧ arch P K t j rm g ∧ a = pW P rm - g
  | 0, j, rm, a => by
    have hw := hV.2.2.1 0 hR
    constructor
    · rintro ⟨rfl, rfl, rfl⟩; exact ⟨5, by omega, ⟨rfl, rfl, rfl⟩, by omega⟩
    · rintro ⟨g, h1, ⟨rfl, rfl, rfl⟩, rfl⟩; exact ⟨rfl, rfl, by omega⟩
  | t + 1, j', rm', a' => by
    have ih := arch_rch hV hK hR t
    constructor
    · rintro ⟨h0, j, rm, a, h1, h2⟩
      obtain ⟨g, g1, g2, rfl⟩ := (ih j rm a).mp h1
      obtain ⟨b1, b2, b3⟩ := arch_in hV hK hR _ _ _ _ g2
      obtain ⟨g', c1, c2, c3⟩ := stp_ast (hV.2.2.1 _ b2) h2
      exact ⟨g', c1, ⟨h0, j, rm, g, b1, g1, g2, c2⟩, c3⟩
    · rintro ⟨g', h0, ⟨h1, j, rm, g, h2, h3, h4, h5⟩, rfl⟩
      obtain ⟨b1, b2, b3⟩ := arch_in hV hK hR _ _ _ _ h4
      exact ⟨h1, j, rm, pW P rm - g, (ih _ _ _).mpr ⟨g, h3, h4, rfl⟩, ast_stp (hV.2.2.1 _ b2) h5⟩
/-- passes is written beside -/
def WP (τ : Mem) (P : PL) (K : WK) (nc n : Nat) (F : Nat → Nat) : Prop := WM τ P K nc n F ∧ τ.1 46 38 = nI (kN K)
theorem WP_fr {τ τ' : Mem} {P : PL} {K : WK} {nc n : Nat} {F : Nat → Nat} (hW : WP τ P K nc n F) (h : fr 71 74 τ τ') : WP τ' P K nc n F := ⟨WM_fr hW.1 (fun c h1 h2 => (h c (by omega)).1) (h 69 (by omega)).2, by rw [(h 46 (by omega)).1]; exact hW.2⟩
section MBACK
variable {G : GG} {d : Nat} {σ : Mem}
theorem m_begins {f : Mem → Prop} {n : Nat} (hn : n ≤ 12) (h : ∀ τ, fr 73 73 σ τ → (∀ j, j ≤ n → cel6 (τ.2 73 j) (fun rm g => j = 0 ∧ rm = 0 ∧ g = 5)) → f τ) : SW G d M_X8_begins 0 [some (.ref 46), some (.int (nI n)), none] [] σ (RV f) := by
  have loop : ∀ (q s : Nat), q = n + 1 - s → s ≤ n + 1 → ∀ τ, fr 73 73 σ τ → (∀ j', j' < s → τ.2 73 j' = 0) → SW G d M_X8_begins 2 [some (.ref 46), some (.int (nI n)), some (.int (nI s))] [] τ (RV f) := by
    intro q
    induction q with
    | zero =>
      intro s hq hs τ hf hA
      obtain rfl : s = n + 1 := by omega
      refine sw_iloadn dX8_begins_2 rfl ?_
      refine sw_iloadn dX8_begins_3 rfl ?_
      refine sw_icmp_gt (tgt := 20) dX8_begins_4 (by decide) (fun h4 => ?_) (fun h4 => ?_)
      · skip
        refine sw_aloadn dX8_begins_20 rfl ?_
        refine sw_getR dX8_begins_21 fs_X8_98 o46 r46_43 ?_
        refine sx_iconst (v := nI 0) dX8_begins_24 (by decide) ?_
        refine sw_ldc2 dX8_begins_25 kl_X8_253 ?_
        refine sx_last (0) dX8_begins_28 a73 (rfl) (by omega) (by decide) ?_
        refine sx_ret0 dX8_begins_29 rfl ?_
        refine h _ (fr_J hf (by omega)) (fun j hj => ?_)
        rw [setJ_at]
        by_cases e : j = 0
        · subst e
          rw [updL_same]
          have := cel6_sh (y := 32) (k := 0) (by omega) (fun i hi => by rw [mb_32, decide_eq_false (by omega)])
          refine cel6_congr (show cel6 32 _ from this) (fun rm g _ _ => ?_)
          rw [mb_32, decide_eq_true_iff]
          exact ⟨fun q => ⟨rfl, q.1, q.2⟩, fun q => ⟨q.2.1, q.2.2⟩⟩
        · rw [updL_ne _ _ e, hA j (by omega)]
          exact cel6_0 (fun rm g _ _ q => e q.1)
      · exact absurd ((nI_lt (by omega) (by omega))) h4
    | succ q ih =>
      intro s hq hs τ hf hA
      refine sw_iloadn dX8_begins_2 rfl ?_
      refine sw_iloadn dX8_begins_3 rfl ?_
      refine sw_icmp_gt (tgt := 20) dX8_begins_4 (by decide) (fun h4 => ?_) (fun h4 => ?_)
      · exact absurd h4 ((by rw [nI_lt' (by omega) (by omega)]; omega))
      · skip
        refine sw_aloadn dX8_begins_7 rfl ?_
        refine sw_getR dX8_begins_8 fs_X8_98 o46 r46_43 ?_
        refine sw_iloadn dX8_begins_11 rfl ?_
        refine sx_lconst (v := 0) dX8_begins_12 (by decide) ?_
        refine sx_last (s) dX8_begins_13 a73 (rfl) (by omega) (by decide) ?_
        refine sx_iinc (nI (s + 1)) dX8_begins_14 rfl (nI_inc _) ?_
        refine sw_goto (tgt := 2) dX8_begins_17 (by decide) ?_
        refine ih (s + 1) (by omega) (by omega) _ (fr_J hf (by omega)) (fun j' hj' => ?_)
        rw [setJ_at]
        by_cases e : j' = s
        · subst e; rw [updL_same]
        · rw [updL_ne _ _ e]; exact hA j' (by omega)
  refine sx_iconst (v := nI 0) dX8_begins_0 (by decide) ?_
  refine sw_istoren dX8_begins_1 (Nat.le_of_ble_eq_true rfl) ?_
  exact loop (n + 1) 0 (by omega) (by omega) σ fr_rf (fun j' hj' => absurd hj' (by omega))
theorem m_fillFront {f : Mem → Prop} {P : PL} {K : WK} {nc n : Nat} {F : Nat → Nat} (hW : WP σ P K nc n F) (hR : 0 < pR P) (h : ∀ τ, fr 71 74 σ τ → τ.2 72 = σ.2 72 → (∀ t, t ≤ 200 → ∀ j, j ≤ kN K → cel6 (τ.2 71 (13 * t + j)) (arch P K t j)) → f τ) : SW G (d + 2) M_X8_fillFront 0 [some (.ref 46), none, none] [] σ (RV f) := by
  have hV := hW.1.2.1
  have hK := hW.1.2.2.1
  have h12 := hK.1
  have inner : ∀ t, t ≤ 200 → (∀ τ o2, fr 71 74 σ τ → τ.2 72 = σ.2 72 → (∀ t', t' < t + 1 → ∀ j, j ≤ kN K → cel6 (τ.2 71 (13 * t' + j)) (arch P K t' j)) → (∀ j, j ≤ kN K → cel6 (τ.2 73 j) (arch P K t j)) → SW G (d + 2) M_X8_fillFront 65 [some (.ref 46), some (.int (nI t)), o2] [] τ (RV f)) → ∀ (q s : Nat), q = kN K + 1 - s → s ≤ kN K + 1 → ∀ τ, fr 71 74 σ τ → τ.2 72 = σ.2 72 → (∀ t', t' < t → ∀ j, j ≤ kN K → cel6 (τ.2 71 (13 * t' + j)) (arch P K t' j)) → (∀ j, j ≤ kN K → cel6 (τ.2 73 j) (arch P K t j)) → (∀ j, j < s → cel6 (τ.2 71 (13 * t + j)) (arch P K t j)) → SW G (d + 2) M_X8_fillFront 34 [some (.ref 46), some (.int (nI t)), some (.int (nI s))] [] τ (RV f) := by
    intro t ht hout q
    induction q with
    | zero =>
      intro s hq hs τ hf h72 hA hS hB
      obtain rfl : s = kN K + 1 := by omega
      refine sw_iloadn dX8_fillFront_34 rfl ?_
      refine sw_aloadn dX8_fillFront_35 rfl ?_
      refine sw_getI dX8_fillFront_36 fs_X8_235 o46 ?_
      rw [(WP_fr hW hf).2]
      refine sw_icmp_gt (tgt := 65) dX8_fillFront_39 (by decide) (fun h39 => ?_) (fun h39 => ?_)
      · skip
        refine hout τ _ hf h72 (fun t' ht' j hj => ?_) hS
        by_cases e : t' = t
        · subst e; exact hB j (by omega)
        · exact hA t' (by omega) j hj
      · exact absurd ((nI_lt (by omega) (by omega))) h39
    | succ q ih =>
      intro s hq hs τ hf h72 hA hS hB
      refine sw_iloadn dX8_fillFront_34 rfl ?_
      refine sw_aloadn dX8_fillFront_35 rfl ?_
      refine sw_getI dX8_fillFront_36 fs_X8_235 o46 ?_
      rw [(WP_fr hW hf).2]
      refine sw_icmp_gt (tgt := 65) dX8_fillFront_39 (by decide) (fun h39 => ?_) (fun h39 => ?_)
      · exact absurd h39 ((by rw [nI_lt' (by omega) (by omega)]; omega))
      · skip
        refine sw_aloadn dX8_fillFront_42 rfl ?_
        refine sw_getR dX8_fillFront_43 fs_X8_92 o46 r46_41 ?_
        refine sx_bipush (v := nI 13) dX8_fillFront_46 (by decide) ?_
        refine sw_iloadn dX8_fillFront_48 rfl ?_
        refine sw_imul dX8_fillFront_49 ?_
        refine sw_iloadn dX8_fillFront_50 rfl ?_
        refine sw_iadd dX8_fillFront_51 ?_
        refine sw_topI (y := nI (13 * t + s)) (by rw [nI_mul, nI_add]) ?_
        refine sw_aloadn dX8_fillFront_52 rfl ?_
        refine sw_getR dX8_fillFront_53 fs_X8_98 o46 r46_43 ?_
        refine sw_iloadn dX8_fillFront_56 rfl ?_
        refine sx_lald (s) dX8_fillFront_57 a73 (rfl) (by omega) (by decide) ?_
        refine sx_last (13 * t + s) dX8_fillFront_58 a71 (rfl) (by omega) (by decide) ?_
        refine sx_iinc (nI (s + 1)) dX8_fillFront_59 rfl (nI_inc _) ?_
        refine sw_goto (tgt := 34) dX8_fillFront_62 (by decide) ?_
        refine ih (s + 1) (by omega) (by omega) _ (fr_J hf (by omega)) (by rw [setJ_ne _ _ _ (by decide)]; exact h72) (fun t' ht' j hj => ?_) (fun j hj => by rw [setJ_ne _ _ _ (by decide)]; exact hS j hj) (fun j hj => ?_)
        · rw [setJ_at, updL_ne _ _ (by omega)]; exact hA t' ht' j hj
        · rw [setJ_at]
          by_cases e : j = s
          · subst e; rw [updL_same]; exact hS j (by omega)
          · rw [updL_ne _ _ (by omega)]; exact hB j (by omega)
  have outer : ∀ (q t : Nat), q = 201 - t → 0 < t → t ≤ 201 → ∀ τ o2, fr 71 74 σ τ → τ.2 72 = σ.2 72 → (∀ t', t' < t → ∀ j, j ≤ kN K → cel6 (τ.2 71 (13 * t' + j)) (arch P K t' j)) → (∀ j, j ≤ kN K → cel6 (τ.2 73 j) (arch P K (t - 1) j)) → SW G (d + 2) M_X8_fillFront 10 [some (.ref 46), some (.int (nI t)), o2] [] τ (RV f) := by
    intro q
    induction q with
    | zero =>
      intro t hq h0 ht τ o2 hf h72 hA hS
      obtain rfl : t = 201 := by omega
      refine sw_iloadn dX8_fillFront_10 rfl ?_
      refine sx_sipush (v := nI 200) dX8_fillFront_11 (by decide) ?_
      refine sw_icmp_gt (tgt := 71) dX8_fillFront_14 (by decide) (fun h14 => ?_) (fun h14 => ?_)
      · skip
        refine sx_ret0 dX8_fillFront_71 rfl ?_
        exact h τ hf h72 (fun t' ht' j hj => hA t' (by omega) j hj)
      · exact absurd ((by decide)) h14
    | succ q ih =>
      intro t hq h0 ht τ o2 hf h72 hA hS
      have hWτ := WP_fr hW hf
      refine sw_iloadn dX8_fillFront_10 rfl ?_
      refine sx_sipush (v := nI 200) dX8_fillFront_11 (by decide) ?_
      refine sw_icmp_gt (tgt := 71) dX8_fillFront_14 (by decide) (fun h14 => ?_) (fun h14 => ?_)
      · exact absurd h14 ((by rw [nI_lt' (by omega) (by omega)]; omega))
      · skip
        refine sw_iloadn dX8_fillFront_17 rfl ?_
        refine sw_if_le (tgt := 32) dX8_fillFront_18 (by decide) (fun h18 => ?_) (fun h18 => ?_)
        · exact absurd h18 ((nI_nle (by omega) (by omega)))
        · skip
          refine sw_aloadn dX8_fillFront_21 rfl ?_
          refine sw_iloadn dX8_fillFront_22 rfl ?_
          refine sx_iconst (v := nI 1) dX8_fillFront_23 (by decide) ?_
          refine sw_isub dX8_fillFront_24 ?_
          refine sw_topI (y := nI (t - 1)) (nI_sub (by omega)) ?_
          refine sw_aloadn dX8_fillFront_25 rfl ?_
          refine sw_getI dX8_fillFront_26 fs_X8_235 o46 ?_
          rw [hWτ.2]
          refine sx_invV2 dX8_fillFront_29 mk_X8_goes vk_X8_goes lk_X8_278 o46 (Nat.le_of_ble_eq_true rfl) (Nat.le_of_ble_eq_true rfl) ?_
          refine m_goes (X := arch P K (t - 1)) hWτ.1 (show t - 1 < 200 by omega) (fun j rm g q => (arch_in hV hK hR _ _ _ _ q).2.1) hS (fun τ' hf' hS' => ?_)
          refine sx_iconst (v := nI 0) dX8_fillFront_32 (by decide) ?_
          refine sw_istoren dX8_fillFront_33 (Nat.le_of_ble_eq_true rfl) ?_
          refine inner t (by omega) (fun τ2 o2 f2 e2 a2 b2 => ?_) (kN K + 1) 0 (by omega) (by omega) τ' (fr_tr hf (fr_wide hf' (by omega) (by omega))) (by rw [(hf' 72 (by omega)).2]; exact h72) (fun t' ht' j hj => by rw [(hf' 71 (by omega)).2]; exact hA t' ht' j hj) (fun j hj => ?_) (fun j hj => absurd hj (by omega))
          · refine sx_iinc (nI (t + 1)) dX8_fillFront_65 rfl (nI_inc _) ?_
            refine sw_goto (tgt := 10) dX8_fillFront_68 (by decide) ?_
            exact ih (t + 1) (by omega) (by omega) (by omega) τ2 _ f2 e2 a2 (by rw [Nat.add_sub_cancel]; exact b2)
          · obtain ⟨t0, rfl⟩ : ∃ t0, t = t0 + 1 := ⟨t - 1, by omega⟩
            exact hS' j hj
  refine sw_aloadn dX8_fillFront_0 rfl ?_
  refine sw_aloadn dX8_fillFront_1 rfl ?_
  refine sw_getI dX8_fillFront_2 fs_X8_235 o46 ?_
  rw [hW.2]
  refine sx_invV1 dX8_fillFront_5 mk_X8_begins vk_X8_begins lk_X8_275 o46 (Nat.le_of_ble_eq_true rfl) (Nat.le_of_ble_eq_true rfl) ?_
  refine m_begins h12 (fun τ hf hS => ?_)
  refine sx_iconst (v := nI 0) dX8_fillFront_8 (by decide) ?_
  refine sw_istoren dX8_fillFront_9 (Nat.le_of_ble_eq_true rfl) ?_
  refine sw_iloadn dX8_fillFront_10 rfl ?_
  refine sx_sipush (v := nI 200) dX8_fillFront_11 (by decide) ?_
  refine sw_icmp_gt (tgt := 71) dX8_fillFront_14 (by decide) (fun h14 => ?_) (fun h14 => ?_)
  · exact absurd h14 (by decide)
  · skip
    refine sw_iloadn dX8_fillFront_17 rfl ?_
    refine sw_if_le (tgt := 32) dX8_fillFront_18 (by decide) (fun h18 => ?_) (fun h18 => ?_)
    · skip
      refine sx_iconst (v := nI 0) dX8_fillFront_32 (by decide) ?_
      refine sw_istoren dX8_fillFront_33 (Nat.le_of_ble_eq_true rfl) ?_
      refine inner 0 (by omega) (fun τ2 o2 f2 e2 a2 b2 => ?_) (kN K + 1) 0 (by omega) (by omega) τ (fr_wide hf (by omega) (by omega)) (hf 72 (by omega)).2 (fun t' ht' => absurd ht' (by omega)) hS (fun j hj => absurd hj (by omega))
      refine sx_iinc (nI 1) dX8_fillFront_65 rfl (by decide) ?_
      refine sw_goto (tgt := 10) dX8_fillFront_68 (by decide) ?_
      exact outer 200 1 (by omega) (by omega) (by omega) τ2 _ f2 e2 a2 b2
    · exact absurd h18 (by decide)
theorem m_ahead {f : Int64 → Mem → Prop} {P : PL} {K : WK} {nc n t j : Nat} {F : Nat → Nat} {H : Nat → Nat → Nat → Prop} (hW : WP σ P K nc n F) (ht : t < 200) (hj : j ≤ kN K) (hH : ∀ j, j ≤ kN K → cel6 (σ.2 72 (13 * (t + 1) + j)) (fun rm g => rm < pR P ∧ H j rm (pW P rm - g))) (h : ∀ z, cel6 z (fun rm g => rm < pR P ∧ ∃ j' rm' a', stp P K t j rm (pW P rm - g) j' rm' a' ∧ H j' rm' a') → f z σ) : SW G (d + 1) M_X8_ahead 0 [some (.ref 46), some (.int (nI t)), some (.int (nI j)), none, none, none, none, none] [] σ (RJ f) := by
  obtain ⟨hWM, hp⟩ := hW
  have hWM0 := hWM
  obtain ⟨hP, hV, hK, hn, hL, hO, hfr, -⟩ := hWM0
  have h12 := hK.1
  have h8 := hV.1
  have hD := hV.2.1
  have hHj := hH j hj
  have fin : ∀ z o7, cel6 z (fun rm g => rm < pR P ∧ (H j rm (pW P rm - ag g) ∨ (pW P rm ≤ g ∧ ∃ rm', fre P K t rm rm' ∧ H j rm' (pW P rm')))) → SW G (d + 1) M_X8_ahead 123 [some (.ref 46), some (.int (nI t)), some (.int (nI j)), some (.long (σ.2 72 (13 * (t + 1) + j))), none, some (.long z), none, o7] [] σ (RJ f) := by
    intro z o7 hz
    have eqv : ∀ rm g, rm < 8 → g < 6 → ((rm < pR P ∧ ∃ j' rm' a', stp P K t j rm (pW P rm - g) j' rm' a' ∧ H j' rm' a') ↔ ((rm < pR P ∧ (H j rm (pW P rm - ag g) ∨ (pW P rm ≤ g ∧ ∃ rm', fre P K t rm rm' ∧ H j rm' (pW P rm')))) ∨ (rm < pR P ∧ pW P rm ≤ g ∧ j < kN K ∧ kT K j t ∧ kL K j = rm ∧ H (j + 1) (kC K j) (pW P (kC K j))))) := by
      intro rm g _ hg
      constructor
      · rintro ⟨hr, j', rm', a', ⟨rfl, rfl, rfl⟩ | ⟨h1, rfl, rfl, h2⟩ | ⟨h1, rfl, h2, rfl, h3, h4, rfl⟩, q⟩
        · have hw := hV.2.2.1 _ hr
          refine Or.inl ⟨hr, Or.inl ?_⟩
          rw [show pW P rm' - ag g = pW P rm' - g - 1 by unfold ag; omega]; exact q
        · exact Or.inl ⟨hr, Or.inr ⟨by omega, rm', h2, q⟩⟩
        · exact Or.inr ⟨hr, by omega, h2, h3, h4, q⟩
      · rintro (⟨hr, q | ⟨h1, rm', h2, q⟩⟩ | ⟨hr, h1, h2, h3, h4, q⟩)
        · have hw := hV.2.2.1 _ hr
          refine ⟨hr, j, rm, pW P rm - g - 1, Or.inl ⟨rfl, rfl, rfl⟩, ?_⟩
          rw [show pW P rm - g - 1 = pW P rm - ag g by unfold ag; omega]; exact q
        · exact ⟨hr, j, rm', pW P rm', Or.inr (Or.inl ⟨by omega, rfl, rfl, h2⟩), q⟩
        · exact ⟨hr, j + 1, kC K j, pW P (kC K j), Or.inr (Or.inr ⟨by omega, rfl, h2, rfl, h3, h4, rfl⟩), q⟩
    have none' : ¬ (j < kN K ∧ kT K j t ∧ H (j + 1) (kC K j) (pW P (kC K j))) → f z σ := fun hno => h z (cel6_congr hz (fun rm g b1 b2 => ⟨fun q => (eqv rm g b1 b2).mpr (Or.inl q), fun q => ((eqv rm g b1 b2).mp q).elim id (fun q => absurd ⟨q.2.2.1, q.2.2.2.1, q.2.2.2.2.2⟩ hno)⟩))
    refine sw_iloadn dX8_ahead_123 rfl ?_
    refine sw_aloadn dX8_ahead_124 rfl ?_
    refine sw_getI dX8_ahead_125 fs_X8_235 o46 ?_
    rw [hp]
    refine sw_icmp_ge (tgt := 193) dX8_ahead_128 (by decide) (fun h128 => ?_) (fun h128 => ?_)
    · skip
      refine sw_lload dX8_ahead_193 rfl ?_
      refine sx_retl dX8_ahead_195 rfl ?_
      first
        | (have hh := (cm_ne0 (show kC K j < 8 by omega) hHn hz2).mp h170
           refine h _ (cel6_congr (cel6_or hz hz3) (fun rm g b1 b2 => ?_))
           rw [eqv rm g b1 b2]
           refine or_congr Iff.rfl ⟨?_, ?_⟩
           · rintro ⟨rfl, w⟩; exact ⟨kl, w, hs2, h134, rfl, hh.2⟩
           · rintro ⟨-, w, -, -, rfl, -⟩; exact ⟨rfl, w⟩)
        | exact none' (fun q => absurd ((cm_ne0 (show kC K j < 8 by omega) hHn hz2).mpr ⟨kc, q.2.2⟩) (fun w => w h170))
        | exact none' (fun q => h134 q.2.1)
        | exact none' (fun q => absurd q.1 (by rw [nI_le' (by omega) (by omega)] at h128; omega))
    · skip
      have hs2 : j < kN K := by rw [nI_le' (by omega) (by omega)] at h128; omega
      obtain ⟨o1, o2, o3, oL, oC, o6⟩ := hO j hs2
      obtain ⟨kl, kc⟩ := hK.2 j hs2
      have hHn := hH (j + 1) hs2
      refine sw_aloadn dX8_ahead_131 rfl ?_
      refine sw_iloadn dX8_ahead_132 rfl ?_
      refine sw_iloadn dX8_ahead_133 rfl ?_
      refine sx_invI2 dX8_ahead_134 mk_X8_isPass vk_X8_isPass lk_X8_265 o46 (Nat.le_of_ble_eq_true rfl) (Nat.le_of_ble_eq_true rfl) ?_
      refine m_isPass hWM hs2 ht (fun h134 => ?_) (fun h134 => ?_)
      · skip
        refine sw_if_eq (tgt := 193) dX8_ahead_137 (by decide) (fun h137 => ?_) (fun h137 => ?_)
        · exact absurd h137 (by decide)
        · skip
          refine sw_aloadn dX8_ahead_140 rfl ?_
          refine sw_getR dX8_ahead_141 fs_X8_95 o46 r46_42 ?_
          refine sx_bipush (v := nI 13) dX8_ahead_144 (by decide) ?_
          refine sw_iloadn dX8_ahead_146 rfl ?_
          refine sx_iconst (v := nI 1) dX8_ahead_147 (by decide) ?_
          refine sw_iadd dX8_ahead_148 ?_
          refine sw_topI (y := nI (t + 1)) (nI_1 t) ?_
          refine sw_imul dX8_ahead_149 ?_
          refine sw_iloadn dX8_ahead_150 rfl ?_
          refine sw_iadd dX8_ahead_151 ?_
          refine sx_iconst (v := nI 1) dX8_ahead_152 (by decide) ?_
          refine sw_iadd dX8_ahead_153 ?_
          refine sw_topI (y := nI (13 * (t + 1) + (j + 1))) (by rw [nI_mul, nI_add, nI_add, Nat.add_assoc]) ?_
          refine sx_lald (13 * (t + 1) + (j + 1)) dX8_ahead_154 a72 (rfl) (by omega) (by decide) ?_
          refine sw_aloadn dX8_ahead_155 rfl ?_
          refine sw_aloadn dX8_ahead_156 rfl ?_
          refine sw_getR dX8_ahead_157 fs_X8_82 o46 r46_37 ?_
          refine sw_iloadn dX8_ahead_160 rfl ?_
          refine sx_iald (j) dX8_ahead_161 a68 (rfl) (by omega) (by decide) ?_
          rw [o1]
          refine sx_invI1 dX8_ahead_162 mk_X8_enters vk_X8_enters lk_X8_272 o46 (Nat.le_of_ble_eq_true rfl) (Nat.le_of_ble_eq_true rfl) ?_
          refine m_enters hP hV hn o2 hL o3 ?_
          rw [oC]
          refine sx_insJ1 dX8_ahead_165 mk_X8_come sk_X8_come lk_X8_262 (Nat.le_of_ble_eq_true rfl) (Nat.le_of_ble_eq_true rfl) ?_
          refine m_come (show kC K j < 8 by omega) (fun z2 hz2 => ?_)
          refine sw_land dX8_ahead_168 ?_
          refine sx_lconst (v := 0) dX8_ahead_169 (by decide) ?_
          refine sw_lc_eq (tgt := 193) dX8_ahead_170 dX8_ahead_171 (by decide) (fun h170 => ?_) (fun h170 => ?_)
          · skip
            refine sw_lload dX8_ahead_193 rfl ?_
            refine sx_retl dX8_ahead_195 rfl ?_
            first
              | (have hh := (cm_ne0 (show kC K j < 8 by omega) hHn hz2).mp h170
                 refine h _ (cel6_congr (cel6_or hz hz3) (fun rm g b1 b2 => ?_))
                 rw [eqv rm g b1 b2]
                 refine or_congr Iff.rfl ⟨?_, ?_⟩
                 · rintro ⟨rfl, w⟩; exact ⟨kl, w, hs2, h134, rfl, hh.2⟩
                 · rintro ⟨-, w, -, -, rfl, -⟩; exact ⟨rfl, w⟩)
              | exact none' (fun q => absurd ((cm_ne0 (show kC K j < 8 by omega) hHn hz2).mpr ⟨kc, q.2.2⟩) (fun w => w h170))
              | exact none' (fun q => h134 q.2.1)
              | exact none' (fun q => absurd q.1 (by rw [nI_le' (by omega) (by omega)] at h128; omega))
          · skip
            refine sw_lload dX8_ahead_174 rfl ?_
            refine sw_aloadn dX8_ahead_176 rfl ?_
            refine sw_aloadn dX8_ahead_177 rfl ?_
            refine sw_aloadn dX8_ahead_178 rfl ?_
            refine sw_getR dX8_ahead_179 fs_X8_82 o46 r46_37 ?_
            refine sw_iloadn dX8_ahead_182 rfl ?_
            refine sx_iald (j) dX8_ahead_183 a68 (rfl) (by omega) (by decide) ?_
            rw [o1]
            refine sx_invI1 dX8_ahead_184 mk_X8_leaves vk_X8_leaves lk_X8_269 o46 (Nat.le_of_ble_eq_true rfl) (Nat.le_of_ble_eq_true rfl) ?_
            refine m_leaves hP hV hn o2 hL o3 ?_
            rw [oL]
            refine sx_invJ1 dX8_ahead_187 mk_X8_leaving vk_X8_leaving lk_X8_259 o46 (Nat.le_of_ble_eq_true rfl) (Nat.le_of_ble_eq_true rfl) ?_
            refine m_leaving hP hV kl (fun z3 hz3 => ?_)
            refine sw_lor dX8_ahead_190 ?_
            refine sw_lstore dX8_ahead_191 (Nat.le_of_ble_eq_true rfl) ?_
            refine sw_lload dX8_ahead_193 rfl ?_
            refine sx_retl dX8_ahead_195 rfl ?_
            first
              | (have hh := (cm_ne0 (show kC K j < 8 by omega) hHn hz2).mp h170
                 refine h _ (cel6_congr (cel6_or hz hz3) (fun rm g b1 b2 => ?_))
                 rw [eqv rm g b1 b2]
                 refine or_congr Iff.rfl ⟨?_, ?_⟩
                 · rintro ⟨rfl, w⟩; exact ⟨kl, w, hs2, h134, rfl, hh.2⟩
                 · rintro ⟨-, w, -, -, rfl, -⟩; exact ⟨rfl, w⟩)
              | exact none' (fun q => absurd ((cm_ne0 (show kC K j < 8 by omega) hHn hz2).mpr ⟨kc, q.2.2⟩) (fun w => w h170))
              | exact none' (fun q => h134 q.2.1)
              | exact none' (fun q => absurd q.1 (by rw [nI_le' (by omega) (by omega)] at h128; omega))
      · skip
        refine sw_if_eq (tgt := 193) dX8_ahead_137 (by decide) (fun h137 => ?_) (fun h137 => ?_)
        · skip
          refine sw_lload dX8_ahead_193 rfl ?_
          refine sx_retl dX8_ahead_195 rfl ?_
          first
            | (have hh := (cm_ne0 (show kC K j < 8 by omega) hHn hz2).mp h170
               refine h _ (cel6_congr (cel6_or hz hz3) (fun rm g b1 b2 => ?_))
               rw [eqv rm g b1 b2]
               refine or_congr Iff.rfl ⟨?_, ?_⟩
               · rintro ⟨rfl, w⟩; exact ⟨kl, w, hs2, h134, rfl, hh.2⟩
               · rintro ⟨-, w, -, -, rfl, -⟩; exact ⟨rfl, w⟩)
            | exact none' (fun q => absurd ((cm_ne0 (show kC K j < 8 by omega) hHn hz2).mpr ⟨kc, q.2.2⟩) (fun w => w h170))
            | exact none' (fun q => h134 q.2.1)
            | exact none' (fun q => absurd q.1 (by rw [nI_le' (by omega) (by omega)] at h128; omega))
        · exact absurd h137 (by decide)
  have loop : ∀ (q k : Nat), q = pD P - k → k ≤ pD P → ∀ z, cel6 z (fun rm g => rm < pR P ∧ (H j rm (pW P rm - ag g) ∨ (pW P rm ≤ g ∧ ∃ dd, dd < k ∧ kO K t dd ∧ ((rm = pF P dd ∧ H j (pS P dd) (pW P (pS P dd))) ∨ (rm = pS P dd ∧ H j (pF P dd) (pW P (pF P dd))))))) → SW G (d + 1) M_X8_ahead 24 [some (.ref 46), some (.int (nI t)), some (.int (nI j)), some (.long (σ.2 72 (13 * (t + 1) + j))), none, some (.long z), none, some (.int (nI k))] [] σ (RJ f) := by
    intro q
    induction q with
    | zero =>
      intro k hq hk z hz
      obtain rfl : k = pD P := by omega
      refine sw_iload dX8_ahead_24 rfl ?_
      refine sw_aloadn dX8_ahead_26 rfl ?_
      refine sw_getI dX8_ahead_27 fs_X8_201 o46 ?_
      rw [hP.2.1]
      refine sw_icmp_ge (tgt := 123) dX8_ahead_30 (by decide) (fun h30 => ?_) (fun h30 => ?_)
      · skip
        refine fin z _ (cel6_congr hz (fun rm g _ _ => and_congr Iff.rfl (or_congr Iff.rfl (and_congr Iff.rfl ?_))))
        constructor
        · rintro ⟨dd, b1, b2, ⟨rfl, b3⟩ | ⟨rfl, b3⟩⟩
          · exact ⟨_, ⟨dd, b1, b2, Or.inl ⟨rfl, rfl⟩⟩, b3⟩
          · exact ⟨_, ⟨dd, b1, b2, Or.inr ⟨rfl, rfl⟩⟩, b3⟩
        · rintro ⟨rm', ⟨dd, b1, b2, ⟨rfl, rfl⟩ | ⟨rfl, rfl⟩⟩, b3⟩
          · exact ⟨dd, b1, b2, Or.inl ⟨rfl, b3⟩⟩
          · exact ⟨dd, b1, b2, Or.inr ⟨rfl, b3⟩⟩
      · exact absurd ((nI_le (Nat.le_refl _) (by omega))) h30
    | succ q ih =>
      intro k hq hk z hz
      have hkD : k < pD P := by omega
      have hfree := isV_b (hfr t k ht (by omega))
      obtain ⟨q1, q2, -, -⟩ := hV.2.2.2.1 k hkD
      have ih := ih (k + 1) (by omega) (by omega)
      have stepD : ∀ rm g : Nat, (rm < pR P ∧ (H j rm (pW P rm - ag g) ∨ (pW P rm ≤ g ∧ ∃ dd, dd < k + 1 ∧ kO K t dd ∧ ((rm = pF P dd ∧ H j (pS P dd) (pW P (pS P dd))) ∨ (rm = pS P dd ∧ H j (pF P dd) (pW P (pF P dd))))))) ↔ ((rm < pR P ∧ (H j rm (pW P rm - ag g) ∨ (pW P rm ≤ g ∧ ∃ dd, dd < k ∧ kO K t dd ∧ ((rm = pF P dd ∧ H j (pS P dd) (pW P (pS P dd))) ∨ (rm = pS P dd ∧ H j (pF P dd) (pW P (pF P dd))))))) ∨ (pW P rm ≤ g ∧ kO K t k ∧ ((rm = pF P k ∧ H j (pS P k) (pW P (pS P k))) ∨ (rm = pS P k ∧ H j (pF P k) (pW P (pF P k)))))) := by
        intro rm g
        constructor
        · rintro ⟨hr, w | ⟨w1, dd, w2, w3⟩⟩
          · exact Or.inl ⟨hr, Or.inl w⟩
          · by_cases e : dd = k
            · subst e; exact Or.inr ⟨w1, w3⟩
            · exact Or.inl ⟨hr, Or.inr ⟨w1, dd, by omega, w3⟩⟩
        · rintro (⟨hr, w | ⟨w1, dd, w2, w3⟩⟩ | ⟨w1, w2, w3⟩)
          · exact ⟨hr, Or.inl w⟩
          · exact ⟨hr, Or.inr ⟨w1, dd, by omega, w3⟩⟩
          · exact ⟨by rcases w3 with ⟨rfl, -⟩ | ⟨rfl, -⟩ <;> omega, Or.inr ⟨w1, k, by omega, w2, w3⟩⟩
      refine sw_iload dX8_ahead_24 rfl ?_
      refine sw_aloadn dX8_ahead_26 rfl ?_
      refine sw_getI dX8_ahead_27 fs_X8_201 o46 ?_
      rw [hP.2.1]
      refine sw_icmp_ge (tgt := 123) dX8_ahead_30 (by decide) (fun h30 => ?_) (fun h30 => ?_)
      · exact absurd h30 ((by rw [nI_le' (by omega) (by omega)]; omega))
      · skip
        refine sw_aloadn dX8_ahead_33 rfl ?_
        refine sw_getR dX8_ahead_34 fs_X8_89 o46 r46_40 ?_
        refine sx_bipush (v := nI 10) dX8_ahead_37 (by decide) ?_
        refine sw_iloadn dX8_ahead_39 rfl ?_
        refine sw_imul dX8_ahead_40 ?_
        refine sw_iload dX8_ahead_41 rfl ?_
        refine sw_iadd dX8_ahead_43 ?_
        refine sx_zald (10 * t + k) dX8_ahead_44 a70 (by rw [nI_mul, nI_add]) (by omega) (by decide) ?_
        refine sw_if_ne (tgt := 51) dX8_ahead_45 (by decide) (fun h45 => ?_) (fun h45 => ?_)
        · skip
          refine sw_lloadn dX8_ahead_51 rfl ?_
          refine sw_aloadn dX8_ahead_52 rfl ?_
          refine sw_getR dX8_ahead_53 fs_X8_45 o46 r46_22 ?_
          refine sw_iload dX8_ahead_56 rfl ?_
          refine sx_iald (k) dX8_ahead_58 a56 (rfl) (by omega) (by decide) ?_
          rw [hP.2.2.2.2.1 k hkD]
          refine sx_insJ1 dX8_ahead_59 mk_X8_come sk_X8_come lk_X8_262 (Nat.le_of_ble_eq_true rfl) (Nat.le_of_ble_eq_true rfl) ?_
          refine m_come (show pS P k < 8 by omega) (fun y1 hy1 => ?_)
          refine sw_land dX8_ahead_62 ?_
          refine sx_lconst (v := 0) dX8_ahead_63 (by decide) ?_
          refine sw_lc_eq (tgt := 84) dX8_ahead_64 dX8_ahead_65 (by decide) (fun h64 => ?_) (fun h64 => ?_)
          · skip
            refine sw_lloadn dX8_ahead_84 rfl ?_
            refine sw_aloadn dX8_ahead_85 rfl ?_
            refine sw_getR dX8_ahead_86 fs_X8_42 o46 r46_21 ?_
            refine sw_iload dX8_ahead_89 rfl ?_
            refine sx_iald (k) dX8_ahead_91 a55 (rfl) (by omega) (by decide) ?_
            rw [hP.2.2.2.1 k hkD]
            refine sx_insJ1 dX8_ahead_92 mk_X8_come sk_X8_come lk_X8_262 (Nat.le_of_ble_eq_true rfl) (Nat.le_of_ble_eq_true rfl) ?_
            refine m_come (show pF P k < 8 by omega) (fun y2 hy2 => ?_)
            refine sw_land dX8_ahead_95 ?_
            refine sx_lconst (v := 0) dX8_ahead_96 (by decide) ?_
            refine sw_lc_eq (tgt := 117) dX8_ahead_97 dX8_ahead_98 (by decide) (fun h97 => ?_) (fun h97 => ?_)
            · skip
              refine sx_iinc (nI (k + 1)) dX8_ahead_117 rfl (nI_inc _) ?_
              refine sw_goto (tgt := 24) dX8_ahead_120 (by decide) ?_
              first
                | (have hno : ¬ kO K t k := fun w => hfree.mpr w h45
                   exact ih _ (cel6_congr hz (fun rm g _ _ => by rw [stepD]; exact ⟨Or.inl, fun w => w.elim id (fun w => absurd w.2.1 hno)⟩)))
                | (have hop := hfree.mp h45
                   have l1 := ((cm_ne0 (show pS P k < 8 by omega) hHj hy1).mp h64).2
                   have l2 := ((cm_ne0 (show pF P k < 8 by omega) hHj hy2).mp h97).2
                   refine ih _ (cel6_congr (cel6_or (cel6_or hz hz1) hz2) (fun rm g _ _ => ?_))
                   rw [stepD]
                   constructor
                   · rintro ((w | ⟨rfl, w⟩) | ⟨rfl, w⟩)
                     · exact Or.inl w
                     · exact Or.inr ⟨w, hop, Or.inl ⟨rfl, l1⟩⟩
                     · exact Or.inr ⟨w, hop, Or.inr ⟨rfl, l2⟩⟩
                   · rintro (w | ⟨w1, w2, ⟨rfl, w3⟩ | ⟨rfl, w3⟩⟩)
                     · exact Or.inl (Or.inl w)
                     · exact Or.inl (Or.inr ⟨rfl, w1⟩)
                     · exact Or.inr ⟨rfl, w1⟩)
                | (have hop := hfree.mp h45
                   have l1 := ((cm_ne0 (show pS P k < 8 by omega) hHj hy1).mp h64).2
                   have l2 : ¬ _ := fun w => (cm_ne0 (show pF P k < 8 by omega) hHj hy2).mpr ⟨q1, w⟩ h97
                   refine ih _ (cel6_congr (cel6_or hz hz1) (fun rm g _ _ => ?_))
                   rw [stepD]
                   constructor
                   · rintro (w | ⟨rfl, w⟩)
                     · exact Or.inl w
                     · exact Or.inr ⟨w, hop, Or.inl ⟨rfl, l1⟩⟩
                   · rintro (w | ⟨w1, w2, ⟨rfl, w3⟩ | ⟨rfl, w3⟩⟩)
                     · exact Or.inl w
                     · exact Or.inr ⟨rfl, w1⟩
                     · exact absurd w3 l2)
                | (have hop := hfree.mp h45
                   have l1 : ¬ _ := fun w => (cm_ne0 (show pS P k < 8 by omega) hHj hy1).mpr ⟨q2, w⟩ h64
                   have l2 := ((cm_ne0 (show pF P k < 8 by omega) hHj hy2).mp h97).2
                   refine ih _ (cel6_congr (cel6_or hz hz2) (fun rm g _ _ => ?_))
                   rw [stepD]
                   constructor
                   · rintro (w | ⟨rfl, w⟩)
                     · exact Or.inl w
                     · exact Or.inr ⟨w, hop, Or.inr ⟨rfl, l2⟩⟩
                   · rintro (w | ⟨w1, w2, ⟨rfl, w3⟩ | ⟨rfl, w3⟩⟩)
                     · exact Or.inl w
                     · exact absurd w3 l1
                     · exact Or.inr ⟨rfl, w1⟩)
                | (have l1 : ¬ _ := fun w => (cm_ne0 (show pS P k < 8 by omega) hHj hy1).mpr ⟨q2, w⟩ h64
                   have l2 : ¬ _ := fun w => (cm_ne0 (show pF P k < 8 by omega) hHj hy2).mpr ⟨q1, w⟩ h97
                   exact ih _ (cel6_congr hz (fun rm g _ _ => by rw [stepD]; exact ⟨Or.inl, fun w => w.elim id (fun w => w.2.2.elim (fun w => absurd w.2 l1) (fun w => absurd w.2 l2))⟩)))
            · skip
              refine sw_lload dX8_ahead_101 rfl ?_
              refine sw_aloadn dX8_ahead_103 rfl ?_
              refine sw_aloadn dX8_ahead_104 rfl ?_
              refine sw_getR dX8_ahead_105 fs_X8_45 o46 r46_22 ?_
              refine sw_iload dX8_ahead_108 rfl ?_
              refine sx_iald (k) dX8_ahead_110 a56 (rfl) (by omega) (by decide) ?_
              rw [hP.2.2.2.2.1 k hkD]
              refine sx_invJ1 dX8_ahead_111 mk_X8_leaving vk_X8_leaving lk_X8_259 o46 (Nat.le_of_ble_eq_true rfl) (Nat.le_of_ble_eq_true rfl) ?_
              refine m_leaving hP hV q2 (fun z2 hz2 => ?_)
              refine sw_lor dX8_ahead_114 ?_
              refine sw_lstore dX8_ahead_115 (Nat.le_of_ble_eq_true rfl) ?_
              refine sx_iinc (nI (k + 1)) dX8_ahead_117 rfl (nI_inc _) ?_
              refine sw_goto (tgt := 24) dX8_ahead_120 (by decide) ?_
              first
                | (have hno : ¬ kO K t k := fun w => hfree.mpr w h45
                   exact ih _ (cel6_congr hz (fun rm g _ _ => by rw [stepD]; exact ⟨Or.inl, fun w => w.elim id (fun w => absurd w.2.1 hno)⟩)))
                | (have hop := hfree.mp h45
                   have l1 := ((cm_ne0 (show pS P k < 8 by omega) hHj hy1).mp h64).2
                   have l2 := ((cm_ne0 (show pF P k < 8 by omega) hHj hy2).mp h97).2
                   refine ih _ (cel6_congr (cel6_or (cel6_or hz hz1) hz2) (fun rm g _ _ => ?_))
                   rw [stepD]
                   constructor
                   · rintro ((w | ⟨rfl, w⟩) | ⟨rfl, w⟩)
                     · exact Or.inl w
                     · exact Or.inr ⟨w, hop, Or.inl ⟨rfl, l1⟩⟩
                     · exact Or.inr ⟨w, hop, Or.inr ⟨rfl, l2⟩⟩
                   · rintro (w | ⟨w1, w2, ⟨rfl, w3⟩ | ⟨rfl, w3⟩⟩)
                     · exact Or.inl (Or.inl w)
                     · exact Or.inl (Or.inr ⟨rfl, w1⟩)
                     · exact Or.inr ⟨rfl, w1⟩)
                | (have hop := hfree.mp h45
                   have l1 := ((cm_ne0 (show pS P k < 8 by omega) hHj hy1).mp h64).2
                   have l2 : ¬ _ := fun w => (cm_ne0 (show pF P k < 8 by omega) hHj hy2).mpr ⟨q1, w⟩ h97
                   refine ih _ (cel6_congr (cel6_or hz hz1) (fun rm g _ _ => ?_))
                   rw [stepD]
                   constructor
                   · rintro (w | ⟨rfl, w⟩)
                     · exact Or.inl w
                     · exact Or.inr ⟨w, hop, Or.inl ⟨rfl, l1⟩⟩
                   · rintro (w | ⟨w1, w2, ⟨rfl, w3⟩ | ⟨rfl, w3⟩⟩)
                     · exact Or.inl w
                     · exact Or.inr ⟨rfl, w1⟩
                     · exact absurd w3 l2)
                | (have hop := hfree.mp h45
                   have l1 : ¬ _ := fun w => (cm_ne0 (show pS P k < 8 by omega) hHj hy1).mpr ⟨q2, w⟩ h64
                   have l2 := ((cm_ne0 (show pF P k < 8 by omega) hHj hy2).mp h97).2
                   refine ih _ (cel6_congr (cel6_or hz hz2) (fun rm g _ _ => ?_))
                   rw [stepD]
                   constructor
                   · rintro (w | ⟨rfl, w⟩)
                     · exact Or.inl w
                     · exact Or.inr ⟨w, hop, Or.inr ⟨rfl, l2⟩⟩
                   · rintro (w | ⟨w1, w2, ⟨rfl, w3⟩ | ⟨rfl, w3⟩⟩)
                     · exact Or.inl w
                     · exact absurd w3 l1
                     · exact Or.inr ⟨rfl, w1⟩)
                | (have l1 : ¬ _ := fun w => (cm_ne0 (show pS P k < 8 by omega) hHj hy1).mpr ⟨q2, w⟩ h64
                   have l2 : ¬ _ := fun w => (cm_ne0 (show pF P k < 8 by omega) hHj hy2).mpr ⟨q1, w⟩ h97
                   exact ih _ (cel6_congr hz (fun rm g _ _ => by rw [stepD]; exact ⟨Or.inl, fun w => w.elim id (fun w => w.2.2.elim (fun w => absurd w.2 l1) (fun w => absurd w.2 l2))⟩)))
          · skip
            refine sw_lload dX8_ahead_68 rfl ?_
            refine sw_aloadn dX8_ahead_70 rfl ?_
            refine sw_aloadn dX8_ahead_71 rfl ?_
            refine sw_getR dX8_ahead_72 fs_X8_42 o46 r46_21 ?_
            refine sw_iload dX8_ahead_75 rfl ?_
            refine sx_iald (k) dX8_ahead_77 a55 (rfl) (by omega) (by decide) ?_
            rw [hP.2.2.2.1 k hkD]
            refine sx_invJ1 dX8_ahead_78 mk_X8_leaving vk_X8_leaving lk_X8_259 o46 (Nat.le_of_ble_eq_true rfl) (Nat.le_of_ble_eq_true rfl) ?_
            refine m_leaving hP hV q1 (fun z1 hz1 => ?_)
            refine sw_lor dX8_ahead_81 ?_
            refine sw_lstore dX8_ahead_82 (Nat.le_of_ble_eq_true rfl) ?_
            refine sw_lloadn dX8_ahead_84 rfl ?_
            refine sw_aloadn dX8_ahead_85 rfl ?_
            refine sw_getR dX8_ahead_86 fs_X8_42 o46 r46_21 ?_
            refine sw_iload dX8_ahead_89 rfl ?_
            refine sx_iald (k) dX8_ahead_91 a55 (rfl) (by omega) (by decide) ?_
            rw [hP.2.2.2.1 k hkD]
            refine sx_insJ1 dX8_ahead_92 mk_X8_come sk_X8_come lk_X8_262 (Nat.le_of_ble_eq_true rfl) (Nat.le_of_ble_eq_true rfl) ?_
            refine m_come (show pF P k < 8 by omega) (fun y2 hy2 => ?_)
            refine sw_land dX8_ahead_95 ?_
            refine sx_lconst (v := 0) dX8_ahead_96 (by decide) ?_
            refine sw_lc_eq (tgt := 117) dX8_ahead_97 dX8_ahead_98 (by decide) (fun h97 => ?_) (fun h97 => ?_)
            · skip
              refine sx_iinc (nI (k + 1)) dX8_ahead_117 rfl (nI_inc _) ?_
              refine sw_goto (tgt := 24) dX8_ahead_120 (by decide) ?_
              first
                | (have hno : ¬ kO K t k := fun w => hfree.mpr w h45
                   exact ih _ (cel6_congr hz (fun rm g _ _ => by rw [stepD]; exact ⟨Or.inl, fun w => w.elim id (fun w => absurd w.2.1 hno)⟩)))
                | (have hop := hfree.mp h45
                   have l1 := ((cm_ne0 (show pS P k < 8 by omega) hHj hy1).mp h64).2
                   have l2 := ((cm_ne0 (show pF P k < 8 by omega) hHj hy2).mp h97).2
                   refine ih _ (cel6_congr (cel6_or (cel6_or hz hz1) hz2) (fun rm g _ _ => ?_))
                   rw [stepD]
                   constructor
                   · rintro ((w | ⟨rfl, w⟩) | ⟨rfl, w⟩)
                     · exact Or.inl w
                     · exact Or.inr ⟨w, hop, Or.inl ⟨rfl, l1⟩⟩
                     · exact Or.inr ⟨w, hop, Or.inr ⟨rfl, l2⟩⟩
                   · rintro (w | ⟨w1, w2, ⟨rfl, w3⟩ | ⟨rfl, w3⟩⟩)
                     · exact Or.inl (Or.inl w)
                     · exact Or.inl (Or.inr ⟨rfl, w1⟩)
                     · exact Or.inr ⟨rfl, w1⟩)
                | (have hop := hfree.mp h45
                   have l1 := ((cm_ne0 (show pS P k < 8 by omega) hHj hy1).mp h64).2
                   have l2 : ¬ _ := fun w => (cm_ne0 (show pF P k < 8 by omega) hHj hy2).mpr ⟨q1, w⟩ h97
                   refine ih _ (cel6_congr (cel6_or hz hz1) (fun rm g _ _ => ?_))
                   rw [stepD]
                   constructor
                   · rintro (w | ⟨rfl, w⟩)
                     · exact Or.inl w
                     · exact Or.inr ⟨w, hop, Or.inl ⟨rfl, l1⟩⟩
                   · rintro (w | ⟨w1, w2, ⟨rfl, w3⟩ | ⟨rfl, w3⟩⟩)
                     · exact Or.inl w
                     · exact Or.inr ⟨rfl, w1⟩
                     · exact absurd w3 l2)
                | (have hop := hfree.mp h45
                   have l1 : ¬ _ := fun w => (cm_ne0 (show pS P k < 8 by omega) hHj hy1).mpr ⟨q2, w⟩ h64
                   have l2 := ((cm_ne0 (show pF P k < 8 by omega) hHj hy2).mp h97).2
                   refine ih _ (cel6_congr (cel6_or hz hz2) (fun rm g _ _ => ?_))
                   rw [stepD]
                   constructor
                   · rintro (w | ⟨rfl, w⟩)
                     · exact Or.inl w
                     · exact Or.inr ⟨w, hop, Or.inr ⟨rfl, l2⟩⟩
                   · rintro (w | ⟨w1, w2, ⟨rfl, w3⟩ | ⟨rfl, w3⟩⟩)
                     · exact Or.inl w
                     · exact absurd w3 l1
                     · exact Or.inr ⟨rfl, w1⟩)
                | (have l1 : ¬ _ := fun w => (cm_ne0 (show pS P k < 8 by omega) hHj hy1).mpr ⟨q2, w⟩ h64
                   have l2 : ¬ _ := fun w => (cm_ne0 (show pF P k < 8 by omega) hHj hy2).mpr ⟨q1, w⟩ h97
                   exact ih _ (cel6_congr hz (fun rm g _ _ => by rw [stepD]; exact ⟨Or.inl, fun w => w.elim id (fun w => w.2.2.elim (fun w => absurd w.2 l1) (fun w => absurd w.2 l2))⟩)))
            · skip
              refine sw_lload dX8_ahead_101 rfl ?_
              refine sw_aloadn dX8_ahead_103 rfl ?_
              refine sw_aloadn dX8_ahead_104 rfl ?_
              refine sw_getR dX8_ahead_105 fs_X8_45 o46 r46_22 ?_
              refine sw_iload dX8_ahead_108 rfl ?_
              refine sx_iald (k) dX8_ahead_110 a56 (rfl) (by omega) (by decide) ?_
              rw [hP.2.2.2.2.1 k hkD]
              refine sx_invJ1 dX8_ahead_111 mk_X8_leaving vk_X8_leaving lk_X8_259 o46 (Nat.le_of_ble_eq_true rfl) (Nat.le_of_ble_eq_true rfl) ?_
              refine m_leaving hP hV q2 (fun z2 hz2 => ?_)
              refine sw_lor dX8_ahead_114 ?_
              refine sw_lstore dX8_ahead_115 (Nat.le_of_ble_eq_true rfl) ?_
              refine sx_iinc (nI (k + 1)) dX8_ahead_117 rfl (nI_inc _) ?_
              refine sw_goto (tgt := 24) dX8_ahead_120 (by decide) ?_
              first
                | (have hno : ¬ kO K t k := fun w => hfree.mpr w h45
                   exact ih _ (cel6_congr hz (fun rm g _ _ => by rw [stepD]; exact ⟨Or.inl, fun w => w.elim id (fun w => absurd w.2.1 hno)⟩)))
                | (have hop := hfree.mp h45
                   have l1 := ((cm_ne0 (show pS P k < 8 by omega) hHj hy1).mp h64).2
                   have l2 := ((cm_ne0 (show pF P k < 8 by omega) hHj hy2).mp h97).2
                   refine ih _ (cel6_congr (cel6_or (cel6_or hz hz1) hz2) (fun rm g _ _ => ?_))
                   rw [stepD]
                   constructor
                   · rintro ((w | ⟨rfl, w⟩) | ⟨rfl, w⟩)
                     · exact Or.inl w
                     · exact Or.inr ⟨w, hop, Or.inl ⟨rfl, l1⟩⟩
                     · exact Or.inr ⟨w, hop, Or.inr ⟨rfl, l2⟩⟩
                   · rintro (w | ⟨w1, w2, ⟨rfl, w3⟩ | ⟨rfl, w3⟩⟩)
                     · exact Or.inl (Or.inl w)
                     · exact Or.inl (Or.inr ⟨rfl, w1⟩)
                     · exact Or.inr ⟨rfl, w1⟩)
                | (have hop := hfree.mp h45
                   have l1 := ((cm_ne0 (show pS P k < 8 by omega) hHj hy1).mp h64).2
                   have l2 : ¬ _ := fun w => (cm_ne0 (show pF P k < 8 by omega) hHj hy2).mpr ⟨q1, w⟩ h97
                   refine ih _ (cel6_congr (cel6_or hz hz1) (fun rm g _ _ => ?_))
                   rw [stepD]
                   constructor
                   · rintro (w | ⟨rfl, w⟩)
                     · exact Or.inl w
                     · exact Or.inr ⟨w, hop, Or.inl ⟨rfl, l1⟩⟩
                   · rintro (w | ⟨w1, w2, ⟨rfl, w3⟩ | ⟨rfl, w3⟩⟩)
                     · exact Or.inl w
                     · exact Or.inr ⟨rfl, w1⟩
                     · exact absurd w3 l2)
                | (have hop := hfree.mp h45
                   have l1 : ¬ _ := fun w => (cm_ne0 (show pS P k < 8 by omega) hHj hy1).mpr ⟨q2, w⟩ h64
                   have l2 := ((cm_ne0 (show pF P k < 8 by omega) hHj hy2).mp h97).2
                   refine ih _ (cel6_congr (cel6_or hz hz2) (fun rm g _ _ => ?_))
                   rw [stepD]
                   constructor
                   · rintro (w | ⟨rfl, w⟩)
                     · exact Or.inl w
                     · exact Or.inr ⟨w, hop, Or.inr ⟨rfl, l2⟩⟩
                   · rintro (w | ⟨w1, w2, ⟨rfl, w3⟩ | ⟨rfl, w3⟩⟩)
                     · exact Or.inl w
                     · exact absurd w3 l1
                     · exact Or.inr ⟨rfl, w1⟩)
                | (have l1 : ¬ _ := fun w => (cm_ne0 (show pS P k < 8 by omega) hHj hy1).mpr ⟨q2, w⟩ h64
                   have l2 : ¬ _ := fun w => (cm_ne0 (show pF P k < 8 by omega) hHj hy2).mpr ⟨q1, w⟩ h97
                   exact ih _ (cel6_congr hz (fun rm g _ _ => by rw [stepD]; exact ⟨Or.inl, fun w => w.elim id (fun w => w.2.2.elim (fun w => absurd w.2 l1) (fun w => absurd w.2 l2))⟩)))
        · skip
          refine sw_goto (tgt := 117) dX8_ahead_48 (by decide) ?_
          refine sx_iinc (nI (k + 1)) dX8_ahead_117 rfl (nI_inc _) ?_
          refine sw_goto (tgt := 24) dX8_ahead_120 (by decide) ?_
          first
            | (have hno : ¬ kO K t k := fun w => hfree.mpr w h45
               exact ih _ (cel6_congr hz (fun rm g _ _ => by rw [stepD]; exact ⟨Or.inl, fun w => w.elim id (fun w => absurd w.2.1 hno)⟩)))
            | (have hop := hfree.mp h45
               have l1 := ((cm_ne0 (show pS P k < 8 by omega) hHj hy1).mp h64).2
               have l2 := ((cm_ne0 (show pF P k < 8 by omega) hHj hy2).mp h97).2
               refine ih _ (cel6_congr (cel6_or (cel6_or hz hz1) hz2) (fun rm g _ _ => ?_))
               rw [stepD]
               constructor
               · rintro ((w | ⟨rfl, w⟩) | ⟨rfl, w⟩)
                 · exact Or.inl w
                 · exact Or.inr ⟨w, hop, Or.inl ⟨rfl, l1⟩⟩
                 · exact Or.inr ⟨w, hop, Or.inr ⟨rfl, l2⟩⟩
               · rintro (w | ⟨w1, w2, ⟨rfl, w3⟩ | ⟨rfl, w3⟩⟩)
                 · exact Or.inl (Or.inl w)
                 · exact Or.inl (Or.inr ⟨rfl, w1⟩)
                 · exact Or.inr ⟨rfl, w1⟩)
            | (have hop := hfree.mp h45
               have l1 := ((cm_ne0 (show pS P k < 8 by omega) hHj hy1).mp h64).2
               have l2 : ¬ _ := fun w => (cm_ne0 (show pF P k < 8 by omega) hHj hy2).mpr ⟨q1, w⟩ h97
               refine ih _ (cel6_congr (cel6_or hz hz1) (fun rm g _ _ => ?_))
               rw [stepD]
               constructor
               · rintro (w | ⟨rfl, w⟩)
                 · exact Or.inl w
                 · exact Or.inr ⟨w, hop, Or.inl ⟨rfl, l1⟩⟩
               · rintro (w | ⟨w1, w2, ⟨rfl, w3⟩ | ⟨rfl, w3⟩⟩)
                 · exact Or.inl w
                 · exact Or.inr ⟨rfl, w1⟩
                 · exact absurd w3 l2)
            | (have hop := hfree.mp h45
               have l1 : ¬ _ := fun w => (cm_ne0 (show pS P k < 8 by omega) hHj hy1).mpr ⟨q2, w⟩ h64
               have l2 := ((cm_ne0 (show pF P k < 8 by omega) hHj hy2).mp h97).2
               refine ih _ (cel6_congr (cel6_or hz hz2) (fun rm g _ _ => ?_))
               rw [stepD]
               constructor
               · rintro (w | ⟨rfl, w⟩)
                 · exact Or.inl w
                 · exact Or.inr ⟨w, hop, Or.inr ⟨rfl, l2⟩⟩
               · rintro (w | ⟨w1, w2, ⟨rfl, w3⟩ | ⟨rfl, w3⟩⟩)
                 · exact Or.inl w
                 · exact absurd w3 l1
                 · exact Or.inr ⟨rfl, w1⟩)
            | (have l1 : ¬ _ := fun w => (cm_ne0 (show pS P k < 8 by omega) hHj hy1).mpr ⟨q2, w⟩ h64
               have l2 : ¬ _ := fun w => (cm_ne0 (show pF P k < 8 by omega) hHj hy2).mpr ⟨q1, w⟩ h97
               exact ih _ (cel6_congr hz (fun rm g _ _ => by rw [stepD]; exact ⟨Or.inl, fun w => w.elim id (fun w => w.2.2.elim (fun w => absurd w.2 l1) (fun w => absurd w.2 l2))⟩)))
  refine sw_aloadn dX8_ahead_0 rfl ?_
  refine sw_getR dX8_ahead_1 fs_X8_95 o46 r46_42 ?_
  refine sx_bipush (v := nI 13) dX8_ahead_4 (by decide) ?_
  refine sw_iloadn dX8_ahead_6 rfl ?_
  refine sx_iconst (v := nI 1) dX8_ahead_7 (by decide) ?_
  refine sw_iadd dX8_ahead_8 ?_
  refine sw_topI (y := nI (t + 1)) (nI_1 t) ?_
  refine sw_imul dX8_ahead_9 ?_
  refine sw_iloadn dX8_ahead_10 rfl ?_
  refine sw_iadd dX8_ahead_11 ?_
  refine sx_lald (13 * (t + 1) + j) dX8_ahead_12 a72 (by rw [nI_mul, nI_add]) (by omega) (by decide) ?_
  refine sw_lstoren dX8_ahead_13 (Nat.le_of_ble_eq_true rfl) ?_
  refine sw_aloadn dX8_ahead_14 rfl ?_
  refine sw_lloadn dX8_ahead_15 rfl ?_
  refine sx_invJ1 dX8_ahead_16 mk_X8_stayed vk_X8_stayed lk_X8_286 o46 (Nat.le_of_ble_eq_true rfl) (Nat.le_of_ble_eq_true rfl) ?_
  refine m_stayed hP hV hHj (fun z hz => ?_)
  refine sw_lstore dX8_ahead_19 (Nat.le_of_ble_eq_true rfl) ?_
  refine sx_iconst (v := nI 0) dX8_ahead_21 (by decide) ?_
  refine sw_istore dX8_ahead_22 (Nat.le_of_ble_eq_true rfl) ?_
  refine loop (pD P) 0 (by omega) (by omega) _ (cel6_congr hz (fun rm g _ _ => ?_))
  constructor
  · rintro ⟨w1, w2, w3⟩; exact ⟨w1, Or.inl w3⟩
  · rintro ⟨w1, w3 | ⟨-, dd, w3, -⟩⟩
    · exact ⟨w1, w1, w3⟩
    · exact absurd w3 (by omega)
end MBACK
