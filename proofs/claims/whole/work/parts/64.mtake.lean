/-! ===== the model takes tokens ===== -/
def MTk (T : Nat → Int32) (N s : Nat) (a : Nat × Nat) (τ : Mem) : Prop := MTp T N τ ∧ FM τ a ∧ (a.1 = 0 → MTok T N s τ)
def frm (σ τ : Mem) : Prop := (∀ c, c ≠ 46 → τ.1 c = σ.1 c) ∧ τ.2 = σ.2 ∧ (∀ k, (k < 3 ∨ 8 < k) → τ.1 46 k = σ.1 46 k)
theorem frm_rf {σ : Mem} : frm σ σ := ⟨fun _ _ => rfl, rfl, fun _ _ => rfl⟩
theorem frm_tr {σ τ ρ : Mem} (h : frm σ τ) (g : frm τ ρ) : frm σ ρ := ⟨fun c hc => (g.1 c hc).trans (h.1 c hc), g.2.1.trans h.2.1, fun c hc => (g.2.2 c hc).trans (h.2.2 c hc)⟩
theorem frm_p {σ τ : Mem} (h : Mp σ τ) : frm σ τ := ⟨h.1, h.2.1, fun k hk => h.2.2 k (by omega)⟩
theorem frm_I {σ τ : Mem} (h : frm σ τ) {k : Nat} {v : Int32} (hk : 3 ≤ k ∧ k ≤ 8) : frm σ (setI τ 46 k v) := frm_tr h ⟨fun c hc => setI_ne _ _ _ hc, rfl, fun j hj => by rw [setI_at, upd_ne _ _ (by omega)]⟩
def nmM (T : Nat → Int32) (N : Nat) (τ : Mem) (k s : Nat) : Prop := τ.1 49 k = nI (lS T N s) ∧ ∀ i, i < lS T N s → τ.1 48 (8 * k + i) = T (s + i)
def MDr (T : Nat → Int32) (N : Nat) (D : DR) (τ : Mem) : Prop := τ.1 46 12 = nI (pR D.1) ∧ τ.1 46 13 = nI (pD D.1) ∧ (∀ k, k < pR D.1 → nmM T N τ k (rn D k)) ∧ (∀ k, k < pR D.1 → τ.1 50 k = nI (pW D.1 k)) ∧ (∀ k, k < pD D.1 → nmM T N τ (8 + k) (dn D k)) ∧ (∀ k, k < pD D.1 → τ.1 51 k = nI (pF D.1 k)) ∧ (∀ k, k < pD D.1 → τ.1 52 k = nI (pS D.1 k)) ∧ (∀ k, k < pD D.1 → τ.1 53 k = nI (pE D.1 k))
theorem MDr_fr {T : Nat → Int32} {N : Nat} {D : DR} {σ τ : Mem} (hf : frm σ τ) (h : MDr T N D σ) : MDr T N D τ := by
  unfold MDr nmM at h ⊢
  rw [hf.2.2 12 (by omega), hf.2.2 13 (by omega), hf.1 49 (by decide), hf.1 48 (by decide), hf.1 50 (by decide), hf.1 51 (by decide), hf.1 52 (by decide), hf.1 53 (by decide)]
  exact h
section MTAKE
variable {G : GG} {d : Nat} {σ : Mem} {T : Nat → Int32} {N s : Nat} {a : Nat × Nat} {D : DR}
theorem MTk_p {s' : Nat} {τ : Mem} (hf : Mp σ τ) (h : MTk T N s a σ) (g : MTok T N s' τ) : MTk T N s' a τ := by
  refine ⟨Mp_T hf h.1, ?_, fun _ => g⟩
  unfold FM
  rw [hf.2.2 7 (by omega), hf.2.2 8 (by omega)]
  exact h.2.1
theorem m_nextT {f : Mem → Prop} (hb : N ≤ 600) (ha : a.1 = 0) (hk : MTk T N s a σ) (h : ∀ τ, frm σ τ → MTk T N (nS T N s) a τ → f τ) : SW G (d + 1) M_X8_next 0 [some (.ref 46), none] [] σ (RV f) := by
  have g := hk.2.2 ha
  exact m_next hk.1 hb (eS_N g.1).1 g.2.1 (fun τ hf ht => h τ (frm_p hf) (MTk_p hf hk ht))
theorem m_fails {f : Mem → Prop} {c : Nat} (hc : c ≠ 0 ∧ c ≤ 6) (hk : MTk T N s a σ) (h : ∀ τ, frm σ τ → MTk T N s (fh a c s) τ → f τ) : SW G d M_X8_fails 0 [some (.ref 46), some (.int (nI c))] [] σ (RV f) := by
  obtain ⟨hT, hF, ht⟩ := hk
  have h6 := hF.2.1
  refine sw_aloadn dX8_fails_0 rfl ?_
  refine sw_getI dX8_fails_1 fs_X8_148 o46 ?_
  rw [hF.1]
  refine sw_if_eq (tgt := 8) dX8_fails_4 (by decide) (fun h4 => ?_) (fun h4 => ?_)
  · skip
    have ha : a.1 = 0 := nI_inj (by omega) (by omega) h4
    obtain ⟨t0, t3, t4, t5, t6⟩ := ht ha
    refine sw_aloadn dX8_fails_8 rfl ?_
    refine sw_iloadn dX8_fails_9 rfl ?_
    refine sw_putI dX8_fails_10 fs_X8_148 o46 ?_
    refine sw_aloadn dX8_fails_13 rfl ?_
    refine sw_aloadn dX8_fails_14 rfl ?_
    refine sw_getI dX8_fails_15 fs_X8_110 o46 ?_
    rw [show (setI σ 46 7 (nI c)).1 46 4 = nI s by rw [setI_at, upd_ne _ _ (by decide)]; exact t4]
    refine sw_putI dX8_fails_18 fs_X8_151 o46 ?_
    refine sx_ret0 dX8_fails_21 rfl ?_
    refine h _ (frm_I (frm_I frm_rf (by omega)) (by omega)) ?_
    rw [fh_c ha hc.1]
    refine ⟨⟨hT.1, by rw [setI_at, upd_ne _ _ (by decide), setI_at, upd_ne _ _ (by decide)]; exact hT.2⟩, ⟨by rw [setI_at, upd_ne _ _ (by decide), setI_at, upd_same], hc.2, fun _ => by rw [setI_at, upd_same]⟩, fun q => absurd q hc.1⟩
  · skip
    refine sx_ret0 dX8_fails_7 rfl ?_
    refine h _ frm_rf ?_
    rw [fh_a (fun z => h4 (by rw [z]; rfl))]
    exact ⟨hT, hF, ht⟩
theorem m_isWell {f : Int32 → Mem → Prop} (hF : FM σ a) (k1 : a.1 = 0 → f (nI 1) σ) (k0 : ¬ a.1 = 0 → f (nI 0) σ) : SW G d M_X8_isWell 0 [some (.ref 46)] [] σ (RI f) := by
  have h6 := hF.2.1
  refine sw_aloadn dX8_isWell_0 rfl ?_
  refine sw_getI dX8_isWell_1 fs_X8_148 o46 ?_
  rw [hF.1]
  refine sw_if_ne (tgt := 11) dX8_isWell_4 (by decide) (fun h4 => ?_) (fun h4 => ?_)
  · skip
    refine sx_iconst (v := nI 0) dX8_isWell_11 (by decide) ?_
    refine sx_retz dX8_isWell_12 rfl (Or.inl rfl) ?_
    first
      | exact k1 (nI_inj (by omega) (by omega) h4)
      | exact k0 (fun z => h4 (by rw [z]; rfl))
  · skip
    refine sx_iconst (v := nI 1) dX8_isWell_7 (by decide) ?_
    refine sw_goto (tgt := 12) dX8_isWell_8 (by decide) ?_
    refine sx_retz dX8_isWell_12 rfl (Or.inr rfl) ?_
    first
      | exact k1 (nI_inj (by omega) (by omega) h4)
      | exact k0 (fun z => h4 (by rw [z]; rfl))
theorem m_isAt {f : Int32 → Mem → Prop} {k r : Nat} (hb : N ≤ 600) (hT : MTp T N σ) (hk : MTok T N s σ) (hk8 : k < 18) (hn : nmM T N σ k r) (hr : lS T N r ≤ 8) (k1 : sam T N r s → f (nI 1) σ) (k0 : ¬ sam T N r s → f (nI 0) σ) : SW G d M_X8_isAt 0 [some (.ref 46), some (.int (nI k)), none] [] σ (RI f) := by
  obtain ⟨t0, t3, t4, t5, -⟩ := hk
  have hse := eS_N (T := T) t0
  have hl : lS T N s ≤ 600 := by unfold lS; omega
  have loop : ∀ (m j : Nat), m = lS T N r - j → j ≤ lS T N r → lS T N r = lS T N s → (∀ i, i < j → T (r + i) = T (s + i)) → SW G d M_X8_isAt 22 [some (.ref 46), some (.int (nI k)), some (.int (nI j))] [] σ (RI f) := by
    intro m
    induction m with
    | zero =>
      intro j hm hj e hp
      refine sw_iloadn dX8_isAt_22 rfl ?_
      refine sw_aloadn dX8_isAt_23 rfl ?_
      refine sw_getR dX8_isAt_24 fs_X8_23 o46 r46_11 ?_
      refine sw_iloadn dX8_isAt_27 rfl ?_
      refine sx_iald (k) dX8_isAt_28 a49 (rfl) (by omega) (by decide) ?_
      rw [hn.1]
      refine sw_icmp_ge (tgt := 65) dX8_isAt_29 (by decide) (fun h29 => ?_) (fun h29 => ?_)
      · skip
        refine sx_iconst (v := nI 1) dX8_isAt_65 (by decide) ?_
        refine sx_retz dX8_isAt_66 rfl (Or.inr rfl) ?_
        exact k1 ⟨e, fun i hi => hp i (by omega)⟩
      · exact absurd ((nI_le (by omega) (by omega))) h29
    | succ m ih =>
      intro j hm hj e hp
      have hs4 : s + j < N := by unfold lS at e; unfold lS at hj; unfold lS at hm; omega
      refine sw_iloadn dX8_isAt_22 rfl ?_
      refine sw_aloadn dX8_isAt_23 rfl ?_
      refine sw_getR dX8_isAt_24 fs_X8_23 o46 r46_11 ?_
      refine sw_iloadn dX8_isAt_27 rfl ?_
      refine sx_iald (k) dX8_isAt_28 a49 (rfl) (by omega) (by decide) ?_
      rw [hn.1]
      refine sw_icmp_ge (tgt := 65) dX8_isAt_29 (by decide) (fun h29 => ?_) (fun h29 => ?_)
      · exact absurd h29 ((by rw [nI_le' (by omega) (by omega)]; omega))
      · skip
        refine sw_aloadn dX8_isAt_32 rfl ?_
        refine sw_getR dX8_isAt_33 fs_X8_20 o46 r46_10 ?_
        refine sx_bipush (v := nI 8) dX8_isAt_36 (by decide) ?_
        refine sw_iloadn dX8_isAt_38 rfl ?_
        refine sw_imul dX8_isAt_39 ?_
        refine sw_iloadn dX8_isAt_40 rfl ?_
        refine sw_iadd dX8_isAt_41 ?_
        refine sw_topI (y := nI (8 * k + j)) (by rw [nI_mul, nI_add]) ?_
        refine sx_bald (8 * k + j) dX8_isAt_42 a48 (rfl) (by omega) (by decide) ?_
        rw [hn.2 j (by omega)]
        refine sw_aloadn dX8_isAt_43 rfl ?_
        refine sw_getR dX8_isAt_44 fs_X8_13 o46 r46_1 ?_
        refine sw_aloadn dX8_isAt_47 rfl ?_
        refine sw_getI dX8_isAt_48 fs_X8_110 o46 ?_
        rw [t4]
        refine sw_iloadn dX8_isAt_51 rfl ?_
        refine sw_iadd dX8_isAt_52 ?_
        refine sw_topI (y := nI (s + j)) (nI_add _ _) ?_
        refine sx_bald (s + j) dX8_isAt_53 a47 (rfl) (by omega) (by decide) ?_
        rw [hT.1]
        refine sw_icmp_eq (tgt := 59) dX8_isAt_54 (by decide) (fun h54 => ?_) (fun h54 => ?_)
        · skip
          refine sx_iinc (nI (j + 1)) dX8_isAt_59 rfl (nI_inc _) ?_
          refine sw_goto (tgt := 22) dX8_isAt_62 (by decide) ?_
          exact ih (j + 1) (by omega) (by omega) e (fun i hi => by
            rcases Nat.lt_or_ge i j with z | z
            · exact hp i z
            · obtain rfl : i = j := by omega
              exact h54)
        · skip
          refine sx_iconst (v := nI 0) dX8_isAt_57 (by decide) ?_
          refine sx_retz dX8_isAt_58 rfl (Or.inl rfl) ?_
          exact k0 (fun z => h54 (z.2 j (by omega)))
  refine sw_aloadn dX8_isAt_0 rfl ?_
  refine sw_getR dX8_isAt_1 fs_X8_23 o46 r46_11 ?_
  refine sw_iloadn dX8_isAt_4 rfl ?_
  refine sx_iald (k) dX8_isAt_5 a49 (rfl) (by omega) (by decide) ?_
  rw [hn.1]
  refine sw_aloadn dX8_isAt_6 rfl ?_
  refine sw_getI dX8_isAt_7 fs_X8_107 o46 ?_
  rw [t3]
  refine sw_aloadn dX8_isAt_10 rfl ?_
  refine sw_getI dX8_isAt_11 fs_X8_110 o46 ?_
  rw [t4]
  refine sw_isub dX8_isAt_14 ?_
  refine sw_topI (y := nI (lS T N s)) (nI_sub hse.2) ?_
  refine sw_icmp_eq (tgt := 20) dX8_isAt_15 (by decide) (fun h15 => ?_) (fun h15 => ?_)
  · skip
    refine sx_iconst (v := nI 0) dX8_isAt_20 (by decide) ?_
    refine sw_istoren dX8_isAt_21 (Nat.le_of_ble_eq_true rfl) ?_
    exact loop _ 0 rfl (by omega) (nI_inj (by omega) (by omega) h15) (fun i hi => absurd hi (Nat.not_lt_zero _))
  · skip
    refine sx_iconst (v := nI 0) dX8_isAt_18 (by decide) ?_
    refine sx_retz dX8_isAt_19 rfl (Or.inl rfl) ?_
    exact k0 (fun z => h15 (by rw [z.1]))
theorem m_roomHere {f : Int32 → Mem → Prop} (hb : N ≤ 600) (hT : MTp T N σ) (hk : MTok T N s σ) (hD : GD T N D) (hd : MDr T N D σ) (h : ∀ r, ((rmX T N D s < pR D.1 ∧ r = nI (rmX T N D s)) ∨ (rmX T N D s = pR D.1 ∧ r = -1)) → f r σ) : SW G (d + 1) M_X8_roomHere 0 [some (.ref 46), none] [] σ (RI f) := by
  have p1 := hD.1.1
  have dF : ∀ {p : Prop}, ¬ p → dB p = false := fun {p} q => by
    cases e : dB p with
    | false => rfl
    | true => exact absurd (dB_t.mp e) q
  have loop : ∀ (m k : Nat), m = pR D.1 - k → k ≤ pR D.1 → (∀ i, i < k → dB (sam T N (rn D i) s) = false) → SW G (d + 1) M_X8_roomHere 2 [some (.ref 46), some (.int (nI k))] [] σ (RI f) := by
    intro m
    induction m with
    | zero =>
      intro k hm hk' hp
      refine sw_iloadn dX8_roomHere_2 rfl ?_
      refine sw_aloadn dX8_roomHere_3 rfl ?_
      refine sw_getI dX8_roomHere_4 fs_X8_154 o46 ?_
      rw [hd.1]
      refine sw_icmp_ge (tgt := 26) dX8_roomHere_7 (by decide) (fun h7 => ?_) (fun h7 => ?_)
      · skip
        refine sx_iconst (v := (-1)) dX8_roomHere_26 (by decide) ?_
        refine sx_reti dX8_roomHere_27 rfl ?_
        exact h _ (Or.inr ⟨fnd_no (fun i hi => hp i (by omega)), rfl⟩)
      · exact absurd ((nI_le (by omega) (by omega))) h7
    | succ m ih =>
      intro k hm hk' hp
      refine sw_iloadn dX8_roomHere_2 rfl ?_
      refine sw_aloadn dX8_roomHere_3 rfl ?_
      refine sw_getI dX8_roomHere_4 fs_X8_154 o46 ?_
      rw [hd.1]
      refine sw_icmp_ge (tgt := 26) dX8_roomHere_7 (by decide) (fun h7 => ?_) (fun h7 => ?_)
      · exact absurd h7 ((by rw [nI_le' (by omega) (by omega)]; omega))
      · skip
        refine sw_aloadn dX8_roomHere_10 rfl ?_
        refine sw_iloadn dX8_roomHere_11 rfl ?_
        refine sx_invI1 dX8_roomHere_12 mk_X8_isAt vk_X8_isAt lk_X8_157 o46 (Nat.le_of_ble_eq_true rfl) (Nat.le_of_ble_eq_true rfl) ?_
        refine m_isAt (k := k) (r := rn D k) hb hT hk (by omega) (hd.2.2.1 k (by omega)) (hD.2.1 k (by omega)).2.1 (fun h12 => ?_) (fun h12 => ?_)
        · skip
          refine sw_if_eq (tgt := 20) dX8_roomHere_15 (by decide) (fun h15 => ?_) (fun h15 => ?_)
          · exact absurd h15 (by decide)
          · skip
            refine sw_iloadn dX8_roomHere_18 rfl ?_
            refine sx_reti dX8_roomHere_19 rfl ?_
            have e : rmX T N D s = k := fnd_at (by omega) (dB_t.mpr h12) hp
            exact h _ (Or.inl ⟨by omega, by rw [e]⟩)
        · skip
          refine sw_if_eq (tgt := 20) dX8_roomHere_15 (by decide) (fun h15 => ?_) (fun h15 => ?_)
          · skip
            refine sx_iinc (nI (k + 1)) dX8_roomHere_20 rfl (nI_inc _) ?_
            refine sw_goto (tgt := 2) dX8_roomHere_23 (by decide) ?_
            exact ih (k + 1) (by omega) (by omega) (fun i hi => by
              rcases Nat.lt_or_ge i k with z | z
              · exact hp i z
              · obtain rfl : i = k := by omega
                exact dF h12)
          · exact absurd h15 (by decide)
  refine sx_iconst (v := nI 0) dX8_roomHere_0 (by decide) ?_
  refine sw_istoren dX8_roomHere_1 (Nat.le_of_ble_eq_true rfl) ?_
  exact loop _ 0 rfl (by omega) (fun i hi => absurd hi (Nat.not_lt_zero _))
theorem m_isDoorHere {f : Int32 → Mem → Prop} (hb : N ≤ 600) (hT : MTp T N σ) (hk : MTok T N s σ) (hD : GD T N D) (hd : MDr T N D σ) (k1 : (∃ k, k < pD D.1 ∧ sam T N (dn D k) s) → f (nI 1) σ) (k0 : ¬ (∃ k, k < pD D.1 ∧ sam T N (dn D k) s) → f (nI 0) σ) : SW G (d + 1) M_X8_isDoorHere 0 [some (.ref 46), none] [] σ (RI f) := by
  have p2 := hD.1.2.1
  have loop : ∀ (m k : Nat), m = pD D.1 - k → k ≤ pD D.1 → (∀ i, i < k → ¬ sam T N (dn D i) s) → SW G (d + 1) M_X8_isDoorHere 2 [some (.ref 46), some (.int (nI k))] [] σ (RI f) := by
    intro m
    induction m with
    | zero =>
      intro k hm hk' hp
      refine sw_iloadn dX8_isDoorHere_2 rfl ?_
      refine sw_aloadn dX8_isDoorHere_3 rfl ?_
      refine sw_getI dX8_isDoorHere_4 fs_X8_160 o46 ?_
      rw [hd.2.1]
      refine sw_icmp_ge (tgt := 29) dX8_isDoorHere_7 (by decide) (fun h7 => ?_) (fun h7 => ?_)
      · skip
        refine sx_iconst (v := nI 0) dX8_isDoorHere_29 (by decide) ?_
        refine sx_retz dX8_isDoorHere_30 rfl (Or.inl rfl) ?_
        exact k0 (fun ⟨j, hj, z⟩ => hp j (by omega) z)
      · exact absurd ((nI_le (by omega) (by omega))) h7
    | succ m ih =>
      intro k hm hk' hp
      refine sw_iloadn dX8_isDoorHere_2 rfl ?_
      refine sw_aloadn dX8_isDoorHere_3 rfl ?_
      refine sw_getI dX8_isDoorHere_4 fs_X8_160 o46 ?_
      rw [hd.2.1]
      refine sw_icmp_ge (tgt := 29) dX8_isDoorHere_7 (by decide) (fun h7 => ?_) (fun h7 => ?_)
      · exact absurd h7 ((by rw [nI_le' (by omega) (by omega)]; omega))
      · skip
        refine sw_aloadn dX8_isDoorHere_10 rfl ?_
        refine sx_bipush (v := nI 8) dX8_isDoorHere_11 (by decide) ?_
        refine sw_iloadn dX8_isDoorHere_13 rfl ?_
        refine sw_iadd dX8_isDoorHere_14 ?_
        refine sw_topI (y := nI (8 + k)) (nI_add _ _) ?_
        refine sx_invI1 dX8_isDoorHere_15 mk_X8_isAt vk_X8_isAt lk_X8_157 o46 (Nat.le_of_ble_eq_true rfl) (Nat.le_of_ble_eq_true rfl) ?_
        refine m_isAt (k := 8 + k) (r := dn D k) hb hT hk (by omega) (hd.2.2.2.2.1 k (by omega)) (hD.2.2 k (by omega)).2.1 (fun h15 => ?_) (fun h15 => ?_)
        · skip
          refine sw_if_eq (tgt := 23) dX8_isDoorHere_18 (by decide) (fun h18 => ?_) (fun h18 => ?_)
          · exact absurd h18 (by decide)
          · skip
            refine sx_iconst (v := nI 1) dX8_isDoorHere_21 (by decide) ?_
            refine sx_retz dX8_isDoorHere_22 rfl (Or.inr rfl) ?_
            exact k1 ⟨k, by omega, h15⟩
        · skip
          refine sw_if_eq (tgt := 23) dX8_isDoorHere_18 (by decide) (fun h18 => ?_) (fun h18 => ?_)
          · skip
            refine sx_iinc (nI (k + 1)) dX8_isDoorHere_23 rfl (nI_inc _) ?_
            refine sw_goto (tgt := 2) dX8_isDoorHere_26 (by decide) ?_
            exact ih (k + 1) (by omega) (by omega) (fun i hi => by
              rcases Nat.lt_or_ge i k with z | z
              · exact hp i z
              · obtain rfl : i = k := by omega
                exact h15)
          · exact absurd h18 (by decide)
  refine sx_iconst (v := nI 0) dX8_isDoorHere_0 (by decide) ?_
  refine sw_istoren dX8_isDoorHere_1 (Nat.le_of_ble_eq_true rfl) ?_
  exact loop _ 0 rfl (by omega) (fun i hi => absurd hi (Nat.not_lt_zero _))
theorem m_number {f : Int32 → Mem → Prop} {m : Nat} (hm : m < 1000) (hb : N ≤ 600) (hk : MTk T N s a σ) (h : ∀ τ r, frm σ τ → MTk T N (nS T N s) (fh a (ckV T N m s) s) τ → ((fh a (ckV T N m s) s).1 = 0 → r = nI (nvS T N s)) → f r τ) : SW G (d + 2) M_X8_number 0 [some (.ref 46), some (.int (nI m)), none] [] σ (RI f) := by
  have hm' := mS_le (T := T) (N := N) (s := s)
  have c1 : ¬ (kdS T N s = 2 ∧ lS T N s ≤ 4) → ckV T N m s = 1 := fun q => if_neg q
  have bad : ∀ τ (c : Nat), frm σ τ → a.1 = 0 → c ≠ 0 → ckV T N m s = c → MTk T N s (fh a c s) τ → SW G (d + 2) M_X8_number 38 [some (.ref 46), some (.int (nI m)), none] [] τ (RI f) := by
    intro τ c hf ha hc e hk'
    have hz : ¬ (fh a c s).1 = 0 := fun q => hc (fh_0.mp q).2
    refine sw_aloadn dX8_number_38 rfl ?_
    refine sx_invI0 dX8_number_39 mk_X8_isWell vk_X8_isWell lk_X8_177 o46 (Nat.le_of_ble_eq_true rfl) (Nat.le_of_ble_eq_true rfl) ?_
    refine m_isWell hk'.2.1 (fun h39 => ?_) (fun h39 => ?_)
    · skip
      refine sw_if_ne (tgt := 47) dX8_number_42 (by decide) (fun h42 => ?_) (fun h42 => ?_)
      · skip
        exact absurd h39 hz
      · exact absurd h42 (by decide)
    · skip
      refine sw_if_ne (tgt := 47) dX8_number_42 (by decide) (fun h42 => ?_) (fun h42 => ?_)
      · exact absurd h42 (by decide)
      · skip
        refine sx_iconst (v := nI 0) dX8_number_45 (by decide) ?_
        refine sx_reti dX8_number_46 rfl ?_
        exact h τ _ hf (by rw [e]; exact ⟨hk'.1, hk'.2.1, fun q => absurd q hz⟩) (by rw [e]; exact fun q => absurd q hz)
  refine sw_aloadn dX8_number_0 rfl ?_
  refine sx_invI0 dX8_number_1 mk_X8_isWell vk_X8_isWell lk_X8_177 o46 (Nat.le_of_ble_eq_true rfl) (Nat.le_of_ble_eq_true rfl) ?_
  refine m_isWell hk.2.1 (fun h1 => ?_) (fun h1 => ?_)
  · skip
    refine sw_if_ne (tgt := 9) dX8_number_4 (by decide) (fun h4 => ?_) (fun h4 => ?_)
    · skip
      obtain ⟨t0, t3, t4, t5, t6⟩ := hk.2.2 h1
      refine sw_aloadn dX8_number_9 rfl ?_
      refine sw_getI dX8_number_10 fs_X8_113 o46 ?_
      rw [t5]
      refine sx_iconst (v := nI 2) dX8_number_13 (by decide) ?_
      refine sw_icmp_eq (tgt := 25) dX8_number_14 (by decide) (fun h14 => ?_) (fun h14 => ?_)
      · skip
        have g := mS_2.mp (nI_inj (by omega) (by omega) h14)
        have t6 := t6 g.1 g.2
        have hlt := kn_lt g.1 g.2
        refine sw_aloadn dX8_number_25 rfl ?_
        refine sw_getI dX8_number_26 fs_X8_127 o46 ?_
        rw [t6]
        refine sw_iloadn dX8_number_29 rfl ?_
        refine sw_icmp_le (tgt := 38) dX8_number_30 (by decide) (fun h30 => ?_) (fun h30 => ?_)
        · skip
          first
            | exact bad τ 1 hf h1 (by omega) (c1 (fun q => h14 (by rw [mS_2.mpr q]))) hk'
            | (refine bad τ 5 hf h1 (by omega) ?_ hk'
               have := mt (nI_le' (by unfold nvS; omega) (by omega)).mpr h30
               unfold nvS at this
               unfold ckV
               rw [if_pos g, if_pos (by omega)])
            | (have e0 : ckV T N m s = 0 := by
                 have := (nI_le' (by unfold nvS; omega) (by omega)).mp h30
                 unfold nvS at this
                 unfold ckV
                 rw [if_pos g, if_neg (by omega)]
               refine sw_aloadn dX8_number_38 rfl ?_
               refine sx_invI0 dX8_number_39 mk_X8_isWell vk_X8_isWell lk_X8_177 o46 (Nat.le_of_ble_eq_true rfl) (Nat.le_of_ble_eq_true rfl) ?_
               refine m_isWell hk.2.1 (fun _ => ?_) (fun q => absurd h1 q)
               refine sw_if_ne (tgt := 47) dX8_number_42 (by decide) (fun _ => ?_) (fun q => absurd q (by decide))
               refine sw_aloadn dX8_number_47 rfl ?_
               refine sw_getI dX8_number_48 fs_X8_127 o46 ?_
               rw [t6]
               refine sw_istoren dX8_number_51 (Nat.le_of_ble_eq_true rfl) ?_
               refine sw_aloadn dX8_number_52 rfl ?_
               refine sx_invV0 dX8_number_53 mk_X8_next vk_X8_next lk_X8_180 o46 (Nat.le_of_ble_eq_true rfl) (Nat.le_of_ble_eq_true rfl) ?_
               refine m_nextT hb h1 hk (fun τ hf hk' => ?_)
               refine sw_iloadn dX8_number_56 rfl ?_
               refine sx_reti dX8_number_57 rfl ?_
               exact h _ _ hf (by rw [e0, fh_c0]; exact hk') (fun _ => rfl))
        · skip
          refine sw_aloadn dX8_number_33 rfl ?_
          refine sx_iconst (v := nI 5) dX8_number_34 (by decide) ?_
          refine sx_invV1 dX8_number_35 mk_X8_fails vk_X8_fails lk_X8_167 o46 (Nat.le_of_ble_eq_true rfl) (Nat.le_of_ble_eq_true rfl) ?_
          refine m_fails (c := 5) (by omega) hk (fun τ hf hk' => ?_)
          first
            | exact bad τ 1 hf h1 (by omega) (c1 (fun q => h14 (by rw [mS_2.mpr q]))) hk'
            | (refine bad τ 5 hf h1 (by omega) ?_ hk'
               have := mt (nI_le' (by unfold nvS; omega) (by omega)).mpr h30
               unfold nvS at this
               unfold ckV
               rw [if_pos g, if_pos (by omega)])
            | (have e0 : ckV T N m s = 0 := by
                 have := (nI_le' (by unfold nvS; omega) (by omega)).mp h30
                 unfold nvS at this
                 unfold ckV
                 rw [if_pos g, if_neg (by omega)]
               refine sw_aloadn dX8_number_38 rfl ?_
               refine sx_invI0 dX8_number_39 mk_X8_isWell vk_X8_isWell lk_X8_177 o46 (Nat.le_of_ble_eq_true rfl) (Nat.le_of_ble_eq_true rfl) ?_
               refine m_isWell hk.2.1 (fun _ => ?_) (fun q => absurd h1 q)
               refine sw_if_ne (tgt := 47) dX8_number_42 (by decide) (fun _ => ?_) (fun q => absurd q (by decide))
               refine sw_aloadn dX8_number_47 rfl ?_
               refine sw_getI dX8_number_48 fs_X8_127 o46 ?_
               rw [t6]
               refine sw_istoren dX8_number_51 (Nat.le_of_ble_eq_true rfl) ?_
               refine sw_aloadn dX8_number_52 rfl ?_
               refine sx_invV0 dX8_number_53 mk_X8_next vk_X8_next lk_X8_180 o46 (Nat.le_of_ble_eq_true rfl) (Nat.le_of_ble_eq_true rfl) ?_
               refine m_nextT hb h1 hk (fun τ hf hk' => ?_)
               refine sw_iloadn dX8_number_56 rfl ?_
               refine sx_reti dX8_number_57 rfl ?_
               exact h _ _ hf (by rw [e0, fh_c0]; exact hk') (fun _ => rfl))
      · skip
        refine sw_aloadn dX8_number_17 rfl ?_
        refine sx_iconst (v := nI 1) dX8_number_18 (by decide) ?_
        refine sx_invV1 dX8_number_19 mk_X8_fails vk_X8_fails lk_X8_167 o46 (Nat.le_of_ble_eq_true rfl) (Nat.le_of_ble_eq_true rfl) ?_
        refine m_fails (c := 1) (by omega) hk (fun τ hf hk' => ?_)
        refine sw_goto (tgt := 38) dX8_number_22 (by decide) ?_
        first
          | exact bad τ 1 hf h1 (by omega) (c1 (fun q => h14 (by rw [mS_2.mpr q]))) hk'
          | (refine bad τ 5 hf h1 (by omega) ?_ hk'
             have := mt (nI_le' (by unfold nvS; omega) (by omega)).mpr h30
             unfold nvS at this
             unfold ckV
             rw [if_pos g, if_pos (by omega)])
          | (have e0 : ckV T N m s = 0 := by
               have := (nI_le' (by unfold nvS; omega) (by omega)).mp h30
               unfold nvS at this
               unfold ckV
               rw [if_pos g, if_neg (by omega)]
             refine sw_aloadn dX8_number_38 rfl ?_
             refine sx_invI0 dX8_number_39 mk_X8_isWell vk_X8_isWell lk_X8_177 o46 (Nat.le_of_ble_eq_true rfl) (Nat.le_of_ble_eq_true rfl) ?_
             refine m_isWell hk.2.1 (fun _ => ?_) (fun q => absurd h1 q)
             refine sw_if_ne (tgt := 47) dX8_number_42 (by decide) (fun _ => ?_) (fun q => absurd q (by decide))
             refine sw_aloadn dX8_number_47 rfl ?_
             refine sw_getI dX8_number_48 fs_X8_127 o46 ?_
             rw [t6]
             refine sw_istoren dX8_number_51 (Nat.le_of_ble_eq_true rfl) ?_
             refine sw_aloadn dX8_number_52 rfl ?_
             refine sx_invV0 dX8_number_53 mk_X8_next vk_X8_next lk_X8_180 o46 (Nat.le_of_ble_eq_true rfl) (Nat.le_of_ble_eq_true rfl) ?_
             refine m_nextT hb h1 hk (fun τ hf hk' => ?_)
             refine sw_iloadn dX8_number_56 rfl ?_
             refine sx_reti dX8_number_57 rfl ?_
             exact h _ _ hf (by rw [e0, fh_c0]; exact hk') (fun _ => rfl))
    · exact absurd h4 (by decide)
  · skip
    refine sw_if_ne (tgt := 9) dX8_number_4 (by decide) (fun h4 => ?_) (fun h4 => ?_)
    · exact absurd h4 (by decide)
    · skip
      refine sx_iconst (v := nI 0) dX8_number_7 (by decide) ?_
      refine sx_reti dX8_number_8 rfl ?_
      refine h _ _ frm_rf ?_ ?_
      · rw [fh_a h1]; exact ⟨hk.1, hk.2.1, fun q => absurd q h1⟩
      · rw [fh_a h1]; exact fun q => absurd q h1
end MTAKE
