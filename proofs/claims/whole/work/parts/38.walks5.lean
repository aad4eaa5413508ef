/-! ===== Walks: the first way ===== -/
theorem wtR_congr {P : PL} {ρ ρ' : Nat → Nat} : ∀ {t : Nat}, (∀ k, k < t → ρ k = ρ' k) → wtR P ρ t = wtR P ρ' t
  | 0, _ => rfl
  | t + 1, h => by
    unfold wtR
    rw [preR_congr (t := t) (fun k hk => h k (by omega)), h t (by omega), wtR_congr (t := t) (fun k hk => h k (by omega))]
theorem fit_stage {P : PL} {K : WK} {ρ : Nat → Nat} : ∀ (t j a : Nat), fit P K ρ t j a → j ≤ kN K
  | 0, j, a, h => by rw [h.1]; exact Nat.zero_le _
  | t + 1, j, a, h => hop_stage _ _ _ _ h.2
/-- the wait behind a tick that ends in room k -/
def awt (P : PL) (ρ : Nat → Nat) (t k : Nat) : Nat := if k = preR ρ t then wtR P ρ t - 1 else pW P k
def nxS (P : PL) (K : WK) (ρ : Nat → Nat) (t k j' : Nat) : Prop := (∃ j a, fit P K ρ t j a ∧ stp P K t j (preR ρ t) a j' k (awt P ρ t k)) ∧ hop P K (199 - t) j' k (awt P ρ t k)
theorem cand_nxS {P : PL} (hV : PV P) {K : WK} (hD : KD K) {ρ : Nat → Nat} {t k : Nat} : cand P K ρ t k ↔ ∃ j', nxS P K ρ t k j' := by
  constructor
  · rintro ⟨j', a', ⟨j, a, q1, q2⟩, q3⟩
    have e := stp_wait hV hD q2
    have e2 := fit_wait hV hD t j a q1
    have e3 : a' = awt P ρ t k := by rw [e, e2]; rfl
    subst e3
    exact ⟨j', ⟨j, a, q1, q2⟩, q3⟩
  · rintro ⟨j', ⟨j, a, q1, q2⟩, q3⟩
    exact ⟨j', _, ⟨j, a, q1, q2⟩, q3⟩
theorem cand_lt {P : PL} (hV : PV P) {K : WK} (hK : KV P K) {ρ : Nat → Nat} {t r : Nat} (hp : preR ρ t < pR P) (h : cand P K ρ t r) : r < pR P := by
  obtain ⟨j', a', ⟨j, a, -, q⟩, -⟩ := h
  rcases q with ⟨-, rfl, -⟩ | ⟨-, -, -, q⟩ | ⟨-, -, q, -, -, -, rfl⟩
  · exact hp
  · exact (fre_lt hV q).2
  · exact (hK.2 j q).2
section WALKS5
variable {G : GG} {d : Nat} {σ : Mem}
theorem ne0_bit {m : Nat} (h : ¬ m = 0) : ∃ j, m.testBit j = true := Nat.exists_testBit_of_ne_zero h
theorem c_findFirstWay {f : Int32 → Mem → Prop} {P : PL} {K : WK} (hW : WT σ P K) (hR0 : 0 < pR P) (hD : KD K) (k1 : ∀ τ ρ, sm σ τ → τ.1 33 = σ.1 33 → (∀ t, t < 200 → τ.1 34 t = nI (ρ t)) → (∀ t, t < 200 → leastAt P K ρ t ∧ ρ t < pR P) → f (nI 1) τ) (k0 : ¬ hop0 P K → ∀ τ, sm σ τ → τ.1 33 = σ.1 33 → f (nI 0) τ) : SW G (d + 3) M_X6_findFirstWay 0 [some (.ref 35), some (.ref 34), none, none, none, none, none, none, none, none] [] σ (RI f) := by
  have hV := hW.2.1
  have hK := hW.2.2.1
  have h12 := hK.1
  have h8 := hV.1
  have loop : ∀ (n t : Nat), n = 200 - t → t ≤ 200 → ∀ (τ : Mem) (ρ : Nat → Nat) (m : Nat), sm σ τ → τ.1 33 = σ.1 33 → (∀ t, t < 200 → rowH K (τ.2 44) (t * 13) (hop P K (199 - t))) → (∀ k, k < t → τ.1 34 k = nI (ρ k)) → (∀ k, k < t → leastAt P K ρ k ∧ ρ k < pR P) → m < 8192 → (∀ j, m.testBit j = true ↔ fit P K ρ t j (wtR P ρ t)) → ∀ o6 o7 o8 o9, SW G (d + 3) M_X6_findFirstWay 14 [some (.ref 35), some (.ref 34), some (.int (nI (preR ρ t))), some (.int (nI (wtR P ρ t))), some (.int (nI m)), some (.int (nI t)), o6, o7, o8, o9] [] τ (RI f) := by
    intro n
    induction n with
    | zero =>
      intro t hn ht τ ρ m hs h33 hh hrow hle hm hmb o6 o7 o8 o9
      obtain rfl : t = 200 := by omega
      refine sw_iload dX6_findFirstWay_14 rfl ?_
      refine sx_sipush (v := nI 200) dX6_findFirstWay_16 (by decide) ?_
      refine sw_icmp_ge (tgt := 176) dX6_findFirstWay_19 (by decide) (fun h19 => ?_) (fun h19 => ?_)
      · skip
        refine sx_iconst (v := nI 1) dX6_findFirstWay_176 (by decide) ?_
        refine sx_retz dX6_findFirstWay_177 rfl (Or.inr rfl) ?_
        exact k1 τ ρ hs h33 hrow hle
      · exact absurd ((by decide)) h19
    | succ n ih =>
      intro t hn ht τ ρ m hs h33 hh hrow hle hm hmb o6 o7 o8 o9
      have wτ := WT_sm hs hW
      have hpre : preR ρ t < pR P := by
        cases t with
        | zero => exact hR0
        | succ t => exact (hle t (by omega)).2
      have hw4 : wtR P ρ t ≤ 4 := wtR_le hV t (fun k hk => (hle k hk).2)
      have hE := wτ.2.2.2.2.2.2.2.2.2
      have hhr := hh t (by omega)
      have hmk : ∀ j, m.testBit j = true → j ≤ kN K := fun j q => fit_stage t j _ ((hmb j).mp q)
      have ih := ih (t + 1) (by omega) (by omega)
      -- a room is found
      have found : ∀ (k m' : Nat), k < pR P → (∀ r, r < k → ¬ cand P K ρ t r) → m' < 8192 → (∀ j', m'.testBit j' = true ↔ nxS P K ρ t k j') → ¬ m' = 0 → ∀ o9, SW G (d + 3) M_X6_findFirstWay 129 [some (.ref 35), some (.ref 34), some (.int (nI (preR ρ t))), some (.int (nI (wtR P ρ t))), some (.int (nI m)), some (.int (nI t)), some (.int (nI (wtR P ρ t - 1))), some (.int (nI k)), some (.int (nI m')), o9] [] τ (RI f) := by
        intro k m' hk hno hm' hmb' hne o9
        have hcand : cand P K ρ t k := (cand_nxS hV hD).mpr (by obtain ⟨j, q⟩ := ne0_bit hne; exact ⟨j, (hmb' j).mp q⟩)
        have hkw := hV.2.2.1 k hk
        obtain ⟨ρ', et, same⟩ : ∃ ρ' : Nat → Nat, ρ' t = k ∧ ∀ i, i < t → ρ' i = ρ i := ⟨fun i => if i = t then k else ρ i, if_pos rfl, fun i hi => if_neg (by omega)⟩
        have samer : ∀ i, i < t → ρ i = ρ' i := fun i hi => (same i hi).symm
        have ew : wtR P ρ' (t + 1) = awt P ρ t k := by
          unfold wtR awt
          rw [preR_congr same, wtR_congr same, et]
        have hnew : ∀ i, i < t + 1 → leastAt P K ρ' i ∧ ρ' i < pR P := by
          intro i hi
          by_cases e : i = t
          · subst e
            refine ⟨⟨?_, ?_⟩, ?_⟩
            · rw [et]; exact (cand_congr samer k).mp hcand
            · rw [et]; exact fun r hr q => hno r hr ((cand_congr samer r).mpr q)
            · rw [et]; exact hk
          · have hi' : i < t := by omega
            obtain ⟨⟨c1, c2⟩, c3⟩ := hle i hi'
            have cg : ∀ x, x < i → ρ x = ρ' x := fun x hx => samer x (by omega)
            refine ⟨⟨?_, ?_⟩, ?_⟩
            · rw [same i hi']; exact (cand_congr cg _).mp c1
            · rw [same i hi']; exact fun r hr q => c2 r hr ((cand_congr cg r).mpr q)
            · rw [same i hi']; exact c3
        have hrow' : ∀ i, i < t + 1 → (setI τ 34 t (nI k)).1 34 i = nI (ρ' i) := by
          intro i hi
          rw [setI_at]
          by_cases e : i = t
          · subst e; rw [upd_same, et]
          · rw [upd_ne _ _ e, same i (by omega)]; exact hrow i (by omega)
        have hfit : ∀ j, m'.testBit j = true ↔ fit P K ρ' (t + 1) j (wtR P ρ' (t + 1)) := by
          intro j
          rw [hmb' j, ew]
          show nxS P K ρ t k j ↔ ((∃ j0 a0, fit P K ρ' t j0 a0 ∧ stp P K t j0 (preR ρ' t) a0 j (ρ' t) (awt P ρ t k)) ∧ hop P K (199 - t) j (ρ' t) (awt P ρ t k))
          unfold nxS
          rw [et, preR_congr same]
          exact and_congr ⟨fun ⟨j0, a0, q1, q2⟩ => ⟨j0, a0, (fit_congr samer j0 a0).mp q1, q2⟩, fun ⟨j0, a0, q1, q2⟩ => ⟨j0, a0, (fit_congr samer j0 a0).mpr q1, q2⟩⟩ Iff.rfl
        have go := ih (setI τ 34 t (nI k)) ρ' m' (sm_I hs (by omega)) (by rw [setI_ne _ _ _ (by decide)]; exact h33) (by rw [setI_2]; exact hh) hrow' hnew hm' hfit
        rw [ew, show preR ρ' (t + 1) = k from et] at go
        refine sw_iload dX6_findFirstWay_129 rfl ?_
        refine sw_if_ne (tgt := 136) dX6_findFirstWay_131 (by decide) (fun h131 => ?_) (fun h131 => ?_)
        · skip
          refine sw_iload dX6_findFirstWay_136 rfl ?_
          refine sw_iloadn dX6_findFirstWay_138 rfl ?_
          refine sw_icmp_ne (tgt := 147) dX6_findFirstWay_139 (by decide) (fun h139 => ?_) (fun h139 => ?_)
          · skip
            refine sw_aloadn dX6_findFirstWay_147 rfl ?_
            refine sw_getR dX6_findFirstWay_148 fs_X6_47 o35 r35_0 ?_
            refine sw_getR dX6_findFirstWay_151 fs_X6_60 o2 r2_3 ?_
            refine sw_iload dX6_findFirstWay_154 rfl ?_
            refine sx_iald (k) dX6_findFirstWay_156 a4 (rfl) (by omega) (by decide) ?_
            rw [wτ.1.2.2.1 k hk]
            refine sw_istoren dX6_findFirstWay_157 (Nat.le_of_ble_eq_true rfl) ?_
            refine sw_iload dX6_findFirstWay_158 rfl ?_
            refine sw_istoren dX6_findFirstWay_160 (Nat.le_of_ble_eq_true rfl) ?_
            refine sw_iload dX6_findFirstWay_161 rfl ?_
            refine sw_istore dX6_findFirstWay_163 (Nat.le_of_ble_eq_true rfl) ?_
            refine sw_aloadn dX6_findFirstWay_165 rfl ?_
            refine sw_iload dX6_findFirstWay_166 rfl ?_
            refine sw_iloadn dX6_findFirstWay_168 rfl ?_
            refine sx_iast (t) dX6_findFirstWay_169 a34 (rfl) (by omega) (by decide) ?_
            refine sx_iinc (nI (t + 1)) dX6_findFirstWay_170 rfl (nI_inc _) ?_
            refine sw_goto (tgt := 14) dX6_findFirstWay_173 (by decide) ?_
            first
              | (rw [awt, if_pos (nI_inj (by omega) (by omega) h139)] at go; exact go _ _ _ _)
              | (rw [awt, if_neg (fun e => h139 (congrArg nI e))] at go; exact go _ _ _ _)
          · skip
            refine sw_iload dX6_findFirstWay_142 rfl ?_
            refine sw_goto (tgt := 157) dX6_findFirstWay_144 (by decide) ?_
            refine sw_istoren dX6_findFirstWay_157 (Nat.le_of_ble_eq_true rfl) ?_
            refine sw_iload dX6_findFirstWay_158 rfl ?_
            refine sw_istoren dX6_findFirstWay_160 (Nat.le_of_ble_eq_true rfl) ?_
            refine sw_iload dX6_findFirstWay_161 rfl ?_
            refine sw_istore dX6_findFirstWay_163 (Nat.le_of_ble_eq_true rfl) ?_
            refine sw_aloadn dX6_findFirstWay_165 rfl ?_
            refine sw_iload dX6_findFirstWay_166 rfl ?_
            refine sw_iloadn dX6_findFirstWay_168 rfl ?_
            refine sx_iast (t) dX6_findFirstWay_169 a34 (rfl) (by omega) (by decide) ?_
            refine sx_iinc (nI (t + 1)) dX6_findFirstWay_170 rfl (nI_inc _) ?_
            refine sw_goto (tgt := 14) dX6_findFirstWay_173 (by decide) ?_
            first
              | (rw [awt, if_pos (nI_inj (by omega) (by omega) h139)] at go; exact go _ _ _ _)
              | (rw [awt, if_neg (fun e => h139 (congrArg nI e))] at go; exact go _ _ _ _)
        · exact absurd h131 ((fun e => hne (nI_z (by omega) e)))
      -- none is
      have none' : (∀ r, r < pR P → ¬ cand P K ρ t r) → ∀ o7 o9, SW G (d + 3) M_X6_findFirstWay 129 [some (.ref 35), some (.ref 34), some (.int (nI (preR ρ t))), some (.int (nI (wtR P ρ t))), some (.int (nI m)), some (.int (nI t)), some (.int (nI (wtR P ρ t - 1))), o7, some (.int (nI 0)), o9] [] τ (RI f) := by
        intro hno o7 o9
        have hc : ¬ ∃ r, cand P K ρ t r := fun ⟨r, q⟩ => hno r (cand_lt hV hK hpre q) q
        have h0 : ¬ hop0 P K := by
          cases t with
          | zero => exact fun q => hc (cand_0.mpr q)
          | succ t => exact absurd (cand_s (by omega) (hle t (by omega)).1.1) hc
        refine sw_iload dX6_findFirstWay_129 rfl ?_
        refine sw_if_ne (tgt := 136) dX6_findFirstWay_131 (by decide) (fun h131 => ?_) (fun h131 => ?_)
        · exact absurd h131 (by decide)
        · skip
          refine sx_iconst (v := nI 0) dX6_findFirstWay_134 (by decide) ?_
          refine sx_retz dX6_findFirstWay_135 rfl (Or.inl rfl) ?_
          exact k0 h0 τ hs h33
      have inner : ∀ (q k : Nat), q = pR P - k → k ≤ pR P → (∀ r, r < k → ¬ cand P K ρ t r) → ∀ o7, SW G (d + 3) M_X6_findFirstWay 44 [some (.ref 35), some (.ref 34), some (.int (nI (preR ρ t))), some (.int (nI (wtR P ρ t))), some (.int (nI m)), some (.int (nI t)), some (.int (nI (wtR P ρ t - 1))), o7, some (.int (nI 0)), some (.int (nI k))] [] τ (RI f) := by
        intro q
        induction q with
        | zero =>
          intro k hq hk hno o7
          obtain rfl : k = pR P := by omega
          refine sw_iload dX6_findFirstWay_44 rfl ?_
          refine sw_aloadn dX6_findFirstWay_46 rfl ?_
          refine sw_getR dX6_findFirstWay_47 fs_X6_47 o35 r35_0 ?_
          refine sw_getI dX6_findFirstWay_50 fs_X6_55 o2 ?_
          rw [wτ.1.1]
          refine sw_icmp_ge (tgt := 129) dX6_findFirstWay_53 (by decide) (fun h53 => ?_) (fun h53 => ?_)
          · skip
            exact none' hno _ _
          · exact absurd ((nI_le (Nat.le_refl _) (by omega))) h53
        | succ q ihq =>
          intro k hq hk hno o7
          have hkR : k < pR P := by omega
          have hkw := hV.2.2.1 k hkR
          -- with m' as what is left of the stages
          have tail : ∀ m', m' < 8192 → (∀ j', m'.testBit j' = true ↔ nxS P K ρ t k j') → SW G (d + 3) M_X6_findFirstWay 123 [some (.ref 35), some (.ref 34), some (.int (nI (preR ρ t))), some (.int (nI (wtR P ρ t))), some (.int (nI m)), some (.int (nI t)), some (.int (nI (wtR P ρ t - 1))), some (.int (nI k)), some (.int (nI m')), some (.int (nI k))] [] τ (RI f) := by
            intro m' hm' hmb'
            by_cases hz : m' = 0
            · subst hz
              have hno' : ∀ r, r < k + 1 → ¬ cand P K ρ t r := fun r hr q => by
                rcases Nat.lt_succ_iff_lt_or_eq.mp hr with e | rfl
                · exact hno r e q
                · obtain ⟨j', q'⟩ := (cand_nxS hV hD).mp q
                  have := (hmb' j').mpr q'
                  rw [Nat.zero_testBit] at this
                  cases this
              refine sx_iinc (nI (k + 1)) dX6_findFirstWay_123 rfl (nI_inc _) ?_
              refine sw_goto (tgt := 44) dX6_findFirstWay_126 (by decide) ?_
              exact ihq (k + 1) (by omega) (by omega) hno' _
            · skip
              refine sx_iinc (nI (k + 1)) dX6_findFirstWay_123 rfl (nI_inc _) ?_
              refine sw_goto (tgt := 44) dX6_findFirstWay_126 (by decide) ?_
              refine sw_iload dX6_findFirstWay_44 rfl ?_
              refine sw_aloadn dX6_findFirstWay_46 rfl ?_
              refine sw_getR dX6_findFirstWay_47 fs_X6_47 o35 r35_0 ?_
              refine sw_getI dX6_findFirstWay_50 fs_X6_55 o2 ?_
              rw [wτ.1.1]
              refine sw_icmp_ge (tgt := 129) dX6_findFirstWay_53 (by decide) (fun h53 => ?_) (fun h53 => ?_)
              · skip
                exact found k m' hkR hno hm' hmb' hz _
              · skip
                refine sw_iload dX6_findFirstWay_56 rfl ?_
                refine sw_if_ne (tgt := 129) dX6_findFirstWay_58 (by decide) (fun h58 => ?_) (fun h58 => ?_)
                · skip
                  exact found k m' hkR hno hm' hmb' hz _
                · exact absurd h58 ((fun e => hz (nI_z (by omega) e)))
          refine sw_iload dX6_findFirstWay_44 rfl ?_
          refine sw_aloadn dX6_findFirstWay_46 rfl ?_
          refine sw_getR dX6_findFirstWay_47 fs_X6_47 o35 r35_0 ?_
          refine sw_getI dX6_findFirstWay_50 fs_X6_55 o2 ?_
          rw [wτ.1.1]
          refine sw_icmp_ge (tgt := 129) dX6_findFirstWay_53 (by decide) (fun h53 => ?_) (fun h53 => ?_)
          · exact absurd h53 ((by rw [nI_le' (by omega) (by omega)]; omega))
          · skip
            refine sw_iload dX6_findFirstWay_56 rfl ?_
            refine sw_if_ne (tgt := 129) dX6_findFirstWay_58 (by decide) (fun h58 => ?_) (fun h58 => ?_)
            · exact absurd h58 (by decide)
            · skip
              refine sw_iload dX6_findFirstWay_61 rfl ?_
              refine sw_istore dX6_findFirstWay_63 (Nat.le_of_ble_eq_true rfl) ?_
              refine sw_iload dX6_findFirstWay_65 rfl ?_
              refine sw_iloadn dX6_findFirstWay_67 rfl ?_
              refine sw_icmp_ne (tgt := 93) dX6_findFirstWay_68 (by decide) (fun h68 => ?_) (fun h68 => ?_)
              · skip
                refine sw_iloadn dX6_findFirstWay_93 rfl ?_
                refine sw_if_ne (tgt := 123) dX6_findFirstWay_94 (by decide) (fun h94 => ?_) (fun h94 => ?_)
                · skip
                  first
                    | (have ek : k = preR ρ t := nI_inj (by omega) (by omega) h68
                       refine tail m' hm' (fun j' => ?_)
                       have ea : awt P ρ t k = wtR P ρ t - 1 := if_pos ek
                       unfold nxS
                       rw [hmb' j', ea, ek]
                       constructor
                       · rintro ⟨b1, b2, b3⟩
                         exact ⟨⟨j', wtR P ρ t, (hmb j').mp b2, (stay_S P K hV hD).mpr ⟨rfl, rfl⟩⟩, ((hhr j' b1).1 _ _ (by omega) (by omega)).mp b3⟩
                       · rintro ⟨⟨j, a, b1, b2⟩, b3⟩
                         obtain ⟨rfl, -⟩ := (stay_S P K hV hD).mp b2
                         have e2 := fit_wait hV hD t j' a b1
                         subst e2
                         have hj := fit_stage t j' _ b1
                         exact ⟨hj, (hmb j').mpr b1, ((hhr j' hj).1 _ _ (by omega) (by omega)).mpr b3⟩)
                    | (have ek : k ≠ preR ρ t := fun e => h68 (congrArg nI e)
                       have w0 : wtR P ρ t = 0 := nI_z (by omega) h94
                       refine tail m' hm' (fun j' => ?_)
                       have ea : awt P ρ t k = pW P k := if_neg ek
                       unfold nxS
                       rw [hmb' j', ea]
                       constructor
                       · rintro ⟨b1, b2, b3⟩
                         refine ⟨?_, ((hhr j' b1).1 _ _ (by omega) hkw).mp b3⟩
                         rcases (hmb1 j').mp b2 with ⟨c1, c2⟩ | ⟨j, c0, rfl, c1, c2, c3, c4⟩
                         · exact ⟨j', wtR P ρ t, (hmb j').mp c1, (go_S P K ek).mpr ⟨w0, rfl, Or.inl ⟨rfl, c2⟩⟩⟩
                         · exact ⟨j, wtR P ρ t, (hmb j).mp c1, (go_S P K ek).mpr ⟨w0, rfl, Or.inr ⟨c0, rfl, c2, c3, c4⟩⟩⟩
                       · rintro ⟨⟨j, a, b1, b2⟩, b3⟩
                         have hj := hop_stage _ _ _ _ b3
                         have e2 := fit_wait hV hD t j a b1
                         subst e2
                         refine ⟨hj, ?_, ((hhr j' hj).1 _ _ (by omega) hkw).mpr b3⟩
                         obtain ⟨-, -, ⟨rfl, c2⟩ | ⟨c0, rfl, c2, c3, c4⟩⟩ := (go_S P K ek).mp b2
                         · exact (hmb1 _).mpr (Or.inl ⟨(hmb _).mpr b1, c2⟩)
                         · exact (hmb1 _).mpr (Or.inr ⟨j, c0, rfl, (hmb j).mpr b1, c2, c3, c4⟩))
                    | (have ek : k ≠ preR ρ t := fun e => h68 (congrArg nI e)
                       refine tail 0 (by omega) (fun j' => ?_)
                       rw [Nat.zero_testBit]
                       refine ⟨fun z => Bool.noConfusion z, ?_⟩
                       rintro ⟨⟨j, a, b1, b2⟩, b3⟩
                       have e2 := fit_wait hV hD t j a b1
                       obtain ⟨e3, -⟩ := (go_S P K ek).mp b2
                       exact absurd (show nI (wtR P ρ t) = 0 by rw [← e2, e3]; rfl) h94)
                · skip
                  refine sw_aloadn dX6_findFirstWay_97 rfl ?_
                  refine sw_iload dX6_findFirstWay_98 rfl ?_
                  refine sw_aloadn dX6_findFirstWay_100 rfl ?_
                  refine sw_iload dX6_findFirstWay_101 rfl ?_
                  refine sw_iload dX6_findFirstWay_103 rfl ?_
                  refine sw_iloadn dX6_findFirstWay_105 rfl ?_
                  refine sw_iload dX6_findFirstWay_106 rfl ?_
                  refine sx_invI4 dX6_findFirstWay_108 mk_X6_stagesGoing vk_X6_stagesGoing lk_X6_183 o35 (Nat.le_of_ble_eq_true rfl) (Nat.le_of_ble_eq_true rfl) ?_
                  refine c_stagesGoing wτ (show t < 200 by omega) hm hmk (show preR ρ t < 8 by omega) (show k < 8 by omega) (fun m1 hm1 hmb1 => ?_)
                  refine sw_aloadn dX6_findFirstWay_111 rfl ?_
                  refine sw_getR dX6_findFirstWay_112 fs_X6_38 o35 r35_11 ?_
                  refine sw_iload dX6_findFirstWay_115 rfl ?_
                  refine sx_lald (k) dX6_findFirstWay_117 a43 (rfl) (by omega) (by decide) ?_
                  refine sx_invI3 dX6_findFirstWay_118 mk_X6_withHope vk_X6_withHope lk_X6_179 o35 (Nat.le_of_ble_eq_true rfl) (Nat.le_of_ble_eq_true rfl) ?_
                  refine c_withHope (i0 := 8 * pW P k + k) wτ (show t < 200 by omega) (by omega) (hE k hkR) (fun m' hm' hmb' => ?_)
                  refine sw_istore dX6_findFirstWay_121 (Nat.le_of_ble_eq_true rfl) ?_
                  first
                    | (have ek : k = preR ρ t := nI_inj (by omega) (by omega) h68
                       refine tail m' hm' (fun j' => ?_)
                       have ea : awt P ρ t k = wtR P ρ t - 1 := if_pos ek
                       unfold nxS
                       rw [hmb' j', ea, ek]
                       constructor
                       · rintro ⟨b1, b2, b3⟩
                         exact ⟨⟨j', wtR P ρ t, (hmb j').mp b2, (stay_S P K hV hD).mpr ⟨rfl, rfl⟩⟩, ((hhr j' b1).1 _ _ (by omega) (by omega)).mp b3⟩
                       · rintro ⟨⟨j, a, b1, b2⟩, b3⟩
                         obtain ⟨rfl, -⟩ := (stay_S P K hV hD).mp b2
                         have e2 := fit_wait hV hD t j' a b1
                         subst e2
                         have hj := fit_stage t j' _ b1
                         exact ⟨hj, (hmb j').mpr b1, ((hhr j' hj).1 _ _ (by omega) (by omega)).mpr b3⟩)
                    | (have ek : k ≠ preR ρ t := fun e => h68 (congrArg nI e)
                       have w0 : wtR P ρ t = 0 := nI_z (by omega) h94
                       refine tail m' hm' (fun j' => ?_)
                       have ea : awt P ρ t k = pW P k := if_neg ek
                       unfold nxS
                       rw [hmb' j', ea]
                       constructor
                       · rintro ⟨b1, b2, b3⟩
                         refine ⟨?_, ((hhr j' b1).1 _ _ (by omega) hkw).mp b3⟩
                         rcases (hmb1 j').mp b2 with ⟨c1, c2⟩ | ⟨j, c0, rfl, c1, c2, c3, c4⟩
                         · exact ⟨j', wtR P ρ t, (hmb j').mp c1, (go_S P K ek).mpr ⟨w0, rfl, Or.inl ⟨rfl, c2⟩⟩⟩
                         · exact ⟨j, wtR P ρ t, (hmb j).mp c1, (go_S P K ek).mpr ⟨w0, rfl, Or.inr ⟨c0, rfl, c2, c3, c4⟩⟩⟩
                       · rintro ⟨⟨j, a, b1, b2⟩, b3⟩
                         have hj := hop_stage _ _ _ _ b3
                         have e2 := fit_wait hV hD t j a b1
                         subst e2
                         refine ⟨hj, ?_, ((hhr j' hj).1 _ _ (by omega) hkw).mpr b3⟩
                         obtain ⟨-, -, ⟨rfl, c2⟩ | ⟨c0, rfl, c2, c3, c4⟩⟩ := (go_S P K ek).mp b2
                         · exact (hmb1 _).mpr (Or.inl ⟨(hmb _).mpr b1, c2⟩)
                         · exact (hmb1 _).mpr (Or.inr ⟨j, c0, rfl, (hmb j).mpr b1, c2, c3, c4⟩))
                    | (have ek : k ≠ preR ρ t := fun e => h68 (congrArg nI e)
                       refine tail 0 (by omega) (fun j' => ?_)
                       rw [Nat.zero_testBit]
                       refine ⟨fun z => Bool.noConfusion z, ?_⟩
                       rintro ⟨⟨j, a, b1, b2⟩, b3⟩
                       have e2 := fit_wait hV hD t j a b1
                       obtain ⟨e3, -⟩ := (go_S P K ek).mp b2
                       exact absurd (show nI (wtR P ρ t) = 0 by rw [← e2, e3]; rfl) h94)
              · skip
                refine sw_aloadn dX6_findFirstWay_71 rfl ?_
                refine sw_iload dX6_findFirstWay_72 rfl ?_
                refine sw_iload dX6_findFirstWay_74 rfl ?_
                refine sx_lconst (v := 1) dX6_findFirstWay_76 (by decide) ?_
                refine sx_bipush (v := nI 8) dX6_findFirstWay_77 (by decide) ?_
                refine sw_iload dX6_findFirstWay_79 rfl ?_
                refine sw_imul dX6_findFirstWay_81 ?_
                refine sw_iloadn dX6_findFirstWay_82 rfl ?_
                refine sw_iadd dX6_findFirstWay_83 ?_
                refine sw_topI (y := nI (8 * (wtR P ρ t - 1) + preR ρ t)) (by rw [nI_mul, nI_add]) ?_
                refine sw_lshl dX6_findFirstWay_84 ?_
                refine sx_invI3 dX6_findFirstWay_85 mk_X6_withHope vk_X6_withHope lk_X6_179 o35 (Nat.le_of_ble_eq_true rfl) (Nat.le_of_ble_eq_true rfl) ?_
                refine c_withHope (i0 := 8 * (wtR P ρ t - 1) + preR ρ t) wτ (show t < 200 by omega) (by omega) (fun i hi => mb_bit (by omega) i) (fun m' hm' hmb' => ?_)
                refine sw_istore dX6_findFirstWay_88 (Nat.le_of_ble_eq_true rfl) ?_
                refine sw_goto (tgt := 123) dX6_findFirstWay_90 (by decide) ?_
                first
                  | (have ek : k = preR ρ t := nI_inj (by omega) (by omega) h68
                     refine tail m' hm' (fun j' => ?_)
                     have ea : awt P ρ t k = wtR P ρ t - 1 := if_pos ek
                     unfold nxS
                     rw [hmb' j', ea, ek]
                     constructor
                     · rintro ⟨b1, b2, b3⟩
                       exact ⟨⟨j', wtR P ρ t, (hmb j').mp b2, (stay_S P K hV hD).mpr ⟨rfl, rfl⟩⟩, ((hhr j' b1).1 _ _ (by omega) (by omega)).mp b3⟩
                     · rintro ⟨⟨j, a, b1, b2⟩, b3⟩
                       obtain ⟨rfl, -⟩ := (stay_S P K hV hD).mp b2
                       have e2 := fit_wait hV hD t j' a b1
                       subst e2
                       have hj := fit_stage t j' _ b1
                       exact ⟨hj, (hmb j').mpr b1, ((hhr j' hj).1 _ _ (by omega) (by omega)).mpr b3⟩)
                  | (have ek : k ≠ preR ρ t := fun e => h68 (congrArg nI e)
                     have w0 : wtR P ρ t = 0 := nI_z (by omega) h94
                     refine tail m' hm' (fun j' => ?_)
                     have ea : awt P ρ t k = pW P k := if_neg ek
                     unfold nxS
                     rw [hmb' j', ea]
                     constructor
                     · rintro ⟨b1, b2, b3⟩
                       refine ⟨?_, ((hhr j' b1).1 _ _ (by omega) hkw).mp b3⟩
                       rcases (hmb1 j').mp b2 with ⟨c1, c2⟩ | ⟨j, c0, rfl, c1, c2, c3, c4⟩
                       · exact ⟨j', wtR P ρ t, (hmb j').mp c1, (go_S P K ek).mpr ⟨w0, rfl, Or.inl ⟨rfl, c2⟩⟩⟩
                       · exact ⟨j, wtR P ρ t, (hmb j).mp c1, (go_S P K ek).mpr ⟨w0, rfl, Or.inr ⟨c0, rfl, c2, c3, c4⟩⟩⟩
                     · rintro ⟨⟨j, a, b1, b2⟩, b3⟩
                       have hj := hop_stage _ _ _ _ b3
                       have e2 := fit_wait hV hD t j a b1
                       subst e2
                       refine ⟨hj, ?_, ((hhr j' hj).1 _ _ (by omega) hkw).mpr b3⟩
                       obtain ⟨-, -, ⟨rfl, c2⟩ | ⟨c0, rfl, c2, c3, c4⟩⟩ := (go_S P K ek).mp b2
                       · exact (hmb1 _).mpr (Or.inl ⟨(hmb _).mpr b1, c2⟩)
                       · exact (hmb1 _).mpr (Or.inr ⟨j, c0, rfl, (hmb j).mpr b1, c2, c3, c4⟩))
                  | (have ek : k ≠ preR ρ t := fun e => h68 (congrArg nI e)
                     refine tail 0 (by omega) (fun j' => ?_)
                     rw [Nat.zero_testBit]
                     refine ⟨fun z => Bool.noConfusion z, ?_⟩
                     rintro ⟨⟨j, a, b1, b2⟩, b3⟩
                     have e2 := fit_wait hV hD t j a b1
                     obtain ⟨e3, -⟩ := (go_S P K ek).mp b2
                     exact absurd (show nI (wtR P ρ t) = 0 by rw [← e2, e3]; rfl) h94)
      have hwz : nI (wtR P ρ t) ≤ 0 → nI 0 = nI (wtR P ρ t - 1) := fun q => by
        have q : nI (wtR P ρ t) ≤ nI 0 := q
        rw [nI_le' (by omega) (by omega)] at q
        rw [show wtR P ρ t = 0 by omega]
      have hwp : ¬ nI (wtR P ρ t) ≤ 0 → nI (wtR P ρ t) - nI 1 = nI (wtR P ρ t - 1) := fun q => by
        have q : ¬ nI (wtR P ρ t) ≤ nI 0 := q
        rw [nI_le' (by omega) (by omega)] at q
        exact nI_sub (by omega)
      refine sw_iload dX6_findFirstWay_14 rfl ?_
      refine sx_sipush (v := nI 200) dX6_findFirstWay_16 (by decide) ?_
      refine sw_icmp_ge (tgt := 176) dX6_findFirstWay_19 (by decide) (fun h19 => ?_) (fun h19 => ?_)
      · exact absurd h19 ((by rw [nI_le' (by omega) (by omega)]; omega))
      · skip
        refine sw_iloadn dX6_findFirstWay_22 rfl ?_
        refine sw_if_le (tgt := 32) dX6_findFirstWay_23 (by decide) (fun h23 => ?_) (fun h23 => ?_)
        · skip
          refine sx_iconst (v := nI 0) dX6_findFirstWay_32 (by decide) ?_
          refine sw_topI (y := nI (wtR P ρ t - 1)) (hwz h23) ?_
          refine sw_istore dX6_findFirstWay_33 (Nat.le_of_ble_eq_true rfl) ?_
          refine sx_iconst (v := (-1)) dX6_findFirstWay_35 (by decide) ?_
          refine sw_istore dX6_findFirstWay_36 (Nat.le_of_ble_eq_true rfl) ?_
          refine sx_iconst (v := nI 0) dX6_findFirstWay_38 (by decide) ?_
          refine sw_istore dX6_findFirstWay_39 (Nat.le_of_ble_eq_true rfl) ?_
          refine sx_iconst (v := nI 0) dX6_findFirstWay_41 (by decide) ?_
          refine sw_istore dX6_findFirstWay_42 (Nat.le_of_ble_eq_true rfl) ?_
          exact inner (pR P) 0 (by omega) (by omega) (fun r hr => absurd hr (by omega)) _
        · skip
          refine sw_iloadn dX6_findFirstWay_26 rfl ?_
          refine sx_iconst (v := nI 1) dX6_findFirstWay_27 (by decide) ?_
          refine sw_isub dX6_findFirstWay_28 ?_
          refine sw_topI (y := nI (wtR P ρ t - 1)) (hwp h23) ?_
          refine sw_goto (tgt := 33) dX6_findFirstWay_29 (by decide) ?_
          refine sw_istore dX6_findFirstWay_33 (Nat.le_of_ble_eq_true rfl) ?_
          refine sx_iconst (v := (-1)) dX6_findFirstWay_35 (by decide) ?_
          refine sw_istore dX6_findFirstWay_36 (Nat.le_of_ble_eq_true rfl) ?_
          refine sx_iconst (v := nI 0) dX6_findFirstWay_38 (by decide) ?_
          refine sw_istore dX6_findFirstWay_39 (Nat.le_of_ble_eq_true rfl) ?_
          refine sx_iconst (v := nI 0) dX6_findFirstWay_41 (by decide) ?_
          refine sw_istore dX6_findFirstWay_42 (Nat.le_of_ble_eq_true rfl) ?_
          exact inner (pR P) 0 (by omega) (by omega) (fun r hr => absurd hr (by omega)) _
  refine sw_aloadn dX6_findFirstWay_0 rfl ?_
  refine sx_invV0 dX6_findFirstWay_1 mk_X6_findHopeful vk_X6_findHopeful lk_X6_166 o35 (Nat.le_of_ble_eq_true rfl) (Nat.le_of_ble_eq_true rfl) ?_
  refine c_findHopeful hW (fun τ hf hh => ?_)
  refine sx_iconst (v := nI 0) dX6_findFirstWay_4 (by decide) ?_
  refine sw_istoren dX6_findFirstWay_5 (Nat.le_of_ble_eq_true rfl) ?_
  refine sx_iconst (v := nI 0) dX6_findFirstWay_6 (by decide) ?_
  refine sw_istoren dX6_findFirstWay_7 (Nat.le_of_ble_eq_true rfl) ?_
  refine sx_iconst (v := nI 1) dX6_findFirstWay_8 (by decide) ?_
  refine sw_istore dX6_findFirstWay_9 (Nat.le_of_ble_eq_true rfl) ?_
  refine sx_iconst (v := nI 0) dX6_findFirstWay_11 (by decide) ?_
  refine sw_istore dX6_findFirstWay_12 (Nat.le_of_ble_eq_true rfl) ?_
  refine loop 200 0 (by omega) (by omega) τ (fun _ => 0) 1 (sm_fr hf (by omega) (by omega)) (hf 33 (by omega)).1 hh (fun k hk => absurd hk (by omega)) (fun k hk => absurd hk (by omega)) (by omega) (fun j => ?_) _ _ _ _
  rw [show (1 : Nat) = 2 ^ 0 from rfl, Nat.testBit_two_pow, decide_eq_true_iff]
  exact ⟨fun e => ⟨e.symm, rfl⟩, fun q => q.1.symm⟩
end WALKS5
