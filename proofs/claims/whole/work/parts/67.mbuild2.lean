section MBUILD2
variable {G : GG} {d : Nat} {σ : Mem} {T : Nat → Int32} {N : Nat}
def frC (μ ρ : Mem) : Prop := (∀ c, (c < 54 ∨ 57 < c) → ρ.1 c = μ.1 c) ∧ ρ.2 = μ.2
theorem frC_rf {μ : Mem} : frC μ μ := ⟨fun _ _ => rfl, rfl⟩
theorem frC_I {μ ρ : Mem} (h : frC μ ρ) {c k : Nat} {v : Int32} (hc : 54 ≤ c ∧ c ≤ 57) : frC μ (setI ρ c k v) := ⟨fun x hx => by rw [setI_ne _ _ _ (by omega)]; exact h.1 x hx, h.2⟩
theorem ext_I {n : Nat} {F : Nat → Int32} {g : Nat → Int32} {x : Int32} (h0 : x = g n) (h : ∀ j, j < n → F j = g j) : ∀ j, j < n + 1 → upd F n x j = g j := by
  intro k hk
  rcases Nat.lt_or_ge k n with z | z
  · rw [upd_ne _ _ (by omega)]; exact h k z
  · obtain rfl : k = n := by omega
    rw [upd_same]; exact h0
/-- the rows of a good draft are copied -/
theorem m_copies {f : Int32 → Mem → Prop} {μ : Mem} {P : PL} (hV : PV P) (hR : μ.1 46 18 = nI (pR P)) (hDd : μ.1 46 19 = nI (pD P)) (h50 : ∀ k, k < pR P → μ.1 50 k = nI (pW P k)) (h51 : ∀ k, k < pD P → μ.1 51 k = nI (pF P k)) (h52 : ∀ k, k < pD P → μ.1 52 k = nI (pS P k)) (h53 : ∀ k, k < pD P → μ.1 53 k = nI (pE P k))
    (h : ∀ ρ, frC μ ρ → PlM ρ P → f (nI (pR P)) (setI (setI (setI ρ 46 24 (nI 0)) 46 25 (nI 0)) 46 26 (nI 0))) : SW G d M_X8_building 125 [some (.ref 46), none] [] μ (RI f) := by
  have p1 := hV.1
  have p2 := hV.2.1
  have two : ∀ (m k : Nat) (ρ : Mem), m = pD P - k → k ≤ pD P → frC μ ρ → (∀ j, j < pR P → ρ.1 54 j = nI (pW P j)) → (∀ j, j < k → ρ.1 55 j = nI (pF P j)) → (∀ j, j < k → ρ.1 56 j = nI (pS P j)) → (∀ j, j < k → ρ.1 57 j = nI (pE P j)) → SW G d M_X8_building 155 [some (.ref 46), some (.int (nI k))] [] ρ (RI f) := by
    intro m
    induction m with
    | zero =>
      intro k ρ hm hk hf g4 g5 g6 g7
      obtain rfl : k = pD P := by omega
      have e46 := hf.1 46 (by omega)
      refine sw_iloadn dX8_building_155 rfl ?_
      refine sw_aloadn dX8_building_156 rfl ?_
      refine sw_getI dX8_building_157 fs_X8_201 o46 ?_
      rw [e46, hDd]
      refine sw_icmp_ge (tgt := 205) dX8_building_160 (by decide) (fun h160 => ?_) (fun h160 => ?_)
      · skip
        refine sw_aloadn dX8_building_205 rfl ?_
        refine sx_iconst (v := nI 0) dX8_building_206 (by decide) ?_
        refine sw_putI dX8_building_207 fs_X8_204 o46 ?_
        refine sw_aloadn dX8_building_210 rfl ?_
        refine sx_iconst (v := nI 0) dX8_building_211 (by decide) ?_
        refine sw_putI dX8_building_212 fs_X8_207 o46 ?_
        refine sw_aloadn dX8_building_215 rfl ?_
        refine sx_iconst (v := nI 0) dX8_building_216 (by decide) ?_
        refine sw_putI dX8_building_217 fs_X8_210 o46 ?_
        refine sw_aloadn dX8_building_220 rfl ?_
        refine sw_getI dX8_building_221 fs_X8_198 o46 ?_
        rw [show (setI (setI (setI ρ 46 24 (nI 0)) 46 25 (nI 0)) 46 26 (nI 0)).1 46 18 = nI (pR P) by rw [setI_at, upd_ne _ _ (by decide), setI_at, upd_ne _ _ (by decide), setI_at, upd_ne _ _ (by decide), e46]; exact hR]
        refine sx_reti dX8_building_224 rfl ?_
        exact h ρ hf ⟨by rw [e46]; exact hR, by rw [e46]; exact hDd, g4, g5, g6, g7⟩
      · exact absurd ((nI_le (by omega) (by omega))) h160
    | succ m ih =>
      intro k ρ hm hk hf g4 g5 g6 g7
      have e46 := hf.1 46 (by omega)
      refine sw_iloadn dX8_building_155 rfl ?_
      refine sw_aloadn dX8_building_156 rfl ?_
      refine sw_getI dX8_building_157 fs_X8_201 o46 ?_
      rw [e46, hDd]
      refine sw_icmp_ge (tgt := 205) dX8_building_160 (by decide) (fun h160 => ?_) (fun h160 => ?_)
      · exact absurd h160 ((by rw [nI_le' (by omega) (by omega)]; omega))
      · skip
        refine sw_aloadn dX8_building_163 rfl ?_
        refine sw_getR dX8_building_164 fs_X8_42 o46 r46_21 ?_
        refine sw_iloadn dX8_building_167 rfl ?_
        refine sw_aloadn dX8_building_168 rfl ?_
        refine sw_getR dX8_building_169 fs_X8_30 o46 r46_15 ?_
        refine sw_iloadn dX8_building_172 rfl ?_
        refine sx_iald (k) dX8_building_173 a51 (rfl) (by omega) (by decide) ?_
        refine sx_iast (k) dX8_building_174 a55 (rfl) (by omega) (by decide) ?_
        refine sw_aloadn dX8_building_175 rfl ?_
        refine sw_getR dX8_building_176 fs_X8_45 o46 r46_22 ?_
        refine sw_iloadn dX8_building_179 rfl ?_
        refine sw_aloadn dX8_building_180 rfl ?_
        refine sw_getR dX8_building_181 fs_X8_33 o46 r46_16 ?_
        refine sw_iloadn dX8_building_184 rfl ?_
        refine sx_iald (k) dX8_building_185 a52 (rfl) (by omega) (by decide) ?_
        refine sx_iast (k) dX8_building_186 a56 (rfl) (by omega) (by decide) ?_
        refine sw_aloadn dX8_building_187 rfl ?_
        refine sw_getR dX8_building_188 fs_X8_48 o46 r46_23 ?_
        refine sw_iloadn dX8_building_191 rfl ?_
        refine sw_aloadn dX8_building_192 rfl ?_
        refine sw_getR dX8_building_193 fs_X8_36 o46 r46_17 ?_
        refine sw_iloadn dX8_building_196 rfl ?_
        refine sx_iald (k) dX8_building_197 a53 (rfl) (by omega) (by decide) ?_
        refine sx_iast (k) dX8_building_198 a57 (rfl) (by omega) (by decide) ?_
        refine sx_iinc (nI (k + 1)) dX8_building_199 rfl (nI_inc _) ?_
        refine sw_goto (tgt := 155) dX8_building_202 (by decide) ?_
        exact ih (k + 1) _ (by omega) (by omega) (frC_I (frC_I (frC_I hf (by omega)) (by omega)) (by omega)) g4 (ext_I (by rw [hf.1 51 (by omega)]; exact h51 k (by omega)) g5) (ext_I (by rw [setI_ne _ _ _ (by decide), hf.1 52 (by omega)]; exact h52 k (by omega)) g6) (ext_I (by rw [setI_ne _ _ _ (by decide), setI_ne _ _ _ (by decide), hf.1 53 (by omega)]; exact h53 k (by omega)) g7)
  have one : ∀ (m k : Nat) (ρ : Mem), m = pR P - k → k ≤ pR P → frC μ ρ → (∀ j, j < k → ρ.1 54 j = nI (pW P j)) → SW G d M_X8_building 127 [some (.ref 46), some (.int (nI k))] [] ρ (RI f) := by
    intro m
    induction m with
    | zero =>
      intro k ρ hm hk hf g4
      obtain rfl : k = pR P := by omega
      have e46 := hf.1 46 (by omega)
      refine sw_iloadn dX8_building_127 rfl ?_
      refine sw_aloadn dX8_building_128 rfl ?_
      refine sw_getI dX8_building_129 fs_X8_198 o46 ?_
      rw [e46, hR]
      refine sw_icmp_ge (tgt := 153) dX8_building_132 (by decide) (fun h132 => ?_) (fun h132 => ?_)
      · skip
        refine sx_iconst (v := nI 0) dX8_building_153 (by decide) ?_
        refine sw_istoren dX8_building_154 (Nat.le_of_ble_eq_true rfl) ?_
        exact two _ 0 ρ rfl (by omega) hf g4 (fun j hj => absurd hj (Nat.not_lt_zero _)) (fun j hj => absurd hj (Nat.not_lt_zero _)) (fun j hj => absurd hj (Nat.not_lt_zero _))
      · exact absurd ((nI_le (by omega) (by omega))) h132
    | succ m ih =>
      intro k ρ hm hk hf g4
      have e46 := hf.1 46 (by omega)
      refine sw_iloadn dX8_building_127 rfl ?_
      refine sw_aloadn dX8_building_128 rfl ?_
      refine sw_getI dX8_building_129 fs_X8_198 o46 ?_
      rw [e46, hR]
      refine sw_icmp_ge (tgt := 153) dX8_building_132 (by decide) (fun h132 => ?_) (fun h132 => ?_)
      · exact absurd h132 ((by rw [nI_le' (by omega) (by omega)]; omega))
      · skip
        refine sw_aloadn dX8_building_135 rfl ?_
        refine sw_getR dX8_building_136 fs_X8_39 o46 r46_20 ?_
        refine sw_iloadn dX8_building_139 rfl ?_
        refine sw_aloadn dX8_building_140 rfl ?_
        refine sw_getR dX8_building_141 fs_X8_27 o46 r46_14 ?_
        refine sw_iloadn dX8_building_144 rfl ?_
        refine sx_iald (k) dX8_building_145 a50 (rfl) (by omega) (by decide) ?_
        refine sx_iast (k) dX8_building_146 a54 (rfl) (by omega) (by decide) ?_
        refine sx_iinc (nI (k + 1)) dX8_building_147 rfl (nI_inc _) ?_
        refine sw_goto (tgt := 127) dX8_building_150 (by decide) ?_
        exact ih (k + 1) _ (by omega) (by omega) (frC_I hf (by omega)) (ext_I (by rw [hf.1 50 (by omega)]; exact h50 k (by omega)) g4)
  refine sx_iconst (v := nI 0) dX8_building_125 (by decide) ?_
  refine sw_istoren dX8_building_126 (Nat.le_of_ble_eq_true rfl) ?_
  exact one _ 0 μ rfl (by omega) frC_rf (fun j hj => absurd hj (Nat.not_lt_zero _))
theorem m_building {f : Int32 → Mem → Prop} (hG : Str G) (hT : σ.1 47 = T) (hN : σ.1 46 2 = nI N) (hb : N ≤ 600)
    (k1 : ¬ (PRS T N).1.1 = 0 → ∀ τ, (∀ c, (c < 46 ∨ c = 47 ∨ 53 < c) → τ.1 c = σ.1 c) → τ.2 = σ.2 → (∀ k, 13 < k → τ.1 46 k = σ.1 46 k) → τ.1 46 0 = nI 0 → τ.1 46 2 = nI 0 → τ.1 46 9 = nI (PRS T N).1.2 → f (-1 - nI (PRS T N).1.1) τ)
    (k0 : (PRS T N).1.1 = 0 → ∀ τ, (∀ c, (c < 46 ∨ c = 47 ∨ 57 < c) → τ.1 c = σ.1 c) → τ.2 = σ.2 → τ.1 46 0 = nI 0 → τ.1 46 2 = nI 0 → τ.1 46 9 = -1 → τ.1 46 24 = nI 0 → τ.1 46 25 = nI 0 → τ.1 46 26 = nI 0 → PlM τ (PRS T N).2.1 → f (nI (pR (PRS T N).2.1)) τ) : SW G (d + 8) M_X8_building 0 [some (.ref 46), none] [] σ (RI f) := by
  obtain ⟨hGd, h6⟩ := PRS_ok (T := T) hb
  have hs0 : rE isBl T N 0 ≤ N := rE_N (by omega)
  generalize hR : PRS T N = R at hGd h6 k1 k0
  have hR' : prs T N 601 D0 (rE isBl T N 0) = R := hR
  clear hR
  have fin : ∀ (τ : Mem) (a : Nat × Nat), FM τ a → a = R.1 → (a.1 = 0 → MDr T N R.2 τ) → (∀ c, (c < 46 ∨ c = 47 ∨ 53 < c) → τ.1 c = σ.1 c) → τ.2 = σ.2 → (∀ k, 13 < k → τ.1 46 k = σ.1 46 k) → τ.1 46 0 = nI 0 → SW G (d + 8) M_X8_building 71 [some (.ref 46), none] [] τ (RI f) := by
    intro τ a hF ea hd hc h2 hk h0
    have hF' : FM (setI τ 46 2 (nI 0)) a := ⟨by rw [setI_at, upd_ne _ _ (by decide)]; exact hF.1, hF.2.1, fun q => by rw [setI_at, upd_ne _ _ (by decide)]; exact hF.2.2 q⟩
    have hFv : ∀ v, FM (setI (setI τ 46 2 (nI 0)) 46 9 v) a := fun v => ⟨by rw [setI_at, upd_ne _ _ (by decide)]; exact hF'.1, hF.2.1, fun q => by rw [setI_at, upd_ne _ _ (by decide)]; exact hF'.2.2 q⟩
    have good : a.1 = 0 → SW G (d + 8) M_X8_building 109 [some (.ref 46), none] [] (setI (setI τ 46 2 (nI 0)) 46 9 (-1)) (RI f) := by
      intro h96
      have hz : R.1.1 = 0 := ea ▸ h96
      have hd := hd h96
      have hV := (hGd hz).1.1
      refine sw_aloadn dX8_building_109 rfl ?_
      refine sw_aloadn dX8_building_110 rfl ?_
      refine sw_getI dX8_building_111 fs_X8_154 o46 ?_
      rw [show (setI (setI τ 46 2 (nI 0)) 46 9 (-1)).1 46 12 = nI (pR R.2.1) by rw [setI_at, upd_ne _ _ (by decide), setI_at, upd_ne _ _ (by decide)]; exact hd.1]
      refine sw_putI dX8_building_114 fs_X8_198 o46 ?_
      refine sw_aloadn dX8_building_117 rfl ?_
      refine sw_aloadn dX8_building_118 rfl ?_
      refine sw_getI dX8_building_119 fs_X8_160 o46 ?_
      rw [show (setI (setI (setI τ 46 2 (nI 0)) 46 9 (-1)) 46 18 (nI (pR R.2.1))).1 46 13 = nI (pD R.2.1) by rw [setI_at, upd_ne _ _ (by decide), setI_at, upd_ne _ _ (by decide), setI_at, upd_ne _ _ (by decide)]; exact hd.2.1]
      refine sw_putI dX8_building_122 fs_X8_201 o46 ?_
      refine m_copies (P := R.2.1) hV (by rw [setI_at, upd_ne _ _ (by decide), setI_at, upd_same]) (by rw [setI_at, upd_same]) hd.2.2.2.1 hd.2.2.2.2.2.1 hd.2.2.2.2.2.2.1 hd.2.2.2.2.2.2.2 (fun ρ hf hP => ?_)
      have e46 : ∀ k, ρ.1 46 k = _ := fun k => congrFun (hf.1 46 (by omega)) k
      have r : ∀ k, k ≠ 24 → k ≠ 25 → k ≠ 26 → (setI (setI (setI ρ 46 24 (nI 0)) 46 25 (nI 0)) 46 26 (nI 0)).1 46 k = ρ.1 46 k := fun k q1 q2 q3 => by rw [setI_at, upd_ne _ _ q3, setI_at, upd_ne _ _ q2, setI_at, upd_ne _ _ q1]
      refine k0 hz _ (fun c hc' => ?_) (hf.2.trans h2) ?_ ?_ ?_ ?_ ?_ ?_ ?_
      · rw [setI_ne _ _ _ (by omega), setI_ne _ _ _ (by omega), setI_ne _ _ _ (by omega), hf.1 c (by omega), setI_ne _ _ _ (by omega), setI_ne _ _ _ (by omega), setI_ne _ _ _ (by omega), setI_ne _ _ _ (by omega)]
        exact hc c (by omega)
      · rw [r 0 (by omega) (by omega) (by omega), e46, setI_at, upd_ne _ _ (by decide), setI_at, upd_ne _ _ (by decide), setI_at, upd_ne _ _ (by decide), setI_at, upd_ne _ _ (by decide)]
        exact h0
      · rw [r 2 (by omega) (by omega) (by omega), e46, setI_at, upd_ne _ _ (by decide), setI_at, upd_ne _ _ (by decide), setI_at, upd_ne _ _ (by decide), setI_at, upd_same]
      · rw [r 9 (by omega) (by omega) (by omega), e46, setI_at, upd_ne _ _ (by decide), setI_at, upd_ne _ _ (by decide), setI_at, upd_same]
      · rw [setI_at, upd_ne _ _ (by decide), setI_at, upd_ne _ _ (by decide), setI_at, upd_same]
      · rw [setI_at, upd_ne _ _ (by decide), setI_at, upd_same]
      · rw [setI_at, upd_same]
      · exact ⟨(r 18 (by omega) (by omega) (by omega)).trans hP.1, (r 19 (by omega) (by omega) (by omega)).trans hP.2.1, hP.2.2.1, hP.2.2.2.1, hP.2.2.2.2.1, hP.2.2.2.2.2⟩
    refine sw_aloadn dX8_building_71 rfl ?_
    refine sx_iconst (v := nI 0) dX8_building_72 (by decide) ?_
    refine sw_putI dX8_building_73 fs_X8_104 o46 ?_
    refine sw_aloadn dX8_building_76 rfl ?_
    refine sw_aloadn dX8_building_77 rfl ?_
    refine sx_invI0 dX8_building_78 mk_X8_isWell vk_X8_isWell lk_X8_177 o46 (Nat.le_of_ble_eq_true rfl) (Nat.le_of_ble_eq_true rfl) ?_
    refine m_isWell hF' (fun h78 => ?_) (fun h78 => ?_)
    · skip
      refine sw_if_eq (tgt := 88) dX8_building_81 (by decide) (fun h81 => ?_) (fun h81 => ?_)
      · exact absurd h81 (by decide)
      · skip
        refine sx_iconst (v := (-1)) dX8_building_84 (by decide) ?_
        refine sw_goto (tgt := 92) dX8_building_85 (by decide) ?_
        refine sw_putI dX8_building_92 fs_X8_17 o46 ?_
        refine sw_aloadn dX8_building_95 rfl ?_
        refine sx_invI0 dX8_building_96 mk_X8_isWell vk_X8_isWell lk_X8_177 o46 (Nat.le_of_ble_eq_true rfl) (Nat.le_of_ble_eq_true rfl) ?_
        refine m_isWell (hFv _) (fun h96 => ?_) (fun h96 => ?_)
        · skip
          refine sw_if_ne (tgt := 109) dX8_building_99 (by decide) (fun h99 => ?_) (fun h99 => ?_)
          · skip
            first
              | exact absurd h96 h78
              | exact good h96
          · exact absurd h99 (by decide)
        · skip
          refine sw_if_ne (tgt := 109) dX8_building_99 (by decide) (fun h99 => ?_) (fun h99 => ?_)
          · exact absurd h99 (by decide)
          · skip
            refine sx_iconst (v := (-1)) dX8_building_102 (by decide) ?_
            refine sw_aloadn dX8_building_103 rfl ?_
            refine sw_getI dX8_building_104 fs_X8_148 o46 ?_
            rw [(hFv _).1]
            refine sw_isub dX8_building_107 ?_
            refine sx_reti dX8_building_108 rfl ?_
            first
              | exact absurd h78 h96
              | (have hz : ¬ R.1.1 = 0 := ea ▸ h96
                 have k1 := k1 hz (setI (setI τ 46 2 (nI 0)) 46 9 (nI a.2)) (fun c hc' => by rw [setI_ne _ _ _ (by omega), setI_ne _ _ _ (by omega)]; exact hc c hc') h2 (fun k hk' => by rw [setI_at, upd_ne _ _ (by omega), setI_at, upd_ne _ _ (by omega)]; exact hk k hk') (by rw [setI_at, upd_ne _ _ (by omega), setI_at, upd_ne _ _ (by omega)]; exact h0) rfl (by rw [setI_at, upd_same, ea])
                 rw [← ea] at k1
                 exact k1)
    · skip
      refine sw_if_eq (tgt := 88) dX8_building_81 (by decide) (fun h81 => ?_) (fun h81 => ?_)
      · skip
        refine sw_aloadn dX8_building_88 rfl ?_
        refine sw_getI dX8_building_89 fs_X8_151 o46 ?_
        rw [hF'.2.2 h78]
        refine sw_putI dX8_building_92 fs_X8_17 o46 ?_
        refine sw_aloadn dX8_building_95 rfl ?_
        refine sx_invI0 dX8_building_96 mk_X8_isWell vk_X8_isWell lk_X8_177 o46 (Nat.le_of_ble_eq_true rfl) (Nat.le_of_ble_eq_true rfl) ?_
        refine m_isWell (hFv _) (fun h96 => ?_) (fun h96 => ?_)
        · skip
          refine sw_if_ne (tgt := 109) dX8_building_99 (by decide) (fun h99 => ?_) (fun h99 => ?_)
          · skip
            first
              | exact absurd h96 h78
              | exact good h96
          · exact absurd h99 (by decide)
        · skip
          refine sw_if_ne (tgt := 109) dX8_building_99 (by decide) (fun h99 => ?_) (fun h99 => ?_)
          · exact absurd h99 (by decide)
          · skip
            refine sx_iconst (v := (-1)) dX8_building_102 (by decide) ?_
            refine sw_aloadn dX8_building_103 rfl ?_
            refine sw_getI dX8_building_104 fs_X8_148 o46 ?_
            rw [(hFv _).1]
            refine sw_isub dX8_building_107 ?_
            refine sx_reti dX8_building_108 rfl ?_
            first
              | exact absurd h78 h96
              | (have hz : ¬ R.1.1 = 0 := ea ▸ h96
                 have k1 := k1 hz (setI (setI τ 46 2 (nI 0)) 46 9 (nI a.2)) (fun c hc' => by rw [setI_ne _ _ _ (by omega), setI_ne _ _ _ (by omega)]; exact hc c hc') h2 (fun k hk' => by rw [setI_at, upd_ne _ _ (by omega), setI_at, upd_ne _ _ (by omega)]; exact hk k hk') (by rw [setI_at, upd_ne _ _ (by omega), setI_at, upd_ne _ _ (by omega)]; exact h0) rfl (by rw [setI_at, upd_same, ea])
                 rw [← ea] at k1
                 exact k1)
      · exact absurd h81 (by decide)
  have bad : ∀ (τ : Mem) (a : Nat × Nat), FM τ a → ¬ a.1 = 0 → a = R.1 → (∀ c, (c < 46 ∨ c = 47 ∨ 53 < c) → τ.1 c = σ.1 c) → τ.2 = σ.2 → (∀ k, 13 < k → τ.1 46 k = σ.1 46 k) → τ.1 46 0 = nI 0 → SW G (d + 8) M_X8_building 29 [some (.ref 46), none] [] τ (RI f) := by
    intro τ a hF ha ea hc h2 hk h0
    refine sw_aloadn dX8_building_29 rfl ?_
    refine sx_invI0 dX8_building_30 mk_X8_isWell vk_X8_isWell lk_X8_177 o46 (Nat.le_of_ble_eq_true rfl) (Nat.le_of_ble_eq_true rfl) ?_
    refine m_isWell hF (fun h30 => ?_) (fun h30 => ?_)
    · skip
      refine sw_if_eq (tgt := 50) dX8_building_33 (by decide) (fun h33 => ?_) (fun h33 => ?_)
      · exact absurd h33 (by decide)
      · skip
        exact absurd h30 ha
    · skip
      refine sw_if_eq (tgt := 50) dX8_building_33 (by decide) (fun h33 => ?_) (fun h33 => ?_)
      · skip
        refine sw_aloadn dX8_building_50 rfl ?_
        refine sx_invI0 dX8_building_51 mk_X8_isWell vk_X8_isWell lk_X8_177 o46 (Nat.le_of_ble_eq_true rfl) (Nat.le_of_ble_eq_true rfl) ?_
        refine m_isWell hF (fun h51 => ?_) (fun h51 => ?_)
        · skip
          refine sw_if_eq (tgt := 71) dX8_building_54 (by decide) (fun h54 => ?_) (fun h54 => ?_)
          · exact absurd h54 (by decide)
          · skip
            exact absurd h51 ha
        · skip
          refine sw_if_eq (tgt := 71) dX8_building_54 (by decide) (fun h54 => ?_) (fun h54 => ?_)
          · skip
            exact fin τ a hF ea (fun q => absurd q ha) hc h2 hk h0
          · exact absurd h54 (by decide)
      · exact absurd h33 (by decide)
  have loop : ∀ (m : Nat) (D : DR) (s : Nat) (τ : Mem), N - s < m → s ≤ N → MTk T N s (0, 0) τ → MDr T N D τ → GD T N D → prs T N m D s = R → (∀ c, (c < 46 ∨ c = 47 ∨ 53 < c) → τ.1 c = σ.1 c) → τ.2 = σ.2 → (∀ k, 13 < k → τ.1 46 k = σ.1 46 k) → τ.1 46 0 = nI 0 → SW G (d + 8) M_X8_building 29 [some (.ref 46), none] [] τ (RI f) := by
    intro m
    induction m with
    | zero => intro D s τ hm; omega
    | succ m ih =>
      intro D s τ hm hs hk hd hD eR hc h2 h13 h0
      have p1 := hD.1.1
      have hms := mS_le (T := T) (N := N) (s := s)
      have ht := hk.2.2 rfl
      have hF := hk.2.1
      have step : ∀ ρ, kdS T N s ≠ 0 → frT τ ρ → FM ρ (tng T N D s).1 → ((tng T N D s).1.1 = 0 → MTk T N (tng T N D s).2.2 (0, 0) ρ ∧ MDr T N (tng T N D s).2.1 ρ) → SW G (d + 8) M_X8_building 29 [some (.ref 46), none] [] ρ (RI f) := by
        intro ρ hk0 hg hF' hcc
        have hs' : s < N := by
          have := mt kdS_0.mpr hk0
          omega
        have c' : ∀ c, (c < 46 ∨ c = 47 ∨ 53 < c) → ρ.1 c = σ.1 c := fun c q => (hg.1 c q).trans (hc c q)
        have k' : ∀ k, 13 < k → ρ.1 46 k = σ.1 46 k := fun k q => (hg.2.2 k (by omega)).trans (h13 k q)
        unfold prs at eR
        rw [if_neg hk0] at eR
        by_cases h3 : (tng T N D s).1.1 = 0
        · rw [if_pos h3] at eR
          have := tng_ok hD hs' h3
          exact ih _ _ ρ (by omega) this.2.2 (hcc h3).1 (hcc h3).2 this.1 eR c' (hg.2.1.trans h2) k' ((hg.2.2 0 (by omega)).trans h0)
        · rw [if_neg h3] at eR
          exact bad ρ _ hF' h3 (by rw [← eR]) c' (hg.2.1.trans h2) k' ((hg.2.2 0 (by omega)).trans h0)
      refine sw_aloadn dX8_building_29 rfl ?_
      refine sx_invI0 dX8_building_30 mk_X8_isWell vk_X8_isWell lk_X8_177 o46 (Nat.le_of_ble_eq_true rfl) (Nat.le_of_ble_eq_true rfl) ?_
      refine m_isWell hF (fun h30 => ?_) (fun h30 => ?_)
      · skip
        refine sw_if_eq (tgt := 50) dX8_building_33 (by decide) (fun h33 => ?_) (fun h33 => ?_)
        · exact absurd h33 (by decide)
        · skip
          refine sw_aloadn dX8_building_36 rfl ?_
          refine sw_getI dX8_building_37 fs_X8_113 o46 ?_
          rw [ht.2.2.2.1]
          refine sw_if_eq (tgt := 50) dX8_building_40 (by decide) (fun h40 => ?_) (fun h40 => ?_)
          · skip
            first
              | exact absurd rfl h30
              | (have hk0 : kdS T N s = 0 := mS_0.mp (nI_inj (by omega) (by omega) h40)
                 unfold prs at eR
                 rw [if_pos hk0] at eR
                 refine sw_aloadn dX8_building_50 rfl ?_
                 refine sx_invI0 dX8_building_51 mk_X8_isWell vk_X8_isWell lk_X8_177 o46 (Nat.le_of_ble_eq_true rfl) (Nat.le_of_ble_eq_true rfl) ?_
                 refine m_isWell hF (fun _ => ?_) (fun q => absurd rfl q)
                 refine sw_if_eq (tgt := 71) dX8_building_54 (by decide) (fun q => absurd q (by decide)) (fun _ => ?_)
                 refine sw_aloadn dX8_building_57 rfl ?_
                 refine sw_getI dX8_building_58 fs_X8_154 o46 ?_
                 rw [hd.1]
                 refine sx_iconst (v := nI 2) dX8_building_61 (by decide) ?_
                 refine sw_icmp_ge (tgt := 71) dX8_building_62 (by decide) (fun h62 => ?_) (fun h62 => ?_)
                 · have q2 : ¬ pR D.1 < 2 := by have := (nI_le' (by omega) (by omega)).mp h62; omega
                   rw [if_neg q2] at eR
                   exact fin τ (0, 0) hF (by rw [← eR]) (fun _ => by rw [← eR]; exact hd) hc h2 h13 h0
                 · have q2 : pR D.1 < 2 := by have := mt (nI_le' (by omega) (by omega)).mpr h62; omega
                   rw [if_pos q2] at eR
                   refine sw_aloadn dX8_building_65 rfl ?_
                   refine sx_bipush (v := nI 6) dX8_building_66 (by decide) ?_
                   refine sx_invV1 dX8_building_68 mk_X8_fails vk_X8_fails lk_X8_167 o46 (Nat.le_of_ble_eq_true rfl) (Nat.le_of_ble_eq_true rfl) ?_
                   refine m_fails (c := 6) (by omega) hk (fun ρ hg hr => ?_)
                   rw [fh_c rfl (by omega)] at hr
                   exact fin ρ (6, s) hr.2.1 (by rw [← eR]) (fun q => by cases q) (fun c q => (hg.1 c (by omega)).trans (hc c q)) (hg.2.1.trans h2) (fun k q => (hg.2.2 k (by omega)).trans (h13 k q)) ((hg.2.2 0 (by omega)).trans h0))
          · skip
            have hk0 : kdS T N s ≠ 0 := fun q => h40 (by rw [mS_0.mpr q]; rfl)
            refine sw_aloadn dX8_building_43 rfl ?_
            refine sx_invV0 dX8_building_44 mk_X8_thing vk_X8_thing lk_X8_195 o46 (Nat.le_of_ble_eq_true rfl) (Nat.le_of_ble_eq_true rfl) ?_
            refine m_thing hG hb hk hD hd (fun ρ hg hF' hcc => ?_)
            refine sw_goto (tgt := 29) dX8_building_47 (by decide) ?_
            exact step ρ hk0 hg hF' hcc
      · skip
        refine sw_if_eq (tgt := 50) dX8_building_33 (by decide) (fun h33 => ?_) (fun h33 => ?_)
        · skip
          first
            | exact absurd rfl h30
            | (have hk0 : kdS T N s = 0 := mS_0.mp (nI_inj (by omega) (by omega) h40)
               unfold prs at eR
               rw [if_pos hk0] at eR
               refine sw_aloadn dX8_building_50 rfl ?_
               refine sx_invI0 dX8_building_51 mk_X8_isWell vk_X8_isWell lk_X8_177 o46 (Nat.le_of_ble_eq_true rfl) (Nat.le_of_ble_eq_true rfl) ?_
               refine m_isWell hF (fun _ => ?_) (fun q => absurd rfl q)
               refine sw_if_eq (tgt := 71) dX8_building_54 (by decide) (fun q => absurd q (by decide)) (fun _ => ?_)
               refine sw_aloadn dX8_building_57 rfl ?_
               refine sw_getI dX8_building_58 fs_X8_154 o46 ?_
               rw [hd.1]
               refine sx_iconst (v := nI 2) dX8_building_61 (by decide) ?_
               refine sw_icmp_ge (tgt := 71) dX8_building_62 (by decide) (fun h62 => ?_) (fun h62 => ?_)
               · have q2 : ¬ pR D.1 < 2 := by have := (nI_le' (by omega) (by omega)).mp h62; omega
                 rw [if_neg q2] at eR
                 exact fin τ (0, 0) hF (by rw [← eR]) (fun _ => by rw [← eR]; exact hd) hc h2 h13 h0
               · have q2 : pR D.1 < 2 := by have := mt (nI_le' (by omega) (by omega)).mpr h62; omega
                 rw [if_pos q2] at eR
                 refine sw_aloadn dX8_building_65 rfl ?_
                 refine sx_bipush (v := nI 6) dX8_building_66 (by decide) ?_
                 refine sx_invV1 dX8_building_68 mk_X8_fails vk_X8_fails lk_X8_167 o46 (Nat.le_of_ble_eq_true rfl) (Nat.le_of_ble_eq_true rfl) ?_
                 refine m_fails (c := 6) (by omega) hk (fun ρ hg hr => ?_)
                 rw [fh_c rfl (by omega)] at hr
                 exact fin ρ (6, s) hr.2.1 (by rw [← eR]) (fun q => by cases q) (fun c q => (hg.1 c (by omega)).trans (hc c q)) (hg.2.1.trans h2) (fun k q => (hg.2.2 k (by omega)).trans (h13 k q)) ((hg.2.2 0 (by omega)).trans h0))
        · exact absurd h33 (by decide)
  refine sw_aloadn dX8_building_0 rfl ?_
  refine sx_iconst (v := nI 0) dX8_building_1 (by decide) ?_
  refine sw_putI dX8_building_2 fs_X8_1 o46 ?_
  refine sw_aloadn dX8_building_5 rfl ?_
  refine sx_iconst (v := nI 0) dX8_building_6 (by decide) ?_
  refine sw_putI dX8_building_7 fs_X8_148 o46 ?_
  refine sw_aloadn dX8_building_10 rfl ?_
  refine sx_iconst (v := nI 0) dX8_building_11 (by decide) ?_
  refine sw_putI dX8_building_12 fs_X8_154 o46 ?_
  refine sw_aloadn dX8_building_15 rfl ?_
  refine sx_iconst (v := nI 0) dX8_building_16 (by decide) ?_
  refine sw_putI dX8_building_17 fs_X8_160 o46 ?_
  refine sw_aloadn dX8_building_20 rfl ?_
  refine sx_iconst (v := nI 0) dX8_building_21 (by decide) ?_
  refine sw_putI dX8_building_22 fs_X8_107 o46 ?_
  refine sw_aloadn dX8_building_25 rfl ?_
  refine sx_invV0 dX8_building_26 mk_X8_next vk_X8_next lk_X8_180 o46 (Nat.le_of_ble_eq_true rfl) (Nat.le_of_ble_eq_true rfl) ?_
  refine m_next (T := T) (N := N) (p := 0) ⟨hT, hN⟩ hb (by omega) rfl (fun τ hf ht => ?_)
  refine loop 601 D0 _ τ (by omega) hs0 ⟨Mp_T hf ⟨hT, hN⟩, ⟨hf.2.2 7 (by omega), by omega, fun q => absurd rfl q⟩, fun _ => ht⟩ ⟨hf.2.2 12 (by omega), hf.2.2 13 (by omega), fun k q => absurd q (Nat.not_lt_zero _), fun k q => absurd q (Nat.not_lt_zero _), fun k q => absurd q (Nat.not_lt_zero _), fun k q => absurd q (Nat.not_lt_zero _), fun k q => absurd q (Nat.not_lt_zero _), fun k q => absurd q (Nat.not_lt_zero _)⟩ GD_0 hR' (fun c hc => ?_) hf.2.1 (fun k hk => ?_) ?_
  · rw [hf.1 c (by omega), setI_ne _ _ _ (by omega), setI_ne _ _ _ (by omega), setI_ne _ _ _ (by omega), setI_ne _ _ _ (by omega), setI_ne _ _ _ (by omega)]
  · rw [hf.2.2 k (by omega), setI_at, upd_ne _ _ (by omega), setI_at, upd_ne _ _ (by omega), setI_at, upd_ne _ _ (by omega), setI_at, upd_ne _ _ (by omega), setI_at, upd_ne _ _ (by omega)]
  · rw [hf.2.2 0 (by omega)]
    rfl
end MBUILD2
