section MNEXT
variable {G : GG} {d : Nat} {σ : Mem} {T : Nat → Int32} {N : Nat}
theorem m_next {f : Mem → Prop} {p : Nat} (hT : MTp T N σ) (hb : N ≤ 600) (hp : p ≤ N) (hs : σ.1 46 3 = nI p) (h : ∀ τ, Mp σ τ → MTok T N (rE isBl T N p) τ → f τ) : SW G (d + 1) M_X8_next 0 [some (.ref 46), none] [] σ (RV f) := by
  have hsN : rE isBl T N p ≤ N := rE_N hp
  have word : ∀ (m k s : Nat) (c : Int32) (τ : Mem), m = N - k → k ≤ N → s < k → s = rE isBl T N p → kdS T N s = 1 → rE isLt T N k = rE isLt T N s → Mp σ τ → τ.1 46 3 = nI k → τ.1 46 4 = nI s → SW G (d + 1) M_X8_next 104 [some (.ref 46), some (.int c)] [] τ (RV f) := by
    intro m
    induction m with
    | zero =>
      intro k s c τ hm hk hsk es hks e1 hf h3 h4
      have hT' := Mp_T hf hT
      have e2 : rE isLt T N k = k := rE_no (by omega)
      have hE : eS T N s = k := by rw [eS_1 hks, ← e1, e2]
      have hl : lS T N s = k - s := by unfold lS; omega
      refine sw_aloadn dX8_next_104 rfl ?_
      refine sw_aloadn dX8_next_105 rfl ?_
      refine sw_getI dX8_next_106 fs_X8_107 o46 ?_
      rw [h3]
      refine sx_invI1 dX8_next_109 mk_X8_see vk_X8_see lk_X8_120 o46 (Nat.le_of_ble_eq_true rfl) (Nat.le_of_ble_eq_true rfl) ?_
      refine m_see hT' hb (by omega) ?_
      refine sx_insI1 dX8_next_112 mk_X8_isSmall sk_X8_isSmall lk_X8_116 (Nat.le_of_ble_eq_true rfl) (Nat.le_of_ble_eq_true rfl) ?_
      refine m_isSmall (fun h112 => ?_) (fun h112 => ?_)
      · skip
        refine sw_if_eq (tgt := 131) dX8_next_115 (by decide) (fun h115 => ?_) (fun h115 => ?_)
        · exact absurd h115 (by decide)
        · skip
          refine sw_aloadn dX8_next_118 rfl ?_
          refine sw_dup dX8_next_119 rfl ?_
          refine sw_getI dX8_next_120 fs_X8_107 o46 ?_
          refine sx_iconst (v := nI 1) dX8_next_123 (by decide) ?_
          refine sw_iadd dX8_next_124 ?_
          refine sw_putI dX8_next_125 fs_X8_107 o46 ?_
          refine sw_goto (tgt := 104) dX8_next_128 (by decide) ?_
          exact absurd (sT_lt h112).1 (by omega)
      · skip
        refine sw_if_eq (tgt := 131) dX8_next_115 (by decide) (fun h115 => ?_) (fun h115 => ?_)
        · skip
          refine sw_aloadn dX8_next_131 rfl ?_
          refine sw_aloadn dX8_next_132 rfl ?_
          refine sw_getI dX8_next_133 fs_X8_107 o46 ?_
          rw [h3]
          refine sw_aloadn dX8_next_136 rfl ?_
          refine sw_getI dX8_next_137 fs_X8_110 o46 ?_
          rw [h4]
          refine sw_isub dX8_next_140 ?_
          refine sw_topI (y := nI (k - s)) (nI_sub (by omega)) ?_
          refine sx_bipush (v := nI 8) dX8_next_141 (by decide) ?_
          refine sw_icmp_le (tgt := 150) dX8_next_143 (by decide) (fun h143 => ?_) (fun h143 => ?_)
          · skip
            refine sx_iconst (v := nI 3) dX8_next_150 (by decide) ?_
            refine sw_putI dX8_next_151 fs_X8_113 o46 ?_
            refine sw_goto (tgt := 275) dX8_next_154 (by decide) ?_
            refine sx_ret0 dX8_next_275 rfl ?_
            refine h _ (Mp_I hf (by omega)) ?_
            rw [← es]
            refine ⟨by omega, by rw [setI_at, upd_ne _ _ (by decide), hE]; exact h3, by rw [setI_at, upd_ne _ _ (by decide)]; exact h4, ?_, fun q => by omega⟩
            rw [setI_at, upd_same]
            unfold mS
            rw [if_neg (by omega), if_pos hks, hl]
            first
              | rw [if_neg (by have := (nI_le' (by omega) (by omega)).mp h143; omega)]
              | rw [if_pos (by have := mt (nI_le' (by omega) (by omega)).mpr h143; omega)]
          · skip
            refine sx_iconst (v := nI 1) dX8_next_146 (by decide) ?_
            refine sw_goto (tgt := 151) dX8_next_147 (by decide) ?_
            refine sw_putI dX8_next_151 fs_X8_113 o46 ?_
            refine sw_goto (tgt := 275) dX8_next_154 (by decide) ?_
            refine sx_ret0 dX8_next_275 rfl ?_
            refine h _ (Mp_I hf (by omega)) ?_
            rw [← es]
            refine ⟨by omega, by rw [setI_at, upd_ne _ _ (by decide), hE]; exact h3, by rw [setI_at, upd_ne _ _ (by decide)]; exact h4, ?_, fun q => by omega⟩
            rw [setI_at, upd_same]
            unfold mS
            rw [if_neg (by omega), if_pos hks, hl]
            first
              | rw [if_neg (by have := (nI_le' (by omega) (by omega)).mp h143; omega)]
              | rw [if_pos (by have := mt (nI_le' (by omega) (by omega)).mpr h143; omega)]
        · exact absurd h115 (by decide)
    | succ m ih =>
      intro k s c τ hm hk hsk es hks e1 hf h3 h4
      have hT' := Mp_T hf hT
      refine sw_aloadn dX8_next_104 rfl ?_
      refine sw_aloadn dX8_next_105 rfl ?_
      refine sw_getI dX8_next_106 fs_X8_107 o46 ?_
      rw [h3]
      refine sx_invI1 dX8_next_109 mk_X8_see vk_X8_see lk_X8_120 o46 (Nat.le_of_ble_eq_true rfl) (Nat.le_of_ble_eq_true rfl) ?_
      refine m_see hT' hb (by omega) ?_
      refine sx_insI1 dX8_next_112 mk_X8_isSmall sk_X8_isSmall lk_X8_116 (Nat.le_of_ble_eq_true rfl) (Nat.le_of_ble_eq_true rfl) ?_
      refine m_isSmall (fun h112 => ?_) (fun h112 => ?_)
      · skip
        refine sw_if_eq (tgt := 131) dX8_next_115 (by decide) (fun h115 => ?_) (fun h115 => ?_)
        · exact absurd h115 (by decide)
        · skip
          refine sw_aloadn dX8_next_118 rfl ?_
          refine sw_dup dX8_next_119 rfl ?_
          refine sw_getI dX8_next_120 fs_X8_107 o46 ?_
          rw [h3]
          refine sx_iconst (v := nI 1) dX8_next_123 (by decide) ?_
          refine sw_iadd dX8_next_124 ?_
          refine sw_topI (y := nI (k + 1)) (nI_inc _) ?_
          refine sw_putI dX8_next_125 fs_X8_107 o46 ?_
          refine sw_goto (tgt := 104) dX8_next_128 (by decide) ?_
          exact ih (k + 1) s c _ (by omega) (by omega) (by omega) es hks (by rw [← e1]; exact (rE_go (by omega) (sT_lt h112).2).symm) (Mp_I hf (by omega)) (by rw [setI_at, upd_same]) (by rw [setI_at, upd_ne _ _ (by decide)]; exact h4)
      · skip
        refine sw_if_eq (tgt := 131) dX8_next_115 (by decide) (fun h115 => ?_) (fun h115 => ?_)
        · skip
          have e2 : rE isLt T N k = k := rE_no (sT_nlt h112)
          have hE : eS T N s = k := by rw [eS_1 hks, ← e1, e2]
          have hl : lS T N s = k - s := by unfold lS; omega
          refine sw_aloadn dX8_next_131 rfl ?_
          refine sw_aloadn dX8_next_132 rfl ?_
          refine sw_getI dX8_next_133 fs_X8_107 o46 ?_
          rw [h3]
          refine sw_aloadn dX8_next_136 rfl ?_
          refine sw_getI dX8_next_137 fs_X8_110 o46 ?_
          rw [h4]
          refine sw_isub dX8_next_140 ?_
          refine sw_topI (y := nI (k - s)) (nI_sub (by omega)) ?_
          refine sx_bipush (v := nI 8) dX8_next_141 (by decide) ?_
          refine sw_icmp_le (tgt := 150) dX8_next_143 (by decide) (fun h143 => ?_) (fun h143 => ?_)
          · skip
            refine sx_iconst (v := nI 3) dX8_next_150 (by decide) ?_
            refine sw_putI dX8_next_151 fs_X8_113 o46 ?_
            refine sw_goto (tgt := 275) dX8_next_154 (by decide) ?_
            refine sx_ret0 dX8_next_275 rfl ?_
            refine h _ (Mp_I hf (by omega)) ?_
            rw [← es]
            refine ⟨by omega, by rw [setI_at, upd_ne _ _ (by decide), hE]; exact h3, by rw [setI_at, upd_ne _ _ (by decide)]; exact h4, ?_, fun q => by omega⟩
            rw [setI_at, upd_same]
            unfold mS
            rw [if_neg (by omega), if_pos hks, hl]
            first
              | rw [if_neg (by have := (nI_le' (by omega) (by omega)).mp h143; omega)]
              | rw [if_pos (by have := mt (nI_le' (by omega) (by omega)).mpr h143; omega)]
          · skip
            refine sx_iconst (v := nI 1) dX8_next_146 (by decide) ?_
            refine sw_goto (tgt := 151) dX8_next_147 (by decide) ?_
            refine sw_putI dX8_next_151 fs_X8_113 o46 ?_
            refine sw_goto (tgt := 275) dX8_next_154 (by decide) ?_
            refine sx_ret0 dX8_next_275 rfl ?_
            refine h _ (Mp_I hf (by omega)) ?_
            rw [← es]
            refine ⟨by omega, by rw [setI_at, upd_ne _ _ (by decide), hE]; exact h3, by rw [setI_at, upd_ne _ _ (by decide)]; exact h4, ?_, fun q => by omega⟩
            rw [setI_at, upd_same]
            unfold mS
            rw [if_neg (by omega), if_pos hks, hl]
            first
              | rw [if_neg (by have := (nI_le' (by omega) (by omega)).mp h143; omega)]
              | rw [if_pos (by have := mt (nI_le' (by omega) (by omega)).mpr h143; omega)]
        · exact absurd h115 (by decide)
  have numE : ∀ (k s : Nat) (c : Int32) (τ : Mem), k ≤ N → s < k → s = rE isBl T N p → kdS T N s = 2 → rE isDg T N k = rE isDg T N s → rE isDg T N k = k → Mp σ τ → τ.1 46 3 = nI k → τ.1 46 4 = nI s → τ.1 46 6 = nI (ndN T s (min (k - s) 4)) → SW G (d + 1) M_X8_next 235 [some (.ref 46), some (.int c)] [] τ (RV f) := by
    intro k s c τ hk hsk es hks e1 e2 hf h3 h4 h6
    have hE : eS T N s = k := by rw [eS_2 hks, ← e1, e2]
    have hl : lS T N s = k - s := by unfold lS; omega
    refine sw_aloadn dX8_next_235 rfl ?_
    refine sw_aloadn dX8_next_236 rfl ?_
    refine sw_getI dX8_next_237 fs_X8_107 o46 ?_
    rw [h3]
    refine sw_aloadn dX8_next_240 rfl ?_
    refine sw_getI dX8_next_241 fs_X8_110 o46 ?_
    rw [h4]
    refine sw_isub dX8_next_244 ?_
    refine sw_topI (y := nI (k - s)) (nI_sub (by omega)) ?_
    refine sx_iconst (v := nI 4) dX8_next_245 (by decide) ?_
    refine sw_icmp_le (tgt := 253) dX8_next_246 (by decide) (fun h246 => ?_) (fun h246 => ?_)
    · skip
      refine sx_iconst (v := nI 2) dX8_next_253 (by decide) ?_
      refine sw_putI dX8_next_254 fs_X8_113 o46 ?_
      refine sw_goto (tgt := 275) dX8_next_257 (by decide) ?_
      refine sx_ret0 dX8_next_275 rfl ?_
      refine h _ (Mp_I hf (by omega)) ?_
      rw [← es]
      refine ⟨by omega, by rw [setI_at, upd_ne _ _ (by decide), hE]; exact h3, by rw [setI_at, upd_ne _ _ (by decide)]; exact h4, ?_, fun _ q => ?_⟩
      · rw [setI_at, upd_same]
        unfold mS
        rw [if_neg (by omega), if_neg (by omega), if_pos hks, hl]
        first
          | rw [if_neg (by have := (nI_le' (by omega) (by omega)).mp h246; omega)]
          | rw [if_pos (by have := mt (nI_le' (by omega) (by omega)).mpr h246; omega)]
      · rw [setI_at, upd_ne _ _ (by decide), h6]
        unfold nvS
        rw [hl, Nat.min_eq_left (by omega)]
    · skip
      refine sx_iconst (v := nI 1) dX8_next_249 (by decide) ?_
      refine sw_goto (tgt := 254) dX8_next_250 (by decide) ?_
      refine sw_putI dX8_next_254 fs_X8_113 o46 ?_
      refine sw_goto (tgt := 275) dX8_next_257 (by decide) ?_
      refine sx_ret0 dX8_next_275 rfl ?_
      refine h _ (Mp_I hf (by omega)) ?_
      rw [← es]
      refine ⟨by omega, by rw [setI_at, upd_ne _ _ (by decide), hE]; exact h3, by rw [setI_at, upd_ne _ _ (by decide)]; exact h4, ?_, fun _ q => ?_⟩
      · rw [setI_at, upd_same]
        unfold mS
        rw [if_neg (by omega), if_neg (by omega), if_pos hks, hl]
        first
          | rw [if_neg (by have := (nI_le' (by omega) (by omega)).mp h246; omega)]
          | rw [if_pos (by have := mt (nI_le' (by omega) (by omega)).mpr h246; omega)]
      · rw [setI_at, upd_ne _ _ (by decide), h6]
        unfold nvS
        rw [hl, Nat.min_eq_left (by omega)]
  have num : ∀ (m k s : Nat) (c : Int32) (τ : Mem), m = N - k → k ≤ N → s < k → s = rE isBl T N p → kdS T N s = 2 → rE isDg T N k = rE isDg T N s → (∀ i, s ≤ i → i < k → isDg (T i) = true) → Mp σ τ → τ.1 46 3 = nI k → τ.1 46 4 = nI s → τ.1 46 6 = nI (ndN T s (min (k - s) 4)) → SW G (d + 1) M_X8_next 172 [some (.ref 46), some (.int c)] [] τ (RV f) := by
    intro m
    induction m with
    | zero =>
      intro k s c τ hm hk hsk es hks e1 hd hf h3 h4 h6
      have hT' := Mp_T hf hT
      refine sw_aloadn dX8_next_172 rfl ?_
      refine sw_aloadn dX8_next_173 rfl ?_
      refine sw_getI dX8_next_174 fs_X8_107 o46 ?_
      rw [h3]
      refine sx_invI1 dX8_next_177 mk_X8_see vk_X8_see lk_X8_120 o46 (Nat.le_of_ble_eq_true rfl) (Nat.le_of_ble_eq_true rfl) ?_
      refine m_see hT' hb (by omega) ?_
      refine sx_insI1 dX8_next_180 mk_X8_isDigit sk_X8_isDigit lk_X8_124 (Nat.le_of_ble_eq_true rfl) (Nat.le_of_ble_eq_true rfl) ?_
      refine m_isDigit (fun h180 => ?_) (fun h180 => ?_)
      · skip
        refine sw_if_eq (tgt := 235) dX8_next_183 (by decide) (fun h183 => ?_) (fun h183 => ?_)
        · exact absurd h183 (by decide)
        · skip
          exact absurd (sT_dg h180).1 (by omega)
      · skip
        refine sw_if_eq (tgt := 235) dX8_next_183 (by decide) (fun h183 => ?_) (fun h183 => ?_)
        · skip
          exact numE k s c τ hk hsk es hks e1 (rE_no (by omega)) hf h3 h4 h6
        · exact absurd h183 (by decide)
    | succ m ih =>
      intro k s c τ hm hk hsk es hks e1 hd hf h3 h4 h6
      have hT' := Mp_T hf hT
      have hsT : sT T N k = T k := if_pos (by omega)
      have step : ∀ (ρ : Mem), isDg (T k) = true → Mp σ ρ → ρ.1 46 3 = nI (k + 1) → ρ.1 46 4 = nI s → ρ.1 46 6 = nI (ndN T s (min (k + 1 - s) 4)) → SW G (d + 1) M_X8_next 172 [some (.ref 46), some (.int c)] [] ρ (RV f) := fun ρ hg hf' g3 g4 g6 =>
        ih (k + 1) s c ρ (by omega) (by omega) (by omega) es hks (by rw [← e1]; exact (rE_go (by omega) hg).symm) (fun i h1 h2 => by
          rcases Nat.lt_or_ge i k with z | z
          · exact hd i h1 z
          · obtain rfl : i = k := by omega
            exact hg) hf' g3 g4 g6
      refine sw_aloadn dX8_next_172 rfl ?_
      refine sw_aloadn dX8_next_173 rfl ?_
      refine sw_getI dX8_next_174 fs_X8_107 o46 ?_
      rw [h3]
      refine sx_invI1 dX8_next_177 mk_X8_see vk_X8_see lk_X8_120 o46 (Nat.le_of_ble_eq_true rfl) (Nat.le_of_ble_eq_true rfl) ?_
      refine m_see hT' hb (by omega) ?_
      refine sx_insI1 dX8_next_180 mk_X8_isDigit sk_X8_isDigit lk_X8_124 (Nat.le_of_ble_eq_true rfl) (Nat.le_of_ble_eq_true rfl) ?_
      refine m_isDigit (fun h180 => ?_) (fun h180 => ?_)
      · skip
        refine sw_if_eq (tgt := 235) dX8_next_183 (by decide) (fun h183 => ?_) (fun h183 => ?_)
        · exact absurd h183 (by decide)
        · skip
          obtain ⟨x, x1, x2, x3⟩ := isDg_nI (sT_dg h180).2
          refine sw_aloadn dX8_next_186 rfl ?_
          refine sw_getI dX8_next_187 fs_X8_107 o46 ?_
          rw [h3]
          refine sw_aloadn dX8_next_190 rfl ?_
          refine sw_getI dX8_next_191 fs_X8_110 o46 ?_
          rw [h4]
          refine sw_isub dX8_next_194 ?_
          refine sw_topI (y := nI (k - s)) (nI_sub (by omega)) ?_
          refine sx_iconst (v := nI 4) dX8_next_195 (by decide) ?_
          refine sw_icmp_ge (tgt := 222) dX8_next_196 (by decide) (fun h196 => ?_) (fun h196 => ?_)
          · skip
            refine sw_aloadn dX8_next_222 rfl ?_
            refine sw_dup dX8_next_223 rfl ?_
            refine sw_getI dX8_next_224 fs_X8_107 o46 ?_
            first
              | rw [h3]
              | rw [show (setI τ 46 6 _).1 46 3 = nI k by rw [setI_at, upd_ne _ _ (by decide)]; exact h3]
            refine sx_iconst (v := nI 1) dX8_next_227 (by decide) ?_
            refine sw_iadd dX8_next_228 ?_
            refine sw_topI (y := nI (k + 1)) (nI_inc _) ?_
            refine sw_putI dX8_next_229 fs_X8_107 o46 ?_
            refine sw_goto (tgt := 172) dX8_next_232 (by decide) ?_
            first
              | (have hge : 4 ≤ k - s := (nI_le' (by omega) (by omega)).mp h196
                 exact step _ (sT_dg h180).2 (Mp_I hf (by omega)) (by rw [setI_at, upd_same]) (by rw [setI_at, upd_ne _ _ (by decide)]; exact h4) (by rw [setI_at, upd_ne _ _ (by decide), h6, Nat.min_eq_right (by omega), Nat.min_eq_right (by omega)]))
              | exact step _ (sT_dg h180).2 (Mp_I (Mp_I hf (by omega)) (by omega)) (by rw [setI_at, upd_same]) (by rw [setI_at, upd_ne _ _ (by decide), setI_at, upd_ne _ _ (by decide)]; exact h4) (by rw [setI_at, upd_ne _ _ (by decide), setI_at, upd_same, Nat.min_eq_left (by omega)])
          · skip
            have hlt : k - s < 4 := by have := mt (nI_le' (by omega) (by omega)).mpr h196; omega
            refine sw_aloadn dX8_next_199 rfl ?_
            refine sx_bipush (v := nI 10) dX8_next_200 (by decide) ?_
            refine sw_aloadn dX8_next_202 rfl ?_
            refine sw_getI dX8_next_203 fs_X8_127 o46 ?_
            rw [h6, Nat.min_eq_left (by omega)]
            refine sw_imul dX8_next_206 ?_
            refine sw_aloadn dX8_next_207 rfl ?_
            refine sw_aloadn dX8_next_208 rfl ?_
            refine sw_getI dX8_next_209 fs_X8_107 o46 ?_
            rw [h3]
            refine sx_invI1 dX8_next_212 mk_X8_see vk_X8_see lk_X8_120 o46 (Nat.le_of_ble_eq_true rfl) (Nat.le_of_ble_eq_true rfl) ?_
            refine m_see hT' hb (by omega) ?_
            rw [hsT, x3]
            refine sw_iadd dX8_next_215 ?_
            refine sx_bipush (v := nI 48) dX8_next_216 (by decide) ?_
            refine sw_isub dX8_next_218 ?_
            refine sw_topI (y := nI (ndN T s (k + 1 - s))) (by rw [nI_mul, nI_add, nI_sub (by omega), show k + 1 - s = (k - s) + 1 by omega, ndN, show s + (k - s) = k by omega, x3, nI_toInt (by omega)]; congr 1; omega) ?_
            refine sw_putI dX8_next_219 fs_X8_127 o46 ?_
            refine sw_aloadn dX8_next_222 rfl ?_
            refine sw_dup dX8_next_223 rfl ?_
            refine sw_getI dX8_next_224 fs_X8_107 o46 ?_
            first
              | rw [h3]
              | rw [show (setI τ 46 6 _).1 46 3 = nI k by rw [setI_at, upd_ne _ _ (by decide)]; exact h3]
            refine sx_iconst (v := nI 1) dX8_next_227 (by decide) ?_
            refine sw_iadd dX8_next_228 ?_
            refine sw_topI (y := nI (k + 1)) (nI_inc _) ?_
            refine sw_putI dX8_next_229 fs_X8_107 o46 ?_
            refine sw_goto (tgt := 172) dX8_next_232 (by decide) ?_
            first
              | (have hge : 4 ≤ k - s := (nI_le' (by omega) (by omega)).mp h196
                 exact step _ (sT_dg h180).2 (Mp_I hf (by omega)) (by rw [setI_at, upd_same]) (by rw [setI_at, upd_ne _ _ (by decide)]; exact h4) (by rw [setI_at, upd_ne _ _ (by decide), h6, Nat.min_eq_right (by omega), Nat.min_eq_right (by omega)]))
              | exact step _ (sT_dg h180).2 (Mp_I (Mp_I hf (by omega)) (by omega)) (by rw [setI_at, upd_same]) (by rw [setI_at, upd_ne _ _ (by decide), setI_at, upd_ne _ _ (by decide)]; exact h4) (by rw [setI_at, upd_ne _ _ (by decide), setI_at, upd_same, Nat.min_eq_left (by omega)])
      · skip
        refine sw_if_eq (tgt := 235) dX8_next_183 (by decide) (fun h183 => ?_) (fun h183 => ?_)
        · skip
          exact numE k s c τ hk hsk es hks e1 (rE_no (sT_ndg h180)) hf h3 h4 h6
        · exact absurd h183 (by decide)
  have mid : ∀ (τ : Mem) (s : Nat), s = rE isBl T N p → Mp σ τ → τ.1 46 3 = nI s → SW G (d + 1) M_X8_next 52 [some (.ref 46), none] [] τ (RV f) := by
    intro τ s es hf h3
    have hsN' : s ≤ N := by omega
    have hK : Mp σ (setI τ 46 4 (nI s)) := Mp_I hf (by omega)
    have hT' := Mp_T hK hT
    have q3 : (setI τ 46 4 (nI s)).1 46 3 = nI s := by rw [setI_at, upd_ne _ _ (by decide)]; exact h3
    have q4 : (setI τ 46 4 (nI s)).1 46 4 = nI s := by rw [setI_at, upd_same]
    refine sw_aloadn dX8_next_52 rfl ?_
    refine sw_aloadn dX8_next_53 rfl ?_
    refine sw_getI dX8_next_54 fs_X8_107 o46 ?_
    rw [h3]
    refine sw_putI dX8_next_57 fs_X8_110 o46 ?_
    generalize (setI τ 46 4 (nI s)) = ρ at *
    refine sw_aloadn dX8_next_60 rfl ?_
    refine sw_getI dX8_next_61 fs_X8_107 o46 ?_
    rw [q3]
    refine sw_aloadn dX8_next_64 rfl ?_
    refine sw_getI dX8_next_65 fs_X8_104 o46 ?_
    rw [hT'.2]
    refine sw_icmp_lt (tgt := 77) dX8_next_68 (by decide) (fun h68 => ?_) (fun h68 => ?_)
    · skip
      have hz : s < N := (nI_lt' (by omega) (by omega)).mp h68
      refine sw_aloadn dX8_next_77 rfl ?_
      refine sw_getR dX8_next_78 fs_X8_13 o46 r46_1 ?_
      refine sw_aloadn dX8_next_81 rfl ?_
      refine sw_getI dX8_next_82 fs_X8_107 o46 ?_
      rw [q3]
      refine sx_bald (s) dX8_next_85 a47 (rfl) (by omega) (by decide) ?_
      rw [hT'.1]
      refine sw_istoren dX8_next_86 (Nat.le_of_ble_eq_true rfl) ?_
      refine sw_aloadn dX8_next_87 rfl ?_
      refine sw_dup dX8_next_88 rfl ?_
      refine sw_getI dX8_next_89 fs_X8_107 o46 ?_
      rw [q3]
      refine sx_iconst (v := nI 1) dX8_next_92 (by decide) ?_
      refine sw_iadd dX8_next_93 ?_
      refine sw_topI (y := nI (s + 1)) (nI_inc _) ?_
      refine sw_putI dX8_next_94 fs_X8_107 o46 ?_
      refine sw_iloadn dX8_next_97 rfl ?_
      refine sx_insI1 dX8_next_98 mk_X8_isSmall sk_X8_isSmall lk_X8_116 (Nat.le_of_ble_eq_true rfl) (Nat.le_of_ble_eq_true rfl) ?_
      refine m_isSmall (fun h98 => ?_) (fun h98 => ?_)
      · skip
        refine sw_if_eq (tgt := 157) dX8_next_101 (by decide) (fun h101 => ?_) (fun h101 => ?_)
        · exact absurd h101 (by decide)
        · skip
          exact word (N - (s + 1)) (s + 1) s _ _ rfl (by omega) (by omega) es (kdS_1.mpr ⟨hz, h98⟩) (rE_go hz h98).symm (Mp_I hK (by omega)) (by rw [setI_at, upd_same]) (by rw [setI_at, upd_ne _ _ (by decide)]; exact q4)
      · skip
        refine sw_if_eq (tgt := 157) dX8_next_101 (by decide) (fun h101 => ?_) (fun h101 => ?_)
        · skip
          refine sw_iloadn dX8_next_157 rfl ?_
          refine sx_insI1 dX8_next_158 mk_X8_isDigit sk_X8_isDigit lk_X8_124 (Nat.le_of_ble_eq_true rfl) (Nat.le_of_ble_eq_true rfl) ?_
          refine m_isDigit (fun h158 => ?_) (fun h158 => ?_)
          · skip
            refine sw_if_eq (tgt := 260) dX8_next_161 (by decide) (fun h161 => ?_) (fun h161 => ?_)
            · exact absurd h161 (by decide)
            · skip
              refine sw_aloadn dX8_next_164 rfl ?_
              refine sw_iloadn dX8_next_165 rfl ?_
              refine sx_bipush (v := nI 48) dX8_next_166 (by decide) ?_
              refine sw_isub dX8_next_168 ?_
              refine sw_putI dX8_next_169 fs_X8_127 o46 ?_
              have hk2 : kdS T N s = 2 := kdS_2.mpr ⟨hz, h98, h158⟩
              obtain ⟨x, x1, x2, x3⟩ := isDg_nI h158
              refine num (N - (s + 1)) (s + 1) s _ _ rfl (by omega) (by omega) es hk2 (rE_go hz h158).symm (fun i h1 h2 => by obtain rfl : i = s := (by omega); exact h158) (Mp_I (Mp_I hK (by omega)) (by omega)) (by rw [setI_at, upd_ne _ _ (by decide), setI_at, upd_same]) (by rw [setI_at, upd_ne _ _ (by decide), setI_at, upd_ne _ _ (by decide)]; exact q4) ?_
              rw [setI_at, upd_same, x3, nI_sub (by omega), show min (s + 1 - s) 4 = 0 + 1 by omega, ndN, ndN, Nat.add_zero, x3, nI_toInt (by omega)]
              congr 1
              omega
          · skip
            refine sw_if_eq (tgt := 260) dX8_next_161 (by decide) (fun h161 => ?_) (fun h161 => ?_)
            · skip
              refine sw_aloadn dX8_next_260 rfl ?_
              refine sw_iloadn dX8_next_261 rfl ?_
              refine sx_bipush (v := nI 59) dX8_next_262 (by decide) ?_
              refine sw_icmp_ne (tgt := 271) dX8_next_264 (by decide) (fun h264 => ?_) (fun h264 => ?_)
              · skip
                refine sx_iconst (v := nI 1) dX8_next_271 (by decide) ?_
                refine sw_putI dX8_next_272 fs_X8_113 o46 ?_
                refine sx_ret0 dX8_next_275 rfl ?_
                have e3 : eS T N s = s + 1 := by unfold eS; rw [if_neg (by omega), if_neg (by rw [h98]; simp), if_neg (by rw [h158]; simp)]
                have k3 : kdS T N s = if T s = nI 59 then 3 else 4 := by unfold kdS; rw [if_neg (by omega), if_neg (by rw [h98]; simp), if_neg (by rw [h158]; simp)]
                refine h _ (Mp_I (Mp_I hK (by omega)) (by omega)) ?_
                rw [← es]
                refine ⟨hsN', by rw [setI_at, upd_ne _ _ (by decide), setI_at, upd_same, e3], by rw [setI_at, upd_ne _ _ (by decide), setI_at, upd_ne _ _ (by decide)]; exact q4, ?_, fun q => by split at k3 <;> omega⟩
                rw [setI_at, upd_same]
                first
                  | (rw [if_pos h264] at k3; rw [mS_4.mpr k3])
                  | (rw [if_neg h264] at k3
                     unfold mS
                     rw [if_neg (by omega), if_neg (by omega), if_neg (by omega), if_neg (by omega)])
              · skip
                refine sx_iconst (v := nI 4) dX8_next_267 (by decide) ?_
                refine sw_goto (tgt := 272) dX8_next_268 (by decide) ?_
                refine sw_putI dX8_next_272 fs_X8_113 o46 ?_
                refine sx_ret0 dX8_next_275 rfl ?_
                have e3 : eS T N s = s + 1 := by unfold eS; rw [if_neg (by omega), if_neg (by rw [h98]; simp), if_neg (by rw [h158]; simp)]
                have k3 : kdS T N s = if T s = nI 59 then 3 else 4 := by unfold kdS; rw [if_neg (by omega), if_neg (by rw [h98]; simp), if_neg (by rw [h158]; simp)]
                refine h _ (Mp_I (Mp_I hK (by omega)) (by omega)) ?_
                rw [← es]
                refine ⟨hsN', by rw [setI_at, upd_ne _ _ (by decide), setI_at, upd_same, e3], by rw [setI_at, upd_ne _ _ (by decide), setI_at, upd_ne _ _ (by decide)]; exact q4, ?_, fun q => by split at k3 <;> omega⟩
                rw [setI_at, upd_same]
                first
                  | (rw [if_pos h264] at k3; rw [mS_4.mpr k3])
                  | (rw [if_neg h264] at k3
                     unfold mS
                     rw [if_neg (by omega), if_neg (by omega), if_neg (by omega), if_neg (by omega)])
            · exact absurd h161 (by decide)
        · exact absurd h101 (by decide)
    · skip
      have hz : N ≤ s := by have := mt (nI_lt' (by omega) (by omega)).mpr h68; omega
      have hk0 := kdS_0 (T := T) (N := N) (s := s) |>.mpr hz
      have he0 : eS T N s = s := by unfold eS; rw [if_pos hz]
      refine sw_aloadn dX8_next_71 rfl ?_
      refine sx_iconst (v := nI 0) dX8_next_72 (by decide) ?_
      refine sw_putI dX8_next_73 fs_X8_113 o46 ?_
      refine sx_ret0 dX8_next_76 rfl ?_
      refine h _ (Mp_I hK (by omega)) ?_
      rw [← es]
      exact ⟨hsN', by rw [setI_at, upd_ne _ _ (by decide), he0]; exact q3, by rw [setI_at, upd_ne _ _ (by decide)]; exact q4, by rw [setI_at, upd_same, mS_0.mpr hk0], fun q => by omega⟩
  have loop : ∀ (m k : Nat) (τ : Mem), m = N - k → k ≤ N → rE isBl T N k = rE isBl T N p → Mp σ τ → τ.1 46 3 = nI k → SW G (d + 1) M_X8_next 0 [some (.ref 46), none] [] τ (RV f) := by
    intro m
    induction m with
    | zero =>
      intro k τ hm hk e1 hf h3
      have hT' := Mp_T hf hT
      refine sw_aloadn dX8_next_0 rfl ?_
      refine sw_getI dX8_next_1 fs_X8_107 o46 ?_
      rw [h3]
      refine sw_aloadn dX8_next_4 rfl ?_
      refine sw_getI dX8_next_5 fs_X8_104 o46 ?_
      rw [hT'.2]
      refine sw_icmp_ge (tgt := 52) dX8_next_8 (by decide) (fun h8 => ?_) (fun h8 => ?_)
      · skip
        exact mid τ k (by rw [← e1]; exact (rE_no (by omega)).symm) hf h3
      · exact absurd ((nI_le (by omega) (by omega))) h8
    | succ m ih =>
      intro k τ hm hk e1 hf h3
      have hT' := Mp_T hf hT
      refine sw_aloadn dX8_next_0 rfl ?_
      refine sw_getI dX8_next_1 fs_X8_107 o46 ?_
      rw [h3]
      refine sw_aloadn dX8_next_4 rfl ?_
      refine sw_getI dX8_next_5 fs_X8_104 o46 ?_
      rw [hT'.2]
      refine sw_icmp_ge (tgt := 52) dX8_next_8 (by decide) (fun h8 => ?_) (fun h8 => ?_)
      · exact absurd h8 ((by rw [nI_le' (by omega) (by omega)]; omega))
      · skip
        refine sw_aloadn dX8_next_11 rfl ?_
        refine sw_getR dX8_next_12 fs_X8_13 o46 r46_1 ?_
        refine sw_aloadn dX8_next_15 rfl ?_
        refine sw_getI dX8_next_16 fs_X8_107 o46 ?_
        rw [h3]
        refine sx_bald (k) dX8_next_19 a47 (rfl) (by omega) (by decide) ?_
        rw [hT'.1]
        refine sx_bipush (v := nI 32) dX8_next_20 (by decide) ?_
        refine sw_icmp_eq (tgt := 39) dX8_next_22 (by decide) (fun h22 => ?_) (fun h22 => ?_)
        · skip
          refine sw_aloadn dX8_next_39 rfl ?_
          refine sw_dup dX8_next_40 rfl ?_
          refine sw_getI dX8_next_41 fs_X8_107 o46 ?_
          rw [h3]
          refine sx_iconst (v := nI 1) dX8_next_44 (by decide) ?_
          refine sw_iadd dX8_next_45 ?_
          refine sw_topI (y := nI (k + 1)) (nI_inc _) ?_
          refine sw_putI dX8_next_46 fs_X8_107 o46 ?_
          refine sw_goto (tgt := 0) dX8_next_49 (by decide) ?_
          first
            | exact ih (k + 1) _ (by omega) (by omega) (by rw [← e1]; exact (rE_go (by omega) (decide_eq_true (Or.inl h22))).symm) (Mp_I hf (by omega)) (by rw [setI_at, upd_same])
            | exact ih (k + 1) _ (by omega) (by omega) (by rw [← e1]; exact (rE_go (by omega) (decide_eq_true (Or.inr h36))).symm) (Mp_I hf (by omega)) (by rw [setI_at, upd_same])
        · skip
          refine sw_aloadn dX8_next_25 rfl ?_
          refine sw_getR dX8_next_26 fs_X8_13 o46 r46_1 ?_
          refine sw_aloadn dX8_next_29 rfl ?_
          refine sw_getI dX8_next_30 fs_X8_107 o46 ?_
          rw [h3]
          refine sx_bald (k) dX8_next_33 a47 (rfl) (by omega) (by decide) ?_
          rw [hT'.1]
          refine sx_bipush (v := nI 10) dX8_next_34 (by decide) ?_
          refine sw_icmp_ne (tgt := 52) dX8_next_36 (by decide) (fun h36 => ?_) (fun h36 => ?_)
          · skip
            exact mid τ k (by rw [← e1]; exact (rE_no (fun q => (of_decide_eq_true q.2).elim h22 h36)).symm) hf h3
          · skip
            refine sw_aloadn dX8_next_39 rfl ?_
            refine sw_dup dX8_next_40 rfl ?_
            refine sw_getI dX8_next_41 fs_X8_107 o46 ?_
            rw [h3]
            refine sx_iconst (v := nI 1) dX8_next_44 (by decide) ?_
            refine sw_iadd dX8_next_45 ?_
            refine sw_topI (y := nI (k + 1)) (nI_inc _) ?_
            refine sw_putI dX8_next_46 fs_X8_107 o46 ?_
            refine sw_goto (tgt := 0) dX8_next_49 (by decide) ?_
            first
              | exact ih (k + 1) _ (by omega) (by omega) (by rw [← e1]; exact (rE_go (by omega) (decide_eq_true (Or.inl h22))).symm) (Mp_I hf (by omega)) (by rw [setI_at, upd_same])
              | exact ih (k + 1) _ (by omega) (by omega) (by rw [← e1]; exact (rE_go (by omega) (decide_eq_true (Or.inr h36))).symm) (Mp_I hf (by omega)) (by rw [setI_at, upd_same])
  exact loop (N - p) p σ rfl hp rfl Mp_rf hs
end MNEXT
