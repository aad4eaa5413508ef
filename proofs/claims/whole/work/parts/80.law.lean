/-! ===== the law's loop: one lemma a case ===== -/
def M_L_law : MM := (cL_law, yL_law, RL, 7, some .boolean)
section LAW
variable {G : GG} {σ : Mem} {Q : PSI} {Ls j : Nat} {xs : Nat → Int32} {o5 o6 : Option Value}
theorem law_feed (hX : Scr G Ls xs) (hL : Ls ≤ 3072) (hj : 6 * j + 6 ≤ Ls) (hI : Inv σ) (h : ∀ ρ, Inv ρ → SZ G 12 M_L_law 1100 [some (.ref 76), some (.ref 0), some (.ref 46), some (.ref 75), some (.int (nI (6 * j))), o5, o6] [] ρ Q) : SZ G 12 M_L_law 140 [some (.ref 76), some (.ref 0), some (.ref 46), some (.ref 75), some (.int (nI (6 * j))), o5, o6] [] σ Q := by
  refine sz_aloadn dL_law_140 rfl ?_
  refine sz_aloadn dL_law_141 rfl ?_
  refine sz_iload dL_law_142 rfl ?_
  refine sy_iconst (v := nI 1) dL_law_144 (by decide) ?_
  refine sz_iadd dL_law_145 ?_
  refine sz_topI (y := nI (6 * j + 1)) (nI_add _ _) ?_
  refine sz_sld (6 * j + 1) hX dL_law_146 (rfl) (by omega) (by omega) ?_
  refine sz_aloadn dL_law_147 rfl ?_
  refine sz_iload dL_law_148 rfl ?_
  refine sy_iconst (v := nI 2) dL_law_150 (by decide) ?_
  refine sz_iadd dL_law_151 ?_
  refine sz_topI (y := nI (6 * j + 2)) (nI_add _ _) ?_
  refine sz_sld (6 * j + 2) hX dL_law_152 (rfl) (by omega) (by omega) ?_
  refine sz_aloadn dL_law_153 rfl ?_
  refine sz_iload dL_law_154 rfl ?_
  refine sy_iconst (v := nI 3) dL_law_156 (by decide) ?_
  refine sz_iadd dL_law_157 ?_
  refine sz_topI (y := nI (6 * j + 3)) (nI_add _ _) ?_
  refine sz_sld (6 * j + 3) hX dL_law_158 (rfl) (by omega) (by omega) ?_
  refine sz_aloadn dL_law_159 rfl ?_
  refine sz_iload dL_law_160 rfl ?_
  refine sy_iconst (v := nI 4) dL_law_162 (by decide) ?_
  refine sz_iadd dL_law_163 ?_
  refine sz_topI (y := nI (6 * j + 4)) (nI_add _ _) ?_
  refine sz_sld (6 * j + 4) hX dL_law_164 (rfl) (by omega) (by omega) ?_
  refine sz_aloadn dL_law_165 rfl ?_
  refine sz_iload dL_law_166 rfl ?_
  refine sy_iconst (v := nI 5) dL_law_168 (by decide) ?_
  refine sz_iadd dL_law_169 ?_
  refine sz_topI (y := nI (6 * j + 5)) (nI_add _ _) ?_
  refine sz_sld (6 * j + 5) hX dL_law_170 (rfl) (by omega) (by omega) ?_
  refine sy_invI5 dL_law_171 mk_X7_feed vk_X7_feed lk_L_19 o0 (Nat.le_of_ble_eq_true rfl) (Nat.le_of_ble_eq_true rfl) ?_
  refine op_feed hI (fun a τ hm => ?_)
  refine sz_aloadn dL_law_174 rfl ?_
  refine sz_aloadn dL_law_175 rfl ?_
  refine sz_iload dL_law_176 rfl ?_
  refine sy_iconst (v := nI 1) dL_law_178 (by decide) ?_
  refine sz_iadd dL_law_179 ?_
  refine sz_topI (y := nI (6 * j + 1)) (nI_add _ _) ?_
  refine sz_sld (6 * j + 1) hX dL_law_180 (rfl) (by omega) (by omega) ?_
  refine sz_aloadn dL_law_181 rfl ?_
  refine sz_iload dL_law_182 rfl ?_
  refine sy_iconst (v := nI 2) dL_law_184 (by decide) ?_
  refine sz_iadd dL_law_185 ?_
  refine sz_topI (y := nI (6 * j + 2)) (nI_add _ _) ?_
  refine sz_sld (6 * j + 2) hX dL_law_186 (rfl) (by omega) (by omega) ?_
  refine sz_aloadn dL_law_187 rfl ?_
  refine sz_iload dL_law_188 rfl ?_
  refine sy_iconst (v := nI 3) dL_law_190 (by decide) ?_
  refine sz_iadd dL_law_191 ?_
  refine sz_topI (y := nI (6 * j + 3)) (nI_add _ _) ?_
  refine sz_sld (6 * j + 3) hX dL_law_192 (rfl) (by omega) (by omega) ?_
  refine sz_aloadn dL_law_193 rfl ?_
  refine sz_iload dL_law_194 rfl ?_
  refine sy_iconst (v := nI 4) dL_law_196 (by decide) ?_
  refine sz_iadd dL_law_197 ?_
  refine sz_topI (y := nI (6 * j + 4)) (nI_add _ _) ?_
  refine sz_sld (6 * j + 4) hX dL_law_198 (rfl) (by omega) (by omega) ?_
  refine sz_aloadn dL_law_199 rfl ?_
  refine sz_iload dL_law_200 rfl ?_
  refine sy_iconst (v := nI 5) dL_law_202 (by decide) ?_
  refine sz_iadd dL_law_203 ?_
  refine sz_topI (y := nI (6 * j + 5)) (nI_add _ _) ?_
  refine sz_sld (6 * j + 5) hX dL_law_204 (rfl) (by omega) (by omega) ?_
  refine sy_invI5 dL_law_205 mk_X8_feed vk_X8_feed lk_L_23 o46 (Nat.le_of_ble_eq_true rfl) (Nat.le_of_ble_eq_true rfl) ?_
  refine hm _ (fun ρ hI2 => ?_)
  refine sz_icmp_eq (tgt := 1100) dL_law_208 (by decide) (fun h208 => ?_) (fun h208 => ?_)
  · skip
    exact h _ hI2
  · exact absurd (rfl) h208
theorem law_end (hX : Scr G Ls xs) (hL : Ls ≤ 3072) (hj : 6 * j + 6 ≤ Ls) (hI : Inv σ) (h : ∀ ρ, Inv ρ → SZ G 12 M_L_law 1100 [some (.ref 76), some (.ref 0), some (.ref 46), some (.ref 75), some (.int (nI (6 * j))), o5, o6] [] ρ Q) : SZ G 12 M_L_law 213 [some (.ref 76), some (.ref 0), some (.ref 46), some (.ref 75), some (.int (nI (6 * j))), o5, o6] [] σ Q := by
  refine sz_aloadn dL_law_213 rfl ?_
  refine sz_aloadn dL_law_214 rfl ?_
  refine sz_iload dL_law_215 rfl ?_
  refine sy_iconst (v := nI 1) dL_law_217 (by decide) ?_
  refine sz_iadd dL_law_218 ?_
  refine sz_topI (y := nI (6 * j + 1)) (nI_add _ _) ?_
  refine sz_sld (6 * j + 1) hX dL_law_219 (rfl) (by omega) (by omega) ?_
  refine sy_invI1 dL_law_220 mk_X7_end vk_X7_end lk_L_24 o0 (Nat.le_of_ble_eq_true rfl) (Nat.le_of_ble_eq_true rfl) ?_
  refine op_end hI (fun a τ hm => ?_)
  refine sz_aloadn dL_law_223 rfl ?_
  refine sz_aloadn dL_law_224 rfl ?_
  refine sz_iload dL_law_225 rfl ?_
  refine sy_iconst (v := nI 1) dL_law_227 (by decide) ?_
  refine sz_iadd dL_law_228 ?_
  refine sz_topI (y := nI (6 * j + 1)) (nI_add _ _) ?_
  refine sz_sld (6 * j + 1) hX dL_law_229 (rfl) (by omega) (by omega) ?_
  refine sy_invI1 dL_law_230 mk_X8_end vk_X8_end lk_L_28 o46 (Nat.le_of_ble_eq_true rfl) (Nat.le_of_ble_eq_true rfl) ?_
  refine hm _ (fun ρ hI2 => ?_)
  refine sz_icmp_eq (tgt := 1100) dL_law_233 (by decide) (fun h233 => ?_) (fun h233 => ?_)
  · skip
    exact h _ hI2
  · exact absurd (rfl) h233
theorem law_building (hG : Str G) (hX : Scr G Ls xs) (hL : Ls ≤ 3072) (hj : 6 * j + 6 ≤ Ls) (hI : Inv σ) (h : ∀ ρ, Inv ρ → SZ G 12 M_L_law 1100 [some (.ref 76), some (.ref 0), some (.ref 46), some (.ref 75), some (.int (nI (6 * j))), o5, o6] [] ρ Q) : SZ G 12 M_L_law 238 [some (.ref 76), some (.ref 0), some (.ref 46), some (.ref 75), some (.int (nI (6 * j))), o5, o6] [] σ Q := by
  refine sz_aloadn dL_law_238 rfl ?_
  refine sy_invI0 dL_law_239 mk_X7_building vk_X7_building lk_L_29 o0 (Nat.le_of_ble_eq_true rfl) (Nat.le_of_ble_eq_true rfl) ?_
  refine op_building hG hI (fun a τ hm => ?_)
  refine sz_aloadn dL_law_242 rfl ?_
  refine sy_invI0 dL_law_243 mk_X8_building vk_X8_building lk_L_33 o46 (Nat.le_of_ble_eq_true rfl) (Nat.le_of_ble_eq_true rfl) ?_
  refine hm _ (fun ρ hI2 => ?_)
  refine sz_icmp_eq (tgt := 1100) dL_law_246 (by decide) (fun h246 => ?_) (fun h246 => ?_)
  · skip
    exact h _ hI2
  · exact absurd (rfl) h246
theorem law_place (hX : Scr G Ls xs) (hL : Ls ≤ 3072) (hj : 6 * j + 6 ≤ Ls) (hI : Inv σ) (h : ∀ ρ, Inv ρ → SZ G 12 M_L_law 1100 [some (.ref 76), some (.ref 0), some (.ref 46), some (.ref 75), some (.int (nI (6 * j))), o5, o6] [] ρ Q) : SZ G 12 M_L_law 251 [some (.ref 76), some (.ref 0), some (.ref 46), some (.ref 75), some (.int (nI (6 * j))), o5, o6] [] σ Q := by
  refine sz_aloadn dL_law_251 rfl ?_
  refine sy_invI0 dL_law_252 mk_X7_place vk_X7_place lk_L_34 o0 (Nat.le_of_ble_eq_true rfl) (Nat.le_of_ble_eq_true rfl) ?_
  refine op_place hI (fun a τ hm => ?_)
  refine sz_aloadn dL_law_255 rfl ?_
  refine sy_invI0 dL_law_256 mk_X8_place vk_X8_place lk_L_37 o46 (Nat.le_of_ble_eq_true rfl) (Nat.le_of_ble_eq_true rfl) ?_
  refine hm _ (fun ρ hI2 => ?_)
  refine sz_icmp_eq (tgt := 1100) dL_law_259 (by decide) (fun h259 => ?_) (fun h259 => ?_)
  · skip
    exact h _ hI2
  · exact absurd (rfl) h259
theorem law_card (hX : Scr G Ls xs) (hL : Ls ≤ 3072) (hj : 6 * j + 6 ≤ Ls) (hI : Inv σ) (h : ∀ ρ, Inv ρ → SZ G 12 M_L_law 1100 [some (.ref 76), some (.ref 0), some (.ref 46), some (.ref 75), some (.int (nI (6 * j))), o5, o6] [] ρ Q) : SZ G 12 M_L_law 264 [some (.ref 76), some (.ref 0), some (.ref 46), some (.ref 75), some (.int (nI (6 * j))), o5, o6] [] σ Q := by
  refine sz_aloadn dL_law_264 rfl ?_
  refine sy_invI0 dL_law_265 mk_X7_card vk_X7_card lk_L_38 o0 (Nat.le_of_ble_eq_true rfl) (Nat.le_of_ble_eq_true rfl) ?_
  refine op_card hI (fun a τ hm => ?_)
  refine sz_aloadn dL_law_268 rfl ?_
  refine sy_invI0 dL_law_269 mk_X8_card vk_X8_card lk_L_41 o46 (Nat.le_of_ble_eq_true rfl) (Nat.le_of_ble_eq_true rfl) ?_
  refine hm _ (fun ρ hI2 => ?_)
  refine sz_icmp_eq (tgt := 1100) dL_law_272 (by decide) (fun h272 => ?_) (fun h272 => ?_)
  · skip
    exact h _ hI2
  · exact absurd (rfl) h272
theorem law_pass (hX : Scr G Ls xs) (hL : Ls ≤ 3072) (hj : 6 * j + 6 ≤ Ls) (hI : Inv σ) (h : ∀ ρ, Inv ρ → SZ G 12 M_L_law 1100 [some (.ref 76), some (.ref 0), some (.ref 46), some (.ref 75), some (.int (nI (6 * j))), o5, o6] [] ρ Q) : SZ G 12 M_L_law 277 [some (.ref 76), some (.ref 0), some (.ref 46), some (.ref 75), some (.int (nI (6 * j))), o5, o6] [] σ Q := by
  by_cases hz : xs (6 * j + 3) = 0
  · skip
    refine sz_aloadn dL_law_277 rfl ?_
    refine sz_aloadn dL_law_278 rfl ?_
    refine sz_iload dL_law_279 rfl ?_
    refine sy_iconst (v := nI 1) dL_law_281 (by decide) ?_
    refine sz_iadd dL_law_282 ?_
    refine sz_topI (y := nI (6 * j + 1)) (nI_add _ _) ?_
    refine sz_sld (6 * j + 1) hX dL_law_283 (rfl) (by omega) (by omega) ?_
    refine sz_aloadn dL_law_284 rfl ?_
    refine sz_iload dL_law_285 rfl ?_
    refine sy_iconst (v := nI 2) dL_law_287 (by decide) ?_
    refine sz_iadd dL_law_288 ?_
    refine sz_topI (y := nI (6 * j + 2)) (nI_add _ _) ?_
    refine sz_sld (6 * j + 2) hX dL_law_289 (rfl) (by omega) (by omega) ?_
    refine sz_aloadn dL_law_290 rfl ?_
    refine sz_iload dL_law_291 rfl ?_
    refine sy_iconst (v := nI 3) dL_law_293 (by decide) ?_
    refine sz_iadd dL_law_294 ?_
    refine sz_topI (y := nI (6 * j + 3)) (nI_add _ _) ?_
    refine sz_sld (6 * j + 3) hX dL_law_295 (rfl) (by omega) (by omega) ?_
    refine sz_if_eq (tgt := 303) dL_law_296 (by decide) (fun h296 => ?_) (fun h296 => ?_)
    · skip
      refine sy_iconst (v := nI 0) dL_law_303 (by decide) ?_
      refine sz_aloadn dL_law_304 rfl ?_
      refine sz_iload dL_law_305 rfl ?_
      refine sy_iconst (v := nI 4) dL_law_307 (by decide) ?_
      refine sz_iadd dL_law_308 ?_
      refine sz_topI (y := nI (6 * j + 4)) (nI_add _ _) ?_
      refine sz_sld (6 * j + 4) hX dL_law_309 (rfl) (by omega) (by omega) ?_
      refine sy_invI4 dL_law_310 mk_X7_pass vk_X7_pass lk_L_42 o0 (Nat.le_of_ble_eq_true rfl) (Nat.le_of_ble_eq_true rfl) ?_
      refine op_pass (by first | exact Or.inl rfl | exact Or.inr rfl) hI (fun a τ hm => ?_)
      refine sz_aloadn dL_law_313 rfl ?_
      refine sz_aloadn dL_law_314 rfl ?_
      refine sz_iload dL_law_315 rfl ?_
      refine sy_iconst (v := nI 1) dL_law_317 (by decide) ?_
      refine sz_iadd dL_law_318 ?_
      refine sz_topI (y := nI (6 * j + 1)) (nI_add _ _) ?_
      refine sz_sld (6 * j + 1) hX dL_law_319 (rfl) (by omega) (by omega) ?_
      refine sz_aloadn dL_law_320 rfl ?_
      refine sz_iload dL_law_321 rfl ?_
      refine sy_iconst (v := nI 2) dL_law_323 (by decide) ?_
      refine sz_iadd dL_law_324 ?_
      refine sz_topI (y := nI (6 * j + 2)) (nI_add _ _) ?_
      refine sz_sld (6 * j + 2) hX dL_law_325 (rfl) (by omega) (by omega) ?_
      refine sz_aloadn dL_law_326 rfl ?_
      refine sz_iload dL_law_327 rfl ?_
      refine sy_iconst (v := nI 3) dL_law_329 (by decide) ?_
      refine sz_iadd dL_law_330 ?_
      refine sz_topI (y := nI (6 * j + 3)) (nI_add _ _) ?_
      refine sz_sld (6 * j + 3) hX dL_law_331 (rfl) (by omega) (by omega) ?_
      refine sz_if_eq (tgt := 339) dL_law_332 (by decide) (fun h332 => ?_) (fun h332 => ?_)
      · skip
        refine sy_iconst (v := nI 0) dL_law_339 (by decide) ?_
        refine sz_aloadn dL_law_340 rfl ?_
        refine sz_iload dL_law_341 rfl ?_
        refine sy_iconst (v := nI 4) dL_law_343 (by decide) ?_
        refine sz_iadd dL_law_344 ?_
        refine sz_topI (y := nI (6 * j + 4)) (nI_add _ _) ?_
        refine sz_sld (6 * j + 4) hX dL_law_345 (rfl) (by omega) (by omega) ?_
        refine sy_invI4 dL_law_346 mk_X8_pass vk_X8_pass lk_L_46 o46 (Nat.le_of_ble_eq_true rfl) (Nat.le_of_ble_eq_true rfl) ?_
        refine hm _ (fun ρ hI2 => ?_)
        refine sz_icmp_eq (tgt := 1100) dL_law_349 (by decide) (fun h349 => ?_) (fun h349 => ?_)
        · skip
          exact h _ hI2
        · exact absurd (rfl) h349
      · exact absurd (hz) h332
    · exact absurd (hz) h296
  · skip
    refine sz_aloadn dL_law_277 rfl ?_
    refine sz_aloadn dL_law_278 rfl ?_
    refine sz_iload dL_law_279 rfl ?_
    refine sy_iconst (v := nI 1) dL_law_281 (by decide) ?_
    refine sz_iadd dL_law_282 ?_
    refine sz_topI (y := nI (6 * j + 1)) (nI_add _ _) ?_
    refine sz_sld (6 * j + 1) hX dL_law_283 (rfl) (by omega) (by omega) ?_
    refine sz_aloadn dL_law_284 rfl ?_
    refine sz_iload dL_law_285 rfl ?_
    refine sy_iconst (v := nI 2) dL_law_287 (by decide) ?_
    refine sz_iadd dL_law_288 ?_
    refine sz_topI (y := nI (6 * j + 2)) (nI_add _ _) ?_
    refine sz_sld (6 * j + 2) hX dL_law_289 (rfl) (by omega) (by omega) ?_
    refine sz_aloadn dL_law_290 rfl ?_
    refine sz_iload dL_law_291 rfl ?_
    refine sy_iconst (v := nI 3) dL_law_293 (by decide) ?_
    refine sz_iadd dL_law_294 ?_
    refine sz_topI (y := nI (6 * j + 3)) (nI_add _ _) ?_
    refine sz_sld (6 * j + 3) hX dL_law_295 (rfl) (by omega) (by omega) ?_
    refine sz_if_eq (tgt := 303) dL_law_296 (by decide) (fun h296 => ?_) (fun h296 => ?_)
    · exact absurd h296 (hz)
    · skip
      refine sy_iconst (v := nI 1) dL_law_299 (by decide) ?_
      refine sz_goto (tgt := 304) dL_law_300 (by decide) ?_
      refine sz_aloadn dL_law_304 rfl ?_
      refine sz_iload dL_law_305 rfl ?_
      refine sy_iconst (v := nI 4) dL_law_307 (by decide) ?_
      refine sz_iadd dL_law_308 ?_
      refine sz_topI (y := nI (6 * j + 4)) (nI_add _ _) ?_
      refine sz_sld (6 * j + 4) hX dL_law_309 (rfl) (by omega) (by omega) ?_
      refine sy_invI4 dL_law_310 mk_X7_pass vk_X7_pass lk_L_42 o0 (Nat.le_of_ble_eq_true rfl) (Nat.le_of_ble_eq_true rfl) ?_
      refine op_pass (by first | exact Or.inl rfl | exact Or.inr rfl) hI (fun a τ hm => ?_)
      refine sz_aloadn dL_law_313 rfl ?_
      refine sz_aloadn dL_law_314 rfl ?_
      refine sz_iload dL_law_315 rfl ?_
      refine sy_iconst (v := nI 1) dL_law_317 (by decide) ?_
      refine sz_iadd dL_law_318 ?_
      refine sz_topI (y := nI (6 * j + 1)) (nI_add _ _) ?_
      refine sz_sld (6 * j + 1) hX dL_law_319 (rfl) (by omega) (by omega) ?_
      refine sz_aloadn dL_law_320 rfl ?_
      refine sz_iload dL_law_321 rfl ?_
      refine sy_iconst (v := nI 2) dL_law_323 (by decide) ?_
      refine sz_iadd dL_law_324 ?_
      refine sz_topI (y := nI (6 * j + 2)) (nI_add _ _) ?_
      refine sz_sld (6 * j + 2) hX dL_law_325 (rfl) (by omega) (by omega) ?_
      refine sz_aloadn dL_law_326 rfl ?_
      refine sz_iload dL_law_327 rfl ?_
      refine sy_iconst (v := nI 3) dL_law_329 (by decide) ?_
      refine sz_iadd dL_law_330 ?_
      refine sz_topI (y := nI (6 * j + 3)) (nI_add _ _) ?_
      refine sz_sld (6 * j + 3) hX dL_law_331 (rfl) (by omega) (by omega) ?_
      refine sz_if_eq (tgt := 339) dL_law_332 (by decide) (fun h332 => ?_) (fun h332 => ?_)
      · exact absurd h332 (hz)
      · skip
        refine sy_iconst (v := nI 1) dL_law_335 (by decide) ?_
        refine sz_goto (tgt := 340) dL_law_336 (by decide) ?_
        refine sz_aloadn dL_law_340 rfl ?_
        refine sz_iload dL_law_341 rfl ?_
        refine sy_iconst (v := nI 4) dL_law_343 (by decide) ?_
        refine sz_iadd dL_law_344 ?_
        refine sz_topI (y := nI (6 * j + 4)) (nI_add _ _) ?_
        refine sz_sld (6 * j + 4) hX dL_law_345 (rfl) (by omega) (by omega) ?_
        refine sy_invI4 dL_law_346 mk_X8_pass vk_X8_pass lk_L_46 o46 (Nat.le_of_ble_eq_true rfl) (Nat.le_of_ble_eq_true rfl) ?_
        refine hm _ (fun ρ hI2 => ?_)
        refine sz_icmp_eq (tgt := 1100) dL_law_349 (by decide) (fun h349 => ?_) (fun h349 => ?_)
        · skip
          exact h _ hI2
        · exact absurd (rfl) h349
theorem law_gap (hX : Scr G Ls xs) (hL : Ls ≤ 3072) (hj : 6 * j + 6 ≤ Ls) (hI : Inv σ) (h : ∀ ρ, Inv ρ → SZ G 12 M_L_law 1100 [some (.ref 76), some (.ref 0), some (.ref 46), some (.ref 75), some (.int (nI (6 * j))), o5, o6] [] ρ Q) : SZ G 12 M_L_law 354 [some (.ref 76), some (.ref 0), some (.ref 46), some (.ref 75), some (.int (nI (6 * j))), o5, o6] [] σ Q := by
  refine sz_aloadn dL_law_354 rfl ?_
  refine sz_aloadn dL_law_355 rfl ?_
  refine sz_iload dL_law_356 rfl ?_
  refine sy_iconst (v := nI 1) dL_law_358 (by decide) ?_
  refine sz_iadd dL_law_359 ?_
  refine sz_topI (y := nI (6 * j + 1)) (nI_add _ _) ?_
  refine sz_sld (6 * j + 1) hX dL_law_360 (rfl) (by omega) (by omega) ?_
  refine sz_aloadn dL_law_361 rfl ?_
  refine sz_iload dL_law_362 rfl ?_
  refine sy_iconst (v := nI 2) dL_law_364 (by decide) ?_
  refine sz_iadd dL_law_365 ?_
  refine sz_topI (y := nI (6 * j + 2)) (nI_add _ _) ?_
  refine sz_sld (6 * j + 2) hX dL_law_366 (rfl) (by omega) (by omega) ?_
  refine sz_aloadn dL_law_367 rfl ?_
  refine sz_iload dL_law_368 rfl ?_
  refine sy_iconst (v := nI 3) dL_law_370 (by decide) ?_
  refine sz_iadd dL_law_371 ?_
  refine sz_topI (y := nI (6 * j + 3)) (nI_add _ _) ?_
  refine sz_sld (6 * j + 3) hX dL_law_372 (rfl) (by omega) (by omega) ?_
  refine sy_invI3 dL_law_373 mk_X7_gap vk_X7_gap lk_L_47 o0 (Nat.le_of_ble_eq_true rfl) (Nat.le_of_ble_eq_true rfl) ?_
  refine op_gap hI (fun a τ hm => ?_)
  refine sz_aloadn dL_law_376 rfl ?_
  refine sz_aloadn dL_law_377 rfl ?_
  refine sz_iload dL_law_378 rfl ?_
  refine sy_iconst (v := nI 1) dL_law_380 (by decide) ?_
  refine sz_iadd dL_law_381 ?_
  refine sz_topI (y := nI (6 * j + 1)) (nI_add _ _) ?_
  refine sz_sld (6 * j + 1) hX dL_law_382 (rfl) (by omega) (by omega) ?_
  refine sz_aloadn dL_law_383 rfl ?_
  refine sz_iload dL_law_384 rfl ?_
  refine sy_iconst (v := nI 2) dL_law_386 (by decide) ?_
  refine sz_iadd dL_law_387 ?_
  refine sz_topI (y := nI (6 * j + 2)) (nI_add _ _) ?_
  refine sz_sld (6 * j + 2) hX dL_law_388 (rfl) (by omega) (by omega) ?_
  refine sz_aloadn dL_law_389 rfl ?_
  refine sz_iload dL_law_390 rfl ?_
  refine sy_iconst (v := nI 3) dL_law_392 (by decide) ?_
  refine sz_iadd dL_law_393 ?_
  refine sz_topI (y := nI (6 * j + 3)) (nI_add _ _) ?_
  refine sz_sld (6 * j + 3) hX dL_law_394 (rfl) (by omega) (by omega) ?_
  refine sy_invI3 dL_law_395 mk_X8_gap vk_X8_gap lk_L_51 o46 (Nat.le_of_ble_eq_true rfl) (Nat.le_of_ble_eq_true rfl) ?_
  refine hm _ (fun ρ hI2 => ?_)
  refine sz_icmp_eq (tgt := 1100) dL_law_398 (by decide) (fun h398 => ?_) (fun h398 => ?_)
  · skip
    exact h _ hI2
  · exact absurd (rfl) h398
theorem law_sight (hX : Scr G Ls xs) (hL : Ls ≤ 3072) (hj : 6 * j + 6 ≤ Ls) (hI : Inv σ) (h : ∀ ρ, Inv ρ → SZ G 12 M_L_law 1100 [some (.ref 76), some (.ref 0), some (.ref 46), some (.ref 75), some (.int (nI (6 * j))), o5, o6] [] ρ Q) : SZ G 12 M_L_law 403 [some (.ref 76), some (.ref 0), some (.ref 46), some (.ref 75), some (.int (nI (6 * j))), o5, o6] [] σ Q := by
  refine sz_aloadn dL_law_403 rfl ?_
  refine sz_aloadn dL_law_404 rfl ?_
  refine sz_iload dL_law_405 rfl ?_
  refine sy_iconst (v := nI 1) dL_law_407 (by decide) ?_
  refine sz_iadd dL_law_408 ?_
  refine sz_topI (y := nI (6 * j + 1)) (nI_add _ _) ?_
  refine sz_sld (6 * j + 1) hX dL_law_409 (rfl) (by omega) (by omega) ?_
  refine sz_aloadn dL_law_410 rfl ?_
  refine sz_iload dL_law_411 rfl ?_
  refine sy_iconst (v := nI 2) dL_law_413 (by decide) ?_
  refine sz_iadd dL_law_414 ?_
  refine sz_topI (y := nI (6 * j + 2)) (nI_add _ _) ?_
  refine sz_sld (6 * j + 2) hX dL_law_415 (rfl) (by omega) (by omega) ?_
  refine sz_aloadn dL_law_416 rfl ?_
  refine sz_iload dL_law_417 rfl ?_
  refine sy_iconst (v := nI 3) dL_law_419 (by decide) ?_
  refine sz_iadd dL_law_420 ?_
  refine sz_topI (y := nI (6 * j + 3)) (nI_add _ _) ?_
  refine sz_sld (6 * j + 3) hX dL_law_421 (rfl) (by omega) (by omega) ?_
  refine sy_invI3 dL_law_422 mk_X7_sight vk_X7_sight lk_L_52 o0 (Nat.le_of_ble_eq_true rfl) (Nat.le_of_ble_eq_true rfl) ?_
  refine op_sight hI (fun a τ hm => ?_)
  refine sz_aloadn dL_law_425 rfl ?_
  refine sz_aloadn dL_law_426 rfl ?_
  refine sz_iload dL_law_427 rfl ?_
  refine sy_iconst (v := nI 1) dL_law_429 (by decide) ?_
  refine sz_iadd dL_law_430 ?_
  refine sz_topI (y := nI (6 * j + 1)) (nI_add _ _) ?_
  refine sz_sld (6 * j + 1) hX dL_law_431 (rfl) (by omega) (by omega) ?_
  refine sz_aloadn dL_law_432 rfl ?_
  refine sz_iload dL_law_433 rfl ?_
  refine sy_iconst (v := nI 2) dL_law_435 (by decide) ?_
  refine sz_iadd dL_law_436 ?_
  refine sz_topI (y := nI (6 * j + 2)) (nI_add _ _) ?_
  refine sz_sld (6 * j + 2) hX dL_law_437 (rfl) (by omega) (by omega) ?_
  refine sz_aloadn dL_law_438 rfl ?_
  refine sz_iload dL_law_439 rfl ?_
  refine sy_iconst (v := nI 3) dL_law_441 (by decide) ?_
  refine sz_iadd dL_law_442 ?_
  refine sz_topI (y := nI (6 * j + 3)) (nI_add _ _) ?_
  refine sz_sld (6 * j + 3) hX dL_law_443 (rfl) (by omega) (by omega) ?_
  refine sy_invI3 dL_law_444 mk_X8_sight vk_X8_sight lk_L_55 o46 (Nat.le_of_ble_eq_true rfl) (Nat.le_of_ble_eq_true rfl) ?_
  refine hm _ (fun ρ hI2 => ?_)
  refine sz_icmp_eq (tgt := 1100) dL_law_447 (by decide) (fun h447 => ?_) (fun h447 => ?_)
  · skip
    exact h _ hI2
  · exact absurd (rfl) h447
theorem law_right (hX : Scr G Ls xs) (hL : Ls ≤ 3072) (hj : 6 * j + 6 ≤ Ls) (hI : Inv σ) (h : ∀ ρ, Inv ρ → SZ G 12 M_L_law 1100 [some (.ref 76), some (.ref 0), some (.ref 46), some (.ref 75), some (.int (nI (6 * j))), o5, o6] [] ρ Q) : SZ G 12 M_L_law 452 [some (.ref 76), some (.ref 0), some (.ref 46), some (.ref 75), some (.int (nI (6 * j))), o5, o6] [] σ Q := by
  by_cases hz : xs (6 * j + 5) = 0
  · skip
    refine sz_aloadn dL_law_452 rfl ?_
    refine sz_aloadn dL_law_453 rfl ?_
    refine sz_iload dL_law_454 rfl ?_
    refine sy_iconst (v := nI 1) dL_law_456 (by decide) ?_
    refine sz_iadd dL_law_457 ?_
    refine sz_topI (y := nI (6 * j + 1)) (nI_add _ _) ?_
    refine sz_sld (6 * j + 1) hX dL_law_458 (rfl) (by omega) (by omega) ?_
    refine sz_aloadn dL_law_459 rfl ?_
    refine sz_iload dL_law_460 rfl ?_
    refine sy_iconst (v := nI 2) dL_law_462 (by decide) ?_
    refine sz_iadd dL_law_463 ?_
    refine sz_topI (y := nI (6 * j + 2)) (nI_add _ _) ?_
    refine sz_sld (6 * j + 2) hX dL_law_464 (rfl) (by omega) (by omega) ?_
    refine sz_aloadn dL_law_465 rfl ?_
    refine sz_iload dL_law_466 rfl ?_
    refine sy_iconst (v := nI 3) dL_law_468 (by decide) ?_
    refine sz_iadd dL_law_469 ?_
    refine sz_topI (y := nI (6 * j + 3)) (nI_add _ _) ?_
    refine sz_sld (6 * j + 3) hX dL_law_470 (rfl) (by omega) (by omega) ?_
    refine sz_aloadn dL_law_471 rfl ?_
    refine sz_iload dL_law_472 rfl ?_
    refine sy_iconst (v := nI 4) dL_law_474 (by decide) ?_
    refine sz_iadd dL_law_475 ?_
    refine sz_topI (y := nI (6 * j + 4)) (nI_add _ _) ?_
    refine sz_sld (6 * j + 4) hX dL_law_476 (rfl) (by omega) (by omega) ?_
    refine sz_aloadn dL_law_477 rfl ?_
    refine sz_iload dL_law_478 rfl ?_
    refine sy_iconst (v := nI 5) dL_law_480 (by decide) ?_
    refine sz_iadd dL_law_481 ?_
    refine sz_topI (y := nI (6 * j + 5)) (nI_add _ _) ?_
    refine sz_sld (6 * j + 5) hX dL_law_482 (rfl) (by omega) (by omega) ?_
    refine sz_if_eq (tgt := 490) dL_law_483 (by decide) (fun h483 => ?_) (fun h483 => ?_)
    · skip
      refine sy_iconst (v := nI 0) dL_law_490 (by decide) ?_
      refine sy_invI5 dL_law_491 mk_X7_right vk_X7_right lk_L_56 o0 (Nat.le_of_ble_eq_true rfl) (Nat.le_of_ble_eq_true rfl) ?_
      refine op_right (by first | exact Or.inl rfl | exact Or.inr rfl) hI (fun a τ hm => ?_)
      refine sz_aloadn dL_law_494 rfl ?_
      refine sz_aloadn dL_law_495 rfl ?_
      refine sz_iload dL_law_496 rfl ?_
      refine sy_iconst (v := nI 1) dL_law_498 (by decide) ?_
      refine sz_iadd dL_law_499 ?_
      refine sz_topI (y := nI (6 * j + 1)) (nI_add _ _) ?_
      refine sz_sld (6 * j + 1) hX dL_law_500 (rfl) (by omega) (by omega) ?_
      refine sz_aloadn dL_law_501 rfl ?_
      refine sz_iload dL_law_502 rfl ?_
      refine sy_iconst (v := nI 2) dL_law_504 (by decide) ?_
      refine sz_iadd dL_law_505 ?_
      refine sz_topI (y := nI (6 * j + 2)) (nI_add _ _) ?_
      refine sz_sld (6 * j + 2) hX dL_law_506 (rfl) (by omega) (by omega) ?_
      refine sz_aloadn dL_law_507 rfl ?_
      refine sz_iload dL_law_508 rfl ?_
      refine sy_iconst (v := nI 3) dL_law_510 (by decide) ?_
      refine sz_iadd dL_law_511 ?_
      refine sz_topI (y := nI (6 * j + 3)) (nI_add _ _) ?_
      refine sz_sld (6 * j + 3) hX dL_law_512 (rfl) (by omega) (by omega) ?_
      refine sz_aloadn dL_law_513 rfl ?_
      refine sz_iload dL_law_514 rfl ?_
      refine sy_iconst (v := nI 4) dL_law_516 (by decide) ?_
      refine sz_iadd dL_law_517 ?_
      refine sz_topI (y := nI (6 * j + 4)) (nI_add _ _) ?_
      refine sz_sld (6 * j + 4) hX dL_law_518 (rfl) (by omega) (by omega) ?_
      refine sz_aloadn dL_law_519 rfl ?_
      refine sz_iload dL_law_520 rfl ?_
      refine sy_iconst (v := nI 5) dL_law_522 (by decide) ?_
      refine sz_iadd dL_law_523 ?_
      refine sz_topI (y := nI (6 * j + 5)) (nI_add _ _) ?_
      refine sz_sld (6 * j + 5) hX dL_law_524 (rfl) (by omega) (by omega) ?_
      refine sz_if_eq (tgt := 532) dL_law_525 (by decide) (fun h525 => ?_) (fun h525 => ?_)
      · skip
        refine sy_iconst (v := nI 0) dL_law_532 (by decide) ?_
        refine sy_invI5 dL_law_533 mk_X8_right vk_X8_right lk_L_60 o46 (Nat.le_of_ble_eq_true rfl) (Nat.le_of_ble_eq_true rfl) ?_
        refine hm _ (fun ρ hI2 => ?_)
        refine sz_icmp_eq (tgt := 1100) dL_law_536 (by decide) (fun h536 => ?_) (fun h536 => ?_)
        · skip
          exact h _ hI2
        · exact absurd (rfl) h536
      · exact absurd (hz) h525
    · exact absurd (hz) h483
  · skip
    refine sz_aloadn dL_law_452 rfl ?_
    refine sz_aloadn dL_law_453 rfl ?_
    refine sz_iload dL_law_454 rfl ?_
    refine sy_iconst (v := nI 1) dL_law_456 (by decide) ?_
    refine sz_iadd dL_law_457 ?_
    refine sz_topI (y := nI (6 * j + 1)) (nI_add _ _) ?_
    refine sz_sld (6 * j + 1) hX dL_law_458 (rfl) (by omega) (by omega) ?_
    refine sz_aloadn dL_law_459 rfl ?_
    refine sz_iload dL_law_460 rfl ?_
    refine sy_iconst (v := nI 2) dL_law_462 (by decide) ?_
    refine sz_iadd dL_law_463 ?_
    refine sz_topI (y := nI (6 * j + 2)) (nI_add _ _) ?_
    refine sz_sld (6 * j + 2) hX dL_law_464 (rfl) (by omega) (by omega) ?_
    refine sz_aloadn dL_law_465 rfl ?_
    refine sz_iload dL_law_466 rfl ?_
    refine sy_iconst (v := nI 3) dL_law_468 (by decide) ?_
    refine sz_iadd dL_law_469 ?_
    refine sz_topI (y := nI (6 * j + 3)) (nI_add _ _) ?_
    refine sz_sld (6 * j + 3) hX dL_law_470 (rfl) (by omega) (by omega) ?_
    refine sz_aloadn dL_law_471 rfl ?_
    refine sz_iload dL_law_472 rfl ?_
    refine sy_iconst (v := nI 4) dL_law_474 (by decide) ?_
    refine sz_iadd dL_law_475 ?_
    refine sz_topI (y := nI (6 * j + 4)) (nI_add _ _) ?_
    refine sz_sld (6 * j + 4) hX dL_law_476 (rfl) (by omega) (by omega) ?_
    refine sz_aloadn dL_law_477 rfl ?_
    refine sz_iload dL_law_478 rfl ?_
    refine sy_iconst (v := nI 5) dL_law_480 (by decide) ?_
    refine sz_iadd dL_law_481 ?_
    refine sz_topI (y := nI (6 * j + 5)) (nI_add _ _) ?_
    refine sz_sld (6 * j + 5) hX dL_law_482 (rfl) (by omega) (by omega) ?_
    refine sz_if_eq (tgt := 490) dL_law_483 (by decide) (fun h483 => ?_) (fun h483 => ?_)
    · exact absurd h483 (hz)
    · skip
      refine sy_iconst (v := nI 1) dL_law_486 (by decide) ?_
      refine sz_goto (tgt := 491) dL_law_487 (by decide) ?_
      refine sy_invI5 dL_law_491 mk_X7_right vk_X7_right lk_L_56 o0 (Nat.le_of_ble_eq_true rfl) (Nat.le_of_ble_eq_true rfl) ?_
      refine op_right (by first | exact Or.inl rfl | exact Or.inr rfl) hI (fun a τ hm => ?_)
      refine sz_aloadn dL_law_494 rfl ?_
      refine sz_aloadn dL_law_495 rfl ?_
      refine sz_iload dL_law_496 rfl ?_
      refine sy_iconst (v := nI 1) dL_law_498 (by decide) ?_
      refine sz_iadd dL_law_499 ?_
      refine sz_topI (y := nI (6 * j + 1)) (nI_add _ _) ?_
      refine sz_sld (6 * j + 1) hX dL_law_500 (rfl) (by omega) (by omega) ?_
      refine sz_aloadn dL_law_501 rfl ?_
      refine sz_iload dL_law_502 rfl ?_
      refine sy_iconst (v := nI 2) dL_law_504 (by decide) ?_
      refine sz_iadd dL_law_505 ?_
      refine sz_topI (y := nI (6 * j + 2)) (nI_add _ _) ?_
      refine sz_sld (6 * j + 2) hX dL_law_506 (rfl) (by omega) (by omega) ?_
      refine sz_aloadn dL_law_507 rfl ?_
      refine sz_iload dL_law_508 rfl ?_
      refine sy_iconst (v := nI 3) dL_law_510 (by decide) ?_
      refine sz_iadd dL_law_511 ?_
      refine sz_topI (y := nI (6 * j + 3)) (nI_add _ _) ?_
      refine sz_sld (6 * j + 3) hX dL_law_512 (rfl) (by omega) (by omega) ?_
      refine sz_aloadn dL_law_513 rfl ?_
      refine sz_iload dL_law_514 rfl ?_
      refine sy_iconst (v := nI 4) dL_law_516 (by decide) ?_
      refine sz_iadd dL_law_517 ?_
      refine sz_topI (y := nI (6 * j + 4)) (nI_add _ _) ?_
      refine sz_sld (6 * j + 4) hX dL_law_518 (rfl) (by omega) (by omega) ?_
      refine sz_aloadn dL_law_519 rfl ?_
      refine sz_iload dL_law_520 rfl ?_
      refine sy_iconst (v := nI 5) dL_law_522 (by decide) ?_
      refine sz_iadd dL_law_523 ?_
      refine sz_topI (y := nI (6 * j + 5)) (nI_add _ _) ?_
      refine sz_sld (6 * j + 5) hX dL_law_524 (rfl) (by omega) (by omega) ?_
      refine sz_if_eq (tgt := 532) dL_law_525 (by decide) (fun h525 => ?_) (fun h525 => ?_)
      · exact absurd h525 (hz)
      · skip
        refine sy_iconst (v := nI 1) dL_law_528 (by decide) ?_
        refine sz_goto (tgt := 533) dL_law_529 (by decide) ?_
        refine sy_invI5 dL_law_533 mk_X8_right vk_X8_right lk_L_60 o46 (Nat.le_of_ble_eq_true rfl) (Nat.le_of_ble_eq_true rfl) ?_
        refine hm _ (fun ρ hI2 => ?_)
        refine sz_icmp_eq (tgt := 1100) dL_law_536 (by decide) (fun h536 => ?_) (fun h536 => ?_)
        · skip
          exact h _ hI2
        · exact absurd (rfl) h536
theorem law_rooms (hX : Scr G Ls xs) (hL : Ls ≤ 3072) (hj : 6 * j + 6 ≤ Ls) (hI : Inv σ) (h : ∀ ρ, Inv ρ → SZ G 12 M_L_law 1100 [some (.ref 76), some (.ref 0), some (.ref 46), some (.ref 75), some (.int (nI (6 * j))), o5, o6] [] ρ Q) : SZ G 12 M_L_law 541 [some (.ref 76), some (.ref 0), some (.ref 46), some (.ref 75), some (.int (nI (6 * j))), o5, o6] [] σ Q := by
  refine sz_aloadn dL_law_541 rfl ?_
  refine sz_aloadn dL_law_542 rfl ?_
  refine sz_iload dL_law_543 rfl ?_
  refine sy_iconst (v := nI 1) dL_law_545 (by decide) ?_
  refine sz_iadd dL_law_546 ?_
  refine sz_topI (y := nI (6 * j + 1)) (nI_add _ _) ?_
  refine sz_sld (6 * j + 1) hX dL_law_547 (rfl) (by omega) (by omega) ?_
  refine sz_aloadn dL_law_548 rfl ?_
  refine sz_iload dL_law_549 rfl ?_
  refine sy_iconst (v := nI 2) dL_law_551 (by decide) ?_
  refine sz_iadd dL_law_552 ?_
  refine sz_topI (y := nI (6 * j + 2)) (nI_add _ _) ?_
  refine sz_sld (6 * j + 2) hX dL_law_553 (rfl) (by omega) (by omega) ?_
  refine sz_aloadn dL_law_554 rfl ?_
  refine sz_iload dL_law_555 rfl ?_
  refine sy_iconst (v := nI 3) dL_law_557 (by decide) ?_
  refine sz_iadd dL_law_558 ?_
  refine sz_topI (y := nI (6 * j + 3)) (nI_add _ _) ?_
  refine sz_sld (6 * j + 3) hX dL_law_559 (rfl) (by omega) (by omega) ?_
  refine sy_invI3 dL_law_560 mk_X7_rooms vk_X7_rooms lk_L_61 o0 (Nat.le_of_ble_eq_true rfl) (Nat.le_of_ble_eq_true rfl) ?_
  refine op_rooms hI (fun a τ hm => ?_)
  refine sz_aloadn dL_law_563 rfl ?_
  refine sz_aloadn dL_law_564 rfl ?_
  refine sz_iload dL_law_565 rfl ?_
  refine sy_iconst (v := nI 1) dL_law_567 (by decide) ?_
  refine sz_iadd dL_law_568 ?_
  refine sz_topI (y := nI (6 * j + 1)) (nI_add _ _) ?_
  refine sz_sld (6 * j + 1) hX dL_law_569 (rfl) (by omega) (by omega) ?_
  refine sz_aloadn dL_law_570 rfl ?_
  refine sz_iload dL_law_571 rfl ?_
  refine sy_iconst (v := nI 2) dL_law_573 (by decide) ?_
  refine sz_iadd dL_law_574 ?_
  refine sz_topI (y := nI (6 * j + 2)) (nI_add _ _) ?_
  refine sz_sld (6 * j + 2) hX dL_law_575 (rfl) (by omega) (by omega) ?_
  refine sz_aloadn dL_law_576 rfl ?_
  refine sz_iload dL_law_577 rfl ?_
  refine sy_iconst (v := nI 3) dL_law_579 (by decide) ?_
  refine sz_iadd dL_law_580 ?_
  refine sz_topI (y := nI (6 * j + 3)) (nI_add _ _) ?_
  refine sz_sld (6 * j + 3) hX dL_law_581 (rfl) (by omega) (by omega) ?_
  refine sy_invI3 dL_law_582 mk_X8_rooms vk_X8_rooms lk_L_64 o46 (Nat.le_of_ble_eq_true rfl) (Nat.le_of_ble_eq_true rfl) ?_
  refine hm _ (fun ρ hI2 => ?_)
  refine sz_icmp_eq (tgt := 1100) dL_law_585 (by decide) (fun h585 => ?_) (fun h585 => ?_)
  · skip
    exact h _ hI2
  · exact absurd (rfl) h585
theorem law_broken (hX : Scr G Ls xs) (hL : Ls ≤ 3072) (hj : 6 * j + 6 ≤ Ls) (hI : Inv σ) (h : ∀ ρ, Inv ρ → SZ G 12 M_L_law 1100 [some (.ref 76), some (.ref 0), some (.ref 46), some (.ref 75), some (.int (nI (6 * j))), o5, o6] [] ρ Q) : SZ G 12 M_L_law 682 [some (.ref 76), some (.ref 0), some (.ref 46), some (.ref 75), some (.int (nI (6 * j))), o5, o6] [] σ Q := by
  refine sz_aloadn dL_law_682 rfl ?_
  refine sz_aloadn dL_law_683 rfl ?_
  refine sz_iload dL_law_684 rfl ?_
  refine sy_iconst (v := nI 1) dL_law_686 (by decide) ?_
  refine sz_iadd dL_law_687 ?_
  refine sz_topI (y := nI (6 * j + 1)) (nI_add _ _) ?_
  refine sz_sld (6 * j + 1) hX dL_law_688 (rfl) (by omega) (by omega) ?_
  refine sz_aloadn dL_law_689 rfl ?_
  refine sz_iload dL_law_690 rfl ?_
  refine sy_iconst (v := nI 2) dL_law_692 (by decide) ?_
  refine sz_iadd dL_law_693 ?_
  refine sz_topI (y := nI (6 * j + 2)) (nI_add _ _) ?_
  refine sz_sld (6 * j + 2) hX dL_law_694 (rfl) (by omega) (by omega) ?_
  refine sy_invI2 dL_law_695 mk_X7_broken vk_X7_broken lk_L_74 o0 (Nat.le_of_ble_eq_true rfl) (Nat.le_of_ble_eq_true rfl) ?_
  refine op_broken hI (fun a τ hm => ?_)
  refine sz_aloadn dL_law_698 rfl ?_
  refine sz_aloadn dL_law_699 rfl ?_
  refine sz_iload dL_law_700 rfl ?_
  refine sy_iconst (v := nI 1) dL_law_702 (by decide) ?_
  refine sz_iadd dL_law_703 ?_
  refine sz_topI (y := nI (6 * j + 1)) (nI_add _ _) ?_
  refine sz_sld (6 * j + 1) hX dL_law_704 (rfl) (by omega) (by omega) ?_
  refine sz_aloadn dL_law_705 rfl ?_
  refine sz_iload dL_law_706 rfl ?_
  refine sy_iconst (v := nI 2) dL_law_708 (by decide) ?_
  refine sz_iadd dL_law_709 ?_
  refine sz_topI (y := nI (6 * j + 2)) (nI_add _ _) ?_
  refine sz_sld (6 * j + 2) hX dL_law_710 (rfl) (by omega) (by omega) ?_
  refine sy_invI2 dL_law_711 mk_X8_broken vk_X8_broken lk_L_78 o46 (Nat.le_of_ble_eq_true rfl) (Nat.le_of_ble_eq_true rfl) ?_
  refine hm _ (fun ρ hI2 => ?_)
  refine sz_icmp_eq (tgt := 1100) dL_law_714 (by decide) (fun h714 => ?_) (fun h714 => ?_)
  · skip
    exact h _ hI2
  · exact absurd (rfl) h714
theorem law_many (hX : Scr G Ls xs) (hL : Ls ≤ 3072) (hj : 6 * j + 6 ≤ Ls) (hI : Inv σ) (h : ∀ ρ, Inv ρ → SZ G 12 M_L_law 1100 [some (.ref 76), some (.ref 0), some (.ref 46), some (.ref 75), some (.int (nI (6 * j))), o5, o6] [] ρ Q) : SZ G 12 M_L_law 719 [some (.ref 76), some (.ref 0), some (.ref 46), some (.ref 75), some (.int (nI (6 * j))), o5, o6] [] σ Q := by
  refine sz_aloadn dL_law_719 rfl ?_
  refine sz_aloadn dL_law_720 rfl ?_
  refine sz_iload dL_law_721 rfl ?_
  refine sy_iconst (v := nI 1) dL_law_723 (by decide) ?_
  refine sz_iadd dL_law_724 ?_
  refine sz_topI (y := nI (6 * j + 1)) (nI_add _ _) ?_
  refine sz_sld (6 * j + 1) hX dL_law_725 (rfl) (by omega) (by omega) ?_
  refine sz_aloadn dL_law_726 rfl ?_
  refine sz_iload dL_law_727 rfl ?_
  refine sy_iconst (v := nI 2) dL_law_729 (by decide) ?_
  refine sz_iadd dL_law_730 ?_
  refine sz_topI (y := nI (6 * j + 2)) (nI_add _ _) ?_
  refine sz_sld (6 * j + 2) hX dL_law_731 (rfl) (by omega) (by omega) ?_
  refine sz_aloadn dL_law_732 rfl ?_
  refine sz_iload dL_law_733 rfl ?_
  refine sy_iconst (v := nI 3) dL_law_735 (by decide) ?_
  refine sz_iadd dL_law_736 ?_
  refine sz_topI (y := nI (6 * j + 3)) (nI_add _ _) ?_
  refine sz_sld (6 * j + 3) hX dL_law_737 (rfl) (by omega) (by omega) ?_
  refine sz_aloadn dL_law_738 rfl ?_
  refine sz_iload dL_law_739 rfl ?_
  refine sy_iconst (v := nI 4) dL_law_741 (by decide) ?_
  refine sz_iadd dL_law_742 ?_
  refine sz_topI (y := nI (6 * j + 4)) (nI_add _ _) ?_
  refine sz_sld (6 * j + 4) hX dL_law_743 (rfl) (by omega) (by omega) ?_
  refine sy_invI4 dL_law_744 mk_X7_many vk_X7_many lk_L_79 o0 (Nat.le_of_ble_eq_true rfl) (Nat.le_of_ble_eq_true rfl) ?_
  refine op_many hI (fun a τ hm => ?_)
  refine sz_aloadn dL_law_747 rfl ?_
  refine sz_aloadn dL_law_748 rfl ?_
  refine sz_iload dL_law_749 rfl ?_
  refine sy_iconst (v := nI 1) dL_law_751 (by decide) ?_
  refine sz_iadd dL_law_752 ?_
  refine sz_topI (y := nI (6 * j + 1)) (nI_add _ _) ?_
  refine sz_sld (6 * j + 1) hX dL_law_753 (rfl) (by omega) (by omega) ?_
  refine sz_aloadn dL_law_754 rfl ?_
  refine sz_iload dL_law_755 rfl ?_
  refine sy_iconst (v := nI 2) dL_law_757 (by decide) ?_
  refine sz_iadd dL_law_758 ?_
  refine sz_topI (y := nI (6 * j + 2)) (nI_add _ _) ?_
  refine sz_sld (6 * j + 2) hX dL_law_759 (rfl) (by omega) (by omega) ?_
  refine sz_aloadn dL_law_760 rfl ?_
  refine sz_iload dL_law_761 rfl ?_
  refine sy_iconst (v := nI 3) dL_law_763 (by decide) ?_
  refine sz_iadd dL_law_764 ?_
  refine sz_topI (y := nI (6 * j + 3)) (nI_add _ _) ?_
  refine sz_sld (6 * j + 3) hX dL_law_765 (rfl) (by omega) (by omega) ?_
  refine sz_aloadn dL_law_766 rfl ?_
  refine sz_iload dL_law_767 rfl ?_
  refine sy_iconst (v := nI 4) dL_law_769 (by decide) ?_
  refine sz_iadd dL_law_770 ?_
  refine sz_topI (y := nI (6 * j + 4)) (nI_add _ _) ?_
  refine sz_sld (6 * j + 4) hX dL_law_771 (rfl) (by omega) (by omega) ?_
  refine sy_invI4 dL_law_772 mk_X8_many vk_X8_many lk_L_82 o46 (Nat.le_of_ble_eq_true rfl) (Nat.le_of_ble_eq_true rfl) ?_
  refine hm _ (fun ρ hI2 => ?_)
  refine sz_icmp_eq (tgt := 1100) dL_law_775 (by decide) (fun h775 => ?_) (fun h775 => ?_)
  · skip
    exact h _ hI2
  · exact absurd (rfl) h775
theorem law_inside (hX : Scr G Ls xs) (hL : Ls ≤ 3072) (hj : 6 * j + 6 ≤ Ls) (hI : Inv σ) (h : ∀ ρ, Inv ρ → SZ G 12 M_L_law 1100 [some (.ref 76), some (.ref 0), some (.ref 46), some (.ref 75), some (.int (nI (6 * j))), o5, o6] [] ρ Q) : SZ G 12 M_L_law 780 [some (.ref 76), some (.ref 0), some (.ref 46), some (.ref 75), some (.int (nI (6 * j))), o5, o6] [] σ Q := by
  refine sz_aloadn dL_law_780 rfl ?_
  refine sz_aloadn dL_law_781 rfl ?_
  refine sz_iload dL_law_782 rfl ?_
  refine sy_iconst (v := nI 1) dL_law_784 (by decide) ?_
  refine sz_iadd dL_law_785 ?_
  refine sz_topI (y := nI (6 * j + 1)) (nI_add _ _) ?_
  refine sz_sld (6 * j + 1) hX dL_law_786 (rfl) (by omega) (by omega) ?_
  refine sz_aloadn dL_law_787 rfl ?_
  refine sz_iload dL_law_788 rfl ?_
  refine sy_iconst (v := nI 2) dL_law_790 (by decide) ?_
  refine sz_iadd dL_law_791 ?_
  refine sz_topI (y := nI (6 * j + 2)) (nI_add _ _) ?_
  refine sz_sld (6 * j + 2) hX dL_law_792 (rfl) (by omega) (by omega) ?_
  refine sz_aloadn dL_law_793 rfl ?_
  refine sz_iload dL_law_794 rfl ?_
  refine sy_iconst (v := nI 3) dL_law_796 (by decide) ?_
  refine sz_iadd dL_law_797 ?_
  refine sz_topI (y := nI (6 * j + 3)) (nI_add _ _) ?_
  refine sz_sld (6 * j + 3) hX dL_law_798 (rfl) (by omega) (by omega) ?_
  refine sy_invI3 dL_law_799 mk_X7_inside vk_X7_inside lk_L_83 o0 (Nat.le_of_ble_eq_true rfl) (Nat.le_of_ble_eq_true rfl) ?_
  refine op_inside hI (fun a τ hm => ?_)
  refine sz_aloadn dL_law_802 rfl ?_
  refine sz_aloadn dL_law_803 rfl ?_
  refine sz_iload dL_law_804 rfl ?_
  refine sy_iconst (v := nI 1) dL_law_806 (by decide) ?_
  refine sz_iadd dL_law_807 ?_
  refine sz_topI (y := nI (6 * j + 1)) (nI_add _ _) ?_
  refine sz_sld (6 * j + 1) hX dL_law_808 (rfl) (by omega) (by omega) ?_
  refine sz_aloadn dL_law_809 rfl ?_
  refine sz_iload dL_law_810 rfl ?_
  refine sy_iconst (v := nI 2) dL_law_812 (by decide) ?_
  refine sz_iadd dL_law_813 ?_
  refine sz_topI (y := nI (6 * j + 2)) (nI_add _ _) ?_
  refine sz_sld (6 * j + 2) hX dL_law_814 (rfl) (by omega) (by omega) ?_
  refine sz_aloadn dL_law_815 rfl ?_
  refine sz_iload dL_law_816 rfl ?_
  refine sy_iconst (v := nI 3) dL_law_818 (by decide) ?_
  refine sz_iadd dL_law_819 ?_
  refine sz_topI (y := nI (6 * j + 3)) (nI_add _ _) ?_
  refine sz_sld (6 * j + 3) hX dL_law_820 (rfl) (by omega) (by omega) ?_
  refine sy_invI3 dL_law_821 mk_X8_inside vk_X8_inside lk_L_86 o46 (Nat.le_of_ble_eq_true rfl) (Nat.le_of_ble_eq_true rfl) ?_
  refine hm _ (fun ρ hI2 => ?_)
  refine sz_icmp_eq (tgt := 1100) dL_law_824 (by decide) (fun h824 => ?_) (fun h824 => ?_)
  · skip
    exact h _ hI2
  · exact absurd (rfl) h824
theorem law_allowed (hX : Scr G Ls xs) (hL : Ls ≤ 3072) (hj : 6 * j + 6 ≤ Ls) (hI : Inv σ) (h : ∀ ρ, Inv ρ → SZ G 12 M_L_law 1100 [some (.ref 76), some (.ref 0), some (.ref 46), some (.ref 75), some (.int (nI (6 * j))), o5, o6] [] ρ Q) : SZ G 12 M_L_law 829 [some (.ref 76), some (.ref 0), some (.ref 46), some (.ref 75), some (.int (nI (6 * j))), o5, o6] [] σ Q := by
  refine sz_aloadn dL_law_829 rfl ?_
  refine sz_aloadn dL_law_830 rfl ?_
  refine sz_iload dL_law_831 rfl ?_
  refine sy_iconst (v := nI 1) dL_law_833 (by decide) ?_
  refine sz_iadd dL_law_834 ?_
  refine sz_topI (y := nI (6 * j + 1)) (nI_add _ _) ?_
  refine sz_sld (6 * j + 1) hX dL_law_835 (rfl) (by omega) (by omega) ?_
  refine sz_aloadn dL_law_836 rfl ?_
  refine sz_iload dL_law_837 rfl ?_
  refine sy_iconst (v := nI 2) dL_law_839 (by decide) ?_
  refine sz_iadd dL_law_840 ?_
  refine sz_topI (y := nI (6 * j + 2)) (nI_add _ _) ?_
  refine sz_sld (6 * j + 2) hX dL_law_841 (rfl) (by omega) (by omega) ?_
  refine sz_aloadn dL_law_842 rfl ?_
  refine sz_iload dL_law_843 rfl ?_
  refine sy_iconst (v := nI 3) dL_law_845 (by decide) ?_
  refine sz_iadd dL_law_846 ?_
  refine sz_topI (y := nI (6 * j + 3)) (nI_add _ _) ?_
  refine sz_sld (6 * j + 3) hX dL_law_847 (rfl) (by omega) (by omega) ?_
  refine sy_invI3 dL_law_848 mk_X7_allowed vk_X7_allowed lk_L_87 o0 (Nat.le_of_ble_eq_true rfl) (Nat.le_of_ble_eq_true rfl) ?_
  refine op_allowed hI (fun a τ hm => ?_)
  refine sz_aloadn dL_law_851 rfl ?_
  refine sz_aloadn dL_law_852 rfl ?_
  refine sz_iload dL_law_853 rfl ?_
  refine sy_iconst (v := nI 1) dL_law_855 (by decide) ?_
  refine sz_iadd dL_law_856 ?_
  refine sz_topI (y := nI (6 * j + 1)) (nI_add _ _) ?_
  refine sz_sld (6 * j + 1) hX dL_law_857 (rfl) (by omega) (by omega) ?_
  refine sz_aloadn dL_law_858 rfl ?_
  refine sz_iload dL_law_859 rfl ?_
  refine sy_iconst (v := nI 2) dL_law_861 (by decide) ?_
  refine sz_iadd dL_law_862 ?_
  refine sz_topI (y := nI (6 * j + 2)) (nI_add _ _) ?_
  refine sz_sld (6 * j + 2) hX dL_law_863 (rfl) (by omega) (by omega) ?_
  refine sz_aloadn dL_law_864 rfl ?_
  refine sz_iload dL_law_865 rfl ?_
  refine sy_iconst (v := nI 3) dL_law_867 (by decide) ?_
  refine sz_iadd dL_law_868 ?_
  refine sz_topI (y := nI (6 * j + 3)) (nI_add _ _) ?_
  refine sz_sld (6 * j + 3) hX dL_law_869 (rfl) (by omega) (by omega) ?_
  refine sy_invI3 dL_law_870 mk_X8_allowed vk_X8_allowed lk_L_90 o46 (Nat.le_of_ble_eq_true rfl) (Nat.le_of_ble_eq_true rfl) ?_
  refine hm _ (fun ρ hI2 => ?_)
  refine sz_icmp_eq (tgt := 1100) dL_law_873 (by decide) (fun h873 => ?_) (fun h873 => ?_)
  · skip
    exact h _ hI2
  · exact absurd (rfl) h873
theorem law_odd (hX : Scr G Ls xs) (hL : Ls ≤ 3072) (hj : 6 * j + 6 ≤ Ls) (hI : Inv σ) (h : ∀ ρ, Inv ρ → SZ G 12 M_L_law 1100 [some (.ref 76), some (.ref 0), some (.ref 46), some (.ref 75), some (.int (nI (6 * j))), o5, o6] [] ρ Q) : SZ G 12 M_L_law 878 [some (.ref 76), some (.ref 0), some (.ref 46), some (.ref 75), some (.int (nI (6 * j))), o5, o6] [] σ Q := by
  refine sz_aloadn dL_law_878 rfl ?_
  refine sz_aloadn dL_law_879 rfl ?_
  refine sz_iload dL_law_880 rfl ?_
  refine sy_iconst (v := nI 1) dL_law_882 (by decide) ?_
  refine sz_iadd dL_law_883 ?_
  refine sz_topI (y := nI (6 * j + 1)) (nI_add _ _) ?_
  refine sz_sld (6 * j + 1) hX dL_law_884 (rfl) (by omega) (by omega) ?_
  refine sz_aloadn dL_law_885 rfl ?_
  refine sz_iload dL_law_886 rfl ?_
  refine sy_iconst (v := nI 2) dL_law_888 (by decide) ?_
  refine sz_iadd dL_law_889 ?_
  refine sz_topI (y := nI (6 * j + 2)) (nI_add _ _) ?_
  refine sz_sld (6 * j + 2) hX dL_law_890 (rfl) (by omega) (by omega) ?_
  refine sy_invI2 dL_law_891 mk_X7_odd vk_X7_odd lk_L_91 o0 (Nat.le_of_ble_eq_true rfl) (Nat.le_of_ble_eq_true rfl) ?_
  refine op_odd hI (fun a τ hm => ?_)
  refine sz_aloadn dL_law_894 rfl ?_
  refine sz_aloadn dL_law_895 rfl ?_
  refine sz_iload dL_law_896 rfl ?_
  refine sy_iconst (v := nI 1) dL_law_898 (by decide) ?_
  refine sz_iadd dL_law_899 ?_
  refine sz_topI (y := nI (6 * j + 1)) (nI_add _ _) ?_
  refine sz_sld (6 * j + 1) hX dL_law_900 (rfl) (by omega) (by omega) ?_
  refine sz_aloadn dL_law_901 rfl ?_
  refine sz_iload dL_law_902 rfl ?_
  refine sy_iconst (v := nI 2) dL_law_904 (by decide) ?_
  refine sz_iadd dL_law_905 ?_
  refine sz_topI (y := nI (6 * j + 2)) (nI_add _ _) ?_
  refine sz_sld (6 * j + 2) hX dL_law_906 (rfl) (by omega) (by omega) ?_
  refine sy_invI2 dL_law_907 mk_X8_odd vk_X8_odd lk_L_94 o46 (Nat.le_of_ble_eq_true rfl) (Nat.le_of_ble_eq_true rfl) ?_
  refine hm _ (fun ρ hI2 => ?_)
  refine sz_icmp_eq (tgt := 1100) dL_law_910 (by decide) (fun h910 => ?_) (fun h910 => ?_)
  · skip
    exact h _ hI2
  · exact absurd (rfl) h910
theorem law_pairs (hX : Scr G Ls xs) (hL : Ls ≤ 3072) (hj : 6 * j + 6 ≤ Ls) (hI : Inv σ) (h : ∀ ρ, Inv ρ → SZ G 12 M_L_law 1100 [some (.ref 76), some (.ref 0), some (.ref 46), some (.ref 75), some (.int (nI (6 * j))), o5, o6] [] ρ Q) : SZ G 12 M_L_law 915 [some (.ref 76), some (.ref 0), some (.ref 46), some (.ref 75), some (.int (nI (6 * j))), o5, o6] [] σ Q := by
  refine sz_aloadn dL_law_915 rfl ?_
  refine sz_aloadn dL_law_916 rfl ?_
  refine sz_iload dL_law_917 rfl ?_
  refine sy_iconst (v := nI 1) dL_law_919 (by decide) ?_
  refine sz_iadd dL_law_920 ?_
  refine sz_topI (y := nI (6 * j + 1)) (nI_add _ _) ?_
  refine sz_sld (6 * j + 1) hX dL_law_921 (rfl) (by omega) (by omega) ?_
  refine sz_aloadn dL_law_922 rfl ?_
  refine sz_iload dL_law_923 rfl ?_
  refine sy_iconst (v := nI 2) dL_law_925 (by decide) ?_
  refine sz_iadd dL_law_926 ?_
  refine sz_topI (y := nI (6 * j + 2)) (nI_add _ _) ?_
  refine sz_sld (6 * j + 2) hX dL_law_927 (rfl) (by omega) (by omega) ?_
  refine sz_aloadn dL_law_928 rfl ?_
  refine sz_iload dL_law_929 rfl ?_
  refine sy_iconst (v := nI 3) dL_law_931 (by decide) ?_
  refine sz_iadd dL_law_932 ?_
  refine sz_topI (y := nI (6 * j + 3)) (nI_add _ _) ?_
  refine sz_sld (6 * j + 3) hX dL_law_933 (rfl) (by omega) (by omega) ?_
  refine sz_aloadn dL_law_934 rfl ?_
  refine sz_iload dL_law_935 rfl ?_
  refine sy_iconst (v := nI 4) dL_law_937 (by decide) ?_
  refine sz_iadd dL_law_938 ?_
  refine sz_topI (y := nI (6 * j + 4)) (nI_add _ _) ?_
  refine sz_sld (6 * j + 4) hX dL_law_939 (rfl) (by omega) (by omega) ?_
  refine sy_invI4 dL_law_940 mk_X7_pairs vk_X7_pairs lk_L_95 o0 (Nat.le_of_ble_eq_true rfl) (Nat.le_of_ble_eq_true rfl) ?_
  refine op_pairs hI (fun a τ hm => ?_)
  refine sz_aloadn dL_law_943 rfl ?_
  refine sz_aloadn dL_law_944 rfl ?_
  refine sz_iload dL_law_945 rfl ?_
  refine sy_iconst (v := nI 1) dL_law_947 (by decide) ?_
  refine sz_iadd dL_law_948 ?_
  refine sz_topI (y := nI (6 * j + 1)) (nI_add _ _) ?_
  refine sz_sld (6 * j + 1) hX dL_law_949 (rfl) (by omega) (by omega) ?_
  refine sz_aloadn dL_law_950 rfl ?_
  refine sz_iload dL_law_951 rfl ?_
  refine sy_iconst (v := nI 2) dL_law_953 (by decide) ?_
  refine sz_iadd dL_law_954 ?_
  refine sz_topI (y := nI (6 * j + 2)) (nI_add _ _) ?_
  refine sz_sld (6 * j + 2) hX dL_law_955 (rfl) (by omega) (by omega) ?_
  refine sz_aloadn dL_law_956 rfl ?_
  refine sz_iload dL_law_957 rfl ?_
  refine sy_iconst (v := nI 3) dL_law_959 (by decide) ?_
  refine sz_iadd dL_law_960 ?_
  refine sz_topI (y := nI (6 * j + 3)) (nI_add _ _) ?_
  refine sz_sld (6 * j + 3) hX dL_law_961 (rfl) (by omega) (by omega) ?_
  refine sz_aloadn dL_law_962 rfl ?_
  refine sz_iload dL_law_963 rfl ?_
  refine sy_iconst (v := nI 4) dL_law_965 (by decide) ?_
  refine sz_iadd dL_law_966 ?_
  refine sz_topI (y := nI (6 * j + 4)) (nI_add _ _) ?_
  refine sz_sld (6 * j + 4) hX dL_law_967 (rfl) (by omega) (by omega) ?_
  refine sy_invI4 dL_law_968 mk_X8_pairs vk_X8_pairs lk_L_98 o46 (Nat.le_of_ble_eq_true rfl) (Nat.le_of_ble_eq_true rfl) ?_
  refine hm _ (fun ρ hI2 => ?_)
  refine sz_icmp_eq (tgt := 1100) dL_law_971 (by decide) (fun h971 => ?_) (fun h971 => ?_)
  · skip
    exact h _ hI2
  · exact absurd (rfl) h971
theorem law_log (hX : Scr G Ls xs) (hL : Ls ≤ 3072) (hj : 6 * j + 6 ≤ Ls) (hI : Inv σ) (h : ∀ ρ, Inv ρ → SZ G 12 M_L_law 1100 [some (.ref 76), some (.ref 0), some (.ref 46), some (.ref 75), some (.int (nI (6 * j))), o5, o6] [] ρ Q) : SZ G 12 M_L_law 976 [some (.ref 76), some (.ref 0), some (.ref 46), some (.ref 75), some (.int (nI (6 * j))), o5, o6] [] σ Q := by
  refine sz_aloadn dL_law_976 rfl ?_
  refine sz_aloadn dL_law_977 rfl ?_
  refine sz_iload dL_law_978 rfl ?_
  refine sy_iconst (v := nI 1) dL_law_980 (by decide) ?_
  refine sz_iadd dL_law_981 ?_
  refine sz_topI (y := nI (6 * j + 1)) (nI_add _ _) ?_
  refine sz_sld (6 * j + 1) hX dL_law_982 (rfl) (by omega) (by omega) ?_
  refine sz_aloadn dL_law_983 rfl ?_
  refine sz_iload dL_law_984 rfl ?_
  refine sy_iconst (v := nI 2) dL_law_986 (by decide) ?_
  refine sz_iadd dL_law_987 ?_
  refine sz_topI (y := nI (6 * j + 2)) (nI_add _ _) ?_
  refine sz_sld (6 * j + 2) hX dL_law_988 (rfl) (by omega) (by omega) ?_
  refine sy_invI2 dL_law_989 mk_X7_log vk_X7_log lk_L_99 o0 (Nat.le_of_ble_eq_true rfl) (Nat.le_of_ble_eq_true rfl) ?_
  refine op_log hI (fun a τ hm => ?_)
  refine sz_aloadn dL_law_992 rfl ?_
  refine sz_aloadn dL_law_993 rfl ?_
  refine sz_iload dL_law_994 rfl ?_
  refine sy_iconst (v := nI 1) dL_law_996 (by decide) ?_
  refine sz_iadd dL_law_997 ?_
  refine sz_topI (y := nI (6 * j + 1)) (nI_add _ _) ?_
  refine sz_sld (6 * j + 1) hX dL_law_998 (rfl) (by omega) (by omega) ?_
  refine sz_aloadn dL_law_999 rfl ?_
  refine sz_iload dL_law_1000 rfl ?_
  refine sy_iconst (v := nI 2) dL_law_1002 (by decide) ?_
  refine sz_iadd dL_law_1003 ?_
  refine sz_topI (y := nI (6 * j + 2)) (nI_add _ _) ?_
  refine sz_sld (6 * j + 2) hX dL_law_1004 (rfl) (by omega) (by omega) ?_
  refine sy_invI2 dL_law_1005 mk_X8_log_ vk_X8_log_ lk_L_102 o46 (Nat.le_of_ble_eq_true rfl) (Nat.le_of_ble_eq_true rfl) ?_
  refine hm _ (fun ρ hI2 => ?_)
  refine sz_icmp_eq (tgt := 1100) dL_law_1008 (by decide) (fun h1008 => ?_) (fun h1008 => ?_)
  · skip
    exact h _ hI2
  · exact absurd (rfl) h1008
theorem law_door (hX : Scr G Ls xs) (hL : Ls ≤ 3072) (hj : 6 * j + 6 ≤ Ls) (hI : Inv σ) (h : ∀ ρ, Inv ρ → SZ G 12 M_L_law 1100 [some (.ref 76), some (.ref 0), some (.ref 46), some (.ref 75), some (.int (nI (6 * j))), o5, o6] [] ρ Q) : SZ G 12 M_L_law 1013 [some (.ref 76), some (.ref 0), some (.ref 46), some (.ref 75), some (.int (nI (6 * j))), o5, o6] [] σ Q := by
  refine sz_aloadn dL_law_1013 rfl ?_
  refine sz_aloadn dL_law_1014 rfl ?_
  refine sz_iload dL_law_1015 rfl ?_
  refine sy_iconst (v := nI 1) dL_law_1017 (by decide) ?_
  refine sz_iadd dL_law_1018 ?_
  refine sz_topI (y := nI (6 * j + 1)) (nI_add _ _) ?_
  refine sz_sld (6 * j + 1) hX dL_law_1019 (rfl) (by omega) (by omega) ?_
  refine sz_aloadn dL_law_1020 rfl ?_
  refine sz_iload dL_law_1021 rfl ?_
  refine sy_iconst (v := nI 2) dL_law_1023 (by decide) ?_
  refine sz_iadd dL_law_1024 ?_
  refine sz_topI (y := nI (6 * j + 2)) (nI_add _ _) ?_
  refine sz_sld (6 * j + 2) hX dL_law_1025 (rfl) (by omega) (by omega) ?_
  refine sy_invI2 dL_law_1026 mk_X7_door vk_X7_door lk_L_103 o0 (Nat.le_of_ble_eq_true rfl) (Nat.le_of_ble_eq_true rfl) ?_
  refine op_door hI (fun a τ hm => ?_)
  refine sz_aloadn dL_law_1029 rfl ?_
  refine sz_aloadn dL_law_1030 rfl ?_
  refine sz_iload dL_law_1031 rfl ?_
  refine sy_iconst (v := nI 1) dL_law_1033 (by decide) ?_
  refine sz_iadd dL_law_1034 ?_
  refine sz_topI (y := nI (6 * j + 1)) (nI_add _ _) ?_
  refine sz_sld (6 * j + 1) hX dL_law_1035 (rfl) (by omega) (by omega) ?_
  refine sz_aloadn dL_law_1036 rfl ?_
  refine sz_iload dL_law_1037 rfl ?_
  refine sy_iconst (v := nI 2) dL_law_1039 (by decide) ?_
  refine sz_iadd dL_law_1040 ?_
  refine sz_topI (y := nI (6 * j + 2)) (nI_add _ _) ?_
  refine sz_sld (6 * j + 2) hX dL_law_1041 (rfl) (by omega) (by omega) ?_
  refine sy_invI2 dL_law_1042 mk_X8_door vk_X8_door lk_L_106 o46 (Nat.le_of_ble_eq_true rfl) (Nat.le_of_ble_eq_true rfl) ?_
  refine hm _ (fun ρ hI2 => ?_)
  refine sz_icmp_eq (tgt := 1100) dL_law_1045 (by decide) (fun h1045 => ?_) (fun h1045 => ?_)
  · skip
    exact h _ hI2
  · exact absurd (rfl) h1045
theorem law_wide (hX : Scr G Ls xs) (hL : Ls ≤ 3072) (hj : 6 * j + 6 ≤ Ls) (hI : Inv σ) (h : ∀ ρ, Inv ρ → SZ G 12 M_L_law 1100 [some (.ref 76), some (.ref 0), some (.ref 46), some (.ref 75), some (.int (nI (6 * j))), o5, o6] [] ρ Q) : SZ G 12 M_L_law 1050 [some (.ref 76), some (.ref 0), some (.ref 46), some (.ref 75), some (.int (nI (6 * j))), o5, o6] [] σ Q := by
  refine sz_aloadn dL_law_1050 rfl ?_
  refine sz_aloadn dL_law_1051 rfl ?_
  refine sz_iload dL_law_1052 rfl ?_
  refine sy_iconst (v := nI 1) dL_law_1054 (by decide) ?_
  refine sz_iadd dL_law_1055 ?_
  refine sz_topI (y := nI (6 * j + 1)) (nI_add _ _) ?_
  refine sz_sld (6 * j + 1) hX dL_law_1056 (rfl) (by omega) (by omega) ?_
  refine sy_invI1 dL_law_1057 mk_X7_wide vk_X7_wide lk_L_107 o0 (Nat.le_of_ble_eq_true rfl) (Nat.le_of_ble_eq_true rfl) ?_
  refine op_wide hI (fun a τ hm => ?_)
  refine sz_aloadn dL_law_1060 rfl ?_
  refine sz_aloadn dL_law_1061 rfl ?_
  refine sz_iload dL_law_1062 rfl ?_
  refine sy_iconst (v := nI 1) dL_law_1064 (by decide) ?_
  refine sz_iadd dL_law_1065 ?_
  refine sz_topI (y := nI (6 * j + 1)) (nI_add _ _) ?_
  refine sz_sld (6 * j + 1) hX dL_law_1066 (rfl) (by omega) (by omega) ?_
  refine sy_invI1 dL_law_1067 mk_X8_wide vk_X8_wide lk_L_110 o46 (Nat.le_of_ble_eq_true rfl) (Nat.le_of_ble_eq_true rfl) ?_
  refine hm _ (fun ρ hI2 => ?_)
  refine sz_icmp_eq (tgt := 1100) dL_law_1070 (by decide) (fun h1070 => ?_) (fun h1070 => ?_)
  · skip
    exact h _ hI2
  · exact absurd (rfl) h1070
theorem law_count (hX : Scr G Ls xs) (hL : Ls ≤ 3072) (hj : 6 * j + 6 ≤ Ls) (hI : Inv σ) (h : ∀ ρ, Inv ρ → SZ G 12 M_L_law 1100 [some (.ref 76), some (.ref 0), some (.ref 46), some (.ref 75), some (.int (nI (6 * j))), o5, o6] [] ρ Q) : SZ G 12 M_L_law 1075 [some (.ref 76), some (.ref 0), some (.ref 46), some (.ref 75), some (.int (nI (6 * j))), o5, o6] [] σ Q := by
  refine sz_aloadn dL_law_1075 rfl ?_
  refine sz_aloadn dL_law_1076 rfl ?_
  refine sz_iload dL_law_1077 rfl ?_
  refine sy_iconst (v := nI 1) dL_law_1079 (by decide) ?_
  refine sz_iadd dL_law_1080 ?_
  refine sz_topI (y := nI (6 * j + 1)) (nI_add _ _) ?_
  refine sz_sld (6 * j + 1) hX dL_law_1081 (rfl) (by omega) (by omega) ?_
  refine sy_invI1 dL_law_1082 mk_X7_count vk_X7_count lk_L_111 o0 (Nat.le_of_ble_eq_true rfl) (Nat.le_of_ble_eq_true rfl) ?_
  refine op_count hI (fun a τ hm => ?_)
  refine sz_aloadn dL_law_1085 rfl ?_
  refine sz_aloadn dL_law_1086 rfl ?_
  refine sz_iload dL_law_1087 rfl ?_
  refine sy_iconst (v := nI 1) dL_law_1089 (by decide) ?_
  refine sz_iadd dL_law_1090 ?_
  refine sz_topI (y := nI (6 * j + 1)) (nI_add _ _) ?_
  refine sz_sld (6 * j + 1) hX dL_law_1091 (rfl) (by omega) (by omega) ?_
  refine sy_invI1 dL_law_1092 mk_X8_count vk_X8_count lk_L_114 o46 (Nat.le_of_ble_eq_true rfl) (Nat.le_of_ble_eq_true rfl) ?_
  refine hm _ (fun ρ hI2 => ?_)
  refine sz_icmp_eq (tgt := 1100) dL_law_1095 (by decide) (fun h1095 => ?_) (fun h1095 => ?_)
  · skip
    exact h _ hI2
  · exact absurd (rfl) h1095
end LAW
