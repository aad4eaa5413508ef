/-! ===== the model: way, many, inside ===== -/
section MPUB2
variable {G : GG} {d : Nat} {σ : Mem}
/-- what set holds ahead of tick t, along the rooms ρ -/
def alng (P : PL) (K : WK) (ρ : Nat → Nat) (t : Nat) (Y : Nat → Nat → Nat → Prop) : Prop := (∀ j rm g, Y j rm g → rm = preR ρ t ∧ j ≤ kN K ∧ rm < pR P) ∧ (∀ j a, fit P K ρ t j a ↔ ∃ g, g < 6 ∧ Y j (preR ρ t) g ∧ a = pW P (preR ρ t) - g)
theorem alng_0 {P : PL} (hV : PV P) {K : WK} (hR : 0 < pR P) (ρ : Nat → Nat) : alng P K ρ 0 (fun j rm g => j = 0 ∧ rm = 0 ∧ g = 5) := by
  have hw := hV.2.2.1 0 hR
  refine ⟨fun j rm g w => ⟨w.2.1, by omega, by omega⟩, fun j a => ⟨?_, ?_⟩⟩
  · rintro ⟨rfl, rfl⟩; exact ⟨5, by omega, ⟨rfl, rfl, rfl⟩, by show 0 = pW P 0 - 5; omega⟩
  · rintro ⟨g, b1, ⟨b2, b3, b4⟩, b5⟩; exact ⟨b2, by rw [b5, b4]; show pW P 0 - 5 = 0; omega⟩
/-- behind the tick, with hope -/
def nxY (P : PL) (K : WK) (t : Nat) (Y : Nat → Nat → Nat → Prop) (j' rm' g' : Nat) : Prop := (kS K t rm' ∧ ∃ j rm g, j ≤ kN K ∧ g < 6 ∧ Y j rm g ∧ ast P K t j rm g j' rm' g') ∧ (rm' < pR P ∧ hop P K (199 - t) j' rm' (pW P rm' - g'))
theorem hop_S {P : PL} {K : WK} {t j rm a : Nat} (ht : t < 200) (h : hop P K (199 - t) j rm a) : kS K t rm := by
  cases e : 199 - t with
  | zero => rw [e] at h; have := h.1; rwa [show (199 : Nat) = t by omega] at this
  | succ r => rw [e] at h; have := h.1; rwa [show 198 - r = t by omega] at this
theorem nx_cand {P : PL} (hV : PV P) {K : WK} (hK : KV P K) {ρ : Nat → Nat} {t : Nat} (ht : t < 200) {Y : Nat → Nat → Nat → Prop} (hA : alng P K ρ t Y) (r : Nat) : (∃ j g, j ≤ kN K ∧ g < 6 ∧ nxY P K t Y j r g) ↔ cand P K ρ t r := by
  constructor
  · rintro ⟨j', g', -, -, ⟨-, j, rm, g, b1, b2, b3, b4⟩, b5, b6⟩
    obtain ⟨rfl, -, b7⟩ := hA.1 j rm g b3
    exact ⟨j', _, ⟨j, _, (hA.2 j _).mpr ⟨g, b2, b3, rfl⟩, ast_stp (hV.2.2.1 _ b7) b4⟩, b6⟩
  · rintro ⟨j', a', ⟨j, a, b1, b2⟩, b3⟩
    obtain ⟨g, c1, c2, rfl⟩ := (hA.2 j a).mp b1
    obtain ⟨-, c3, c4⟩ := hA.1 _ _ _ c2
    obtain ⟨g', e1, e2, rfl⟩ := stp_ast (hV.2.2.1 _ c4) b2
    obtain ⟨i1, i2, i3⟩ := ast_in hV hK c3 c4 e2
    exact ⟨j', g', i1, e1, ⟨hop_S ht b3, j, _, g, c3, c1, c2, e2⟩, i2, b3⟩
theorem nx_alng {P : PL} (hV : PV P) {K : WK} (hK : KV P K) {ρ : Nat → Nat} {t : Nat} (ht : t < 200) {Y : Nat → Nat → Nat → Prop} (hA : alng P K ρ t Y) {r : Nat} : alng P K (fun k => if k = t then r else ρ k) (t + 1) (fun j rm g => nxY P K t Y j rm g ∧ rm = r) := by
  have e0 : preR (fun k => if k = t then r else ρ k) (t + 1) = r := by show (if t = t then r else ρ t) = r; rw [if_pos rfl]
  have ec : ∀ k, k < t → (fun k => if k = t then r else ρ k) k = ρ k := fun k hk => if_neg (by omega)
  refine ⟨fun j' rm' g' w => ?_, fun j' a' => ?_⟩
  · obtain ⟨⟨⟨-, j, rm, g, b1, b2, b3, b4⟩, b5, b6⟩, b7⟩ := w
    obtain ⟨-, -, c4⟩ := hA.1 _ _ _ b3
    exact ⟨by rw [e0]; exact b7, (ast_in hV hK b1 c4 b4).1, b5⟩
  · rw [e0]
    show ((∃ j a, fit P K (fun k => if k = t then r else ρ k) t j a ∧ stp P K t j (preR (fun k => if k = t then r else ρ k) t) a j' (if t = t then r else ρ t) a') ∧ hop P K (199 - t) j' (if t = t then r else ρ t) a') ↔ _
    rw [if_pos rfl, preR_congr ec]
    constructor
    · rintro ⟨⟨j, a, b1, b2⟩, b3⟩
      obtain ⟨g, c1, c2, rfl⟩ := (hA.2 j a).mp ((fit_congr ec j a).mp b1)
      obtain ⟨-, c3, c4⟩ := hA.1 _ _ _ c2
      obtain ⟨g', e1, e2, rfl⟩ := stp_ast (hV.2.2.1 _ c4) b2
      obtain ⟨i1, i2, i3⟩ := ast_in hV hK c3 c4 e2
      exact ⟨g', e1, ⟨⟨⟨hop_S ht b3, j, _, g, c3, c1, c2, e2⟩, i2, b3⟩, rfl⟩, rfl⟩
    · rintro ⟨g', e1, ⟨⟨⟨-, j, rm, g, b1, b2, b3, b4⟩, b5, b6⟩, -⟩, rfl⟩
      obtain ⟨rfl, -, b7⟩ := hA.1 j rm g b3
      exact ⟨⟨j, _, (fit_congr ec j _).mpr ((hA.2 j _).mpr ⟨g, b2, b3, rfl⟩), ast_stp (hV.2.2.1 _ b7) b4⟩, b6⟩
theorem m_wayT {f : Int32 → Mem → Prop} {P : PL} {K : WK} {nc n u : Nat} {c t r : Int32} {F : Nat → Nat} (hW : WP σ P K nc n F) (hR : 0 < pR P) (hu : u < 200) (hB : ∀ t, t ≤ 200 → ∀ j, j ≤ kN K → cel6 (σ.2 72 (13 * t + j)) (fun rm g => rm < pR P ∧ bH P K t j rm (pW P rm - g))) (hS : ∀ j, j ≤ kN K → cel6 (σ.2 73 j) (fun rm g => j = 0 ∧ rm = 0 ∧ g = 5)) (k1 : ∀ ρ : Nat → Nat, (∀ t, t < u + 1 → leastAt P K ρ t ∧ ρ t < pR P) → ∀ τ, fr 73 74 σ τ → f (nI (ρ u)) τ) (k0 : ¬ hop0 P K → f (-1) σ) : SW G (d + 3) M_X8_way 78 [some (.ref 46), some (.int c), some (.int t), some (.int r), some (.int (nI u)), none, none, none] [] σ (RI f) := by
  have hV := hW.1.2.1
  have hK := hW.1.2.2.1
  have h12 := hK.1
  have h8 := hV.1
  have hw0 := hV.2.2.1 0 hR
  have h32 : ∀ x : Int64, (¬ (x &&& 32) = 0 ↔ qb x 0 5 = true) := fun x => by
    have := mb_mask (x := x) (e := 32) (k := 5) (by omega) (fun i _ => mb_32 i)
    exact this
  have row : ∀ (T : Nat) (rv : Option Value) (Y Z : Nat → Nat → Nat → Prop) (pc : Nat), True := fun _ _ _ _ _ => trivial
  have loop : ∀ (q T : Nat), q = u + 1 - T → T ≤ u + 1 → ∀ (ρ : Nat → Nat) (x : Int32) τ Y o7, (0 < T → x = nI (ρ (T - 1))) → (∀ t, t < T → leastAt P K ρ t ∧ ρ t < pR P) → (T < 200 → ∃ r, cand P K ρ T r) → fr 73 74 σ τ → alng P K ρ T Y → (∀ j, j ≤ kN K → cel6 (τ.2 73 j) (Y j)) → SW G (d + 3) M_X8_way 101 [some (.ref 46), some (.int c), some (.int t), some (.int r), some (.int (nI u)), some (.int x), some (.int (nI T)), o7] [] τ (RI f) := by
    intro q
    induction q with
    | zero =>
      intro T hq hT ρ x τ Y o7 hx hl hcd hf hA hY
      obtain rfl : T = u + 1 := by omega
      refine sw_iload dX8_way_101 rfl ?_
      refine sw_iload dX8_way_103 rfl ?_
      refine sw_icmp_gt (tgt := 206) dX8_way_105 (by decide) (fun h105 => ?_) (fun h105 => ?_)
      · skip
        refine sw_iload dX8_way_206 rfl ?_
        refine sx_reti dX8_way_208 rfl ?_
        rw [hx (by omega), Nat.add_sub_cancel]
        exact k1 ρ hl τ hf
      · exact absurd ((nI_lt (by omega) (by omega))) h105
    | succ q ih =>
      intro T hq hT ρ x τ Y o7 hx hl hcd hf hA hY
      have hT2 : T < 200 := by omega
      have hWτ := WP_fr hW (fr_wide hf (by omega) (by omega))
      have second : ∀ (rr : Nat), rr < 8 → leastAt P K (fun k => if k = T then rr else ρ k) T → rr < pR P → ∀ (p s : Nat), p = kN K + 1 - s → s ≤ kN K + 1 → ∀ τ', fr 73 74 σ τ' → (∀ j, j < s → cel6 (τ'.2 73 j) (fun rm g => nxY P K T Y j rm g ∧ rm = rr)) → (∀ j, s ≤ j → j ≤ kN K → cel6 (τ'.2 73 j) (nxY P K T Y j)) → SW G (d + 3) M_X8_way 170 [some (.ref 46), some (.int c), some (.int t), some (.int r), some (.int (nI u)), some (.int (nI rr)), some (.int (nI T)), some (.int (nI s))] [] τ' (RI f) := by
        intro rr hrr hla hrp p
        induction p with
        | zero =>
          intro s hp hs τ' hf' hA1 hA2
          obtain rfl : s = kN K + 1 := by omega
          have hW' := WP_fr hW (fr_wide hf' (by omega) (by omega))
          have ec : ∀ k, k < T → (fun k => if k = T then rr else ρ k) k = ρ k := fun k hk => if_neg (by omega)
          have hl' : ∀ t, t < T + 1 → leastAt P K (fun k => if k = T then rr else ρ k) t ∧ (fun k => if k = T then rr else ρ k) t < pR P := by
            intro t' ht'
            by_cases e : t' = T
            · subst e; exact ⟨hla, by show (if t' = t' then rr else ρ t') < pR P; rw [if_pos rfl]; exact hrp⟩
            · obtain ⟨⟨w1, w2⟩, w3⟩ := hl t' (by omega)
              have ec' : ∀ k, k < t' → ρ k = (fun k => if k = T then rr else ρ k) k := fun k hk => (ec k (by omega)).symm
              have et : (fun k => if k = T then rr else ρ k) t' = ρ t' := if_neg e
              exact ⟨⟨by rw [et]; exact (cand_congr ec' _).mp w1, fun r' hr' w => w2 r' (by rw [et] at hr'; exact hr') ((cand_congr ec' _).mpr w)⟩, by rw [et]; exact w3⟩
          refine sw_iload dX8_way_170 rfl ?_
          refine sw_aloadn dX8_way_172 rfl ?_
          refine sw_getI dX8_way_173 fs_X8_235 o46 ?_
          rw [hW'.2]
          refine sw_icmp_gt (tgt := 200) dX8_way_176 (by decide) (fun h176 => ?_) (fun h176 => ?_)
          · skip
            refine sx_iinc (nI (T + 1)) dX8_way_200 rfl (nI_inc _) ?_
            refine sw_goto (tgt := 101) dX8_way_203 (by decide) ?_
            exact ih (T + 1) (by omega) (by omega) (fun k => if k = T then rr else ρ k) _ τ' _ _ (fun _ => by rw [Nat.add_sub_cancel, if_pos rfl]) hl' (fun hlt => cand_s (by omega) hla.1) hf' (nx_alng hV hK hT2 hA) (fun j hj => hA1 j (by omega))
          · exact absurd ((nI_lt (by omega) (by omega))) h176
        | succ p ihp =>
          intro s hp hs τ' hf' hA1 hA2
          have hW' := WP_fr hW (fr_wide hf' (by omega) (by omega))
          refine sw_iload dX8_way_170 rfl ?_
          refine sw_aloadn dX8_way_172 rfl ?_
          refine sw_getI dX8_way_173 fs_X8_235 o46 ?_
          rw [hW'.2]
          refine sw_icmp_gt (tgt := 200) dX8_way_176 (by decide) (fun h176 => ?_) (fun h176 => ?_)
          · exact absurd h176 ((by rw [nI_lt' (by omega) (by omega)]; omega))
          · skip
            refine sw_aloadn dX8_way_179 rfl ?_
            refine sw_getR dX8_way_180 fs_X8_98 o46 r46_43 ?_
            refine sw_iload dX8_way_183 rfl ?_
            refine sw_dup2 dX8_way_185 rfl rfl ?_
            refine sx_lald (s) dX8_way_186 a73 (rfl) (by omega) (by decide) ?_
            refine sw_iload dX8_way_187 rfl ?_
            refine sx_insJ1 dX8_way_189 mk_X8_states sk_X8_states lk_X8_249 (Nat.le_of_ble_eq_true rfl) (Nat.le_of_ble_eq_true rfl) ?_
            refine m_states hrr (fun z hz => ?_)
            refine sw_land dX8_way_192 ?_
            refine sx_last (s) dX8_way_193 a73 (rfl) (by omega) (by decide) ?_
            refine sx_iinc (nI (s + 1)) dX8_way_194 rfl (nI_inc _) ?_
            refine sw_goto (tgt := 170) dX8_way_197 (by decide) ?_
            refine ihp (s + 1) (by omega) (by omega) _ (fr_J hf' (by omega)) (fun j hj => ?_) (fun j h1 h2 => ?_)
            · rw [setJ_at]
              by_cases e : j = s
              · subst e; rw [updL_same]; exact cel6_and (hA2 j (by omega) (by omega)) hz.1
              · rw [updL_ne _ _ e]; exact hA1 j (by omega)
            · rw [setJ_at, updL_ne _ _ (by omega)]; exact hA2 j (by omega) h2
      have first' : ∀ (p s : Nat), p = kN K + 1 - s → s ≤ kN K + 1 → ∀ τ', fr 73 74 σ τ' → (∀ j, j < s → cel6 (τ'.2 73 j) (nxY P K T Y j)) → (∀ j, s ≤ j → j ≤ kN K → cel6 (τ'.2 73 j) (fun rm' g' => kS K T rm' ∧ ∃ j1 rm g, j1 ≤ kN K ∧ g < 6 ∧ Y j1 rm g ∧ ast P K T j1 rm g j rm' g')) → SW G (d + 3) M_X8_way 121 [some (.ref 46), some (.int c), some (.int t), some (.int r), some (.int (nI u)), some (.int x), some (.int (nI T)), some (.int (nI s))] [] τ' (RI f) := by
        intro p
        induction p with
        | zero =>
          intro s hp hs τ' hf' hA1 hA2
          obtain rfl : s = kN K + 1 := by omega
          have hW' := WP_fr hW (fr_wide hf' (by omega) (by omega))
          have hcd' := hcd hT2
          refine sw_iload dX8_way_121 rfl ?_
          refine sw_aloadn dX8_way_123 rfl ?_
          refine sw_getI dX8_way_124 fs_X8_235 o46 ?_
          rw [hW'.2]
          refine sw_icmp_gt (tgt := 161) dX8_way_127 (by decide) (fun h127 => ?_) (fun h127 => ?_)
          · skip
            refine sw_aloadn dX8_way_161 rfl ?_
            refine sx_invI0 dX8_way_162 mk_X8_leastRoom vk_X8_leastRoom lk_X8_303 o46 (Nat.le_of_ble_eq_true rfl) (Nat.le_of_ble_eq_true rfl) ?_
            refine m_leastRoom hW' (fun j hj => hA1 j (by omega)) (fun rr r1 r2 r3 => ?_) (fun hno => ?_)
            · refine sw_istore dX8_way_165 (Nat.le_of_ble_eq_true rfl) ?_
              refine sx_iconst (v := nI 0) dX8_way_167 (by decide) ?_
              refine sw_istore dX8_way_168 (Nat.le_of_ble_eq_true rfl) ?_
              have ec : ∀ k, k < T → ρ k = (fun k => if k = T then rr else ρ k) k := fun k hk => (if_neg (by omega)).symm
              have et : (fun k => if k = T then rr else ρ k) T = rr := if_pos rfl
              refine second rr (by omega) ⟨?_, fun r' hr' w => ?_⟩ r1 (kN K + 1) 0 (by omega) (by omega) τ' hf' (fun j hj => absurd hj (by omega)) (fun j _ hj => hA1 j (by omega))
              · rw [et]; exact (cand_congr ec _).mp ((nx_cand hV hK hT2 hA rr).mp r2)
              · rw [et] at hr'; exact r3 r' hr' ((nx_cand hV hK hT2 hA r').mpr ((cand_congr ec _).mpr w))
            · exfalso
              obtain ⟨r0, w⟩ := hcd'
              have w2 := (nx_cand hV hK hT2 hA r0).mpr w
              obtain ⟨j, g, b1, b2, b3⟩ := w2
              exact hno r0 b3.2.1 ⟨j, g, b1, b2, b3⟩
          · exact absurd ((nI_lt (by omega) (by omega))) h127
        | succ p ihp =>
          intro s hp hs τ' hf' hA1 hA2
          have hW' := WP_fr hW (fr_wide hf' (by omega) (by omega))
          have hBs := hB (T + 1) (by omega) s (by omega)
          rw [← (hf' 72 (by omega)).2] at hBs
          refine sw_iload dX8_way_121 rfl ?_
          refine sw_aloadn dX8_way_123 rfl ?_
          refine sw_getI dX8_way_124 fs_X8_235 o46 ?_
          rw [hW'.2]
          refine sw_icmp_gt (tgt := 161) dX8_way_127 (by decide) (fun h127 => ?_) (fun h127 => ?_)
          · exact absurd h127 ((by rw [nI_lt' (by omega) (by omega)]; omega))
          · skip
            refine sw_aloadn dX8_way_130 rfl ?_
            refine sw_getR dX8_way_131 fs_X8_98 o46 r46_43 ?_
            refine sw_iload dX8_way_134 rfl ?_
            refine sw_dup2 dX8_way_136 rfl rfl ?_
            refine sx_lald (s) dX8_way_137 a73 (rfl) (by omega) (by decide) ?_
            refine sw_aloadn dX8_way_138 rfl ?_
            refine sw_getR dX8_way_139 fs_X8_95 o46 r46_42 ?_
            refine sx_bipush (v := nI 13) dX8_way_142 (by decide) ?_
            refine sw_iload dX8_way_144 rfl ?_
            refine sx_iconst (v := nI 1) dX8_way_146 (by decide) ?_
            refine sw_iadd dX8_way_147 ?_
            refine sw_topI (y := nI (T + 1)) (nI_1 T) ?_
            refine sw_imul dX8_way_148 ?_
            refine sw_iload dX8_way_149 rfl ?_
            refine sw_iadd dX8_way_151 ?_
            refine sx_lald (13 * (T + 1) + s) dX8_way_152 a72 (by rw [nI_mul, nI_add]) (by omega) (by decide) ?_
            refine sw_land dX8_way_153 ?_
            refine sx_last (s) dX8_way_154 a73 (rfl) (by omega) (by decide) ?_
            refine sx_iinc (nI (s + 1)) dX8_way_155 rfl (nI_inc _) ?_
            refine sw_goto (tgt := 121) dX8_way_158 (by decide) ?_
            refine ihp (s + 1) (by omega) (by omega) _ (fr_J hf' (by omega)) (fun j hj => ?_) (fun j h1 h2 => ?_)
            · rw [setJ_at]
              by_cases e : j = s
              · subst e; rw [updL_same]; exact cel6_and (hA2 j (by omega) (by omega)) hBs.1
              · rw [updL_ne _ _ e]; exact hA1 j (by omega)
            · rw [setJ_at, updL_ne _ _ (by omega)]; exact hA2 j (by omega) h2
      refine sw_iload dX8_way_101 rfl ?_
      refine sw_iload dX8_way_103 rfl ?_
      refine sw_icmp_gt (tgt := 206) dX8_way_105 (by decide) (fun h105 => ?_) (fun h105 => ?_)
      · exact absurd h105 ((by rw [nI_lt' (by omega) (by omega)]; omega))
      · skip
        refine sw_aloadn dX8_way_108 rfl ?_
        refine sw_iload dX8_way_109 rfl ?_
        refine sw_aloadn dX8_way_111 rfl ?_
        refine sw_getI dX8_way_112 fs_X8_235 o46 ?_
        rw [hWτ.2]
        refine sx_invV2 dX8_way_115 mk_X8_goes vk_X8_goes lk_X8_278 o46 (Nat.le_of_ble_eq_true rfl) (Nat.le_of_ble_eq_true rfl) ?_
        refine m_goes (X := Y) hWτ.1 hT2 (fun j rm g w => (hA.1 j rm g w).2.2) hY (fun τ' hf' hY' => ?_)
        refine sx_iconst (v := nI 0) dX8_way_118 (by decide) ?_
        refine sw_istore dX8_way_119 (Nat.le_of_ble_eq_true rfl) ?_
        exact first' (kN K + 1) 0 (by omega) (by omega) τ' (fr_tr hf hf') (fun j hj => absurd hj (by omega)) (fun j _ hj => hY' j hj)
  have hb0 := (hB 0 (by omega) 0 (by omega)).1 0 5 (by omega) (by omega)
  refine sw_aloadn dX8_way_78 rfl ?_
  refine sw_getR dX8_way_79 fs_X8_95 o46 r46_42 ?_
  refine sx_iconst (v := nI 0) dX8_way_82 (by decide) ?_
  refine sx_lald (0) dX8_way_83 a72 (rfl) (by omega) (by decide) ?_
  refine sw_ldc2 dX8_way_84 kl_X8_253 ?_
  refine sw_land dX8_way_87 ?_
  refine sx_lconst (v := 0) dX8_way_88 (by decide) ?_
  refine sw_lc_ne (tgt := 95) dX8_way_89 dX8_way_90 (by decide) (fun h89 => ?_) (fun h89 => ?_)
  · skip
    refine sx_iconst (v := (-1)) dX8_way_95 (by decide) ?_
    refine sw_istore dX8_way_96 (Nat.le_of_ble_eq_true rfl) ?_
    refine sx_iconst (v := nI 0) dX8_way_98 (by decide) ?_
    refine sw_istore dX8_way_99 (Nat.le_of_ble_eq_true rfl) ?_
    have w2 := hb0.mp ((h32 _).mp h89)
    have w3 : hop0 P K := by have := w2.2; rw [show pW P 0 - 5 = 0 by omega] at this; exact this
    exact loop (u + 1) 0 (by omega) (by omega) (fun _ => 0) _ σ _ _ (fun w => absurd w (by omega)) (fun t w => absurd w (by omega)) (fun _ => cand_0.mpr w3) fr_rf (alng_0 hV hR _) hS
  · skip
    refine sx_iconst (v := (-1)) dX8_way_93 (by decide) ?_
    refine sx_reti dX8_way_94 rfl ?_
    refine k0 (fun w => ?_)
    have w2 : qb (σ.2 72 0) 0 5 = true := hb0.mpr ⟨hR, by rw [show pW P 0 - 5 = 0 by omega]; exact w⟩
    exact (h32 _).mpr w2 h89
end MPUB2
