/-! ===== the model: a tick forward ===== -/
/-- a tick, by ages -/
def ast (P : PL) (K : WK) (t j rm g j' rm' g' : Nat) : Prop :=
  (j' = j ∧ rm' = rm ∧ g' = ag g) ∨
  (pW P rm ≤ g ∧ g' = 0 ∧ j' = j ∧ fre P K t rm rm') ∨
  (pW P rm ≤ g ∧ g' = 0 ∧ j < kN K ∧ j' = j + 1 ∧ kT K j t ∧ kL K j = rm ∧ kC K j = rm')
/-- from stage j to itself, of doors below k -/
def ownK (P : PL) (K : WK) (t : Nat) (X : Nat → Nat → Prop) (k rm' g' : Nat) : Prop :=
  (rm' < pR P ∧ ∃ g, g < 6 ∧ X rm' g ∧ g' = ag g) ∨ (g' = 0 ∧ ∃ dd, dd < k ∧ kO K t dd ∧ ((rm' = pS P dd ∧ ∃ g, g < 6 ∧ pW P (pF P dd) ≤ g ∧ X (pF P dd) g) ∨ (rm' = pF P dd ∧ ∃ g, g < 6 ∧ pW P (pS P dd) ≤ g ∧ X (pS P dd) g)))
def psg (P : PL) (K : WK) (t j : Nat) (X : Nat → Nat → Prop) (rm' g' : Nat) : Prop := g' = 0 ∧ rm' = kC K j ∧ kT K j t ∧ ∃ g, g < 6 ∧ pW P (kL K j) ≤ g ∧ X (kL K j) g
theorem ownK_s {P : PL} {K : WK} {t : Nat} {X : Nat → Nat → Prop} {k rm' g' : Nat} : ownK P K t X (k + 1) rm' g' ↔ (ownK P K t X k rm' g' ∨ (g' = 0 ∧ kO K t k ∧ ((rm' = pS P k ∧ ∃ g, g < 6 ∧ pW P (pF P k) ≤ g ∧ X (pF P k) g) ∨ (rm' = pF P k ∧ ∃ g, g < 6 ∧ pW P (pS P k) ≤ g ∧ X (pS P k) g)))) := by
  constructor
  · rintro (q | ⟨e, dd, h1, h2⟩)
    · exact Or.inl (Or.inl q)
    · by_cases z : dd = k
      · subst z; exact Or.inr ⟨e, h2⟩
      · exact Or.inl (Or.inr ⟨e, dd, by omega, h2⟩)
  · rintro ((q | ⟨e, dd, h1, h2⟩) | ⟨e, h2⟩)
    · exact Or.inl q
    · exact Or.inr ⟨e, dd, by omega, h2⟩
    · exact Or.inr ⟨e, k, by omega, h2⟩
/-- a mask of a room's ages that may leave -/
theorem lv_ne0 {x y : Int64} {X : Nat → Nat → Prop} {room w : Nat} (hr : room < 8) (hx : cel6 x X) (hy : cel6 y (fun rm g => rm = room ∧ w ≤ g)) : ¬ (x &&& y) = 0 ↔ ∃ g, g < 6 ∧ w ≤ g ∧ X room g := by
  rw [cel6_ne0 (cel6_and hx hy.1)]
  constructor
  · rintro ⟨rm, g, h1, h2, h3, rfl, h5⟩; exact ⟨g, h2, h5, h3⟩
  · rintro ⟨g, h2, h5, h3⟩; exact ⟨room, g, hr, h2, h3, rfl, h5⟩
theorem cm_ne0 {x y : Int64} {X : Nat → Nat → Prop} {room : Nat} (hr : room < 8) (hx : cel6 x X) (hy : cel6 y (fun rm g => rm = room ∧ g = 0)) : ¬ (x &&& y) = 0 ↔ X room 0 := by
  rw [cel6_ne0 (cel6_and hx hy.1)]
  constructor
  · rintro ⟨rm, g, h1, h2, h3, rfl, rfl⟩; exact h3
  · intro q; exact ⟨room, 0, hr, by omega, q, rfl, rfl⟩
theorem isV_b {v : Int32} {E : Prop} (h : isV v E) : (¬ v = 0 ↔ E) := by
  rcases h with ⟨rfl, h⟩ | ⟨rfl, h⟩
  · exact ⟨fun _ => h, fun _ => by decide⟩
  · exact ⟨fun q => absurd rfl q, fun q => absurd q h⟩
/-- WM keeps where only sets change -/
theorem WM_fr {τ τ' : Mem} {P : PL} {K : WK} {nc n : Nat} {F : Nat → Nat} (hW : WM τ P K nc n F) (h1 : ∀ c, 46 ≤ c → c ≤ 70 → τ'.1 c = τ.1 c) (h2 : τ'.2 69 = τ.2 69) : WM τ' P K nc n F := by
  have hl : lgM τ' = lgM τ := by unfold lgM; rw [h1 58 (by omega) (by omega), h1 59 (by omega) (by omega), h1 60 (by omega) (by omega), h1 61 (by omega) (by omega), h1 62 (by omega) (by omega)]
  unfold WM PlM at *
  rw [hl, h1 46 (by omega) (by omega), h1 54 (by omega) (by omega), h1 55 (by omega) (by omega), h1 56 (by omega) (by omega), h1 57 (by omega) (by omega), h1 68 (by omega) (by omega), h1 70 (by omega) (by omega), h2]
  exact hW
theorem WM_J {τ : Mem} {P : PL} {K : WK} {nc n : Nat} {F : Nat → Nat} (hW : WM τ P K nc n F) {c k : Nat} {v : Int64} (hc : c ≠ 69) : WM (setJ τ c k v) P K nc n F := WM_fr hW (fun _ _ _ => rfl) (setJ_ne _ _ _ (Ne.symm hc))
section MGOES
variable {G : GG} {d : Nat} {σ : Mem}
/-- what has gone into after, ahead of stage s -/
def aftS (P : PL) (K : WK) (t : Nat) (X : Nat → Nat → Nat → Prop) (s j' rm' g' : Nat) : Prop := (j' < s ∧ ownK P K t (X j') (pD P) rm' g') ∨ (0 < j' ∧ j' ≤ s ∧ psg P K t (j' - 1) (X (j' - 1)) rm' g')
theorem aft_all {P : PL} (hV : PV P) {K : WK} {t : Nat} {X : Nat → Nat → Nat → Prop} (hX : ∀ j rm g, X j rm g → rm < pR P) {j' rm' g' : Nat} (hj : j' ≤ kN K) : aftS P K t X (kN K + 1) j' rm' g' ↔ ∃ j rm g, j ≤ kN K ∧ g < 6 ∧ X j rm g ∧ ast P K t j rm g j' rm' g' := by
  constructor
  · rintro (⟨h1, ⟨-, g, a1, a2, a3⟩ | ⟨a0, dd, a1, a2, ⟨rfl, g, a4, a5, a6⟩ | ⟨rfl, g, a4, a5, a6⟩⟩⟩ | ⟨h1, h2, ⟨a1, a2, a3, g, a4, a5, a6⟩⟩)
    · exact ⟨j', rm', g, hj, a1, a2, Or.inl ⟨rfl, rfl, a3⟩⟩
    · exact ⟨j', pF P dd, g, hj, a4, a6, Or.inr (Or.inl ⟨a5, a0, rfl, dd, a1, a2, Or.inl ⟨rfl, rfl⟩⟩)⟩
    · exact ⟨j', pS P dd, g, hj, a4, a6, Or.inr (Or.inl ⟨a5, a0, rfl, dd, a1, a2, Or.inr ⟨rfl, rfl⟩⟩)⟩
    · exact ⟨j' - 1, kL K (j' - 1), g, by omega, a4, a6, Or.inr (Or.inr ⟨a5, a1, by omega, by omega, a3, rfl, a2.symm⟩)⟩
  · rintro ⟨j, rm, g, hj1, hg, hx, ⟨rfl, rfl, a3⟩ | ⟨a1, rfl, rfl, dd, b1, b2, ⟨rfl, rfl⟩ | ⟨rfl, rfl⟩⟩ | ⟨a1, rfl, a3, rfl, a5, rfl, rfl⟩⟩
    · exact Or.inl ⟨by omega, Or.inl ⟨hX _ _ _ hx, g, hg, hx, a3⟩⟩
    · exact Or.inl ⟨by omega, Or.inr ⟨rfl, dd, b1, b2, Or.inl ⟨rfl, g, hg, a1, hx⟩⟩⟩
    · exact Or.inl ⟨by omega, Or.inr ⟨rfl, dd, b1, b2, Or.inr ⟨rfl, g, hg, a1, hx⟩⟩⟩
    · exact Or.inr ⟨by omega, by omega, by rw [Nat.add_sub_cancel]; exact ⟨rfl, rfl, a5, g, hg, a1, hx⟩⟩
theorem m_goes {f : Mem → Prop} {P : PL} {K : WK} {nc n t : Nat} {F : Nat → Nat} {X : Nat → Nat → Nat → Prop} (hW : WM σ P K nc n F) (ht : t < 200) (hX : ∀ j rm g, X j rm g → rm < pR P) (hS : ∀ j, j ≤ kN K → cel6 (σ.2 73 j) (X j)) (h : ∀ τ, fr 73 74 σ τ → (∀ j', j' ≤ kN K → cel6 (τ.2 73 j') (fun rm' g' => kS K t rm' ∧ ∃ j rm g, j ≤ kN K ∧ g < 6 ∧ X j rm g ∧ ast P K t j rm g j' rm' g')) → f τ) : SW G (d + 1) M_X8_goes 0 [some (.ref 46), some (.int (nI t)), some (.int (nI (kN K))), none, none, none, none] [] σ (RV f) := by
  have hV := hW.2.1
  have hK := hW.2.2.1
  have h12 := hK.1
  have h8 := hV.1
  have hD := hV.2.1
  have third : ∀ (q s : Nat), q = kN K + 1 - s → s ≤ kN K + 1 → ∀ τ o4 o5 o6, fr 73 74 σ τ → (∀ j', j' ≤ kN K → cel6 (τ.2 74 j') (fun rm' g' => ∃ j rm g, j ≤ kN K ∧ g < 6 ∧ X j rm g ∧ ast P K t j rm g j' rm' g')) → (∀ j', j' < s → cel6 (τ.2 73 j') (fun rm' g' => kS K t rm' ∧ ∃ j rm g, j ≤ kN K ∧ g < 6 ∧ X j rm g ∧ ast P K t j rm g j' rm' g')) → SW G (d + 1) M_X8_goes 240 [some (.ref 46), some (.int (nI t)), some (.int (nI (kN K))), some (.int (nI s)), o4, o5, o6] [] τ (RV f) := by
    intro q
    induction q with
    | zero =>
      intro s hq hs τ o4 o5 o6 hf hA hB
      obtain rfl : s = kN K + 1 := by omega
      refine sw_iloadn dX8_goes_240 rfl ?_
      refine sw_iloadn dX8_goes_241 rfl ?_
      refine sw_icmp_gt (tgt := 270) dX8_goes_242 (by decide) (fun h242 => ?_) (fun h242 => ?_)
      · skip
        refine sx_ret0 dX8_goes_270 rfl ?_
        exact h τ hf (fun j hj => hB j (by omega))
      · exact absurd ((nI_lt (by omega) (by omega))) h242
    | succ q ih =>
      intro s hq hs τ o4 o5 o6 hf hA hB
      have hs' : s ≤ kN K := by omega
      have hWτ : WM τ P K nc n F := WM_fr hW (fun c h1 h2 => (hf c (by omega)).1) (hf 69 (by omega)).2
      have hseen := hWτ.2.2.2.2.2.2.2 t ht
      refine sw_iloadn dX8_goes_240 rfl ?_
      refine sw_iloadn dX8_goes_241 rfl ?_
      refine sw_icmp_gt (tgt := 270) dX8_goes_242 (by decide) (fun h242 => ?_) (fun h242 => ?_)
      · exact absurd h242 ((by rw [nI_lt' (by omega) (by omega)]; omega))
      · skip
        refine sw_aloadn dX8_goes_245 rfl ?_
        refine sw_getR dX8_goes_246 fs_X8_98 o46 r46_43 ?_
        refine sw_iloadn dX8_goes_249 rfl ?_
        refine sw_aloadn dX8_goes_250 rfl ?_
        refine sw_getR dX8_goes_251 fs_X8_101 o46 r46_44 ?_
        refine sw_iloadn dX8_goes_254 rfl ?_
        refine sx_lald (s) dX8_goes_255 a74 (rfl) (by omega) (by decide) ?_
        refine sw_aloadn dX8_goes_256 rfl ?_
        refine sw_getR dX8_goes_257 fs_X8_85 o46 r46_39 ?_
        refine sw_iloadn dX8_goes_260 rfl ?_
        refine sx_lald (t) dX8_goes_261 a69 (rfl) (by omega) (by decide) ?_
        refine sw_land dX8_goes_262 ?_
        refine sx_last (s) dX8_goes_263 a73 (rfl) (by omega) (by decide) ?_
        refine sx_iinc (nI (s + 1)) dX8_goes_264 rfl (nI_inc _) ?_
        refine sw_goto (tgt := 240) dX8_goes_267 (by decide) ?_
        refine ih (s + 1) (by omega) (by omega) _ _ _ _ (fr_J hf (by omega)) (fun j' hj' => ?_) (fun j' hj' => ?_)
        · rw [setJ_ne _ _ _ (by decide)]; exact hA j' hj'
        · rw [setJ_at]
          by_cases e : j' = s
          · subst e
            rw [updL_same]
            exact cel6_congr (cel6_and (hA j' hs') hseen) (fun rm g _ _ => ⟨fun z => ⟨z.2, z.1⟩, fun z => ⟨z.2, z.1⟩⟩)
          · rw [updL_ne _ _ e]; exact hB j' (by omega)
  have second : ∀ (q s : Nat), q = kN K + 1 - s → s ≤ kN K + 1 → ∀ τ o4 o5 o6, fr 74 74 σ τ → (∀ j', j' ≤ kN K → cel6 (τ.2 74 j') (aftS P K t X s j')) → SW G (d + 1) M_X8_goes 22 [some (.ref 46), some (.int (nI t)), some (.int (nI (kN K))), some (.int (nI s)), o4, o5, o6] [] τ (RV f) := by
    intro q
    induction q with
    | zero =>
      intro s hq hs τ o4 o5 o6 hf hA
      obtain rfl : s = kN K + 1 := by omega
      refine sw_iloadn dX8_goes_22 rfl ?_
      refine sw_iloadn dX8_goes_23 rfl ?_
      refine sw_icmp_gt (tgt := 238) dX8_goes_24 (by decide) (fun h24 => ?_) (fun h24 => ?_)
      · skip
        refine sx_iconst (v := nI 0) dX8_goes_238 (by decide) ?_
        refine sw_istoren dX8_goes_239 (Nat.le_of_ble_eq_true rfl) ?_
        exact third (kN K + 1) 0 (by omega) (by omega) τ _ _ _ (fr_wide hf (by omega) (by omega)) (fun j' hj' => cel6_congr (hA j' hj') (fun rm g _ _ => aft_all hV hX hj')) (fun j' hj' => absurd hj' (by omega))
      · exact absurd ((nI_lt (by omega) (by omega))) h24
    | succ q ih =>
      intro s hq hs τ o4 o5 o6 hf hA
      have hs' : s ≤ kN K := by omega
      have hset : cel6 (τ.2 73 s) (X s) := by rw [(hf 73 (by omega)).2]; exact hS s hs'
      have fin : ∀ τ' o4 o5 o6, fr 74 74 σ τ' → (∀ j', j' ≤ kN K → cel6 (τ'.2 74 j') (aftS P K t X (s + 1) j')) → SW G (d + 1) M_X8_goes 232 [some (.ref 46), some (.int (nI t)), some (.int (nI (kN K))), some (.int (nI s)), o4, o5, o6] [] τ' (RV f) := by
        intro τ' o4 o5 o6 hf' hA'
        refine sx_iinc (nI (s + 1)) dX8_goes_232 rfl (nI_inc _) ?_
        refine sw_goto (tgt := 22) dX8_goes_235 (by decide) ?_
        exact ih (s + 1) (by omega) (by omega) τ' _ _ _ hf' hA'
      -- what changes for stage s itself and the next
      have upS : ∀ τ' : Mem, (∀ j', j' ≠ s → j' ≠ s + 1 → τ'.2 74 j' = τ.2 74 j') → cel6 (τ'.2 74 s) (fun rm g => aftS P K t X s s rm g ∨ ownK P K t (X s) (pD P) rm g) → (s < kN K → cel6 (τ'.2 74 (s + 1)) (psg P K t s (X s))) → ∀ j', j' ≤ kN K → cel6 (τ'.2 74 j') (aftS P K t X (s + 1) j') := by
        intro τ' e1 e2 e3 j' hj'
        by_cases q1 : j' = s
        · subst q1
          refine cel6_congr e2 (fun rm g _ _ => ?_)
          constructor
          · rintro ((⟨z, -⟩ | ⟨z1, z2, z3⟩) | z)
            · omega
            · exact Or.inr ⟨z1, by omega, z3⟩
            · exact Or.inl ⟨by omega, z⟩
          · rintro (⟨z, z2⟩ | ⟨z1, z2, z3⟩)
            · exact Or.inr z2
            · exact Or.inl (Or.inr ⟨z1, by omega, z3⟩)
        · by_cases q2 : j' = s + 1
          · subst q2
            refine cel6_congr (e3 (by omega)) (fun rm g _ _ => ?_)
            constructor
            · intro z; exact Or.inr ⟨by omega, by omega, by rw [Nat.add_sub_cancel]; exact z⟩
            · rintro (⟨z, -⟩ | ⟨z1, z2, z3⟩)
              · omega
              · rw [Nat.add_sub_cancel] at z3; exact z3
          · rw [e1 j' q1 q2]
            refine cel6_congr (hA j' hj') (fun rm g _ _ => ?_)
            constructor
            · rintro (⟨z, z2⟩ | ⟨z1, z2, z3⟩)
              · exact Or.inl ⟨by omega, z2⟩
              · exact Or.inr ⟨z1, by omega, z3⟩
            · rintro (⟨z, z2⟩ | ⟨z1, z2, z3⟩)
              · exact Or.inl ⟨by omega, z2⟩
              · exact Or.inr ⟨z1, by omega, z3⟩
      have none' : s < kN K → ∀ rm g, ¬ aftS P K t X s (s + 1) rm g := by
        rintro - rm g (⟨z, -⟩ | ⟨-, z, -⟩) <;> omega
      have door : ∀ (m k : Nat), m = pD P - k → k ≤ pD P → ∀ τ' o5, fr 74 74 σ τ' → (∀ j', j' ≠ s → τ'.2 74 j' = τ.2 74 j') → cel6 (τ'.2 74 s) (fun rm g => aftS P K t X s s rm g ∨ ownK P K t (X s) k rm g) → SW G (d + 1) M_X8_goes 63 [some (.ref 46), some (.int (nI t)), some (.int (nI (kN K))), some (.int (nI s)), some (.long (τ.2 73 s)), o5, some (.int (nI k))] [] τ' (RV f) := by
        intro m
        induction m with
        | zero =>
          intro k hm hk τ' o5 hf' he hc
          obtain rfl : k = pD P := by omega
          have hWτ : WM τ' P K nc n F := WM_fr hW (fun c h1 h2 => (hf' c (by omega)).1) (hf' 69 (by omega)).2
          have hWτ0 := hWτ
          obtain ⟨hP, -, -, hn, hL, hO, -, -⟩ := hWτ0
          have next0 : s < kN K → τ'.2 74 (s + 1) = τ.2 74 (s + 1) := fun _ => he _ (by omega)
          have nothing : ¬ (s < kN K ∧ ∃ rm g, rm < 8 ∧ g < 6 ∧ psg P K t s (X s) rm g) → ∀ j', j' ≤ kN K → cel6 (τ'.2 74 j') (aftS P K t X (s + 1) j') := fun hno => upS τ' (fun j' a _ => he j' a) hc (fun hs2 => by
            rw [next0 hs2]
            exact cel6_congr (hA (s + 1) hs2) (fun rm g b1 b2 => ⟨fun z => absurd z (none' hs2 rm g), fun z => absurd ⟨hs2, rm, g, b1, b2, z⟩ hno⟩))
          refine sw_iload dX8_goes_63 rfl ?_
          refine sw_aloadn dX8_goes_65 rfl ?_
          refine sw_getI dX8_goes_66 fs_X8_201 o46 ?_
          rw [hP.2.1]
          refine sw_icmp_ge (tgt := 172) dX8_goes_69 (by decide) (fun h69 => ?_) (fun h69 => ?_)
          · skip
            refine sw_iloadn dX8_goes_172 rfl ?_
            refine sw_iloadn dX8_goes_173 rfl ?_
            refine sw_icmp_ge (tgt := 232) dX8_goes_174 (by decide) (fun h174 => ?_) (fun h174 => ?_)
            · skip
              first
                | (have hlv := (lv_ne0 (show kL K s < 8 by omega) hset hz).mp h204
                   refine fin _ _ _ _ (fr_J hf' (by omega)) (upS _ (fun j' a b => by rw [setJ_at, updL_ne _ _ b]; exact he j' a) (by rw [setJ_at, updL_ne _ _ (by omega)]; exact hc) (fun _ => ?_))
                   rw [setJ_at, updL_same, next0 hs2]
                   refine cel6_congr (cel6_or (hA (s + 1) hs2) hz2) (fun rm g b1 b2 => ?_)
                   constructor
                   · rintro (w | ⟨rfl, rfl⟩)
                     · exact absurd w (none' hs2 rm g)
                     · exact ⟨rfl, rfl, h180, hlv⟩
                   · rintro ⟨w1, w2, w3, w4⟩
                     exact Or.inr ⟨w2, w1⟩)
                | exact fin _ _ _ _ hf' (nothing (fun ⟨_, rm, g, _, _, w1, w2, w3, w4⟩ => absurd ((lv_ne0 (show kL K s < 8 by omega) hset hz).mpr w4) (fun q => q h204)))
                | exact fin _ _ _ _ hf' (nothing (fun ⟨_, rm, g, _, _, w1, w2, w3, w4⟩ => h180 w3))
                | exact fin _ _ _ _ hf' (nothing (fun ⟨w, _⟩ => absurd w (by rw [nI_le' (by omega) (by omega)] at h174; omega)))
            · skip
              have hs2 : s < kN K := by rw [nI_le' (by omega) (by omega)] at h174; omega
              obtain ⟨o1, o2, o3, oL, oC, o6⟩ := hO s hs2
              obtain ⟨kl, kc⟩ := hK.2 s hs2
              refine sw_aloadn dX8_goes_177 rfl ?_
              refine sw_iloadn dX8_goes_178 rfl ?_
              refine sw_iloadn dX8_goes_179 rfl ?_
              refine sx_invI2 dX8_goes_180 mk_X8_isPass vk_X8_isPass lk_X8_265 o46 (Nat.le_of_ble_eq_true rfl) (Nat.le_of_ble_eq_true rfl) ?_
              refine m_isPass hWτ hs2 ht (fun h180 => ?_) (fun h180 => ?_)
              · skip
                refine sw_if_eq (tgt := 232) dX8_goes_183 (by decide) (fun h183 => ?_) (fun h183 => ?_)
                · exact absurd h183 (by decide)
                · skip
                  refine sw_lload dX8_goes_186 rfl ?_
                  refine sw_aloadn dX8_goes_188 rfl ?_
                  refine sw_aloadn dX8_goes_189 rfl ?_
                  refine sw_aloadn dX8_goes_190 rfl ?_
                  refine sw_getR dX8_goes_191 fs_X8_82 o46 r46_37 ?_
                  refine sw_iloadn dX8_goes_194 rfl ?_
                  refine sx_iald (s) dX8_goes_195 a68 (rfl) (by omega) (by decide) ?_
                  rw [o1]
                  refine sx_invI1 dX8_goes_196 mk_X8_leaves vk_X8_leaves lk_X8_269 o46 (Nat.le_of_ble_eq_true rfl) (Nat.le_of_ble_eq_true rfl) ?_
                  refine m_leaves hP hV hn o2 hL o3 ?_
                  rw [oL]
                  refine sx_invJ1 dX8_goes_199 mk_X8_leaving vk_X8_leaving lk_X8_259 o46 (Nat.le_of_ble_eq_true rfl) (Nat.le_of_ble_eq_true rfl) ?_
                  refine m_leaving hP hV kl (fun z hz => ?_)
                  refine sw_land dX8_goes_202 ?_
                  refine sx_lconst (v := 0) dX8_goes_203 (by decide) ?_
                  refine sw_lc_eq (tgt := 232) dX8_goes_204 dX8_goes_205 (by decide) (fun h204 => ?_) (fun h204 => ?_)
                  · skip
                    first
                      | (have hlv := (lv_ne0 (show kL K s < 8 by omega) hset hz).mp h204
                         refine fin _ _ _ _ (fr_J hf' (by omega)) (upS _ (fun j' a b => by rw [setJ_at, updL_ne _ _ b]; exact he j' a) (by rw [setJ_at, updL_ne _ _ (by omega)]; exact hc) (fun _ => ?_))
                         rw [setJ_at, updL_same, next0 hs2]
                         refine cel6_congr (cel6_or (hA (s + 1) hs2) hz2) (fun rm g b1 b2 => ?_)
                         constructor
                         · rintro (w | ⟨rfl, rfl⟩)
                           · exact absurd w (none' hs2 rm g)
                           · exact ⟨rfl, rfl, h180, hlv⟩
                         · rintro ⟨w1, w2, w3, w4⟩
                           exact Or.inr ⟨w2, w1⟩)
                      | exact fin _ _ _ _ hf' (nothing (fun ⟨_, rm, g, _, _, w1, w2, w3, w4⟩ => absurd ((lv_ne0 (show kL K s < 8 by omega) hset hz).mpr w4) (fun q => q h204)))
                      | exact fin _ _ _ _ hf' (nothing (fun ⟨_, rm, g, _, _, w1, w2, w3, w4⟩ => h180 w3))
                      | exact fin _ _ _ _ hf' (nothing (fun ⟨w, _⟩ => absurd w (by rw [nI_le' (by omega) (by omega)] at h174; omega)))
                  · skip
                    refine sw_aloadn dX8_goes_208 rfl ?_
                    refine sw_getR dX8_goes_209 fs_X8_101 o46 r46_44 ?_
                    refine sw_iloadn dX8_goes_212 rfl ?_
                    refine sx_iconst (v := nI 1) dX8_goes_213 (by decide) ?_
                    refine sw_iadd dX8_goes_214 ?_
                    refine sw_topI (y := nI (s + 1)) (nI_1 s) ?_
                    refine sw_dup2 dX8_goes_215 rfl rfl ?_
                    refine sx_lald (s + 1) dX8_goes_216 a74 (rfl) (by omega) (by decide) ?_
                    refine sw_aloadn dX8_goes_217 rfl ?_
                    refine sw_aloadn dX8_goes_218 rfl ?_
                    refine sw_getR dX8_goes_219 fs_X8_82 o46 r46_37 ?_
                    refine sw_iloadn dX8_goes_222 rfl ?_
                    refine sx_iald (s) dX8_goes_223 a68 (rfl) (by omega) (by decide) ?_
                    rw [o1]
                    refine sx_invI1 dX8_goes_224 mk_X8_enters vk_X8_enters lk_X8_272 o46 (Nat.le_of_ble_eq_true rfl) (Nat.le_of_ble_eq_true rfl) ?_
                    refine m_enters hP hV hn o2 hL o3 ?_
                    rw [oC]
                    refine sx_insJ1 dX8_goes_227 mk_X8_come sk_X8_come lk_X8_262 (Nat.le_of_ble_eq_true rfl) (Nat.le_of_ble_eq_true rfl) ?_
                    refine m_come (show kC K s < 8 by omega) (fun z2 hz2 => ?_)
                    refine sw_lor dX8_goes_230 ?_
                    refine sx_last (s + 1) dX8_goes_231 a74 (rfl) (by omega) (by decide) ?_
                    first
                      | (have hlv := (lv_ne0 (show kL K s < 8 by omega) hset hz).mp h204
                         refine fin _ _ _ _ (fr_J hf' (by omega)) (upS _ (fun j' a b => by rw [setJ_at, updL_ne _ _ b]; exact he j' a) (by rw [setJ_at, updL_ne _ _ (by omega)]; exact hc) (fun _ => ?_))
                         rw [setJ_at, updL_same, next0 hs2]
                         refine cel6_congr (cel6_or (hA (s + 1) hs2) hz2) (fun rm g b1 b2 => ?_)
                         constructor
                         · rintro (w | ⟨rfl, rfl⟩)
                           · exact absurd w (none' hs2 rm g)
                           · exact ⟨rfl, rfl, h180, hlv⟩
                         · rintro ⟨w1, w2, w3, w4⟩
                           exact Or.inr ⟨w2, w1⟩)
                      | exact fin _ _ _ _ hf' (nothing (fun ⟨_, rm, g, _, _, w1, w2, w3, w4⟩ => absurd ((lv_ne0 (show kL K s < 8 by omega) hset hz).mpr w4) (fun q => q h204)))
                      | exact fin _ _ _ _ hf' (nothing (fun ⟨_, rm, g, _, _, w1, w2, w3, w4⟩ => h180 w3))
                      | exact fin _ _ _ _ hf' (nothing (fun ⟨w, _⟩ => absurd w (by rw [nI_le' (by omega) (by omega)] at h174; omega)))
              · skip
                refine sw_if_eq (tgt := 232) dX8_goes_183 (by decide) (fun h183 => ?_) (fun h183 => ?_)
                · skip
                  first
                    | (have hlv := (lv_ne0 (show kL K s < 8 by omega) hset hz).mp h204
                       refine fin _ _ _ _ (fr_J hf' (by omega)) (upS _ (fun j' a b => by rw [setJ_at, updL_ne _ _ b]; exact he j' a) (by rw [setJ_at, updL_ne _ _ (by omega)]; exact hc) (fun _ => ?_))
                       rw [setJ_at, updL_same, next0 hs2]
                       refine cel6_congr (cel6_or (hA (s + 1) hs2) hz2) (fun rm g b1 b2 => ?_)
                       constructor
                       · rintro (w | ⟨rfl, rfl⟩)
                         · exact absurd w (none' hs2 rm g)
                         · exact ⟨rfl, rfl, h180, hlv⟩
                       · rintro ⟨w1, w2, w3, w4⟩
                         exact Or.inr ⟨w2, w1⟩)
                    | exact fin _ _ _ _ hf' (nothing (fun ⟨_, rm, g, _, _, w1, w2, w3, w4⟩ => absurd ((lv_ne0 (show kL K s < 8 by omega) hset hz).mpr w4) (fun q => q h204)))
                    | exact fin _ _ _ _ hf' (nothing (fun ⟨_, rm, g, _, _, w1, w2, w3, w4⟩ => h180 w3))
                    | exact fin _ _ _ _ hf' (nothing (fun ⟨w, _⟩ => absurd w (by rw [nI_le' (by omega) (by omega)] at h174; omega)))
                · exact absurd h183 (by decide)
          · exact absurd ((nI_le (Nat.le_refl _) (by omega))) h69
        | succ m ihd =>
          intro k hm hk τ' o5 hf' he hc
          have hkD : k < pD P := by omega
          have hWτ : WM τ' P K nc n F := WM_fr hW (fun c h1 h2 => (hf' c (by omega)).1) (hf' 69 (by omega)).2
          have hP := hWτ.1
          have hfree := isV_b (hWτ.2.2.2.2.2.2.1 t k ht (by omega))
          obtain ⟨q1, q2, -, -⟩ := hV.2.2.2.1 k hkD
          have ihd := ihd (k + 1) (by omega) (by omega)
          refine sw_iload dX8_goes_63 rfl ?_
          refine sw_aloadn dX8_goes_65 rfl ?_
          refine sw_getI dX8_goes_66 fs_X8_201 o46 ?_
          rw [hP.2.1]
          refine sw_icmp_ge (tgt := 172) dX8_goes_69 (by decide) (fun h69 => ?_) (fun h69 => ?_)
          · exact absurd h69 ((by rw [nI_le' (by omega) (by omega)]; omega))
          · skip
            refine sw_aloadn dX8_goes_72 rfl ?_
            refine sw_getR dX8_goes_73 fs_X8_89 o46 r46_40 ?_
            refine sx_bipush (v := nI 10) dX8_goes_76 (by decide) ?_
            refine sw_iloadn dX8_goes_78 rfl ?_
            refine sw_imul dX8_goes_79 ?_
            refine sw_iload dX8_goes_80 rfl ?_
            refine sw_iadd dX8_goes_82 ?_
            refine sx_zald (10 * t + k) dX8_goes_83 a70 (by rw [nI_mul, nI_add]) (by omega) (by decide) ?_
            refine sw_if_ne (tgt := 90) dX8_goes_84 (by decide) (fun h84 => ?_) (fun h84 => ?_)
            · skip
              refine sw_lload dX8_goes_90 rfl ?_
              refine sw_aloadn dX8_goes_92 rfl ?_
              refine sw_aloadn dX8_goes_93 rfl ?_
              refine sw_getR dX8_goes_94 fs_X8_42 o46 r46_21 ?_
              refine sw_iload dX8_goes_97 rfl ?_
              refine sx_iald (k) dX8_goes_99 a55 (rfl) (by omega) (by decide) ?_
              rw [hP.2.2.2.1 k hkD]
              refine sx_invJ1 dX8_goes_100 mk_X8_leaving vk_X8_leaving lk_X8_259 o46 (Nat.le_of_ble_eq_true rfl) (Nat.le_of_ble_eq_true rfl) ?_
              refine m_leaving hP hV q1 (fun z1 hz1 => ?_)
              refine sw_land dX8_goes_103 ?_
              refine sx_lconst (v := 0) dX8_goes_104 (by decide) ?_
              refine sw_lc_eq (tgt := 128) dX8_goes_105 dX8_goes_106 (by decide) (fun h105 => ?_) (fun h105 => ?_)
              · skip
                refine sw_lload dX8_goes_128 rfl ?_
                refine sw_aloadn dX8_goes_130 rfl ?_
                refine sw_aloadn dX8_goes_131 rfl ?_
                refine sw_getR dX8_goes_132 fs_X8_45 o46 r46_22 ?_
                refine sw_iload dX8_goes_135 rfl ?_
                refine sx_iald (k) dX8_goes_137 a56 (rfl) (by omega) (by decide) ?_
                first
                  | rw [hP.2.2.2.2.1 k hkD]
                  | rw [show ∀ v, (setJ τ' 74 s v).1 56 k = nI (pS P k) from fun _ => hP.2.2.2.2.1 k hkD]
                refine sx_invJ1 dX8_goes_138 mk_X8_leaving vk_X8_leaving lk_X8_259 o46 (Nat.le_of_ble_eq_true rfl) (Nat.le_of_ble_eq_true rfl) ?_
                refine m_leaving (P := P) hP hV q2 (fun z2 hz2 => ?_)
                refine sw_land dX8_goes_141 ?_
                refine sx_lconst (v := 0) dX8_goes_142 (by decide) ?_
                refine sw_lc_eq (tgt := 166) dX8_goes_143 dX8_goes_144 (by decide) (fun h143 => ?_) (fun h143 => ?_)
                · skip
                  refine sx_iinc (nI (k + 1)) dX8_goes_166 rfl (nI_inc _) ?_
                  refine sw_goto (tgt := 63) dX8_goes_169 (by decide) ?_
                  first
                    | (have hno : ¬ kO K t k := fun w => hfree.mpr w h84
                       exact ihd _ _ hf' he (cel6_congr hc (fun rm g _ _ => ⟨fun w => w.elim Or.inl (fun w => Or.inr (ownK_s.mpr (Or.inl w))), fun w => w.elim Or.inl (fun w => (ownK_s.mp w).elim Or.inr (fun w => absurd w.2.1 hno))⟩)))
                    | (have hop := hfree.mp h84
                       have l1 := (lv_ne0 (show pF P k < 8 by omega) hset hz1).mp h105
                       have l2 := (lv_ne0 (show pS P k < 8 by omega) hset hz2).mp h143
                       refine ihd _ _ (fr_J (fr_J hf' (by omega)) (by omega)) (fun j' a => by rw [setJ_at, updL_ne _ _ a, setJ_at, updL_ne _ _ a]; exact he j' a) ?_
                       rw [setJ_at, updL_same, setJ_at, updL_same]
                       refine cel6_congr (cel6_or (cel6_or hc hy1) hy2) (fun rm g _ _ => ?_)
                       rw [ownK_s]
                       constructor
                       · rintro ((( w | w) | ⟨rfl, rfl⟩) | ⟨rfl, rfl⟩)
                         · exact Or.inl w
                         · exact Or.inr (Or.inl w)
                         · exact Or.inr (Or.inr ⟨rfl, hop, Or.inl ⟨rfl, l1⟩⟩)
                         · exact Or.inr (Or.inr ⟨rfl, hop, Or.inr ⟨rfl, l2⟩⟩)
                       · rintro (w | w | ⟨w1, w2, ⟨w3, w4⟩ | ⟨w3, w4⟩⟩)
                         · exact Or.inl (Or.inl (Or.inl w))
                         · exact Or.inl (Or.inl (Or.inr w))
                         · exact Or.inl (Or.inr ⟨w3, w1⟩)
                         · exact Or.inr ⟨w3, w1⟩)
                    | (have hop := hfree.mp h84
                       have l1 := (lv_ne0 (show pF P k < 8 by omega) hset hz1).mp h105
                       have l2 : ¬ _ := fun w => (lv_ne0 (show pS P k < 8 by omega) hset hz2).mpr w h143
                       refine ihd _ _ (fr_J hf' (by omega)) (fun j' a => by rw [setJ_at, updL_ne _ _ a]; exact he j' a) ?_
                       rw [setJ_at, updL_same]
                       refine cel6_congr (cel6_or hc hy1) (fun rm g _ _ => ?_)
                       rw [ownK_s]
                       constructor
                       · rintro ((w | w) | ⟨rfl, rfl⟩)
                         · exact Or.inl w
                         · exact Or.inr (Or.inl w)
                         · exact Or.inr (Or.inr ⟨rfl, hop, Or.inl ⟨rfl, l1⟩⟩)
                       · rintro (w | w | ⟨w1, w2, ⟨w3, w4⟩ | ⟨w3, w4⟩⟩)
                         · exact Or.inl (Or.inl w)
                         · exact Or.inl (Or.inr w)
                         · exact Or.inr ⟨w3, w1⟩
                         · exact absurd w4 l2)
                    | (have hop := hfree.mp h84
                       have l1 : ¬ _ := fun w => (lv_ne0 (show pF P k < 8 by omega) hset hz1).mpr w h105
                       have l2 := (lv_ne0 (show pS P k < 8 by omega) hset hz2).mp h143
                       refine ihd _ _ (fr_J hf' (by omega)) (fun j' a => by rw [setJ_at, updL_ne _ _ a]; exact he j' a) ?_
                       rw [setJ_at, updL_same]
                       refine cel6_congr (cel6_or hc hy2) (fun rm g _ _ => ?_)
                       rw [ownK_s]
                       constructor
                       · rintro ((w | w) | ⟨rfl, rfl⟩)
                         · exact Or.inl w
                         · exact Or.inr (Or.inl w)
                         · exact Or.inr (Or.inr ⟨rfl, hop, Or.inr ⟨rfl, l2⟩⟩)
                       · rintro (w | w | ⟨w1, w2, ⟨w3, w4⟩ | ⟨w3, w4⟩⟩)
                         · exact Or.inl (Or.inl w)
                         · exact Or.inl (Or.inr w)
                         · exact absurd w4 l1
                         · exact Or.inr ⟨w3, w1⟩)
                    | (have hop := hfree.mp h84
                       have l1 : ¬ _ := fun w => (lv_ne0 (show pF P k < 8 by omega) hset hz1).mpr w h105
                       have l2 : ¬ _ := fun w => (lv_ne0 (show pS P k < 8 by omega) hset hz2).mpr w h143
                       exact ihd _ _ hf' he (cel6_congr hc (fun rm g _ _ => ⟨fun w => w.elim Or.inl (fun w => Or.inr (ownK_s.mpr (Or.inl w))), fun w => w.elim Or.inl (fun w => (ownK_s.mp w).elim Or.inr (fun w => w.2.2.elim (fun w => absurd w.2 l1) (fun w => absurd w.2 l2)))⟩)))
                · skip
                  refine sw_aloadn dX8_goes_147 rfl ?_
                  refine sw_getR dX8_goes_148 fs_X8_101 o46 r46_44 ?_
                  refine sw_iloadn dX8_goes_151 rfl ?_
                  refine sw_dup2 dX8_goes_152 rfl rfl ?_
                  refine sx_lald (s) dX8_goes_153 a74 (rfl) (by omega) (by decide) ?_
                  refine sw_aloadn dX8_goes_154 rfl ?_
                  refine sw_getR dX8_goes_155 fs_X8_42 o46 r46_21 ?_
                  refine sw_iload dX8_goes_158 rfl ?_
                  refine sx_iald (k) dX8_goes_160 a55 (rfl) (by omega) (by decide) ?_
                  first
                    | rw [hP.2.2.2.1 k hkD]
                    | rw [show ∀ v, (setJ τ' 74 s v).1 55 k = nI (pF P k) from fun _ => hP.2.2.2.1 k hkD]
                  refine sx_insJ1 dX8_goes_161 mk_X8_come sk_X8_come lk_X8_262 (Nat.le_of_ble_eq_true rfl) (Nat.le_of_ble_eq_true rfl) ?_
                  refine m_come (show pF P k < 8 by omega) (fun y2 hy2 => ?_)
                  refine sw_lor dX8_goes_164 ?_
                  refine sx_last (s) dX8_goes_165 a74 (rfl) (by omega) (by decide) ?_
                  refine sx_iinc (nI (k + 1)) dX8_goes_166 rfl (nI_inc _) ?_
                  refine sw_goto (tgt := 63) dX8_goes_169 (by decide) ?_
                  first
                    | (have hno : ¬ kO K t k := fun w => hfree.mpr w h84
                       exact ihd _ _ hf' he (cel6_congr hc (fun rm g _ _ => ⟨fun w => w.elim Or.inl (fun w => Or.inr (ownK_s.mpr (Or.inl w))), fun w => w.elim Or.inl (fun w => (ownK_s.mp w).elim Or.inr (fun w => absurd w.2.1 hno))⟩)))
                    | (have hop := hfree.mp h84
                       have l1 := (lv_ne0 (show pF P k < 8 by omega) hset hz1).mp h105
                       have l2 := (lv_ne0 (show pS P k < 8 by omega) hset hz2).mp h143
                       refine ihd _ _ (fr_J (fr_J hf' (by omega)) (by omega)) (fun j' a => by rw [setJ_at, updL_ne _ _ a, setJ_at, updL_ne _ _ a]; exact he j' a) ?_
                       rw [setJ_at, updL_same, setJ_at, updL_same]
                       refine cel6_congr (cel6_or (cel6_or hc hy1) hy2) (fun rm g _ _ => ?_)
                       rw [ownK_s]
                       constructor
                       · rintro ((( w | w) | ⟨rfl, rfl⟩) | ⟨rfl, rfl⟩)
                         · exact Or.inl w
                         · exact Or.inr (Or.inl w)
                         · exact Or.inr (Or.inr ⟨rfl, hop, Or.inl ⟨rfl, l1⟩⟩)
                         · exact Or.inr (Or.inr ⟨rfl, hop, Or.inr ⟨rfl, l2⟩⟩)
                       · rintro (w | w | ⟨w1, w2, ⟨w3, w4⟩ | ⟨w3, w4⟩⟩)
                         · exact Or.inl (Or.inl (Or.inl w))
                         · exact Or.inl (Or.inl (Or.inr w))
                         · exact Or.inl (Or.inr ⟨w3, w1⟩)
                         · exact Or.inr ⟨w3, w1⟩)
                    | (have hop := hfree.mp h84
                       have l1 := (lv_ne0 (show pF P k < 8 by omega) hset hz1).mp h105
                       have l2 : ¬ _ := fun w => (lv_ne0 (show pS P k < 8 by omega) hset hz2).mpr w h143
                       refine ihd _ _ (fr_J hf' (by omega)) (fun j' a => by rw [setJ_at, updL_ne _ _ a]; exact he j' a) ?_
                       rw [setJ_at, updL_same]
                       refine cel6_congr (cel6_or hc hy1) (fun rm g _ _ => ?_)
                       rw [ownK_s]
                       constructor
                       · rintro ((w | w) | ⟨rfl, rfl⟩)
                         · exact Or.inl w
                         · exact Or.inr (Or.inl w)
                         · exact Or.inr (Or.inr ⟨rfl, hop, Or.inl ⟨rfl, l1⟩⟩)
                       · rintro (w | w | ⟨w1, w2, ⟨w3, w4⟩ | ⟨w3, w4⟩⟩)
                         · exact Or.inl (Or.inl w)
                         · exact Or.inl (Or.inr w)
                         · exact Or.inr ⟨w3, w1⟩
                         · exact absurd w4 l2)
                    | (have hop := hfree.mp h84
                       have l1 : ¬ _ := fun w => (lv_ne0 (show pF P k < 8 by omega) hset hz1).mpr w h105
                       have l2 := (lv_ne0 (show pS P k < 8 by omega) hset hz2).mp h143
                       refine ihd _ _ (fr_J hf' (by omega)) (fun j' a => by rw [setJ_at, updL_ne _ _ a]; exact he j' a) ?_
                       rw [setJ_at, updL_same]
                       refine cel6_congr (cel6_or hc hy2) (fun rm g _ _ => ?_)
                       rw [ownK_s]
                       constructor
                       · rintro ((w | w) | ⟨rfl, rfl⟩)
                         · exact Or.inl w
                         · exact Or.inr (Or.inl w)
                         · exact Or.inr (Or.inr ⟨rfl, hop, Or.inr ⟨rfl, l2⟩⟩)
                       · rintro (w | w | ⟨w1, w2, ⟨w3, w4⟩ | ⟨w3, w4⟩⟩)
                         · exact Or.inl (Or.inl w)
                         · exact Or.inl (Or.inr w)
                         · exact absurd w4 l1
                         · exact Or.inr ⟨w3, w1⟩)
                    | (have hop := hfree.mp h84
                       have l1 : ¬ _ := fun w => (lv_ne0 (show pF P k < 8 by omega) hset hz1).mpr w h105
                       have l2 : ¬ _ := fun w => (lv_ne0 (show pS P k < 8 by omega) hset hz2).mpr w h143
                       exact ihd _ _ hf' he (cel6_congr hc (fun rm g _ _ => ⟨fun w => w.elim Or.inl (fun w => Or.inr (ownK_s.mpr (Or.inl w))), fun w => w.elim Or.inl (fun w => (ownK_s.mp w).elim Or.inr (fun w => w.2.2.elim (fun w => absurd w.2 l1) (fun w => absurd w.2 l2)))⟩)))
              · skip
                refine sw_aloadn dX8_goes_109 rfl ?_
                refine sw_getR dX8_goes_110 fs_X8_101 o46 r46_44 ?_
                refine sw_iloadn dX8_goes_113 rfl ?_
                refine sw_dup2 dX8_goes_114 rfl rfl ?_
                refine sx_lald (s) dX8_goes_115 a74 (rfl) (by omega) (by decide) ?_
                refine sw_aloadn dX8_goes_116 rfl ?_
                refine sw_getR dX8_goes_117 fs_X8_45 o46 r46_22 ?_
                refine sw_iload dX8_goes_120 rfl ?_
                refine sx_iald (k) dX8_goes_122 a56 (rfl) (by omega) (by decide) ?_
                rw [hP.2.2.2.2.1 k hkD]
                refine sx_insJ1 dX8_goes_123 mk_X8_come sk_X8_come lk_X8_262 (Nat.le_of_ble_eq_true rfl) (Nat.le_of_ble_eq_true rfl) ?_
                refine m_come (show pS P k < 8 by omega) (fun y1 hy1 => ?_)
                refine sw_lor dX8_goes_126 ?_
                refine sx_last (s) dX8_goes_127 a74 (rfl) (by omega) (by decide) ?_
                refine sw_lload dX8_goes_128 rfl ?_
                refine sw_aloadn dX8_goes_130 rfl ?_
                refine sw_aloadn dX8_goes_131 rfl ?_
                refine sw_getR dX8_goes_132 fs_X8_45 o46 r46_22 ?_
                refine sw_iload dX8_goes_135 rfl ?_
                refine sx_iald (k) dX8_goes_137 a56 (rfl) (by omega) (by decide) ?_
                first
                  | rw [hP.2.2.2.2.1 k hkD]
                  | rw [show ∀ v, (setJ τ' 74 s v).1 56 k = nI (pS P k) from fun _ => hP.2.2.2.2.1 k hkD]
                refine sx_invJ1 dX8_goes_138 mk_X8_leaving vk_X8_leaving lk_X8_259 o46 (Nat.le_of_ble_eq_true rfl) (Nat.le_of_ble_eq_true rfl) ?_
                refine m_leaving (P := P) hP hV q2 (fun z2 hz2 => ?_)
                refine sw_land dX8_goes_141 ?_
                refine sx_lconst (v := 0) dX8_goes_142 (by decide) ?_
                refine sw_lc_eq (tgt := 166) dX8_goes_143 dX8_goes_144 (by decide) (fun h143 => ?_) (fun h143 => ?_)
                · skip
                  refine sx_iinc (nI (k + 1)) dX8_goes_166 rfl (nI_inc _) ?_
                  refine sw_goto (tgt := 63) dX8_goes_169 (by decide) ?_
                  first
                    | (have hno : ¬ kO K t k := fun w => hfree.mpr w h84
                       exact ihd _ _ hf' he (cel6_congr hc (fun rm g _ _ => ⟨fun w => w.elim Or.inl (fun w => Or.inr (ownK_s.mpr (Or.inl w))), fun w => w.elim Or.inl (fun w => (ownK_s.mp w).elim Or.inr (fun w => absurd w.2.1 hno))⟩)))
                    | (have hop := hfree.mp h84
                       have l1 := (lv_ne0 (show pF P k < 8 by omega) hset hz1).mp h105
                       have l2 := (lv_ne0 (show pS P k < 8 by omega) hset hz2).mp h143
                       refine ihd _ _ (fr_J (fr_J hf' (by omega)) (by omega)) (fun j' a => by rw [setJ_at, updL_ne _ _ a, setJ_at, updL_ne _ _ a]; exact he j' a) ?_
                       rw [setJ_at, updL_same, setJ_at, updL_same]
                       refine cel6_congr (cel6_or (cel6_or hc hy1) hy2) (fun rm g _ _ => ?_)
                       rw [ownK_s]
                       constructor
                       · rintro ((( w | w) | ⟨rfl, rfl⟩) | ⟨rfl, rfl⟩)
                         · exact Or.inl w
                         · exact Or.inr (Or.inl w)
                         · exact Or.inr (Or.inr ⟨rfl, hop, Or.inl ⟨rfl, l1⟩⟩)
                         · exact Or.inr (Or.inr ⟨rfl, hop, Or.inr ⟨rfl, l2⟩⟩)
                       · rintro (w | w | ⟨w1, w2, ⟨w3, w4⟩ | ⟨w3, w4⟩⟩)
                         · exact Or.inl (Or.inl (Or.inl w))
                         · exact Or.inl (Or.inl (Or.inr w))
                         · exact Or.inl (Or.inr ⟨w3, w1⟩)
                         · exact Or.inr ⟨w3, w1⟩)
                    | (have hop := hfree.mp h84
                       have l1 := (lv_ne0 (show pF P k < 8 by omega) hset hz1).mp h105
                       have l2 : ¬ _ := fun w => (lv_ne0 (show pS P k < 8 by omega) hset hz2).mpr w h143
                       refine ihd _ _ (fr_J hf' (by omega)) (fun j' a => by rw [setJ_at, updL_ne _ _ a]; exact he j' a) ?_
                       rw [setJ_at, updL_same]
                       refine cel6_congr (cel6_or hc hy1) (fun rm g _ _ => ?_)
                       rw [ownK_s]
                       constructor
                       · rintro ((w | w) | ⟨rfl, rfl⟩)
                         · exact Or.inl w
                         · exact Or.inr (Or.inl w)
                         · exact Or.inr (Or.inr ⟨rfl, hop, Or.inl ⟨rfl, l1⟩⟩)
                       · rintro (w | w | ⟨w1, w2, ⟨w3, w4⟩ | ⟨w3, w4⟩⟩)
                         · exact Or.inl (Or.inl w)
                         · exact Or.inl (Or.inr w)
                         · exact Or.inr ⟨w3, w1⟩
                         · exact absurd w4 l2)
                    | (have hop := hfree.mp h84
                       have l1 : ¬ _ := fun w => (lv_ne0 (show pF P k < 8 by omega) hset hz1).mpr w h105
                       have l2 := (lv_ne0 (show pS P k < 8 by omega) hset hz2).mp h143
                       refine ihd _ _ (fr_J hf' (by omega)) (fun j' a => by rw [setJ_at, updL_ne _ _ a]; exact he j' a) ?_
                       rw [setJ_at, updL_same]
                       refine cel6_congr (cel6_or hc hy2) (fun rm g _ _ => ?_)
                       rw [ownK_s]
                       constructor
                       · rintro ((w | w) | ⟨rfl, rfl⟩)
                         · exact Or.inl w
                         · exact Or.inr (Or.inl w)
                         · exact Or.inr (Or.inr ⟨rfl, hop, Or.inr ⟨rfl, l2⟩⟩)
                       · rintro (w | w | ⟨w1, w2, ⟨w3, w4⟩ | ⟨w3, w4⟩⟩)
                         · exact Or.inl (Or.inl w)
                         · exact Or.inl (Or.inr w)
                         · exact absurd w4 l1
                         · exact Or.inr ⟨w3, w1⟩)
                    | (have hop := hfree.mp h84
                       have l1 : ¬ _ := fun w => (lv_ne0 (show pF P k < 8 by omega) hset hz1).mpr w h105
                       have l2 : ¬ _ := fun w => (lv_ne0 (show pS P k < 8 by omega) hset hz2).mpr w h143
                       exact ihd _ _ hf' he (cel6_congr hc (fun rm g _ _ => ⟨fun w => w.elim Or.inl (fun w => Or.inr (ownK_s.mpr (Or.inl w))), fun w => w.elim Or.inl (fun w => (ownK_s.mp w).elim Or.inr (fun w => w.2.2.elim (fun w => absurd w.2 l1) (fun w => absurd w.2 l2)))⟩)))
                · skip
                  refine sw_aloadn dX8_goes_147 rfl ?_
                  refine sw_getR dX8_goes_148 fs_X8_101 o46 r46_44 ?_
                  refine sw_iloadn dX8_goes_151 rfl ?_
                  refine sw_dup2 dX8_goes_152 rfl rfl ?_
                  refine sx_lald (s) dX8_goes_153 a74 (rfl) (by omega) (by decide) ?_
                  refine sw_aloadn dX8_goes_154 rfl ?_
                  refine sw_getR dX8_goes_155 fs_X8_42 o46 r46_21 ?_
                  refine sw_iload dX8_goes_158 rfl ?_
                  refine sx_iald (k) dX8_goes_160 a55 (rfl) (by omega) (by decide) ?_
                  first
                    | rw [hP.2.2.2.1 k hkD]
                    | rw [show ∀ v, (setJ τ' 74 s v).1 55 k = nI (pF P k) from fun _ => hP.2.2.2.1 k hkD]
                  refine sx_insJ1 dX8_goes_161 mk_X8_come sk_X8_come lk_X8_262 (Nat.le_of_ble_eq_true rfl) (Nat.le_of_ble_eq_true rfl) ?_
                  refine m_come (show pF P k < 8 by omega) (fun y2 hy2 => ?_)
                  refine sw_lor dX8_goes_164 ?_
                  refine sx_last (s) dX8_goes_165 a74 (rfl) (by omega) (by decide) ?_
                  refine sx_iinc (nI (k + 1)) dX8_goes_166 rfl (nI_inc _) ?_
                  refine sw_goto (tgt := 63) dX8_goes_169 (by decide) ?_
                  first
                    | (have hno : ¬ kO K t k := fun w => hfree.mpr w h84
                       exact ihd _ _ hf' he (cel6_congr hc (fun rm g _ _ => ⟨fun w => w.elim Or.inl (fun w => Or.inr (ownK_s.mpr (Or.inl w))), fun w => w.elim Or.inl (fun w => (ownK_s.mp w).elim Or.inr (fun w => absurd w.2.1 hno))⟩)))
                    | (have hop := hfree.mp h84
                       have l1 := (lv_ne0 (show pF P k < 8 by omega) hset hz1).mp h105
                       have l2 := (lv_ne0 (show pS P k < 8 by omega) hset hz2).mp h143
                       refine ihd _ _ (fr_J (fr_J hf' (by omega)) (by omega)) (fun j' a => by rw [setJ_at, updL_ne _ _ a, setJ_at, updL_ne _ _ a]; exact he j' a) ?_
                       rw [setJ_at, updL_same, setJ_at, updL_same]
                       refine cel6_congr (cel6_or (cel6_or hc hy1) hy2) (fun rm g _ _ => ?_)
                       rw [ownK_s]
                       constructor
                       · rintro ((( w | w) | ⟨rfl, rfl⟩) | ⟨rfl, rfl⟩)
                         · exact Or.inl w
                         · exact Or.inr (Or.inl w)
                         · exact Or.inr (Or.inr ⟨rfl, hop, Or.inl ⟨rfl, l1⟩⟩)
                         · exact Or.inr (Or.inr ⟨rfl, hop, Or.inr ⟨rfl, l2⟩⟩)
                       · rintro (w | w | ⟨w1, w2, ⟨w3, w4⟩ | ⟨w3, w4⟩⟩)
                         · exact Or.inl (Or.inl (Or.inl w))
                         · exact Or.inl (Or.inl (Or.inr w))
                         · exact Or.inl (Or.inr ⟨w3, w1⟩)
                         · exact Or.inr ⟨w3, w1⟩)
                    | (have hop := hfree.mp h84
                       have l1 := (lv_ne0 (show pF P k < 8 by omega) hset hz1).mp h105
                       have l2 : ¬ _ := fun w => (lv_ne0 (show pS P k < 8 by omega) hset hz2).mpr w h143
                       refine ihd _ _ (fr_J hf' (by omega)) (fun j' a => by rw [setJ_at, updL_ne _ _ a]; exact he j' a) ?_
                       rw [setJ_at, updL_same]
                       refine cel6_congr (cel6_or hc hy1) (fun rm g _ _ => ?_)
                       rw [ownK_s]
                       constructor
                       · rintro ((w | w) | ⟨rfl, rfl⟩)
                         · exact Or.inl w
                         · exact Or.inr (Or.inl w)
                         · exact Or.inr (Or.inr ⟨rfl, hop, Or.inl ⟨rfl, l1⟩⟩)
                       · rintro (w | w | ⟨w1, w2, ⟨w3, w4⟩ | ⟨w3, w4⟩⟩)
                         · exact Or.inl (Or.inl w)
                         · exact Or.inl (Or.inr w)
                         · exact Or.inr ⟨w3, w1⟩
                         · exact absurd w4 l2)
                    | (have hop := hfree.mp h84
                       have l1 : ¬ _ := fun w => (lv_ne0 (show pF P k < 8 by omega) hset hz1).mpr w h105
                       have l2 := (lv_ne0 (show pS P k < 8 by omega) hset hz2).mp h143
                       refine ihd _ _ (fr_J hf' (by omega)) (fun j' a => by rw [setJ_at, updL_ne _ _ a]; exact he j' a) ?_
                       rw [setJ_at, updL_same]
                       refine cel6_congr (cel6_or hc hy2) (fun rm g _ _ => ?_)
                       rw [ownK_s]
                       constructor
                       · rintro ((w | w) | ⟨rfl, rfl⟩)
                         · exact Or.inl w
                         · exact Or.inr (Or.inl w)
                         · exact Or.inr (Or.inr ⟨rfl, hop, Or.inr ⟨rfl, l2⟩⟩)
                       · rintro (w | w | ⟨w1, w2, ⟨w3, w4⟩ | ⟨w3, w4⟩⟩)
                         · exact Or.inl (Or.inl w)
                         · exact Or.inl (Or.inr w)
                         · exact absurd w4 l1
                         · exact Or.inr ⟨w3, w1⟩)
                    | (have hop := hfree.mp h84
                       have l1 : ¬ _ := fun w => (lv_ne0 (show pF P k < 8 by omega) hset hz1).mpr w h105
                       have l2 : ¬ _ := fun w => (lv_ne0 (show pS P k < 8 by omega) hset hz2).mpr w h143
                       exact ihd _ _ hf' he (cel6_congr hc (fun rm g _ _ => ⟨fun w => w.elim Or.inl (fun w => Or.inr (ownK_s.mpr (Or.inl w))), fun w => w.elim Or.inl (fun w => (ownK_s.mp w).elim Or.inr (fun w => w.2.2.elim (fun w => absurd w.2 l1) (fun w => absurd w.2 l2)))⟩)))
            · skip
              refine sw_goto (tgt := 166) dX8_goes_87 (by decide) ?_
              refine sx_iinc (nI (k + 1)) dX8_goes_166 rfl (nI_inc _) ?_
              refine sw_goto (tgt := 63) dX8_goes_169 (by decide) ?_
              first
                | (have hno : ¬ kO K t k := fun w => hfree.mpr w h84
                   exact ihd _ _ hf' he (cel6_congr hc (fun rm g _ _ => ⟨fun w => w.elim Or.inl (fun w => Or.inr (ownK_s.mpr (Or.inl w))), fun w => w.elim Or.inl (fun w => (ownK_s.mp w).elim Or.inr (fun w => absurd w.2.1 hno))⟩)))
                | (have hop := hfree.mp h84
                   have l1 := (lv_ne0 (show pF P k < 8 by omega) hset hz1).mp h105
                   have l2 := (lv_ne0 (show pS P k < 8 by omega) hset hz2).mp h143
                   refine ihd _ _ (fr_J (fr_J hf' (by omega)) (by omega)) (fun j' a => by rw [setJ_at, updL_ne _ _ a, setJ_at, updL_ne _ _ a]; exact he j' a) ?_
                   rw [setJ_at, updL_same, setJ_at, updL_same]
                   refine cel6_congr (cel6_or (cel6_or hc hy1) hy2) (fun rm g _ _ => ?_)
                   rw [ownK_s]
                   constructor
                   · rintro ((( w | w) | ⟨rfl, rfl⟩) | ⟨rfl, rfl⟩)
                     · exact Or.inl w
                     · exact Or.inr (Or.inl w)
                     · exact Or.inr (Or.inr ⟨rfl, hop, Or.inl ⟨rfl, l1⟩⟩)
                     · exact Or.inr (Or.inr ⟨rfl, hop, Or.inr ⟨rfl, l2⟩⟩)
                   · rintro (w | w | ⟨w1, w2, ⟨w3, w4⟩ | ⟨w3, w4⟩⟩)
                     · exact Or.inl (Or.inl (Or.inl w))
                     · exact Or.inl (Or.inl (Or.inr w))
                     · exact Or.inl (Or.inr ⟨w3, w1⟩)
                     · exact Or.inr ⟨w3, w1⟩)
                | (have hop := hfree.mp h84
                   have l1 := (lv_ne0 (show pF P k < 8 by omega) hset hz1).mp h105
                   have l2 : ¬ _ := fun w => (lv_ne0 (show pS P k < 8 by omega) hset hz2).mpr w h143
                   refine ihd _ _ (fr_J hf' (by omega)) (fun j' a => by rw [setJ_at, updL_ne _ _ a]; exact he j' a) ?_
                   rw [setJ_at, updL_same]
                   refine cel6_congr (cel6_or hc hy1) (fun rm g _ _ => ?_)
                   rw [ownK_s]
                   constructor
                   · rintro ((w | w) | ⟨rfl, rfl⟩)
                     · exact Or.inl w
                     · exact Or.inr (Or.inl w)
                     · exact Or.inr (Or.inr ⟨rfl, hop, Or.inl ⟨rfl, l1⟩⟩)
                   · rintro (w | w | ⟨w1, w2, ⟨w3, w4⟩ | ⟨w3, w4⟩⟩)
                     · exact Or.inl (Or.inl w)
                     · exact Or.inl (Or.inr w)
                     · exact Or.inr ⟨w3, w1⟩
                     · exact absurd w4 l2)
                | (have hop := hfree.mp h84
                   have l1 : ¬ _ := fun w => (lv_ne0 (show pF P k < 8 by omega) hset hz1).mpr w h105
                   have l2 := (lv_ne0 (show pS P k < 8 by omega) hset hz2).mp h143
                   refine ihd _ _ (fr_J hf' (by omega)) (fun j' a => by rw [setJ_at, updL_ne _ _ a]; exact he j' a) ?_
                   rw [setJ_at, updL_same]
                   refine cel6_congr (cel6_or hc hy2) (fun rm g _ _ => ?_)
                   rw [ownK_s]
                   constructor
                   · rintro ((w | w) | ⟨rfl, rfl⟩)
                     · exact Or.inl w
                     · exact Or.inr (Or.inl w)
                     · exact Or.inr (Or.inr ⟨rfl, hop, Or.inr ⟨rfl, l2⟩⟩)
                   · rintro (w | w | ⟨w1, w2, ⟨w3, w4⟩ | ⟨w3, w4⟩⟩)
                     · exact Or.inl (Or.inl w)
                     · exact Or.inl (Or.inr w)
                     · exact absurd w4 l1
                     · exact Or.inr ⟨w3, w1⟩)
                | (have hop := hfree.mp h84
                   have l1 : ¬ _ := fun w => (lv_ne0 (show pF P k < 8 by omega) hset hz1).mpr w h105
                   have l2 : ¬ _ := fun w => (lv_ne0 (show pS P k < 8 by omega) hset hz2).mpr w h143
                   exact ihd _ _ hf' he (cel6_congr hc (fun rm g _ _ => ⟨fun w => w.elim Or.inl (fun w => Or.inr (ownK_s.mpr (Or.inl w))), fun w => w.elim Or.inl (fun w => (ownK_s.mp w).elim Or.inr (fun w => w.2.2.elim (fun w => absurd w.2 l1) (fun w => absurd w.2 l2)))⟩)))
      refine sw_iloadn dX8_goes_22 rfl ?_
      refine sw_iloadn dX8_goes_23 rfl ?_
      refine sw_icmp_gt (tgt := 238) dX8_goes_24 (by decide) (fun h24 => ?_) (fun h24 => ?_)
      · exact absurd h24 ((by rw [nI_lt' (by omega) (by omega)]; omega))
      · skip
        refine sw_aloadn dX8_goes_27 rfl ?_
        refine sw_getR dX8_goes_28 fs_X8_98 o46 r46_43 ?_
        refine sw_iloadn dX8_goes_31 rfl ?_
        refine sx_lald (s) dX8_goes_32 a73 (rfl) (by omega) (by decide) ?_
        refine sw_lstore dX8_goes_33 (Nat.le_of_ble_eq_true rfl) ?_
        refine sw_lload dX8_goes_35 rfl ?_
        refine sx_lconst (v := 0) dX8_goes_37 (by decide) ?_
        refine sw_lc_ne (tgt := 45) dX8_goes_38 dX8_goes_39 (by decide) (fun h38 => ?_) (fun h38 => ?_)
        · skip
          refine sw_aloadn dX8_goes_45 rfl ?_
          refine sw_getR dX8_goes_46 fs_X8_101 o46 r46_44 ?_
          refine sw_iloadn dX8_goes_49 rfl ?_
          refine sw_dup2 dX8_goes_50 rfl rfl ?_
          refine sx_lald (s) dX8_goes_51 a74 (rfl) (by omega) (by decide) ?_
          refine sw_aloadn dX8_goes_52 rfl ?_
          refine sw_lload dX8_goes_53 rfl ?_
          refine sx_invJ1 dX8_goes_55 mk_X8_stays vk_X8_stays lk_X8_255 o46 (Nat.le_of_ble_eq_true rfl) (Nat.le_of_ble_eq_true rfl) ?_
          refine m_stays (σ := τ) (WM_fr hW (fun c h1 h2 => (hf c (by omega)).1) (hf 69 (by omega)).2).1 hV hset (fun z hz => ?_)
          refine sw_lor dX8_goes_58 ?_
          refine sx_last (s) dX8_goes_59 a74 (rfl) (by omega) (by decide) ?_
          refine sx_iconst (v := nI 0) dX8_goes_60 (by decide) ?_
          refine sw_istore dX8_goes_61 (Nat.le_of_ble_eq_true rfl) ?_
          refine door (pD P) 0 (by omega) (by omega) _ _ (fr_J hf (by omega)) (fun j' a => by rw [setJ_at, updL_ne _ _ a]) ?_
          rw [setJ_at, updL_same]
          refine cel6_congr (cel6_or (hA s hs') hz) (fun rm g _ _ => or_congr Iff.rfl ⟨Or.inl, fun w => w.elim id (fun ⟨_, dd, w, _⟩ => absurd w (by omega))⟩)
        · skip
          refine sw_goto (tgt := 232) dX8_goes_42 (by decide) ?_
          (have hx0 : ∀ rm g, rm < 8 → g < 6 → ¬ X s rm g := fun rm g b1 b2 w => absurd ((cel6_ne0 hset).mpr ⟨rm, g, b1, b2, w⟩) (fun q => q h38)
           refine fin _ _ _ _ hf (upS τ (fun _ _ _ => rfl) (cel6_congr (hA s hs') (fun rm g b1 b2 => ⟨Or.inl, fun w => w.elim id (fun w => ?_)⟩)) (fun hs2 => cel6_congr (hA (s + 1) hs2) (fun rm g b1 b2 => ⟨fun w => absurd w (none' hs2 rm g), fun w => ?_⟩)))
           · rcases w with ⟨-, g, a1, a2, -⟩ | ⟨-, dd, a1, -, ⟨-, g, a4, -, a6⟩ | ⟨-, g, a4, -, a6⟩⟩
             · exact absurd a2 (hx0 _ _ b1 a1)
             · exact absurd a6 (hx0 _ _ (by have := (hV.2.2.2.1 dd a1).1; omega) a4)
             · exact absurd a6 (hx0 _ _ (by have := (hV.2.2.2.1 dd a1).2.1; omega) a4)
           · obtain ⟨-, -, -, g, a4, -, a6⟩ := w
             exact absurd a6 (hx0 _ _ (by have := (hK.2 s hs2).1; omega) a4))
  have first' : ∀ (q s : Nat), q = kN K + 1 - s → s ≤ kN K + 1 → ∀ τ, fr 74 74 σ τ → (∀ j', j' < s → τ.2 74 j' = 0) → SW G (d + 1) M_X8_goes 2 [some (.ref 46), some (.int (nI t)), some (.int (nI (kN K))), some (.int (nI s)), none, none, none] [] τ (RV f) := by
    intro q
    induction q with
    | zero =>
      intro s hq hs τ hf hA
      obtain rfl : s = kN K + 1 := by omega
      refine sw_iloadn dX8_goes_2 rfl ?_
      refine sw_iloadn dX8_goes_3 rfl ?_
      refine sw_icmp_gt (tgt := 20) dX8_goes_4 (by decide) (fun h4 => ?_) (fun h4 => ?_)
      · skip
        refine sx_iconst (v := nI 0) dX8_goes_20 (by decide) ?_
        refine sw_istoren dX8_goes_21 (Nat.le_of_ble_eq_true rfl) ?_
        refine second (kN K + 1) 0 (by omega) (by omega) τ _ _ _ hf (fun j' hj' => ?_)
        rw [hA j' (by omega)]
        refine cel6_0 (fun rm g _ _ w => ?_)
        rcases w with ⟨z, -⟩ | ⟨z1, z2, -⟩ <;> omega
      · exact absurd ((nI_lt (by omega) (by omega))) h4
    | succ q ih =>
      intro s hq hs τ hf hA
      refine sw_iloadn dX8_goes_2 rfl ?_
      refine sw_iloadn dX8_goes_3 rfl ?_
      refine sw_icmp_gt (tgt := 20) dX8_goes_4 (by decide) (fun h4 => ?_) (fun h4 => ?_)
      · exact absurd h4 ((by rw [nI_lt' (by omega) (by omega)]; omega))
      · skip
        refine sw_aloadn dX8_goes_7 rfl ?_
        refine sw_getR dX8_goes_8 fs_X8_101 o46 r46_44 ?_
        refine sw_iloadn dX8_goes_11 rfl ?_
        refine sx_lconst (v := 0) dX8_goes_12 (by decide) ?_
        refine sx_last (s) dX8_goes_13 a74 (rfl) (by omega) (by decide) ?_
        refine sx_iinc (nI (s + 1)) dX8_goes_14 rfl (nI_inc _) ?_
        refine sw_goto (tgt := 2) dX8_goes_17 (by decide) ?_
        refine ih (s + 1) (by omega) (by omega) _ (fr_J hf (by omega)) (fun j' hj' => ?_)
        rw [setJ_at]
        by_cases e : j' = s
        · subst e; rw [updL_same]
        · rw [updL_ne _ _ e]; exact hA j' (by omega)
  refine sx_iconst (v := nI 0) dX8_goes_0 (by decide) ?_
  refine sw_istoren dX8_goes_1 (Nat.le_of_ble_eq_true rfl) ?_
  exact first' (kN K + 1) 0 (by omega) (by omega) σ fr_rf (fun j' hj' => absurd hj' (by omega))
end MGOES
