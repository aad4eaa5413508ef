/-! ===== the model: back, least room, is it walked ===== -/
def bH (P : PL) (K : WK) : Nat → Nat → Nat → Nat → Prop
  | 0, j, rm, a => ∃ j' rm' a', stp P K 0 j rm a j' rm' a' ∧ hop P K 199 j' rm' a'
  | t + 1, j, rm, a => hop P K (199 - t) j rm a
theorem bH_s {P : PL} {K : WK} {t : Nat} (ht : t < 200) (j rm a : Nat) : bH P K t j rm a ↔ ((∃ j' rm' a', stp P K t j rm a j' rm' a' ∧ bH P K (t + 1) j' rm' a') ∧ (0 < t → kS K (t - 1) rm)) := by
  cases t with
  | zero => exact ⟨fun q => ⟨q, fun z => absurd z (by omega)⟩, fun q => q.1⟩
  | succ t =>
    show hop P K (199 - t) j rm a ↔ _
    obtain ⟨r, hr⟩ : ∃ r, 199 - t = r + 1 := ⟨198 - t, by omega⟩
    rw [hr]
    show (kS K (198 - r) rm ∧ ∃ j' rm' a', stp P K (199 - r) j rm a j' rm' a' ∧ hop P K r j' rm' a') ↔ _
    rw [show 198 - r = t by omega, show 199 - r = t + 1 by omega]
    show _ ↔ ((∃ j' rm' a', stp P K (t + 1) j rm a j' rm' a' ∧ hop P K (199 - (t + 1)) j' rm' a') ∧ _)
    rw [show 199 - (t + 1) = r by omega, Nat.add_sub_cancel]
    exact ⟨fun q => ⟨q.2, fun _ => q.1⟩, fun q => ⟨q.2 (by omega), q.1⟩⟩
/-- the table cut to k passes -/
abbrev trn (K : WK) (k : Nat) : WK := (k, K.2)
theorem WM_trn {τ : Mem} {P : PL} {K : WK} {nc n k : Nat} {F : Nat → Nat} (hW : WM τ P K nc n F) (hk : k ≤ kN K) : WM τ P (trn K k) nc n F := by
  obtain ⟨h1, h2, h3, h4, h5, h6, h7, h8⟩ := hW
  exact ⟨h1, h2, ⟨Nat.le_trans hk h3.1, fun i hi => h3.2 i (Nat.lt_of_lt_of_le hi hk)⟩, h4, h5, fun i hi => h6 i (Nat.lt_of_lt_of_le hi hk), h7, h8⟩
theorem rch_trn {P : PL} {K : WK} {k : Nat} (hk : k ≤ kN K) : ∀ (t j rm a : Nat), j ≤ k → (rch P K t j rm a ↔ rch P (trn K k) t j rm a)
  | 0, _, _, _, _ => Iff.rfl
  | t + 1, j', rm', a', hj => by
    have ih := rch_trn (P := P) hk t
    constructor
    · rintro ⟨h0, j, rm, a, h1, h2⟩
      refine ⟨h0, j, rm, a, ?_, ?_⟩
      · refine (ih j rm a ?_).mp h1
        rcases h2 with ⟨rfl, -⟩ | ⟨-, -, rfl, -⟩ | ⟨-, -, -, rfl, -⟩ <;> omega
      · rcases h2 with q | ⟨a1, a2, a3, a4⟩ | ⟨a1, a2, a3, rfl, a5⟩
        · exact Or.inl q
        · exact Or.inr (Or.inl ⟨a1, a2, a3, a4⟩)
        · exact Or.inr (Or.inr ⟨a1, a2, hj, rfl, a5⟩)
    · rintro ⟨h0, j, rm, a, h1, h2⟩
      refine ⟨h0, j, rm, a, ?_, ?_⟩
      · refine (ih j rm a ?_).mpr h1
        rcases h2 with ⟨rfl, -⟩ | ⟨-, -, rfl, -⟩ | ⟨-, -, -, rfl, -⟩ <;> omega
      · rcases h2 with q | ⟨a1, a2, a3, a4⟩ | ⟨a1, a2, a3, rfl, a5⟩
        · exact Or.inl q
        · exact Or.inr (Or.inl ⟨a1, a2, a3, a4⟩)
        · exact Or.inr (Or.inr ⟨a1, a2, Nat.lt_of_lt_of_le a3 hk, rfl, a5⟩)
section MWAYS
variable {G : GG} {d : Nat} {σ : Mem}
theorem m_fillBack {f : Mem → Prop} {P : PL} {K : WK} {nc n : Nat} {F : Nat → Nat} (hW : WP σ P K nc n F) (h : ∀ τ, fr 72 72 σ τ → (∀ t, t ≤ 200 → ∀ j, j ≤ kN K → cel6 (τ.2 72 (13 * t + j)) (fun rm g => rm < pR P ∧ bH P K t j rm (pW P rm - g))) → f τ) : SW G (d + 2) M_X8_fillBack 0 [some (.ref 46), none, none, none, none] [] σ (RV f) := by
  have hV := hW.1.2.1
  have hK := hW.1.2.2.1
  have h12 := hK.1
  have h8 := hV.1
  have hseen := hW.1.2.2.2.2.2.2.2
  have wfr : ∀ τ, fr 72 72 σ τ → WP τ P K nc n F := fun τ hf => WP_fr hW (fr_wide hf (by omega) (by omega))
  have inner : ∀ t, t < 200 → ∀ z, (∀ τ o4, fr 72 72 σ τ → (∀ t', t ≤ t' → t' ≤ 200 → ∀ j, j ≤ kN K → cel6 (τ.2 72 (13 * t' + j)) (fun rm g => rm < pR P ∧ bH P K t' j rm (pW P rm - g))) → SW G (d + 2) M_X8_fillBack 137 [some (.ref 46), some (.long z), none, some (.int (nI t)), o4] [] τ (RV f)) → ∀ (q s : Nat), q = kN K + 1 - s → s ≤ kN K + 1 → ∀ τ, fr 72 72 σ τ → (∀ t', t < t' → t' ≤ 200 → ∀ j, j ≤ kN K → cel6 (τ.2 72 (13 * t' + j)) (fun rm g => rm < pR P ∧ bH P K t' j rm (pW P rm - g))) → (∀ j, j < s → cel6 (τ.2 72 (13 * t + j)) (fun rm g => rm < pR P ∧ bH P K t j rm (pW P rm - g))) → SW G (d + 2) M_X8_fillBack 84 [some (.ref 46), some (.long z), none, some (.int (nI t)), some (.int (nI s))] [] τ (RV f) := by
    intro t ht z hout q
    induction q with
    | zero =>
      intro s hq hs τ hf hA hB
      obtain rfl : s = kN K + 1 := by omega
      refine sw_iload dX8_fillBack_84 rfl ?_
      refine sw_aloadn dX8_fillBack_86 rfl ?_
      refine sw_getI dX8_fillBack_87 fs_X8_235 o46 ?_
      rw [(wfr τ hf).2]
      refine sw_icmp_gt (tgt := 137) dX8_fillBack_90 (by decide) (fun h90 => ?_) (fun h90 => ?_)
      · skip
        refine hout τ _ hf (fun t' a1 a2 j hj => ?_)
        by_cases e : t' = t
        · subst e; exact hB j (by omega)
        · exact hA t' (by omega) a2 j hj
      · exact absurd ((nI_lt (by omega) (by omega))) h90
    | succ q ih =>
      intro s hq hs τ hf hA hB
      have hWτ := wfr τ hf
      have hs' : s ≤ kN K := by omega
      have fin : ∀ v, cel6 v (fun rm g => rm < pR P ∧ bH P K t s rm (pW P rm - g)) → SW G (d + 2) M_X8_fillBack 131 [some (.ref 46), some (.long z), none, some (.int (nI t)), some (.int (nI s))] [] (setJ τ 72 (13 * t + s) v) (RV f) := by
        intro v hv
        refine sx_iinc (nI (s + 1)) dX8_fillBack_131 rfl (nI_inc _) ?_
        refine sw_goto (tgt := 84) dX8_fillBack_134 (by decide) ?_
        refine ih (s + 1) (by omega) (by omega) _ (fr_J hf (by omega)) (fun t' a1 a2 j hj => ?_) (fun j hj => ?_)
        · rw [setJ_at, updL_ne _ _ (by omega)]; exact hA t' a1 a2 j hj
        · rw [setJ_at]
          by_cases e : j = s
          · subst e; rw [updL_same]; exact hv
          · rw [updL_ne _ _ (by omega)]; exact hB j (by omega)
      have key : ∀ z2 : Int64, (cel6 z2 (fun rm g => rm < pR P ∧ ∃ j' rm' a', stp P K t s rm (pW P rm - g) j' rm' a' ∧ bH P K (t + 1) j' rm' a')) → ∀ w : Int64, (∀ rm g, rm < 8 → g < 6 → (qb w rm g = true ↔ (0 < t → kS K (t - 1) rm))) → cel6 (z2 &&& w) (fun rm g => rm < pR P ∧ bH P K t s rm (pW P rm - g)) := fun z2 hz2 w hw => cel6_congr (cel6_and hz2 hw) (fun rm g _ _ => by rw [bH_s ht, and_assoc])
      refine sw_iload dX8_fillBack_84 rfl ?_
      refine sw_aloadn dX8_fillBack_86 rfl ?_
      refine sw_getI dX8_fillBack_87 fs_X8_235 o46 ?_
      rw [hWτ.2]
      refine sw_icmp_gt (tgt := 137) dX8_fillBack_90 (by decide) (fun h90 => ?_) (fun h90 => ?_)
      · exact absurd h90 ((by rw [nI_lt' (by omega) (by omega)]; omega))
      · skip
        refine sw_aloadn dX8_fillBack_93 rfl ?_
        refine sw_getR dX8_fillBack_94 fs_X8_95 o46 r46_42 ?_
        refine sx_bipush (v := nI 13) dX8_fillBack_97 (by decide) ?_
        refine sw_iloadn dX8_fillBack_99 rfl ?_
        refine sw_imul dX8_fillBack_100 ?_
        refine sw_iload dX8_fillBack_101 rfl ?_
        refine sw_iadd dX8_fillBack_103 ?_
        refine sw_topI (y := nI (13 * t + s)) (by rw [nI_mul, nI_add]) ?_
        refine sw_aloadn dX8_fillBack_104 rfl ?_
        refine sw_iloadn dX8_fillBack_105 rfl ?_
        refine sw_iload dX8_fillBack_106 rfl ?_
        refine sx_invJ2 dX8_fillBack_108 mk_X8_ahead vk_X8_ahead lk_X8_282 o46 (Nat.le_of_ble_eq_true rfl) (Nat.le_of_ble_eq_true rfl) ?_
        refine m_ahead (H := bH P K (t + 1)) hWτ ht hs' (hA (t + 1) (by omega) (by omega)) (fun z2 hz2 => ?_)
        refine sw_iloadn dX8_fillBack_111 rfl ?_
        refine sw_if_ne (tgt := 121) dX8_fillBack_112 (by decide) (fun h112 => ?_) (fun h112 => ?_)
        · skip
          refine sw_aloadn dX8_fillBack_121 rfl ?_
          refine sw_getR dX8_fillBack_122 fs_X8_85 o46 r46_39 ?_
          refine sw_iloadn dX8_fillBack_125 rfl ?_
          refine sx_iconst (v := nI 1) dX8_fillBack_126 (by decide) ?_
          refine sw_isub dX8_fillBack_127 ?_
          refine sx_lald (t - 1) dX8_fillBack_128 a69 (nI_sub (Nat.pos_of_ne_zero (fun e => h112 (congrArg nI e)))) (by omega) (by decide) ?_
          refine sw_land dX8_fillBack_129 ?_
          refine sx_last (13 * t + s) dX8_fillBack_130 a72 (rfl) (by omega) (by decide) ?_
          first
            | (have e0 : t = 0 := nI_z (by omega) h112
               exact fin _ (key _ hz2 _ (fun rm g b1 b2 => ⟨fun _ w => absurd w (by omega), fun _ => mb_m1 (by omega)⟩)))
            | (have e0 : 0 < t := Nat.pos_of_ne_zero (fun e => h112 (congrArg nI e))
               refine fin _ (key _ hz2 _ (fun rm g b1 b2 => ?_))
               rw [(hf 69 (by omega)).2, hseen (t - 1) (by omega) rm g b1 b2]
               exact ⟨fun w _ => w, fun w => w e0⟩)
        · skip
          refine sw_ldc2 dX8_fillBack_115 kl_X8_238 ?_
          refine sw_goto (tgt := 129) dX8_fillBack_118 (by decide) ?_
          refine sw_land dX8_fillBack_129 ?_
          refine sx_last (13 * t + s) dX8_fillBack_130 a72 (rfl) (by omega) (by decide) ?_
          first
            | (have e0 : t = 0 := nI_z (by omega) h112
               exact fin _ (key _ hz2 _ (fun rm g b1 b2 => ⟨fun _ w => absurd w (by omega), fun _ => mb_m1 (by omega)⟩)))
            | (have e0 : 0 < t := Nat.pos_of_ne_zero (fun e => h112 (congrArg nI e))
               refine fin _ (key _ hz2 _ (fun rm g b1 b2 => ?_))
               rw [(hf 69 (by omega)).2, hseen (t - 1) (by omega) rm g b1 b2]
               exact ⟨fun w _ => w, fun w => w e0⟩)
  have outer : ∀ (k : Nat), k ≤ 200 → ∀ z τ o4, fr 72 72 σ τ → (∀ t', k ≤ t' → t' ≤ 200 → ∀ j, j ≤ kN K → cel6 (τ.2 72 (13 * t' + j)) (fun rm g => rm < pR P ∧ bH P K t' j rm (pW P rm - g))) → SW G (d + 2) M_X8_fillBack 77 [some (.ref 46), some (.long z), none, some (.int (nI k - nI 1)), o4] [] τ (RV f) := by
    intro k
    induction k with
    | zero =>
      intro hk z τ o4 hf hA
      refine sw_iloadn dX8_fillBack_77 rfl ?_
      refine sw_if_lt (tgt := 143) dX8_fillBack_78 (by decide) (fun h78 => ?_) (fun h78 => ?_)
      · skip
        refine sx_ret0 dX8_fillBack_143 rfl ?_
        exact h τ hf (fun t' ht' j hj => hA t' (by omega) ht' j hj)
      · exact absurd ((by decide)) h78
    | succ k ih =>
      intro hk z τ o4 hf hA
      rw [show nI (k + 1) - nI 1 = nI k from nI_pred k]
      refine sw_iloadn dX8_fillBack_77 rfl ?_
      refine sw_if_lt (tgt := 143) dX8_fillBack_78 (by decide) (fun h78 => ?_) (fun h78 => ?_)
      · exact absurd h78 ((nI_pos (by omega)))
      · skip
        refine sx_iconst (v := nI 0) dX8_fillBack_81 (by decide) ?_
        refine sw_istore dX8_fillBack_82 (Nat.le_of_ble_eq_true rfl) ?_
        refine inner k (by omega) z (fun τ2 o4 f2 a2 => ?_) (kN K + 1) 0 (by omega) (by omega) τ hf (fun t' a1 a2 j hj => hA t' (by omega) a2 j hj) (fun j hj => absurd hj (by omega))
        refine sx_iinc (nI k - nI 1) dX8_fillBack_137 rfl (dec1 _) ?_
        refine sw_goto (tgt := 77) dX8_fillBack_140 (by decide) ?_
        exact ih (by omega) z τ2 _ f2 a2
  have lastRow : ∀ z, cel6 z (fun rm _ => rm < pR P) → ∀ (q s : Nat), q = kN K + 1 - s → s ≤ kN K + 1 → ∀ τ, fr 72 72 σ τ → (∀ j, j < s → cel6 (τ.2 72 (2600 + j)) (fun rm g => rm < pR P ∧ bH P K 200 j rm (pW P rm - g))) → SW G (d + 2) M_X8_fillBack 27 [some (.ref 46), some (.long z), none, some (.int (nI s)), none] [] τ (RV f) := by
    intro z hz q
    induction q with
    | zero =>
      intro s hq hs τ hf hB
      obtain rfl : s = kN K + 1 := by omega
      refine sw_iloadn dX8_fillBack_27 rfl ?_
      refine sw_aloadn dX8_fillBack_28 rfl ?_
      refine sw_getI dX8_fillBack_29 fs_X8_235 o46 ?_
      rw [(wfr τ hf).2]
      refine sw_icmp_gt (tgt := 73) dX8_fillBack_32 (by decide) (fun h32 => ?_) (fun h32 => ?_)
      · skip
        refine sx_sipush (v := nI 199) dX8_fillBack_73 (by decide) ?_
        refine sw_topI (y := nI 200 - nI 1) (by decide) ?_
        refine sw_istoren dX8_fillBack_76 (Nat.le_of_ble_eq_true rfl) ?_
        refine outer 200 (by omega) z τ _ hf (fun t' a1 a2 j hj => ?_)
        obtain rfl : t' = 200 := by omega
        exact hB j (by omega)
      · exact absurd ((nI_lt (by omega) (by omega))) h32
    | succ q ih =>
      intro s hq hs τ hf hB
      have hWτ := wfr τ hf
      have fin : ∀ v, cel6 v (fun rm g => rm < pR P ∧ bH P K 200 s rm (pW P rm - g)) → SW G (d + 2) M_X8_fillBack 67 [some (.ref 46), some (.long z), none, some (.int (nI s)), none] [] (setJ τ 72 (2600 + s) v) (RV f) := by
        intro v hv
        refine sx_iinc (nI (s + 1)) dX8_fillBack_67 rfl (nI_inc _) ?_
        refine sw_goto (tgt := 27) dX8_fillBack_70 (by decide) ?_
        refine ih (s + 1) (by omega) (by omega) _ (fr_J hf (by omega)) (fun j hj => ?_)
        rw [setJ_at]
        by_cases e : j = s
        · subst e; rw [updL_same]; exact hv
        · rw [updL_ne _ _ (by omega)]; exact hB j (by omega)
      refine sw_iloadn dX8_fillBack_27 rfl ?_
      refine sw_aloadn dX8_fillBack_28 rfl ?_
      refine sw_getI dX8_fillBack_29 fs_X8_235 o46 ?_
      rw [hWτ.2]
      refine sw_icmp_gt (tgt := 73) dX8_fillBack_32 (by decide) (fun h32 => ?_) (fun h32 => ?_)
      · exact absurd h32 ((by rw [nI_lt' (by omega) (by omega)]; omega))
      · skip
        refine sw_aloadn dX8_fillBack_35 rfl ?_
        refine sw_getR dX8_fillBack_36 fs_X8_95 o46 r46_42 ?_
        refine sx_sipush (v := nI 2600) dX8_fillBack_39 (by decide) ?_
        refine sw_iloadn dX8_fillBack_42 rfl ?_
        refine sw_iadd dX8_fillBack_43 ?_
        refine sw_topI (y := nI (2600 + s)) (nI_add _ _) ?_
        refine sw_iloadn dX8_fillBack_44 rfl ?_
        refine sw_aloadn dX8_fillBack_45 rfl ?_
        refine sw_getI dX8_fillBack_46 fs_X8_235 o46 ?_
        rw [hWτ.2]
        refine sw_icmp_ne (tgt := 65) dX8_fillBack_49 (by decide) (fun h49 => ?_) (fun h49 => ?_)
        · skip
          refine sx_lconst (v := 0) dX8_fillBack_65 (by decide) ?_
          refine sx_last (2600 + s) dX8_fillBack_66 a72 (rfl) (by omega) (by decide) ?_
          first
            | (have e : ¬ s = kN K := fun e => h49 (congrArg nI e)
               exact fin _ (cel6_0 (fun rm g _ _ w => e w.2.2)))
            | (have e : s = kN K := nI_inj (by omega) (by omega) h49
               refine fin _ (cel6_congr (cel6_and hz (fun rm g b1 b2 => ?_)) (fun rm g _ _ => (and_congr Iff.rfl (show kS K 199 rm ↔ hop P K (199 - 199) s rm (pW P rm - g) from ⟨fun w => ⟨w, e⟩, fun w => w.1⟩))))
               rw [(hf 69 (by omega)).2]
               exact hseen 199 (by omega) rm g b1 b2)
        · skip
          refine sw_lloadn dX8_fillBack_52 rfl ?_
          refine sw_aloadn dX8_fillBack_53 rfl ?_
          refine sw_getR dX8_fillBack_54 fs_X8_85 o46 r46_39 ?_
          refine sx_sipush (v := nI 199) dX8_fillBack_57 (by decide) ?_
          refine sx_lald (199) dX8_fillBack_60 a69 (rfl) (by omega) (by decide) ?_
          refine sw_land dX8_fillBack_61 ?_
          refine sw_goto (tgt := 66) dX8_fillBack_62 (by decide) ?_
          refine sx_last (2600 + s) dX8_fillBack_66 a72 (rfl) (by omega) (by decide) ?_
          first
            | (have e : ¬ s = kN K := fun e => h49 (congrArg nI e)
               exact fin _ (cel6_0 (fun rm g _ _ w => e w.2.2)))
            | (have e : s = kN K := nI_inj (by omega) (by omega) h49
               refine fin _ (cel6_congr (cel6_and hz (fun rm g b1 b2 => ?_)) (fun rm g _ _ => (and_congr Iff.rfl (show kS K 199 rm ↔ hop P K (199 - 199) s rm (pW P rm - g) from ⟨fun w => ⟨w, e⟩, fun w => w.1⟩))))
               rw [(hf 69 (by omega)).2]
               exact hseen 199 (by omega) rm g b1 b2)
  have allRooms : ∀ (q k : Nat), q = pR P - k → k ≤ pR P → ∀ z, cel6 z (fun rm _ => rm < k) → SW G (d + 2) M_X8_fillBack 4 [some (.ref 46), some (.long z), none, some (.int (nI k)), none] [] σ (RV f) := by
    intro q
    induction q with
    | zero =>
      intro k hq hk z hz
      obtain rfl : k = pR P := by omega
      refine sw_iloadn dX8_fillBack_4 rfl ?_
      refine sw_aloadn dX8_fillBack_5 rfl ?_
      refine sw_getI dX8_fillBack_6 fs_X8_198 o46 ?_
      rw [hW.1.1.1]
      refine sw_icmp_ge (tgt := 25) dX8_fillBack_9 (by decide) (fun h9 => ?_) (fun h9 => ?_)
      · skip
        refine sx_iconst (v := nI 0) dX8_fillBack_25 (by decide) ?_
        refine sw_istoren dX8_fillBack_26 (Nat.le_of_ble_eq_true rfl) ?_
        exact lastRow z hz (kN K + 1) 0 (by omega) (by omega) σ fr_rf (fun j hj => absurd hj (by omega))
      · exact absurd ((nI_le (Nat.le_refl _) (by omega))) h9
    | succ q ih =>
      intro k hq hk z hz
      refine sw_iloadn dX8_fillBack_4 rfl ?_
      refine sw_aloadn dX8_fillBack_5 rfl ?_
      refine sw_getI dX8_fillBack_6 fs_X8_198 o46 ?_
      rw [hW.1.1.1]
      refine sw_icmp_ge (tgt := 25) dX8_fillBack_9 (by decide) (fun h9 => ?_) (fun h9 => ?_)
      · exact absurd h9 ((by rw [nI_le' (by omega) (by omega)]; omega))
      · skip
        refine sw_lloadn dX8_fillBack_12 rfl ?_
        refine sw_iloadn dX8_fillBack_13 rfl ?_
        refine sx_insJ1 dX8_fillBack_14 mk_X8_states sk_X8_states lk_X8_249 (Nat.le_of_ble_eq_true rfl) (Nat.le_of_ble_eq_true rfl) ?_
        refine m_states (show k < 8 by omega) (fun z2 hz2 => ?_)
        refine sw_lor dX8_fillBack_17 ?_
        refine sw_lstoren dX8_fillBack_18 (Nat.le_of_ble_eq_true rfl) ?_
        refine sx_iinc (nI (k + 1)) dX8_fillBack_19 rfl (nI_inc _) ?_
        refine sw_goto (tgt := 4) dX8_fillBack_22 (by decide) ?_
        refine ih (k + 1) (by omega) (by omega) _ (cel6_congr (cel6_or hz hz2) (fun rm g _ _ => ?_))
        omega
  refine sx_lconst (v := 0) dX8_fillBack_0 (by decide) ?_
  refine sw_lstoren dX8_fillBack_1 (Nat.le_of_ble_eq_true rfl) ?_
  refine sx_iconst (v := nI 0) dX8_fillBack_2 (by decide) ?_
  refine sw_istoren dX8_fillBack_3 (Nat.le_of_ble_eq_true rfl) ?_
  exact allRooms (pR P) 0 (by omega) (by omega) _ (cel6_0 (fun rm g _ _ w => absurd w (by omega)))
theorem st_ne0 {x y : Int64} {X : Nat → Nat → Prop} {room : Nat} (hr : room < 8) (hx : cel6 x X) (hy : cel6 y (fun rm _ => rm = room)) : ¬ (x &&& y) = 0 ↔ ∃ g, g < 6 ∧ X room g := by
  rw [cel6_ne0 (cel6_and hx hy.1)]
  constructor
  · rintro ⟨rm, g, h1, h2, h3, rfl⟩; exact ⟨g, h2, h3⟩
  · rintro ⟨g, h2, h3⟩; exact ⟨room, g, hr, h2, h3, rfl⟩
theorem m_leastRoom {f : Int32 → Mem → Prop} {P : PL} {K : WK} {nc n : Nat} {F : Nat → Nat} {Y : Nat → Nat → Nat → Prop} (hW : WP σ P K nc n F) (hS : ∀ j, j ≤ kN K → cel6 (σ.2 73 j) (Y j)) (k1 : ∀ r, r < pR P → (∃ j g, j ≤ kN K ∧ g < 6 ∧ Y j r g) → (∀ r', r' < r → ¬ ∃ j g, j ≤ kN K ∧ g < 6 ∧ Y j r' g) → f (nI r) σ) (k0 : (∀ r, r < pR P → ¬ ∃ j g, j ≤ kN K ∧ g < 6 ∧ Y j r g) → f (-1) σ) : SW G (d + 1) M_X8_leastRoom 0 [some (.ref 46), none, none] [] σ (RI f) := by
  have hV := hW.1.2.1
  have hK := hW.1.2.2.1
  have h12 := hK.1
  have h8 := hV.1
  have outer : ∀ (q r : Nat), q = pR P - r → r ≤ pR P → (∀ r', r' < r → ¬ ∃ j g, j ≤ kN K ∧ g < 6 ∧ Y j r' g) → ∀ o2, SW G (d + 1) M_X8_leastRoom 2 [some (.ref 46), some (.int (nI r)), o2] [] σ (RI f) := by
    intro q
    induction q with
    | zero =>
      intro r hq hr hno o2
      obtain rfl : r = pR P := by omega
      refine sw_iloadn dX8_leastRoom_2 rfl ?_
      refine sw_aloadn dX8_leastRoom_3 rfl ?_
      refine sw_getI dX8_leastRoom_4 fs_X8_198 o46 ?_
      rw [hW.1.1.1]
      refine sw_icmp_ge (tgt := 50) dX8_leastRoom_7 (by decide) (fun h7 => ?_) (fun h7 => ?_)
      · skip
        refine sx_iconst (v := (-1)) dX8_leastRoom_50 (by decide) ?_
        refine sx_reti dX8_leastRoom_51 rfl ?_
        exact k0 hno
      · exact absurd ((nI_le (Nat.le_refl _) (by omega))) h7
    | succ q ih =>
      intro r hq hr hno o2
      have inner : ∀ (p s : Nat), p = kN K + 1 - s → s ≤ kN K + 1 → (∀ j, j < s → ¬ ∃ g, g < 6 ∧ Y j r g) → SW G (d + 1) M_X8_leastRoom 12 [some (.ref 46), some (.int (nI r)), some (.int (nI s))] [] σ (RI f) := by
        intro p
        induction p with
        | zero =>
          intro s hp hs hn
          obtain rfl : s = kN K + 1 := by omega
          refine sw_iloadn dX8_leastRoom_12 rfl ?_
          refine sw_aloadn dX8_leastRoom_13 rfl ?_
          refine sw_getI dX8_leastRoom_14 fs_X8_235 o46 ?_
          rw [hW.2]
          refine sw_icmp_gt (tgt := 44) dX8_leastRoom_17 (by decide) (fun h17 => ?_) (fun h17 => ?_)
          · skip
            refine sx_iinc (nI (r + 1)) dX8_leastRoom_44 rfl (nI_inc _) ?_
            refine sw_goto (tgt := 2) dX8_leastRoom_47 (by decide) ?_
            refine ih (r + 1) (by omega) (by omega) (fun r' hr' => ?_) _
            by_cases e : r' = r
            · subst e; rintro ⟨j, g, b1, b2, b3⟩; exact hn j (by omega) ⟨g, b2, b3⟩
            · exact hno r' (by omega)
          · exact absurd ((nI_lt (by omega) (by omega))) h17
        | succ p ihp =>
          intro s hp hs hn
          refine sw_iloadn dX8_leastRoom_12 rfl ?_
          refine sw_aloadn dX8_leastRoom_13 rfl ?_
          refine sw_getI dX8_leastRoom_14 fs_X8_235 o46 ?_
          rw [hW.2]
          refine sw_icmp_gt (tgt := 44) dX8_leastRoom_17 (by decide) (fun h17 => ?_) (fun h17 => ?_)
          · exact absurd h17 ((by rw [nI_lt' (by omega) (by omega)]; omega))
          · skip
            refine sw_aloadn dX8_leastRoom_20 rfl ?_
            refine sw_getR dX8_leastRoom_21 fs_X8_98 o46 r46_43 ?_
            refine sw_iloadn dX8_leastRoom_24 rfl ?_
            refine sx_lald (s) dX8_leastRoom_25 a73 (rfl) (by omega) (by decide) ?_
            refine sw_iloadn dX8_leastRoom_26 rfl ?_
            refine sx_insJ1 dX8_leastRoom_27 mk_X8_states sk_X8_states lk_X8_249 (Nat.le_of_ble_eq_true rfl) (Nat.le_of_ble_eq_true rfl) ?_
            refine m_states (show r < 8 by omega) (fun z hz => ?_)
            refine sw_land dX8_leastRoom_30 ?_
            refine sx_lconst (v := 0) dX8_leastRoom_31 (by decide) ?_
            refine sw_lc_eq (tgt := 38) dX8_leastRoom_32 dX8_leastRoom_33 (by decide) (fun h32 => ?_) (fun h32 => ?_)
            · skip
              refine sx_iinc (nI (s + 1)) dX8_leastRoom_38 rfl (nI_inc _) ?_
              refine sw_goto (tgt := 12) dX8_leastRoom_41 (by decide) ?_
              refine ihp (s + 1) (by omega) (by omega) (fun j hj => ?_)
              by_cases e : j = s
              · subst e; exact fun w => absurd ((st_ne0 (show r < 8 by omega) (hS j (by omega)) hz).mpr w) (fun q => q h32)
              · exact hn j (by omega)
            · skip
              refine sw_iloadn dX8_leastRoom_36 rfl ?_
              refine sx_reti dX8_leastRoom_37 rfl ?_
              obtain ⟨g, g1, g2⟩ := (st_ne0 (show r < 8 by omega) (hS s (by omega)) hz).mp h32
              exact k1 r (by omega) ⟨s, g, by omega, g1, g2⟩ hno
      refine sw_iloadn dX8_leastRoom_2 rfl ?_
      refine sw_aloadn dX8_leastRoom_3 rfl ?_
      refine sw_getI dX8_leastRoom_4 fs_X8_198 o46 ?_
      rw [hW.1.1.1]
      refine sw_icmp_ge (tgt := 50) dX8_leastRoom_7 (by decide) (fun h7 => ?_) (fun h7 => ?_)
      · exact absurd h7 ((by rw [nI_le' (by omega) (by omega)]; omega))
      · skip
        refine sx_iconst (v := nI 0) dX8_leastRoom_10 (by decide) ?_
        refine sw_istoren dX8_leastRoom_11 (Nat.le_of_ble_eq_true rfl) ?_
        exact inner (kN K + 1) 0 (by omega) (by omega) (fun j hj => absurd hj (by omega))
  refine sx_iconst (v := nI 0) dX8_leastRoom_0 (by decide) ?_
  refine sw_istoren dX8_leastRoom_1 (Nat.le_of_ble_eq_true rfl) ?_
  exact outer (pR P) 0 (by omega) (by omega) (fun r' hr' => absurd hr' (by omega)) _
theorem m_isWalked {f : Int32 → Mem → Prop} {P : PL} {K : WK} {nc n k : Nat} {F : Nat → Nat} (hW : WP σ P K nc n F) (hR : 0 < pR P) (hk : k ≤ kN K) (k1 : wlk P K k → ∀ τ, fr 73 74 σ τ → f (nI 1) τ) (k0 : ¬ wlk P K k → ∀ τ, fr 73 74 σ τ → f (nI 0) τ) : SW G (d + 2) M_X8_isWalked 0 [some (.ref 46), some (.int (nI k)), none] [] σ (RI f) := by
  have hV := hW.1.2.1
  have hWt := WM_trn hW.1 hk
  have hK := hWt.2.2.1
  have h12 := hK.1
  have h8 := hV.1
  have h12' : k ≤ 12 := h12
  have loop : ∀ (q t : Nat), q = 200 - t → t ≤ 200 → ∀ τ, fr 73 74 σ τ → (∀ j, j ≤ k → cel6 (τ.2 73 j) (arch P (trn K k) t j)) → SW G (d + 2) M_X8_isWalked 7 [some (.ref 46), some (.int (nI k)), some (.int (nI t))] [] τ (RI f) := by
    intro q
    induction q with
    | zero =>
      intro t hq ht τ hf hS
      obtain rfl : t = 200 := by omega
      have key : ¬ τ.2 73 k = 0 ↔ wlk P K k := by
        rw [cel6_ne0 (hS k (Nat.le_refl _))]
        constructor
        · rintro ⟨rm, g, b1, b2, b3⟩
          exact ⟨rm, pW P rm - g, (rch_trn hk _ _ _ _ (Nat.le_refl _)).mpr ((arch_rch hV hK hR _ _ _ _).mpr ⟨g, b2, b3, rfl⟩)⟩
        · rintro ⟨rm, a, b⟩
          obtain ⟨g, b1, b2, -⟩ := (arch_rch hV hK hR _ _ _ _).mp ((rch_trn hk _ _ _ _ (Nat.le_refl _)).mp b)
          exact ⟨rm, g, by have := (arch_in hV hK hR _ _ _ _ b2).2.1; omega, b1, b2⟩
      refine sw_iloadn dX8_isWalked_7 rfl ?_
      refine sx_sipush (v := nI 200) dX8_isWalked_8 (by decide) ?_
      refine sw_icmp_ge (tgt := 26) dX8_isWalked_11 (by decide) (fun h11 => ?_) (fun h11 => ?_)
      · skip
        refine sw_aloadn dX8_isWalked_26 rfl ?_
        refine sw_getR dX8_isWalked_27 fs_X8_98 o46 r46_43 ?_
        refine sw_iloadn dX8_isWalked_30 rfl ?_
        refine sx_lald (k) dX8_isWalked_31 a73 (rfl) (by omega) (by decide) ?_
        refine sx_lconst (v := 0) dX8_isWalked_32 (by decide) ?_
        refine sw_lc_eq (tgt := 41) dX8_isWalked_33 dX8_isWalked_34 (by decide) (fun h33 => ?_) (fun h33 => ?_)
        · skip
          refine sx_iconst (v := nI 0) dX8_isWalked_41 (by decide) ?_
          refine sx_retz dX8_isWalked_42 rfl (Or.inl rfl) ?_
          first
            | exact k1 (key.mp h33) τ hf
            | exact k0 (fun w => absurd h33 (key.mpr w)) τ hf
        · skip
          refine sx_iconst (v := nI 1) dX8_isWalked_37 (by decide) ?_
          refine sw_goto (tgt := 42) dX8_isWalked_38 (by decide) ?_
          refine sx_retz dX8_isWalked_42 rfl (Or.inr rfl) ?_
          first
            | exact k1 (key.mp h33) τ hf
            | exact k0 (fun w => absurd h33 (key.mpr w)) τ hf
      · exact absurd ((by decide)) h11
    | succ q ih =>
      intro t hq ht τ hf hS
      have hWτ : WM τ P (trn K k) nc n F := WM_fr hWt (fun c h1 h2 => (hf c (by omega)).1) (hf 69 (by omega)).2
      refine sw_iloadn dX8_isWalked_7 rfl ?_
      refine sx_sipush (v := nI 200) dX8_isWalked_8 (by decide) ?_
      refine sw_icmp_ge (tgt := 26) dX8_isWalked_11 (by decide) (fun h11 => ?_) (fun h11 => ?_)
      · exact absurd h11 ((by rw [nI_le' (by omega) (by omega)]; omega))
      · skip
        refine sw_aloadn dX8_isWalked_14 rfl ?_
        refine sw_iloadn dX8_isWalked_15 rfl ?_
        refine sw_iloadn dX8_isWalked_16 rfl ?_
        refine sx_invV2 dX8_isWalked_17 mk_X8_goes vk_X8_goes lk_X8_278 o46 (Nat.le_of_ble_eq_true rfl) (Nat.le_of_ble_eq_true rfl) ?_
        refine m_goes (K := trn K k) (X := arch P (trn K k) t) hWτ (show t < 200 by omega) (fun j rm g w => (arch_in hV hK hR _ _ _ _ w).2.1) hS (fun τ' hf' hS' => ?_)
        refine sx_iinc (nI (t + 1)) dX8_isWalked_20 rfl (nI_inc _) ?_
        refine sw_goto (tgt := 7) dX8_isWalked_23 (by decide) ?_
        exact ih (t + 1) (by omega) (by omega) τ' (fr_tr hf hf') hS'
  refine sw_aloadn dX8_isWalked_0 rfl ?_
  refine sw_iloadn dX8_isWalked_1 rfl ?_
  refine sx_invV1 dX8_isWalked_2 mk_X8_begins vk_X8_begins lk_X8_275 o46 (Nat.le_of_ble_eq_true rfl) (Nat.le_of_ble_eq_true rfl) ?_
  refine m_begins h12' (fun τ hf hS => ?_)
  refine sx_iconst (v := nI 0) dX8_isWalked_5 (by decide) ?_
  refine sw_istoren dX8_isWalked_6 (Nat.le_of_ble_eq_true rfl) ?_
  exact loop 200 0 (by omega) (by omega) τ (fr_wide hf (by omega) (by omega)) hS
end MWAYS
