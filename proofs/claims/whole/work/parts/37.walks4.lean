/-! ===== Walks: where a card breaks; the first way ===== -/
def wlk (P : PL) (K : WK) (k : Nat) : Prop := ∃ rm a, rch P K 200 k rm a
theorem rch_on {P : PL} {K : WK} (hS : ∀ t rm, kS K t rm) {j : Nat} : ∀ (n t rm a : Nat), rch P K t j rm a → ∃ rm a, rch P K (t + n) j rm a
  | 0, t, rm, a, h => ⟨rm, a, h⟩
  | n + 1, t, rm, a, h => by
    have := rch_on hS n (t + 1) rm (a - 1) ⟨hS t rm, j, rm, a, h, Or.inl ⟨rfl, rfl, rfl⟩⟩
    rw [show t + 1 + n = t + (n + 1) by omega] at this
    exact this
section WALKS4
variable {G : GG} {d : Nat} {σ : Mem}
theorem row_ne0 {P : PL} (hV : PV P) {K : WK} (hK : KV P K) (hR0 : 0 < pR P) {x : Int64} {T j : Nat} (h : celH x (rch P K T j)) : ¬ x = 0 ↔ ∃ rm a, rch P K T j rm a := by
  have h8 := hV.1
  rw [mb_ne0]
  constructor
  · rintro ⟨i, hi, q⟩
    by_cases e : i < 40
    · have := (h.1 (i % 8) (i / 8) (by omega) (by omega)).mp (by rw [pb, show 8 * (i / 8) + i % 8 = i by omega]; exact q)
      exact ⟨_, _, this⟩
    · rw [h.2 i (by omega)] at q; cases q
  · rintro ⟨rm, a, q⟩
    have hi := rch_in hV hK hR0 _ _ _ _ q
    exact ⟨8 * a + rm, by omega, (h.1 rm a (by omega) hi.2.2).mpr q⟩
theorem c_findBreak {f : Int32 → Mem → Prop} {P : PL} {K : WK} (hW : WT σ P K) (hR0 : 0 < pR P) (hS : ∀ t rm, kS K t rm) (k1 : ∀ s, s < kN K → wlk P K s → ¬ wlk P K (s + 1) → ∀ τ, fr 45 45 σ τ → f (σ.1 36 s) τ) (k0 : wlk P K (kN K) → ∀ τ, fr 45 45 σ τ → f (-1) τ) : SW G (d + 2) M_X6_findBreak 0 [some (.ref 35), none] [] σ (RI f) := by
  have hV := hW.2.1
  have hK := hW.2.2.1
  have h12 := hK.1
  have wt : ∀ τ, fr 45 45 σ τ → WT τ P K := fun τ hf => WT_fr hf (by omega) hW
  have up : ∀ T, T ≤ 200 → ∀ j, (∃ rm a, rch P K T j rm a) → wlk P K j := fun T hT j ⟨rm, a, q⟩ => by
    have := rch_on hS (200 - T) T rm a q
    rw [show T + (200 - T) = 200 by omega] at this
    exact this
  have w0 : wlk P K 0 := up 0 (by omega) 0 ⟨0, 0, rfl, rfl, rfl⟩
  have fin : ∀ T, T ≤ 200 → ∀ τ, fr 45 45 σ τ → rowH K (τ.2 45) 0 (rch P K T) → (τ.2 45 (kN K) = 0 → T = 200) → ∀ s, s ≤ kN K → (τ.2 45 (kN K) = 0 → ∀ j, s ≤ j → j ≤ kN K → ¬ wlk P K j) → SW G (d + 2) M_X6_findBreak 45 [some (.ref 35), some (.int (nI s - nI 1))] [] τ (RI f) := by
    intro T hT τ hf hrow hz s
    have wτ := wt τ hf
    have cel : ∀ j, j ≤ kN K → celH (τ.2 45 j) (rch P K T j) := fun j hj => by have := hrow j hj; rw [Nat.zero_add] at this; exact this
    induction s with
    | zero =>
      intro _ hno
      have hnz : ¬ τ.2 45 (kN K) = 0 := fun e => hno e 0 (Nat.le_refl _) (Nat.zero_le _) w0
      refine sw_iloadn dX6_findBreak_45 rfl ?_
      refine sw_if_lt (tgt := 87) dX6_findBreak_46 (by decide) (fun h46 => ?_) (fun h46 => ?_)
      · skip
        refine sx_iconst (v := (-1)) dX6_findBreak_87 (by decide) ?_
        refine sx_reti dX6_findBreak_88 rfl ?_
        exact k0 (up T hT _ ((row_ne0 hV hK hR0 (cel _ (Nat.le_refl _))).mp hnz)) τ hf
      · exact absurd ((by decide)) h46
    | succ s ih =>
      intro hs hno
      rw [show nI (s + 1) - nI 1 = nI s from nI_pred s]
      have hc := row_ne0 hV hK hR0 (cel s (by omega))
      refine sw_iloadn dX6_findBreak_45 rfl ?_
      refine sw_if_lt (tgt := 87) dX6_findBreak_46 (by decide) (fun h46 => ?_) (fun h46 => ?_)
      · exact absurd h46 ((nI_pos (by omega)))
      · skip
        refine sw_aloadn dX6_findBreak_49 rfl ?_
        refine sw_getR dX6_findBreak_50 fs_X6_44 o35 r35_13 ?_
        refine sw_aloadn dX6_findBreak_53 rfl ?_
        refine sw_getI dX6_findBreak_54 fs_X6_67 o35 ?_
        rw [wτ.2.2.2.1]
        refine sx_lald (kN K) dX6_findBreak_57 a45 (rfl) (by omega) (by decide) ?_
        refine sx_lconst (v := 0) dX6_findBreak_58 (by decide) ?_
        refine sw_lc_ne (tgt := 87) dX6_findBreak_59 dX6_findBreak_60 (by decide) (fun h59 => ?_) (fun h59 => ?_)
        · skip
          refine sx_iconst (v := (-1)) dX6_findBreak_87 (by decide) ?_
          refine sx_reti dX6_findBreak_88 rfl ?_
          exact k0 (up T hT _ ((row_ne0 hV hK hR0 (cel _ (Nat.le_refl _))).mp h59)) τ hf
        · skip
          refine sw_aloadn dX6_findBreak_63 rfl ?_
          refine sw_getR dX6_findBreak_64 fs_X6_44 o35 r35_13 ?_
          refine sw_iloadn dX6_findBreak_67 rfl ?_
          refine sx_lald (s) dX6_findBreak_68 a45 (rfl) (by omega) (by decide) ?_
          refine sx_lconst (v := 0) dX6_findBreak_69 (by decide) ?_
          refine sw_lc_eq (tgt := 81) dX6_findBreak_70 dX6_findBreak_71 (by decide) (fun h70 => ?_) (fun h70 => ?_)
          · skip
            refine sx_iinc (nI s - nI 1) dX6_findBreak_81 rfl (dec1 _) ?_
            refine sw_goto (tgt := 45) dX6_findBreak_84 (by decide) ?_
            refine ih (by omega) (fun e j h1 h2 => ?_)
            by_cases ej : j = s
            · subst ej
              intro ⟨rm, a, q⟩
              rw [hz e] at hc
              exact hc.mpr ⟨rm, a, q⟩ h70
            · exact hno e j (by omega) h2
          · skip
            refine sw_aloadn dX6_findBreak_74 rfl ?_
            refine sw_getR dX6_findBreak_75 fs_X6_9 o35 r35_3 ?_
            refine sw_iloadn dX6_findBreak_78 rfl ?_
            refine sx_iald (s) dX6_findBreak_79 a36 (rfl) (by omega) (by decide) ?_
            refine sx_reti dX6_findBreak_80 rfl ?_
            rw [(hf 36 (by omega)).1]
            exact k1 s (by omega) (up T hT _ (hc.mp h70)) (hno h59 (s + 1) (Nat.le_refl _) (by omega)) τ hf
  have c38 : ∀ T, T ≤ 200 → ∀ τ o, fr 45 45 σ τ → rowH K (τ.2 45) 0 (rch P K T) → (τ.2 45 (kN K) = 0 → T = 200) → SW G (d + 2) M_X6_findBreak 38 [some (.ref 35), o] [] τ (RI f) := by
    intro T hT τ o hf hrow hz
    have wτ := wt τ hf
    have cel : celH (τ.2 45 (kN K)) (rch P K T (kN K)) := by have := hrow _ (Nat.le_refl _); rw [Nat.zero_add] at this; exact this
    refine sw_aloadn dX6_findBreak_38 rfl ?_
    refine sw_getI dX6_findBreak_39 fs_X6_67 o35 ?_
    rw [wτ.2.2.2.1]
    refine sx_iconst (v := nI 1) dX6_findBreak_42 (by decide) ?_
    refine sw_isub dX6_findBreak_43 ?_
    refine sw_istoren dX6_findBreak_44 (Nat.le_of_ble_eq_true rfl) ?_
    refine fin T hT τ hf hrow hz (kN K) (Nat.le_refl _) (fun e j h1 h2 ⟨rm, a, q⟩ => ?_)
    obtain rfl : j = kN K := by omega
    rw [hz e] at cel
    exact (row_ne0 hV hK hR0 cel).mpr ⟨rm, a, q⟩ e
  have loop : ∀ (m t : Nat), m = 200 - t → t ≤ 200 → ∀ τ, fr 45 45 σ τ → rowH K (τ.2 45) 0 (rch P K t) → SW G (d + 2) M_X6_findBreak 6 [some (.ref 35), some (.int (nI t))] [] τ (RI f) := by
    intro m
    induction m with
    | zero =>
      intro t hm ht τ hf hrow
      obtain rfl : t = 200 := by omega
      refine sw_iloadn dX6_findBreak_6 rfl ?_
      refine sx_sipush (v := nI 200) dX6_findBreak_7 (by decide) ?_
      refine sw_icmp_ge (tgt := 38) dX6_findBreak_10 (by decide) (fun h10 => ?_) (fun h10 => ?_)
      · skip
        exact c38 200 (by omega) τ _ hf hrow (fun _ => rfl)
      · exact absurd ((by decide)) h10
    | succ m ih =>
      intro t hm ht τ hf hrow
      have wτ := wt τ hf
      refine sw_iloadn dX6_findBreak_6 rfl ?_
      refine sx_sipush (v := nI 200) dX6_findBreak_7 (by decide) ?_
      refine sw_icmp_ge (tgt := 38) dX6_findBreak_10 (by decide) (fun h10 => ?_) (fun h10 => ?_)
      · exact absurd h10 ((by rw [nI_le' (by omega) (by omega)]; omega))
      · skip
        refine sw_aloadn dX6_findBreak_13 rfl ?_
        refine sw_getR dX6_findBreak_14 fs_X6_44 o35 r35_13 ?_
        refine sw_aloadn dX6_findBreak_17 rfl ?_
        refine sw_getI dX6_findBreak_18 fs_X6_67 o35 ?_
        rw [wτ.2.2.2.1]
        refine sx_lald (kN K) dX6_findBreak_21 a45 (rfl) (by omega) (by decide) ?_
        refine sx_lconst (v := 0) dX6_findBreak_22 (by decide) ?_
        refine sw_lc_ne (tgt := 38) dX6_findBreak_23 dX6_findBreak_24 (by decide) (fun h23 => ?_) (fun h23 => ?_)
        · skip
          exact c38 t (by omega) τ _ hf hrow (fun e => absurd e h23)
        · skip
          refine sw_aloadn dX6_findBreak_27 rfl ?_
          refine sw_iloadn dX6_findBreak_28 rfl ?_
          refine sx_invV1 dX6_findBreak_29 mk_X6_goOn vk_X6_goOn lk_X6_172 o35 (Nat.le_of_ble_eq_true rfl) (Nat.le_of_ble_eq_true rfl) ?_
          refine c_goOn (R := rch P K t) wτ (by omega) hrow (fun j rm a q => by have := rch_in hV hK hR0 _ _ _ _ q; have := hV.1; omega) (fun τ' hf' hrow' => ?_)
          refine sx_iinc (nI (t + 1)) dX6_findBreak_32 rfl (nI_inc _) ?_
          refine sw_goto (tgt := 6) dX6_findBreak_35 (by decide) ?_
          exact ih (t + 1) (by omega) (by omega) τ' (fr_tr hf hf') hrow'
  refine sw_aloadn dX6_findBreak_0 rfl ?_
  refine sx_invV0 dX6_findBreak_1 mk_X6_startOutside vk_X6_startOutside lk_X6_169 o35 (Nat.le_of_ble_eq_true rfl) (Nat.le_of_ble_eq_true rfl) ?_
  refine c_startOutside (K := K) h12 (fun τ hf hrow => ?_)
  refine sx_iconst (v := nI 0) dX6_findBreak_4 (by decide) ?_
  refine sw_istoren dX6_findBreak_5 (Nat.le_of_ble_eq_true rfl) ?_
  exact loop 200 0 (by omega) (by omega) τ hf hrow
theorem c_withHope {f : Int32 → Mem → Prop} {P : PL} {K : WK} {t m i0 : Nat} {x : Int64} (hW : WT σ P K) (ht : t < 200) (hi : i0 < 64) (hx : ∀ i, i < 64 → mb x i = decide (i = i0)) (h : ∀ m', m' < 8192 → (∀ j, m'.testBit j = true ↔ (j ≤ kN K ∧ m.testBit j = true ∧ mb (σ.2 44 (t * 13 + j)) i0 = true)) → f (nI m') σ) : SW G d M_X6_withHope 0 [some (.ref 35), some (.int (nI t)), some (.int (nI m)), some (.long x), none, none, none] [] σ (RI f) := by
  have h12 := hW.2.2.1.1
  have loop : ∀ (k s : Nat), k = kN K + 1 - s → s ≤ kN K + 1 → ∀ m', m' < 8192 → (∀ j, m'.testBit j = true ↔ (j < s ∧ m.testBit j = true ∧ mb (σ.2 44 (t * 13 + j)) i0 = true)) → SW G d M_X6_withHope 6 [some (.ref 35), some (.int (nI t)), some (.int (nI m)), some (.long x), none, some (.int (nI m')), some (.int (nI s))] [] σ (RI f) := by
    intro k
    induction k with
    | zero =>
      intro s hm hs m' hl hb
      obtain rfl : s = kN K + 1 := by omega
      refine sw_iload dX6_withHope_6 rfl ?_
      refine sw_aloadn dX6_withHope_8 rfl ?_
      refine sw_getI dX6_withHope_9 fs_X6_67 o35 ?_
      rw [hW.2.2.2.1]
      refine sw_icmp_gt (tgt := 58) dX6_withHope_12 (by decide) (fun h12 => ?_) (fun h12 => ?_)
      · skip
        refine sw_iload dX6_withHope_58 rfl ?_
        refine sx_reti dX6_withHope_60 rfl ?_
        exact h m' hl (fun j => (hb j).trans ⟨fun q => ⟨by omega, q.2⟩, fun q => ⟨by omega, q.2⟩⟩)
      · exact absurd ((nI_lt (by omega) (by omega))) h12
    | succ k ih =>
      intro s hm hs m' hl hb
      have ih := ih (s + 1) (by omega) (by omega)
      have ask := iu_ask m (show s < 32 by omega)
      have mm := mb_mask (x := σ.2 44 (t * 13 + s)) hi hx
      refine sw_iload dX6_withHope_6 rfl ?_
      refine sw_aloadn dX6_withHope_8 rfl ?_
      refine sw_getI dX6_withHope_9 fs_X6_67 o35 ?_
      rw [hW.2.2.2.1]
      refine sw_icmp_gt (tgt := 58) dX6_withHope_12 (by decide) (fun h12 => ?_) (fun h12 => ?_)
      · exact absurd h12 ((by rw [nI_lt' (by omega) (by omega)]; omega))
      · skip
        refine sw_iloadn dX6_withHope_15 rfl ?_
        refine sw_iload dX6_withHope_16 rfl ?_
        refine sw_iushr dX6_withHope_18 ?_
        refine sx_iconst (v := nI 1) dX6_withHope_19 (by decide) ?_
        refine sw_iand dX6_withHope_20 ?_
        refine sw_if_eq (tgt := 52) dX6_withHope_21 (by decide) (fun h21 => ?_) (fun h21 => ?_)
        · skip
          refine sx_iinc (nI (s + 1)) dX6_withHope_52 rfl (nI_inc _) ?_
          refine sw_goto (tgt := 6) dX6_withHope_55 (by decide) ?_
          first
            | (have b1 : m.testBit s = true := by rw [← Bool.not_eq_false]; exact fun q => h21 (ask.mpr q)
               have b2 := mm.mp h39
               refine ih (m' ||| 2 ^ s) (or_lt (b := 13) hl (by omega)) (fun j => ?_)
               rw [tb_or, Bool.or_eq_true, decide_eq_true_iff, hb j]
               constructor
               · rintro (q | rfl)
                 · exact ⟨by omega, q.2⟩
                 · exact ⟨by omega, b1, b2⟩
               · rintro ⟨q1, q2⟩
                 by_cases e : j = s
                 · exact Or.inr e
                 · exact Or.inl ⟨by omega, q2⟩)
            | (have b2 : ¬ mb (σ.2 44 (t * 13 + s)) i0 = true := fun q => mm.mpr q h39
               refine ih m' hl (fun j => (hb j).trans ⟨fun q => ⟨by omega, q.2⟩, fun q => ⟨?_, q.2⟩⟩)
               rcases Nat.lt_succ_iff_lt_or_eq.mp q.1 with e | e
               · exact e
               · subst e; exact absurd q.2.2 b2)
            | (have b1 := ask.mp h21
               refine ih m' hl (fun j => (hb j).trans ⟨fun q => ⟨by omega, q.2⟩, fun q => ⟨?_, q.2⟩⟩)
               rcases Nat.lt_succ_iff_lt_or_eq.mp q.1 with e | e
               · exact e
               · subst e; rw [b1] at q; exact absurd q.2.1 (by decide))
        · skip
          refine sw_aloadn dX6_withHope_24 rfl ?_
          refine sw_getR dX6_withHope_25 fs_X6_41 o35 r35_12 ?_
          refine sw_iloadn dX6_withHope_28 rfl ?_
          refine sx_bipush (v := nI 13) dX6_withHope_29 (by decide) ?_
          refine sw_imul dX6_withHope_31 ?_
          refine sw_iload dX6_withHope_32 rfl ?_
          refine sw_iadd dX6_withHope_34 ?_
          refine sx_lald (t * 13 + s) dX6_withHope_35 a44 (by rw [nI_mul, nI_add]) (by omega) (by decide) ?_
          refine sw_lloadn dX6_withHope_36 rfl ?_
          refine sw_land dX6_withHope_37 ?_
          refine sx_lconst (v := 0) dX6_withHope_38 (by decide) ?_
          refine sw_lc_eq (tgt := 52) dX6_withHope_39 dX6_withHope_40 (by decide) (fun h39 => ?_) (fun h39 => ?_)
          · skip
            refine sx_iinc (nI (s + 1)) dX6_withHope_52 rfl (nI_inc _) ?_
            refine sw_goto (tgt := 6) dX6_withHope_55 (by decide) ?_
            first
              | (have b1 : m.testBit s = true := by rw [← Bool.not_eq_false]; exact fun q => h21 (ask.mpr q)
                 have b2 := mm.mp h39
                 refine ih (m' ||| 2 ^ s) (or_lt (b := 13) hl (by omega)) (fun j => ?_)
                 rw [tb_or, Bool.or_eq_true, decide_eq_true_iff, hb j]
                 constructor
                 · rintro (q | rfl)
                   · exact ⟨by omega, q.2⟩
                   · exact ⟨by omega, b1, b2⟩
                 · rintro ⟨q1, q2⟩
                   by_cases e : j = s
                   · exact Or.inr e
                   · exact Or.inl ⟨by omega, q2⟩)
              | (have b2 : ¬ mb (σ.2 44 (t * 13 + s)) i0 = true := fun q => mm.mpr q h39
                 refine ih m' hl (fun j => (hb j).trans ⟨fun q => ⟨by omega, q.2⟩, fun q => ⟨?_, q.2⟩⟩)
                 rcases Nat.lt_succ_iff_lt_or_eq.mp q.1 with e | e
                 · exact e
                 · subst e; exact absurd q.2.2 b2)
              | (have b1 := ask.mp h21
                 refine ih m' hl (fun j => (hb j).trans ⟨fun q => ⟨by omega, q.2⟩, fun q => ⟨?_, q.2⟩⟩)
                 rcases Nat.lt_succ_iff_lt_or_eq.mp q.1 with e | e
                 · exact e
                 · subst e; rw [b1] at q; exact absurd q.2.1 (by decide))
          · skip
            refine sw_iload dX6_withHope_43 rfl ?_
            refine sx_iconst (v := nI 1) dX6_withHope_45 (by decide) ?_
            refine sw_iload dX6_withHope_46 rfl ?_
            refine sw_ishl dX6_withHope_48 ?_
            refine sw_ior dX6_withHope_49 ?_
            rw [or_st m' (show s < 31 by omega)]
            refine sw_istore dX6_withHope_50 (Nat.le_of_ble_eq_true rfl) ?_
            refine sx_iinc (nI (s + 1)) dX6_withHope_52 rfl (nI_inc _) ?_
            refine sw_goto (tgt := 6) dX6_withHope_55 (by decide) ?_
            first
              | (have b1 : m.testBit s = true := by rw [← Bool.not_eq_false]; exact fun q => h21 (ask.mpr q)
                 have b2 := mm.mp h39
                 refine ih (m' ||| 2 ^ s) (or_lt (b := 13) hl (by omega)) (fun j => ?_)
                 rw [tb_or, Bool.or_eq_true, decide_eq_true_iff, hb j]
                 constructor
                 · rintro (q | rfl)
                   · exact ⟨by omega, q.2⟩
                   · exact ⟨by omega, b1, b2⟩
                 · rintro ⟨q1, q2⟩
                   by_cases e : j = s
                   · exact Or.inr e
                   · exact Or.inl ⟨by omega, q2⟩)
              | (have b2 : ¬ mb (σ.2 44 (t * 13 + s)) i0 = true := fun q => mm.mpr q h39
                 refine ih m' hl (fun j => (hb j).trans ⟨fun q => ⟨by omega, q.2⟩, fun q => ⟨?_, q.2⟩⟩)
                 rcases Nat.lt_succ_iff_lt_or_eq.mp q.1 with e | e
                 · exact e
                 · subst e; exact absurd q.2.2 b2)
              | (have b1 := ask.mp h21
                 refine ih m' hl (fun j => (hb j).trans ⟨fun q => ⟨by omega, q.2⟩, fun q => ⟨?_, q.2⟩⟩)
                 rcases Nat.lt_succ_iff_lt_or_eq.mp q.1 with e | e
                 · exact e
                 · subst e; rw [b1] at q; exact absurd q.2.1 (by decide))
  refine sx_iconst (v := nI 0) dX6_withHope_0 (by decide) ?_
  refine sw_istore dX6_withHope_1 (Nat.le_of_ble_eq_true rfl) ?_
  refine sx_iconst (v := nI 0) dX6_withHope_3 (by decide) ?_
  refine sw_istore dX6_withHope_4 (Nat.le_of_ble_eq_true rfl) ?_
  exact loop (kN K + 1) 0 (by omega) (by omega) 0 (by omega) (fun j => by
    rw [Nat.zero_testBit]
    exact ⟨fun q => Bool.noConfusion q, fun q => absurd q.1 (by omega)⟩)
theorem c_isOpenBetween {f : Int32 → Mem → Prop} {P : PL} {K : WK} {t o a b : Nat} (hW : WT σ P K) (ho : o < 1024) (hob : ∀ dd, dd < 10 → (o.testBit dd = true ↔ kO K t dd)) (ha : a < 8) (hb : b < 8) (k1 : fre P K t a b → f (nI 1) σ) (k0 : ¬ fre P K t a b → f (nI 0) σ) : SW G d M_X6_isOpenBetween 0 [some (.ref 35), some (.int (nI o)), some (.int (nI a)), some (.int (nI b)), none] [] σ (RI f) := by
  have hP := hW.1
  have hV := hW.2.1
  have hD := hV.2.1
  have h8 := hV.1
  have loop : ∀ (m k : Nat), m = pD P - k → k ≤ pD P → (∀ dd, dd < k → ¬ (kO K t dd ∧ ((pF P dd = a ∧ pS P dd = b) ∨ (pS P dd = a ∧ pF P dd = b)))) → SW G d M_X6_isOpenBetween 3 [some (.ref 35), some (.int (nI o)), some (.int (nI a)), some (.int (nI b)), some (.int (nI k))] [] σ (RI f) := by
    intro m
    induction m with
    | zero =>
      intro k hm hk hI
      obtain rfl : k = pD P := by omega
      refine sw_iloadn dX6_isOpenBetween_3 rfl ?_
      refine sw_if_eq (tgt := 92) dX6_isOpenBetween_4 (by decide) (fun h4 => ?_) (fun h4 => ?_)
      · skip
        refine sx_iconst (v := nI 0) dX6_isOpenBetween_92 (by decide) ?_
        refine sx_retz dX6_isOpenBetween_93 rfl (Or.inl rfl) ?_
        exact k0 (fun ⟨dd, q1, q2⟩ => hI dd q1 q2)
      · skip
        refine sw_iload dX6_isOpenBetween_7 rfl ?_
        refine sw_aloadn dX6_isOpenBetween_9 rfl ?_
        refine sw_getR dX6_isOpenBetween_10 fs_X6_47 o35 r35_0 ?_
        refine sw_getI dX6_isOpenBetween_13 fs_X6_154 o2 ?_
        rw [hP.2.1]
        refine sw_icmp_ge (tgt := 92) dX6_isOpenBetween_16 (by decide) (fun h16 => ?_) (fun h16 => ?_)
        · skip
          refine sx_iconst (v := nI 0) dX6_isOpenBetween_92 (by decide) ?_
          refine sx_retz dX6_isOpenBetween_93 rfl (Or.inl rfl) ?_
          exact k0 (fun ⟨dd, q1, q2⟩ => hI dd q1 q2)
        · exact absurd ((nI_le (Nat.le_refl _) (by omega))) h16
    | succ m ih =>
      intro k hm hk hI
      have hkD : k < pD P := by omega
      obtain ⟨q1, q2, -, -⟩ := hV.2.2.2.1 k hkD
      have hbk := hob k (by omega)
      have ask := ib_ask o ho k (by omega)
      have nxt' : ¬ (kO K t k ∧ ((pF P k = a ∧ pS P k = b) ∨ (pS P k = a ∧ pF P k = b))) → SW G d M_X6_isOpenBetween 3 [some (.ref 35), some (.int (nI o)), some (.int (nI a)), some (.int (nI b)), some (.int (nI (k + 1)))] [] σ (RI f) := fun q => ih (k + 1) (by omega) (by omega) (fun dd hd => by
        rcases Nat.lt_succ_iff_lt_or_eq.mp hd with e | rfl
        · exact hI dd e
        · exact q)
      refine sw_iloadn dX6_isOpenBetween_3 rfl ?_
      refine sw_if_eq (tgt := 92) dX6_isOpenBetween_4 (by decide) (fun h4 => ?_) (fun h4 => ?_)
      · skip
        refine sx_iconst (v := nI 0) dX6_isOpenBetween_92 (by decide) ?_
        refine sx_retz dX6_isOpenBetween_93 rfl (Or.inl rfl) ?_
        refine k0 (fun ⟨dd, z1, z2, _⟩ => ?_)
        have o0 : o = 0 := nI_z (by omega) h4
        have := (hob dd (by omega)).mpr z2
        rw [o0, Nat.zero_testBit] at this
        cases this
      · skip
        refine sw_iload dX6_isOpenBetween_7 rfl ?_
        refine sw_aloadn dX6_isOpenBetween_9 rfl ?_
        refine sw_getR dX6_isOpenBetween_10 fs_X6_47 o35 r35_0 ?_
        refine sw_getI dX6_isOpenBetween_13 fs_X6_154 o2 ?_
        rw [hP.2.1]
        refine sw_icmp_ge (tgt := 92) dX6_isOpenBetween_16 (by decide) (fun h16 => ?_) (fun h16 => ?_)
        · exact absurd h16 ((by rw [nI_le' (by omega) (by omega)]; omega))
        · skip
          refine sw_iloadn dX6_isOpenBetween_19 rfl ?_
          refine sw_iload dX6_isOpenBetween_20 rfl ?_
          refine sw_iushr dX6_isOpenBetween_22 ?_
          refine sx_iconst (v := nI 1) dX6_isOpenBetween_23 (by decide) ?_
          refine sw_iand dX6_isOpenBetween_24 ?_
          refine sw_if_eq (tgt := 86) dX6_isOpenBetween_25 (by decide) (fun h25 => ?_) (fun h25 => ?_)
          · skip
            refine sx_iinc (nI (k + 1)) dX6_isOpenBetween_86 rfl (nI_inc _) ?_
            refine sw_goto (tgt := 3) dX6_isOpenBetween_89 (by decide) ?_
            first
              | exact nxt' (fun q => by
                  have := hbk.mpr q.1
                  rw [ask.mp h25] at this
                  cases this)
              | exact nxt' (fun q => q.2.elim (fun z => h39 (congrArg nI z.1)) (fun z => h67 (congrArg nI z.2)))
              | exact nxt' (fun q => q.2.elim (fun z => h39 (congrArg nI z.1)) (fun z => h81 (congrArg nI z.1)))
              | exact nxt' (fun q => q.2.elim (fun z => h53 (congrArg nI z.2)) (fun z => h67 (congrArg nI z.2)))
              | exact nxt' (fun q => q.2.elim (fun z => h53 (congrArg nI z.2)) (fun z => h81 (congrArg nI z.1)))
          · skip
            refine sw_aloadn dX6_isOpenBetween_28 rfl ?_
            refine sw_getR dX6_isOpenBetween_29 fs_X6_47 o35 r35_0 ?_
            refine sw_getR dX6_isOpenBetween_32 fs_X6_157 o2 r2_5 ?_
            refine sw_iload dX6_isOpenBetween_35 rfl ?_
            refine sx_iald (k) dX6_isOpenBetween_37 a6 (rfl) (by omega) (by decide) ?_
            rw [hP.2.2.2.1 k hkD]
            refine sw_iloadn dX6_isOpenBetween_38 rfl ?_
            refine sw_icmp_ne (tgt := 56) dX6_isOpenBetween_39 (by decide) (fun h39 => ?_) (fun h39 => ?_)
            · skip
              refine sw_aloadn dX6_isOpenBetween_56 rfl ?_
              refine sw_getR dX6_isOpenBetween_57 fs_X6_47 o35 r35_0 ?_
              refine sw_getR dX6_isOpenBetween_60 fs_X6_157 o2 r2_5 ?_
              refine sw_iload dX6_isOpenBetween_63 rfl ?_
              refine sx_iald (k) dX6_isOpenBetween_65 a6 (rfl) (by omega) (by decide) ?_
              rw [hP.2.2.2.1 k hkD]
              refine sw_iloadn dX6_isOpenBetween_66 rfl ?_
              refine sw_icmp_ne (tgt := 86) dX6_isOpenBetween_67 (by decide) (fun h67 => ?_) (fun h67 => ?_)
              · skip
                refine sx_iinc (nI (k + 1)) dX6_isOpenBetween_86 rfl (nI_inc _) ?_
                refine sw_goto (tgt := 3) dX6_isOpenBetween_89 (by decide) ?_
                first
                  | exact nxt' (fun q => by
                      have := hbk.mpr q.1
                      rw [ask.mp h25] at this
                      cases this)
                  | exact nxt' (fun q => q.2.elim (fun z => h39 (congrArg nI z.1)) (fun z => h67 (congrArg nI z.2)))
                  | exact nxt' (fun q => q.2.elim (fun z => h39 (congrArg nI z.1)) (fun z => h81 (congrArg nI z.1)))
                  | exact nxt' (fun q => q.2.elim (fun z => h53 (congrArg nI z.2)) (fun z => h67 (congrArg nI z.2)))
                  | exact nxt' (fun q => q.2.elim (fun z => h53 (congrArg nI z.2)) (fun z => h81 (congrArg nI z.1)))
              · skip
                refine sw_aloadn dX6_isOpenBetween_70 rfl ?_
                refine sw_getR dX6_isOpenBetween_71 fs_X6_47 o35 r35_0 ?_
                refine sw_getR dX6_isOpenBetween_74 fs_X6_160 o2 r2_6 ?_
                refine sw_iload dX6_isOpenBetween_77 rfl ?_
                refine sx_iald (k) dX6_isOpenBetween_79 a7 (rfl) (by omega) (by decide) ?_
                rw [hP.2.2.2.2.1 k hkD]
                refine sw_iloadn dX6_isOpenBetween_80 rfl ?_
                refine sw_icmp_ne (tgt := 86) dX6_isOpenBetween_81 (by decide) (fun h81 => ?_) (fun h81 => ?_)
                · skip
                  refine sx_iinc (nI (k + 1)) dX6_isOpenBetween_86 rfl (nI_inc _) ?_
                  refine sw_goto (tgt := 3) dX6_isOpenBetween_89 (by decide) ?_
                  first
                    | exact nxt' (fun q => by
                        have := hbk.mpr q.1
                        rw [ask.mp h25] at this
                        cases this)
                    | exact nxt' (fun q => q.2.elim (fun z => h39 (congrArg nI z.1)) (fun z => h67 (congrArg nI z.2)))
                    | exact nxt' (fun q => q.2.elim (fun z => h39 (congrArg nI z.1)) (fun z => h81 (congrArg nI z.1)))
                    | exact nxt' (fun q => q.2.elim (fun z => h53 (congrArg nI z.2)) (fun z => h67 (congrArg nI z.2)))
                    | exact nxt' (fun q => q.2.elim (fun z => h53 (congrArg nI z.2)) (fun z => h81 (congrArg nI z.1)))
                · skip
                  refine sx_iconst (v := nI 1) dX6_isOpenBetween_84 (by decide) ?_
                  refine sx_retz dX6_isOpenBetween_85 rfl (Or.inr rfl) ?_
                  have hop : kO K t k := hbk.mp (by rw [← Bool.not_eq_false]; exact fun q => h25 (ask.mpr q))
                  first
                    | exact k1 ⟨k, hkD, hop, Or.inl ⟨nI_inj (by omega) (by omega) h39, nI_inj (by omega) (by omega) h53⟩⟩
                    | exact k1 ⟨k, hkD, hop, Or.inr ⟨nI_inj (by omega) (by omega) h81, nI_inj (by omega) (by omega) h67⟩⟩
            · skip
              refine sw_aloadn dX6_isOpenBetween_42 rfl ?_
              refine sw_getR dX6_isOpenBetween_43 fs_X6_47 o35 r35_0 ?_
              refine sw_getR dX6_isOpenBetween_46 fs_X6_160 o2 r2_6 ?_
              refine sw_iload dX6_isOpenBetween_49 rfl ?_
              refine sx_iald (k) dX6_isOpenBetween_51 a7 (rfl) (by omega) (by decide) ?_
              rw [hP.2.2.2.2.1 k hkD]
              refine sw_iloadn dX6_isOpenBetween_52 rfl ?_
              refine sw_icmp_eq (tgt := 84) dX6_isOpenBetween_53 (by decide) (fun h53 => ?_) (fun h53 => ?_)
              · skip
                refine sx_iconst (v := nI 1) dX6_isOpenBetween_84 (by decide) ?_
                refine sx_retz dX6_isOpenBetween_85 rfl (Or.inr rfl) ?_
                have hop : kO K t k := hbk.mp (by rw [← Bool.not_eq_false]; exact fun q => h25 (ask.mpr q))
                first
                  | exact k1 ⟨k, hkD, hop, Or.inl ⟨nI_inj (by omega) (by omega) h39, nI_inj (by omega) (by omega) h53⟩⟩
                  | exact k1 ⟨k, hkD, hop, Or.inr ⟨nI_inj (by omega) (by omega) h81, nI_inj (by omega) (by omega) h67⟩⟩
              · skip
                refine sw_aloadn dX6_isOpenBetween_56 rfl ?_
                refine sw_getR dX6_isOpenBetween_57 fs_X6_47 o35 r35_0 ?_
                refine sw_getR dX6_isOpenBetween_60 fs_X6_157 o2 r2_5 ?_
                refine sw_iload dX6_isOpenBetween_63 rfl ?_
                refine sx_iald (k) dX6_isOpenBetween_65 a6 (rfl) (by omega) (by decide) ?_
                rw [hP.2.2.2.1 k hkD]
                refine sw_iloadn dX6_isOpenBetween_66 rfl ?_
                refine sw_icmp_ne (tgt := 86) dX6_isOpenBetween_67 (by decide) (fun h67 => ?_) (fun h67 => ?_)
                · skip
                  refine sx_iinc (nI (k + 1)) dX6_isOpenBetween_86 rfl (nI_inc _) ?_
                  refine sw_goto (tgt := 3) dX6_isOpenBetween_89 (by decide) ?_
                  first
                    | exact nxt' (fun q => by
                        have := hbk.mpr q.1
                        rw [ask.mp h25] at this
                        cases this)
                    | exact nxt' (fun q => q.2.elim (fun z => h39 (congrArg nI z.1)) (fun z => h67 (congrArg nI z.2)))
                    | exact nxt' (fun q => q.2.elim (fun z => h39 (congrArg nI z.1)) (fun z => h81 (congrArg nI z.1)))
                    | exact nxt' (fun q => q.2.elim (fun z => h53 (congrArg nI z.2)) (fun z => h67 (congrArg nI z.2)))
                    | exact nxt' (fun q => q.2.elim (fun z => h53 (congrArg nI z.2)) (fun z => h81 (congrArg nI z.1)))
                · skip
                  refine sw_aloadn dX6_isOpenBetween_70 rfl ?_
                  refine sw_getR dX6_isOpenBetween_71 fs_X6_47 o35 r35_0 ?_
                  refine sw_getR dX6_isOpenBetween_74 fs_X6_160 o2 r2_6 ?_
                  refine sw_iload dX6_isOpenBetween_77 rfl ?_
                  refine sx_iald (k) dX6_isOpenBetween_79 a7 (rfl) (by omega) (by decide) ?_
                  rw [hP.2.2.2.2.1 k hkD]
                  refine sw_iloadn dX6_isOpenBetween_80 rfl ?_
                  refine sw_icmp_ne (tgt := 86) dX6_isOpenBetween_81 (by decide) (fun h81 => ?_) (fun h81 => ?_)
                  · skip
                    refine sx_iinc (nI (k + 1)) dX6_isOpenBetween_86 rfl (nI_inc _) ?_
                    refine sw_goto (tgt := 3) dX6_isOpenBetween_89 (by decide) ?_
                    first
                      | exact nxt' (fun q => by
                          have := hbk.mpr q.1
                          rw [ask.mp h25] at this
                          cases this)
                      | exact nxt' (fun q => q.2.elim (fun z => h39 (congrArg nI z.1)) (fun z => h67 (congrArg nI z.2)))
                      | exact nxt' (fun q => q.2.elim (fun z => h39 (congrArg nI z.1)) (fun z => h81 (congrArg nI z.1)))
                      | exact nxt' (fun q => q.2.elim (fun z => h53 (congrArg nI z.2)) (fun z => h67 (congrArg nI z.2)))
                      | exact nxt' (fun q => q.2.elim (fun z => h53 (congrArg nI z.2)) (fun z => h81 (congrArg nI z.1)))
                  · skip
                    refine sx_iconst (v := nI 1) dX6_isOpenBetween_84 (by decide) ?_
                    refine sx_retz dX6_isOpenBetween_85 rfl (Or.inr rfl) ?_
                    have hop : kO K t k := hbk.mp (by rw [← Bool.not_eq_false]; exact fun q => h25 (ask.mpr q))
                    first
                      | exact k1 ⟨k, hkD, hop, Or.inl ⟨nI_inj (by omega) (by omega) h39, nI_inj (by omega) (by omega) h53⟩⟩
                      | exact k1 ⟨k, hkD, hop, Or.inr ⟨nI_inj (by omega) (by omega) h81, nI_inj (by omega) (by omega) h67⟩⟩
  refine sx_iconst (v := nI 0) dX6_isOpenBetween_0 (by decide) ?_
  refine sw_istore dX6_isOpenBetween_1 (Nat.le_of_ble_eq_true rfl) ?_
  exact loop (pD P) 0 (by omega) (by omega) (fun dd hd => absurd hd (by omega))
theorem c_stagesGoing {f : Int32 → Mem → Prop} {P : PL} {K : WK} {t m a b : Nat} (hW : WT σ P K) (ht : t < 200) (hm : m < 8192) (hmk : ∀ j, m.testBit j = true → j ≤ kN K) (ha : a < 8) (hb : b < 8) (h : ∀ m', m' < 8192 → (∀ j', m'.testBit j' = true ↔ ((m.testBit j' = true ∧ fre P K t a b) ∨ ∃ j, j < kN K ∧ j' = j + 1 ∧ m.testBit j = true ∧ kT K j t ∧ kL K j = a ∧ kC K j = b)) → f (nI m') σ) : SW G (d + 1) M_X6_stagesGoing 0 [some (.ref 35), some (.int (nI t)), some (.int (nI m)), some (.int (nI a)), some (.int (nI b)), none, none] [] σ (RI f) := by
  have hV := hW.2.1
  have hK := hW.2.2.1
  have h12 := hK.1
  have h8 := hV.1
  obtain ⟨o, hol, ho1, ho2⟩ := hW.2.2.2.2.2.2.2.1 t ht
  have loop : ∀ (k s : Nat), k = kN K - s → s ≤ kN K → ∀ m', m' < 8192 → (∀ j', m'.testBit j' = true ↔ ((m.testBit j' = true ∧ fre P K t a b) ∨ ∃ j, j < s ∧ j' = j + 1 ∧ m.testBit j = true ∧ kT K j t ∧ kL K j = a ∧ kC K j = b)) → SW G (d + 1) M_X6_stagesGoing 26 [some (.ref 35), some (.int (nI t)), some (.int (nI m)), some (.int (nI a)), some (.int (nI b)), some (.int (nI m')), some (.int (nI s))] [] σ (RI f) := by
    intro k
    induction k with
    | zero =>
      intro s hk hs m' hl hbm
      obtain rfl : s = kN K := by omega
      refine sw_iload dX6_stagesGoing_26 rfl ?_
      refine sw_aloadn dX6_stagesGoing_28 rfl ?_
      refine sw_getI dX6_stagesGoing_29 fs_X6_67 o35 ?_
      rw [hW.2.2.2.1]
      refine sw_icmp_ge (tgt := 94) dX6_stagesGoing_32 (by decide) (fun h32 => ?_) (fun h32 => ?_)
      · skip
        refine sw_iload dX6_stagesGoing_94 rfl ?_
        refine sx_reti dX6_stagesGoing_96 rfl ?_
        exact h m' hl hbm
      · exact absurd ((nI_le (Nat.le_refl _) (by omega))) h32
    | succ k ih =>
      intro s hk hs m' hl hbm
      have ih := ih (s + 1) (by omega) (by omega)
      have hsn : s < kN K := by omega
      obtain ⟨hl1, hc1⟩ := hK.2 s hsn
      have ask := iu_ask m (show s < 32 by omega)
      have miss : ¬ (m.testBit s = true ∧ kT K s t ∧ kL K s = a ∧ kC K s = b) → SW G (d + 1) M_X6_stagesGoing 26 [some (.ref 35), some (.int (nI t)), some (.int (nI m)), some (.int (nI a)), some (.int (nI b)), some (.int (nI m')), some (.int (nI (s + 1)))] [] σ (RI f) := fun hno => ih m' hl (fun j' => (hbm j').trans (or_congr Iff.rfl ⟨fun ⟨j, q1, q2⟩ => ⟨j, by omega, q2⟩, fun ⟨j, q1, q2, q3⟩ => by
        rcases Nat.lt_succ_iff_lt_or_eq.mp q1 with e | rfl
        · exact ⟨j, e, q2, q3⟩
        · exact absurd q3 hno⟩))
      refine sw_iload dX6_stagesGoing_26 rfl ?_
      refine sw_aloadn dX6_stagesGoing_28 rfl ?_
      refine sw_getI dX6_stagesGoing_29 fs_X6_67 o35 ?_
      rw [hW.2.2.2.1]
      refine sw_icmp_ge (tgt := 94) dX6_stagesGoing_32 (by decide) (fun h32 => ?_) (fun h32 => ?_)
      · exact absurd h32 ((by rw [nI_le' (by omega) (by omega)]; omega))
      · skip
        refine sw_iloadn dX6_stagesGoing_35 rfl ?_
        refine sw_iload dX6_stagesGoing_36 rfl ?_
        refine sw_iushr dX6_stagesGoing_38 ?_
        refine sx_iconst (v := nI 1) dX6_stagesGoing_39 (by decide) ?_
        refine sw_iand dX6_stagesGoing_40 ?_
        refine sw_if_eq (tgt := 88) dX6_stagesGoing_41 (by decide) (fun h41 => ?_) (fun h41 => ?_)
        · skip
          refine sx_iinc (nI (s + 1)) dX6_stagesGoing_88 rfl (nI_inc _) ?_
          refine sw_goto (tgt := 26) dX6_stagesGoing_91 (by decide) ?_
          first
            | (have b1 : m.testBit s = true := by rw [← Bool.not_eq_false]; exact fun q => h41 (ask.mpr q)
               have b2 := nI_inj (by omega) (by omega) h52
               have b3 := nI_inj (by omega) (by omega) h64
               refine ih (m' ||| 2 ^ (s + 1)) (or_lt (b := 13) hl (by omega)) (fun j' => ?_)
               rw [tb_or, Bool.or_eq_true, decide_eq_true_iff, hbm j']
               constructor
               · rintro ((q | ⟨j, q1, q2⟩) | rfl)
                 · exact Or.inl q
                 · exact Or.inr ⟨j, by omega, q2⟩
                 · exact Or.inr ⟨s, by omega, rfl, b1, h71, b2, b3⟩
               · rintro (q | ⟨j, q1, q2, q3⟩)
                 · exact Or.inl (Or.inl q)
                 · rcases Nat.lt_succ_iff_lt_or_eq.mp q1 with e | rfl
                   · exact Or.inl (Or.inr ⟨j, e, q2, q3⟩)
                   · exact Or.inr q2)
            | exact miss (fun q => h71 q.2.1)
            | exact miss (fun q => h64 (congrArg nI q.2.2.2))
            | exact miss (fun q => h52 (congrArg nI q.2.2.1))
            | exact miss (fun q => by
                have b1 := ask.mp h41
                rw [b1] at q
                exact absurd q.1 (by decide))
        · skip
          refine sw_aloadn dX6_stagesGoing_44 rfl ?_
          refine sw_getR dX6_stagesGoing_45 fs_X6_15 o35 r35_4 ?_
          refine sw_iload dX6_stagesGoing_48 rfl ?_
          refine sx_iald (s) dX6_stagesGoing_50 a37 (rfl) (by omega) (by decide) ?_
          rw [hW.2.2.2.2.1 s hsn]
          refine sw_iloadn dX6_stagesGoing_51 rfl ?_
          refine sw_icmp_ne (tgt := 88) dX6_stagesGoing_52 (by decide) (fun h52 => ?_) (fun h52 => ?_)
          · skip
            refine sx_iinc (nI (s + 1)) dX6_stagesGoing_88 rfl (nI_inc _) ?_
            refine sw_goto (tgt := 26) dX6_stagesGoing_91 (by decide) ?_
            first
              | (have b1 : m.testBit s = true := by rw [← Bool.not_eq_false]; exact fun q => h41 (ask.mpr q)
                 have b2 := nI_inj (by omega) (by omega) h52
                 have b3 := nI_inj (by omega) (by omega) h64
                 refine ih (m' ||| 2 ^ (s + 1)) (or_lt (b := 13) hl (by omega)) (fun j' => ?_)
                 rw [tb_or, Bool.or_eq_true, decide_eq_true_iff, hbm j']
                 constructor
                 · rintro ((q | ⟨j, q1, q2⟩) | rfl)
                   · exact Or.inl q
                   · exact Or.inr ⟨j, by omega, q2⟩
                   · exact Or.inr ⟨s, by omega, rfl, b1, h71, b2, b3⟩
                 · rintro (q | ⟨j, q1, q2, q3⟩)
                   · exact Or.inl (Or.inl q)
                   · rcases Nat.lt_succ_iff_lt_or_eq.mp q1 with e | rfl
                     · exact Or.inl (Or.inr ⟨j, e, q2, q3⟩)
                     · exact Or.inr q2)
              | exact miss (fun q => h71 q.2.1)
              | exact miss (fun q => h64 (congrArg nI q.2.2.2))
              | exact miss (fun q => h52 (congrArg nI q.2.2.1))
              | exact miss (fun q => by
                  have b1 := ask.mp h41
                  rw [b1] at q
                  exact absurd q.1 (by decide))
          · skip
            refine sw_aloadn dX6_stagesGoing_55 rfl ?_
            refine sw_getR dX6_stagesGoing_56 fs_X6_18 o35 r35_5 ?_
            refine sw_iload dX6_stagesGoing_59 rfl ?_
            refine sx_iald (s) dX6_stagesGoing_61 a38 (rfl) (by omega) (by decide) ?_
            rw [hW.2.2.2.2.2.1 s hsn]
            refine sw_iload dX6_stagesGoing_62 rfl ?_
            refine sw_icmp_ne (tgt := 88) dX6_stagesGoing_64 (by decide) (fun h64 => ?_) (fun h64 => ?_)
            · skip
              refine sx_iinc (nI (s + 1)) dX6_stagesGoing_88 rfl (nI_inc _) ?_
              refine sw_goto (tgt := 26) dX6_stagesGoing_91 (by decide) ?_
              first
                | (have b1 : m.testBit s = true := by rw [← Bool.not_eq_false]; exact fun q => h41 (ask.mpr q)
                   have b2 := nI_inj (by omega) (by omega) h52
                   have b3 := nI_inj (by omega) (by omega) h64
                   refine ih (m' ||| 2 ^ (s + 1)) (or_lt (b := 13) hl (by omega)) (fun j' => ?_)
                   rw [tb_or, Bool.or_eq_true, decide_eq_true_iff, hbm j']
                   constructor
                   · rintro ((q | ⟨j, q1, q2⟩) | rfl)
                     · exact Or.inl q
                     · exact Or.inr ⟨j, by omega, q2⟩
                     · exact Or.inr ⟨s, by omega, rfl, b1, h71, b2, b3⟩
                   · rintro (q | ⟨j, q1, q2, q3⟩)
                     · exact Or.inl (Or.inl q)
                     · rcases Nat.lt_succ_iff_lt_or_eq.mp q1 with e | rfl
                       · exact Or.inl (Or.inr ⟨j, e, q2, q3⟩)
                       · exact Or.inr q2)
                | exact miss (fun q => h71 q.2.1)
                | exact miss (fun q => h64 (congrArg nI q.2.2.2))
                | exact miss (fun q => h52 (congrArg nI q.2.2.1))
                | exact miss (fun q => by
                    have b1 := ask.mp h41
                    rw [b1] at q
                    exact absurd q.1 (by decide))
            · skip
              refine sw_aloadn dX6_stagesGoing_67 rfl ?_
              refine sw_iload dX6_stagesGoing_68 rfl ?_
              refine sw_iloadn dX6_stagesGoing_70 rfl ?_
              refine sx_invI2 dX6_stagesGoing_71 mk_X6_isInTime vk_X6_isInTime lk_X6_151 o35 (Nat.le_of_ble_eq_true rfl) (Nat.le_of_ble_eq_true rfl) ?_
              refine c_isInTime hW hsn ht (fun h71 => ?_) (fun h71 => ?_)
              · skip
                refine sw_if_eq (tgt := 88) dX6_stagesGoing_74 (by decide) (fun h74 => ?_) (fun h74 => ?_)
                · exact absurd h74 (by decide)
                · skip
                  refine sw_iload dX6_stagesGoing_77 rfl ?_
                  refine sx_iconst (v := nI 1) dX6_stagesGoing_79 (by decide) ?_
                  refine sw_iload dX6_stagesGoing_80 rfl ?_
                  refine sx_iconst (v := nI 1) dX6_stagesGoing_82 (by decide) ?_
                  refine sw_iadd dX6_stagesGoing_83 ?_
                  refine sw_topI (y := nI (s + 1)) (nI_1 s) ?_
                  refine sw_ishl dX6_stagesGoing_84 ?_
                  refine sw_ior dX6_stagesGoing_85 ?_
                  rw [or_st m' (show s + 1 < 31 by omega)]
                  refine sw_istore dX6_stagesGoing_86 (Nat.le_of_ble_eq_true rfl) ?_
                  refine sx_iinc (nI (s + 1)) dX6_stagesGoing_88 rfl (nI_inc _) ?_
                  refine sw_goto (tgt := 26) dX6_stagesGoing_91 (by decide) ?_
                  first
                    | (have b1 : m.testBit s = true := by rw [← Bool.not_eq_false]; exact fun q => h41 (ask.mpr q)
                       have b2 := nI_inj (by omega) (by omega) h52
                       have b3 := nI_inj (by omega) (by omega) h64
                       refine ih (m' ||| 2 ^ (s + 1)) (or_lt (b := 13) hl (by omega)) (fun j' => ?_)
                       rw [tb_or, Bool.or_eq_true, decide_eq_true_iff, hbm j']
                       constructor
                       · rintro ((q | ⟨j, q1, q2⟩) | rfl)
                         · exact Or.inl q
                         · exact Or.inr ⟨j, by omega, q2⟩
                         · exact Or.inr ⟨s, by omega, rfl, b1, h71, b2, b3⟩
                       · rintro (q | ⟨j, q1, q2, q3⟩)
                         · exact Or.inl (Or.inl q)
                         · rcases Nat.lt_succ_iff_lt_or_eq.mp q1 with e | rfl
                           · exact Or.inl (Or.inr ⟨j, e, q2, q3⟩)
                           · exact Or.inr q2)
                    | exact miss (fun q => h71 q.2.1)
                    | exact miss (fun q => h64 (congrArg nI q.2.2.2))
                    | exact miss (fun q => h52 (congrArg nI q.2.2.1))
                    | exact miss (fun q => by
                        have b1 := ask.mp h41
                        rw [b1] at q
                        exact absurd q.1 (by decide))
              · skip
                refine sw_if_eq (tgt := 88) dX6_stagesGoing_74 (by decide) (fun h74 => ?_) (fun h74 => ?_)
                · skip
                  refine sx_iinc (nI (s + 1)) dX6_stagesGoing_88 rfl (nI_inc _) ?_
                  refine sw_goto (tgt := 26) dX6_stagesGoing_91 (by decide) ?_
                  first
                    | (have b1 : m.testBit s = true := by rw [← Bool.not_eq_false]; exact fun q => h41 (ask.mpr q)
                       have b2 := nI_inj (by omega) (by omega) h52
                       have b3 := nI_inj (by omega) (by omega) h64
                       refine ih (m' ||| 2 ^ (s + 1)) (or_lt (b := 13) hl (by omega)) (fun j' => ?_)
                       rw [tb_or, Bool.or_eq_true, decide_eq_true_iff, hbm j']
                       constructor
                       · rintro ((q | ⟨j, q1, q2⟩) | rfl)
                         · exact Or.inl q
                         · exact Or.inr ⟨j, by omega, q2⟩
                         · exact Or.inr ⟨s, by omega, rfl, b1, h71, b2, b3⟩
                       · rintro (q | ⟨j, q1, q2, q3⟩)
                         · exact Or.inl (Or.inl q)
                         · rcases Nat.lt_succ_iff_lt_or_eq.mp q1 with e | rfl
                           · exact Or.inl (Or.inr ⟨j, e, q2, q3⟩)
                           · exact Or.inr q2)
                    | exact miss (fun q => h71 q.2.1)
                    | exact miss (fun q => h64 (congrArg nI q.2.2.2))
                    | exact miss (fun q => h52 (congrArg nI q.2.2.1))
                    | exact miss (fun q => by
                        have b1 := ask.mp h41
                        rw [b1] at q
                        exact absurd q.1 (by decide))
                · exact absurd h74 (by decide)
  refine sw_aloadn dX6_stagesGoing_0 rfl ?_
  refine sw_aloadn dX6_stagesGoing_1 rfl ?_
  refine sw_getR dX6_stagesGoing_2 fs_X6_31 o35 r35_9 ?_
  refine sw_iloadn dX6_stagesGoing_5 rfl ?_
  refine sx_iald (t) dX6_stagesGoing_6 a41 (rfl) (by omega) (by decide) ?_
  rw [ho1]
  refine sw_iloadn dX6_stagesGoing_7 rfl ?_
  refine sw_iload dX6_stagesGoing_8 rfl ?_
  refine sx_invI3 dX6_stagesGoing_10 mk_X6_isOpenBetween vk_X6_isOpenBetween lk_X6_187 o35 (Nat.le_of_ble_eq_true rfl) (Nat.le_of_ble_eq_true rfl) ?_
  refine c_isOpenBetween hW hol ho2 ha hb (fun h10 => ?_) (fun h10 => ?_)
  · skip
    refine sw_if_eq (tgt := 20) dX6_stagesGoing_13 (by decide) (fun h13 => ?_) (fun h13 => ?_)
    · exact absurd h13 (by decide)
    · skip
      refine sw_iloadn dX6_stagesGoing_16 rfl ?_
      refine sw_goto (tgt := 21) dX6_stagesGoing_17 (by decide) ?_
      refine sw_istore dX6_stagesGoing_21 (Nat.le_of_ble_eq_true rfl) ?_
      refine sx_iconst (v := nI 0) dX6_stagesGoing_23 (by decide) ?_
      refine sw_istore dX6_stagesGoing_24 (Nat.le_of_ble_eq_true rfl) ?_
      first
        | exact loop (kN K) 0 (by omega) (by omega) m hm (fun j' => ⟨fun q => Or.inl ⟨q, h10⟩, fun q => q.elim (fun z => z.1) (fun ⟨j, z, _⟩ => absurd z (by omega))⟩)
        | exact loop (kN K) 0 (by omega) (by omega) 0 (by omega) (fun j' => by
            rw [Nat.zero_testBit]
            exact ⟨fun q => Bool.noConfusion q, fun q => q.elim (fun z => absurd z.2 h10) (fun ⟨j, z, _⟩ => absurd z (by omega))⟩)
  · skip
    refine sw_if_eq (tgt := 20) dX6_stagesGoing_13 (by decide) (fun h13 => ?_) (fun h13 => ?_)
    · skip
      refine sx_iconst (v := nI 0) dX6_stagesGoing_20 (by decide) ?_
      refine sw_istore dX6_stagesGoing_21 (Nat.le_of_ble_eq_true rfl) ?_
      refine sx_iconst (v := nI 0) dX6_stagesGoing_23 (by decide) ?_
      refine sw_istore dX6_stagesGoing_24 (Nat.le_of_ble_eq_true rfl) ?_
      first
        | exact loop (kN K) 0 (by omega) (by omega) m hm (fun j' => ⟨fun q => Or.inl ⟨q, h10⟩, fun q => q.elim (fun z => z.1) (fun ⟨j, z, _⟩ => absurd z (by omega))⟩)
        | exact loop (kN K) 0 (by omega) (by omega) 0 (by omega) (fun j' => by
            rw [Nat.zero_testBit]
            exact ⟨fun q => Bool.noConfusion q, fun q => q.elim (fun z => absurd z.2 h10) (fun ⟨j, z, _⟩ => absurd z (by omega))⟩)
    · exact absurd h13 (by decide)
end WALKS4
