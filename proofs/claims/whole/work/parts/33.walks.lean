/-! ===== Walks (cell 35): steps ===== -/
section WALKS
variable {G : GG} {d : Nat} {σ : Mem}
theorem c_isInTime {f : Int32 → Mem → Prop} {P : PL} {K : WK} {i t : Nat} (hW : WT σ P K) (hi : i < kN K) (ht : t < 200) (k1 : kT K i t → f (nI 1) σ) (k0 : ¬ kT K i t → f (nI 0) σ) : SW G d M_X6_isInTime 0 [some (.ref 35), some (.int (nI i)), some (.int (nI t))] [] σ (RI f) := by
  have h12 := hW.2.2.1.1
  have hT := hW.2.2.2.2.2.2.1 i t hi ht
  refine sw_aloadn dX6_isInTime_0 rfl ?_
  refine sw_getR dX6_isInTime_1 fs_X6_21 o35 r35_6 ?_
  refine sw_iloadn dX6_isInTime_4 rfl ?_
  refine sx_iald (i) dX6_isInTime_5 a39 (rfl) (by omega) (by decide) ?_
  refine sw_iloadn dX6_isInTime_6 rfl ?_
  refine sw_icmp_gt (tgt := 24) dX6_isInTime_7 (by decide) (fun h7 => ?_) (fun h7 => ?_)
  · skip
    refine sx_iconst (v := nI 0) dX6_isInTime_24 (by decide) ?_
    refine sx_retz dX6_isInTime_25 rfl (Or.inl rfl) ?_
    first
      | exact k1 (hT.mp ⟨Int32.not_lt.mp h7, Int32.not_lt.mp h17⟩)
      | exact k0 (fun q => absurd (hT.mpr q).1 (Int32.not_le.mpr h7))
      | exact k0 (fun q => absurd (hT.mpr q).2 (Int32.not_le.mpr h17))
  · skip
    refine sw_iloadn dX6_isInTime_10 rfl ?_
    refine sw_aloadn dX6_isInTime_11 rfl ?_
    refine sw_getR dX6_isInTime_12 fs_X6_24 o35 r35_7 ?_
    refine sw_iloadn dX6_isInTime_15 rfl ?_
    refine sx_iald (i) dX6_isInTime_16 a40 (rfl) (by omega) (by decide) ?_
    refine sw_icmp_gt (tgt := 24) dX6_isInTime_17 (by decide) (fun h17 => ?_) (fun h17 => ?_)
    · skip
      refine sx_iconst (v := nI 0) dX6_isInTime_24 (by decide) ?_
      refine sx_retz dX6_isInTime_25 rfl (Or.inl rfl) ?_
      first
        | exact k1 (hT.mp ⟨Int32.not_lt.mp h7, Int32.not_lt.mp h17⟩)
        | exact k0 (fun q => absurd (hT.mpr q).1 (Int32.not_le.mpr h7))
        | exact k0 (fun q => absurd (hT.mpr q).2 (Int32.not_le.mpr h17))
    · skip
      refine sx_iconst (v := nI 1) dX6_isInTime_20 (by decide) ?_
      refine sw_goto (tgt := 25) dX6_isInTime_21 (by decide) ?_
      refine sx_retz dX6_isInTime_25 rfl (Or.inr rfl) ?_
      first
        | exact k1 (hT.mp ⟨Int32.not_lt.mp h7, Int32.not_lt.mp h17⟩)
        | exact k0 (fun q => absurd (hT.mpr q).1 (Int32.not_le.mpr h7))
        | exact k0 (fun q => absurd (hT.mpr q).2 (Int32.not_le.mpr h17))
/-- rooms from which an open door of the first k leads into one that x has, just come to -/
def inK (P : PL) (K : WK) (t : Nat) (x : Int64) (k i : Nat) : Prop := ∃ dd, dd < k ∧ kO K t dd ∧ ((pF P dd = i ∧ pb x (pS P dd) (pW P (pS P dd)) = true) ∨ (pS P dd = i ∧ pb x (pF P dd) (pW P (pF P dd)) = true))
theorem inK_s {P : PL} {K : WK} {t : Nat} {x : Int64} {k i : Nat} : inK P K t x (k + 1) i ↔ (inK P K t x k i ∨ (kO K t k ∧ ((pF P k = i ∧ pb x (pS P k) (pW P (pS P k)) = true) ∨ (pS P k = i ∧ pb x (pF P k) (pW P (pF P k)) = true)))) := by
  constructor
  · rintro ⟨dd, h1, h2⟩
    by_cases e : dd = k
    · subst e; exact Or.inr h2
    · exact Or.inl ⟨dd, by omega, h2⟩
  · rintro (⟨dd, h1, h2⟩ | h2)
    · exact ⟨dd, by omega, h2⟩
    · exact ⟨k, by omega, h2⟩
theorem inK_all {P : PL} {K : WK} {t : Nat} {x : Int64} {i : Nat} : inK P K t x (pD P) i ↔ ∃ rm', fre P K t i rm' ∧ pb x rm' (pW P rm') = true := by
  constructor
  · rintro ⟨dd, h1, h2, ⟨e, h3⟩ | ⟨e, h3⟩⟩
    · exact ⟨_, ⟨dd, h1, h2, Or.inl ⟨e, rfl⟩⟩, h3⟩
    · exact ⟨_, ⟨dd, h1, h2, Or.inr ⟨e, rfl⟩⟩, h3⟩
  · rintro ⟨rm', ⟨dd, h1, h2, ⟨e, e'⟩ | ⟨e, e'⟩⟩, h3⟩
    · exact ⟨dd, h1, h2, Or.inl ⟨e, by rw [e']; exact h3⟩⟩
    · exact ⟨dd, h1, h2, Or.inr ⟨e, by rw [e']; exact h3⟩⟩
theorem bit_or_iff {z : Int64} {A : Prop} {a i : Nat} (ha : a < 64) (h : mb z i = true ↔ A) : mb (z ||| (1 <<< ((nI a).toInt64 &&& 63))) i = true ↔ (A ∨ a = i) := by
  rw [mb_or, mb_bit ha, Bool.or_eq_true, decide_eq_true_iff, h]
  exact or_congr Iff.rfl eq_comm
theorem c_freeInto {f : Int64 → Mem → Prop} {P : PL} {K : WK} {t o : Nat} {x : Int64} (hW : WT σ P K) (ho : o < 1024) (hob : ∀ dd, dd < 10 → (o.testBit dd = true ↔ kO K t dd)) (h : ∀ z, (∀ i, i < 64 → (mb z i = true ↔ ∃ rm', fre P K t i rm' ∧ pb x rm' (pW P rm') = true)) → f z σ) : SW G d M_X6_freeInto 0 [some (.ref 35), some (.long x), none, some (.int (nI o)), none, none, none, none, none] [] σ (RJ f) := by
  obtain ⟨hP, hV, -, -, -, -, -, -, -, hE⟩ := hW
  have hD := hV.2.1
  have h8 := hV.1
  have loop : ∀ (m k : Nat), m = pD P - k → k ≤ pD P → ∀ (z : Int64) (o7 o8 : Option Value), (∀ i, i < 64 → (mb z i = true ↔ inK P K t x k i)) → SW G d M_X6_freeInto 6 [some (.ref 35), some (.long x), none, some (.int (nI o)), some (.long z), none, some (.int (nI k)), o7, o8] [] σ (RJ f) := by
    intro m
    induction m with
    | zero =>
      intro k hm hk z o7 o8 hz
      obtain rfl : k = pD P := by omega
      refine sw_iload dX6_freeInto_6 rfl ?_
      refine sw_aloadn dX6_freeInto_8 rfl ?_
      refine sw_getR dX6_freeInto_9 fs_X6_47 o35 r35_0 ?_
      refine sw_getI dX6_freeInto_12 fs_X6_154 o2 ?_
      rw [hP.2.1]
      refine sw_icmp_ge (tgt := 103) dX6_freeInto_15 (by decide) (fun h15 => ?_) (fun h15 => ?_)
      · skip
        refine sw_lload dX6_freeInto_103 rfl ?_
        refine sx_retl dX6_freeInto_105 rfl ?_
        exact h z (fun i hi => (hz i hi).trans inK_all)
      · exact absurd ((nI_le (Nat.le_refl _) (by omega))) h15
    | succ m ih =>
      intro k hm hk z o7 o8 hz
      have hkD : k < pD P := by omega
      obtain ⟨q1, q2, -, -⟩ := hV.2.2.2.1 k hkD
      have w1 := hV.2.2.1 _ q1
      have w2 := hV.2.2.1 _ q2
      have e1 := hE _ q1
      have e2 := hE _ q2
      have m1 := mb_mask (x := x) (show 8 * pW P (pF P k) + pF P k < 64 by omega) e1
      have m2 := mb_mask (x := x) (show 8 * pW P (pS P k) + pS P k < 64 by omega) e2
      have hb := hob k (by omega)
      have ih := ih (k + 1) (by omega) (by omega)
      have hask := ib_ask o ho k (by omega)
      refine sw_iload dX6_freeInto_6 rfl ?_
      refine sw_aloadn dX6_freeInto_8 rfl ?_
      refine sw_getR dX6_freeInto_9 fs_X6_47 o35 r35_0 ?_
      refine sw_getI dX6_freeInto_12 fs_X6_154 o2 ?_
      rw [hP.2.1]
      refine sw_icmp_ge (tgt := 103) dX6_freeInto_15 (by decide) (fun h15 => ?_) (fun h15 => ?_)
      · exact absurd h15 ((by rw [nI_le' (by omega) (by omega)]; omega))
      · skip
        refine sw_iloadn dX6_freeInto_18 rfl ?_
        refine sw_iload dX6_freeInto_19 rfl ?_
        refine sw_iushr dX6_freeInto_21 ?_
        refine sx_iconst (v := nI 1) dX6_freeInto_22 (by decide) ?_
        refine sw_iand dX6_freeInto_23 ?_
        refine sw_if_eq (tgt := 97) dX6_freeInto_24 (by decide) (fun h24 => ?_) (fun h24 => ?_)
        · skip
          refine sx_iinc (nI (k + 1)) dX6_freeInto_97 rfl (nI_inc _) ?_
          refine sw_goto (tgt := 6) dX6_freeInto_100 (by decide) ?_
          refine ih _ _ _ (fun i hi => ?_)
          rw [inK_s]
          first
            | (have hn : ¬ kO K t k := fun q => by
                 have := hb.mpr q
                 rw [hask.mp h24] at this
                 cases this
               rw [hz i hi]
               exact ⟨Or.inl, fun q => q.elim id (fun z => absurd z.1 hn)⟩)
            | (have a1 := m2.mp h61
               have a2 := m1.mp h84
               rw [bit_or_iff (by omega) (bit_or_iff (by omega) (hz i hi))]
               exact ⟨fun q => q.elim (fun q => q.elim Or.inl (fun e => Or.inr ⟨hop, Or.inl ⟨e, a1⟩⟩)) (fun e => Or.inr ⟨hop, Or.inr ⟨e, a2⟩⟩), fun q => q.elim (fun q => Or.inl (Or.inl q)) (fun q => q.2.elim (fun q => Or.inl (Or.inr q.1)) (fun q => Or.inr q.1))⟩)
            | (have a1 := m2.mp h61
               have a2 : ¬ pb x (pF P k) (pW P (pF P k)) = true := fun q => m1.mpr q h84
               rw [bit_or_iff (by omega) (hz i hi)]
               exact ⟨fun q => q.elim Or.inl (fun e => Or.inr ⟨hop, Or.inl ⟨e, a1⟩⟩), fun q => q.elim Or.inl (fun q => q.2.elim (fun q => Or.inr q.1) (fun q => absurd q.2 a2))⟩)
            | (have a1 : ¬ pb x (pS P k) (pW P (pS P k)) = true := fun q => m2.mpr q h61
               have a2 := m1.mp h84
               rw [bit_or_iff (by omega) (hz i hi)]
               exact ⟨fun q => q.elim Or.inl (fun e => Or.inr ⟨hop, Or.inr ⟨e, a2⟩⟩), fun q => q.elim Or.inl (fun q => q.2.elim (fun q => absurd q.2 a1) (fun q => Or.inr q.1))⟩)
            | (have a1 : ¬ pb x (pS P k) (pW P (pS P k)) = true := fun q => m2.mpr q h61
               have a2 : ¬ pb x (pF P k) (pW P (pF P k)) = true := fun q => m1.mpr q h84
               rw [hz i hi]
               exact ⟨Or.inl, fun q => q.elim id (fun q => q.2.elim (fun q => absurd q.2 a1) (fun q => absurd q.2 a2))⟩)
        · skip
          have hop : kO K t k := hb.mp (by rw [← Bool.not_eq_false]; exact fun q => h24 (hask.mpr q))
          refine sw_aloadn dX6_freeInto_27 rfl ?_
          refine sw_getR dX6_freeInto_28 fs_X6_47 o35 r35_0 ?_
          refine sw_getR dX6_freeInto_31 fs_X6_157 o2 r2_5 ?_
          refine sw_iload dX6_freeInto_34 rfl ?_
          refine sx_iald (k) dX6_freeInto_36 a6 (rfl) (by omega) (by decide) ?_
          rw [hP.2.2.2.1 k hkD]
          refine sw_istore dX6_freeInto_37 (Nat.le_of_ble_eq_true rfl) ?_
          refine sw_aloadn dX6_freeInto_39 rfl ?_
          refine sw_getR dX6_freeInto_40 fs_X6_47 o35 r35_0 ?_
          refine sw_getR dX6_freeInto_43 fs_X6_160 o2 r2_6 ?_
          refine sw_iload dX6_freeInto_46 rfl ?_
          refine sx_iald (k) dX6_freeInto_48 a7 (rfl) (by omega) (by decide) ?_
          rw [hP.2.2.2.2.1 k hkD]
          refine sw_istore dX6_freeInto_49 (Nat.le_of_ble_eq_true rfl) ?_
          refine sw_lloadn dX6_freeInto_51 rfl ?_
          refine sw_aloadn dX6_freeInto_52 rfl ?_
          refine sw_getR dX6_freeInto_53 fs_X6_38 o35 r35_11 ?_
          refine sw_iload dX6_freeInto_56 rfl ?_
          refine sx_lald (pS P k) dX6_freeInto_58 a43 (rfl) (by omega) (by decide) ?_
          refine sw_land dX6_freeInto_59 ?_
          refine sx_lconst (v := 0) dX6_freeInto_60 (by decide) ?_
          refine sw_lc_eq (tgt := 74) dX6_freeInto_61 dX6_freeInto_62 (by decide) (fun h61 => ?_) (fun h61 => ?_)
          · skip
            refine sw_lloadn dX6_freeInto_74 rfl ?_
            refine sw_aloadn dX6_freeInto_75 rfl ?_
            refine sw_getR dX6_freeInto_76 fs_X6_38 o35 r35_11 ?_
            refine sw_iload dX6_freeInto_79 rfl ?_
            refine sx_lald (pF P k) dX6_freeInto_81 a43 (rfl) (by omega) (by decide) ?_
            refine sw_land dX6_freeInto_82 ?_
            refine sx_lconst (v := 0) dX6_freeInto_83 (by decide) ?_
            refine sw_lc_eq (tgt := 97) dX6_freeInto_84 dX6_freeInto_85 (by decide) (fun h84 => ?_) (fun h84 => ?_)
            · skip
              refine sx_iinc (nI (k + 1)) dX6_freeInto_97 rfl (nI_inc _) ?_
              refine sw_goto (tgt := 6) dX6_freeInto_100 (by decide) ?_
              refine ih _ _ _ (fun i hi => ?_)
              rw [inK_s]
              first
                | (have hn : ¬ kO K t k := fun q => by
                     have := hb.mpr q
                     rw [hask.mp h24] at this
                     cases this
                   rw [hz i hi]
                   exact ⟨Or.inl, fun q => q.elim id (fun z => absurd z.1 hn)⟩)
                | (have a1 := m2.mp h61
                   have a2 := m1.mp h84
                   rw [bit_or_iff (by omega) (bit_or_iff (by omega) (hz i hi))]
                   exact ⟨fun q => q.elim (fun q => q.elim Or.inl (fun e => Or.inr ⟨hop, Or.inl ⟨e, a1⟩⟩)) (fun e => Or.inr ⟨hop, Or.inr ⟨e, a2⟩⟩), fun q => q.elim (fun q => Or.inl (Or.inl q)) (fun q => q.2.elim (fun q => Or.inl (Or.inr q.1)) (fun q => Or.inr q.1))⟩)
                | (have a1 := m2.mp h61
                   have a2 : ¬ pb x (pF P k) (pW P (pF P k)) = true := fun q => m1.mpr q h84
                   rw [bit_or_iff (by omega) (hz i hi)]
                   exact ⟨fun q => q.elim Or.inl (fun e => Or.inr ⟨hop, Or.inl ⟨e, a1⟩⟩), fun q => q.elim Or.inl (fun q => q.2.elim (fun q => Or.inr q.1) (fun q => absurd q.2 a2))⟩)
                | (have a1 : ¬ pb x (pS P k) (pW P (pS P k)) = true := fun q => m2.mpr q h61
                   have a2 := m1.mp h84
                   rw [bit_or_iff (by omega) (hz i hi)]
                   exact ⟨fun q => q.elim Or.inl (fun e => Or.inr ⟨hop, Or.inr ⟨e, a2⟩⟩), fun q => q.elim Or.inl (fun q => q.2.elim (fun q => absurd q.2 a1) (fun q => Or.inr q.1))⟩)
                | (have a1 : ¬ pb x (pS P k) (pW P (pS P k)) = true := fun q => m2.mpr q h61
                   have a2 : ¬ pb x (pF P k) (pW P (pF P k)) = true := fun q => m1.mpr q h84
                   rw [hz i hi]
                   exact ⟨Or.inl, fun q => q.elim id (fun q => q.2.elim (fun q => absurd q.2 a1) (fun q => absurd q.2 a2))⟩)
            · skip
              refine sw_lload dX6_freeInto_88 rfl ?_
              refine sx_lconst (v := 1) dX6_freeInto_90 (by decide) ?_
              refine sw_iload dX6_freeInto_91 rfl ?_
              refine sw_lshl dX6_freeInto_93 ?_
              refine sw_lor dX6_freeInto_94 ?_
              refine sw_lstore dX6_freeInto_95 (Nat.le_of_ble_eq_true rfl) ?_
              refine sx_iinc (nI (k + 1)) dX6_freeInto_97 rfl (nI_inc _) ?_
              refine sw_goto (tgt := 6) dX6_freeInto_100 (by decide) ?_
              refine ih _ _ _ (fun i hi => ?_)
              rw [inK_s]
              first
                | (have hn : ¬ kO K t k := fun q => by
                     have := hb.mpr q
                     rw [hask.mp h24] at this
                     cases this
                   rw [hz i hi]
                   exact ⟨Or.inl, fun q => q.elim id (fun z => absurd z.1 hn)⟩)
                | (have a1 := m2.mp h61
                   have a2 := m1.mp h84
                   rw [bit_or_iff (by omega) (bit_or_iff (by omega) (hz i hi))]
                   exact ⟨fun q => q.elim (fun q => q.elim Or.inl (fun e => Or.inr ⟨hop, Or.inl ⟨e, a1⟩⟩)) (fun e => Or.inr ⟨hop, Or.inr ⟨e, a2⟩⟩), fun q => q.elim (fun q => Or.inl (Or.inl q)) (fun q => q.2.elim (fun q => Or.inl (Or.inr q.1)) (fun q => Or.inr q.1))⟩)
                | (have a1 := m2.mp h61
                   have a2 : ¬ pb x (pF P k) (pW P (pF P k)) = true := fun q => m1.mpr q h84
                   rw [bit_or_iff (by omega) (hz i hi)]
                   exact ⟨fun q => q.elim Or.inl (fun e => Or.inr ⟨hop, Or.inl ⟨e, a1⟩⟩), fun q => q.elim Or.inl (fun q => q.2.elim (fun q => Or.inr q.1) (fun q => absurd q.2 a2))⟩)
                | (have a1 : ¬ pb x (pS P k) (pW P (pS P k)) = true := fun q => m2.mpr q h61
                   have a2 := m1.mp h84
                   rw [bit_or_iff (by omega) (hz i hi)]
                   exact ⟨fun q => q.elim Or.inl (fun e => Or.inr ⟨hop, Or.inr ⟨e, a2⟩⟩), fun q => q.elim Or.inl (fun q => q.2.elim (fun q => absurd q.2 a1) (fun q => Or.inr q.1))⟩)
                | (have a1 : ¬ pb x (pS P k) (pW P (pS P k)) = true := fun q => m2.mpr q h61
                   have a2 : ¬ pb x (pF P k) (pW P (pF P k)) = true := fun q => m1.mpr q h84
                   rw [hz i hi]
                   exact ⟨Or.inl, fun q => q.elim id (fun q => q.2.elim (fun q => absurd q.2 a1) (fun q => absurd q.2 a2))⟩)
          · skip
            refine sw_lload dX6_freeInto_65 rfl ?_
            refine sx_lconst (v := 1) dX6_freeInto_67 (by decide) ?_
            refine sw_iload dX6_freeInto_68 rfl ?_
            refine sw_lshl dX6_freeInto_70 ?_
            refine sw_lor dX6_freeInto_71 ?_
            refine sw_lstore dX6_freeInto_72 (Nat.le_of_ble_eq_true rfl) ?_
            refine sw_lloadn dX6_freeInto_74 rfl ?_
            refine sw_aloadn dX6_freeInto_75 rfl ?_
            refine sw_getR dX6_freeInto_76 fs_X6_38 o35 r35_11 ?_
            refine sw_iload dX6_freeInto_79 rfl ?_
            refine sx_lald (pF P k) dX6_freeInto_81 a43 (rfl) (by omega) (by decide) ?_
            refine sw_land dX6_freeInto_82 ?_
            refine sx_lconst (v := 0) dX6_freeInto_83 (by decide) ?_
            refine sw_lc_eq (tgt := 97) dX6_freeInto_84 dX6_freeInto_85 (by decide) (fun h84 => ?_) (fun h84 => ?_)
            · skip
              refine sx_iinc (nI (k + 1)) dX6_freeInto_97 rfl (nI_inc _) ?_
              refine sw_goto (tgt := 6) dX6_freeInto_100 (by decide) ?_
              refine ih _ _ _ (fun i hi => ?_)
              rw [inK_s]
              first
                | (have hn : ¬ kO K t k := fun q => by
                     have := hb.mpr q
                     rw [hask.mp h24] at this
                     cases this
                   rw [hz i hi]
                   exact ⟨Or.inl, fun q => q.elim id (fun z => absurd z.1 hn)⟩)
                | (have a1 := m2.mp h61
                   have a2 := m1.mp h84
                   rw [bit_or_iff (by omega) (bit_or_iff (by omega) (hz i hi))]
                   exact ⟨fun q => q.elim (fun q => q.elim Or.inl (fun e => Or.inr ⟨hop, Or.inl ⟨e, a1⟩⟩)) (fun e => Or.inr ⟨hop, Or.inr ⟨e, a2⟩⟩), fun q => q.elim (fun q => Or.inl (Or.inl q)) (fun q => q.2.elim (fun q => Or.inl (Or.inr q.1)) (fun q => Or.inr q.1))⟩)
                | (have a1 := m2.mp h61
                   have a2 : ¬ pb x (pF P k) (pW P (pF P k)) = true := fun q => m1.mpr q h84
                   rw [bit_or_iff (by omega) (hz i hi)]
                   exact ⟨fun q => q.elim Or.inl (fun e => Or.inr ⟨hop, Or.inl ⟨e, a1⟩⟩), fun q => q.elim Or.inl (fun q => q.2.elim (fun q => Or.inr q.1) (fun q => absurd q.2 a2))⟩)
                | (have a1 : ¬ pb x (pS P k) (pW P (pS P k)) = true := fun q => m2.mpr q h61
                   have a2 := m1.mp h84
                   rw [bit_or_iff (by omega) (hz i hi)]
                   exact ⟨fun q => q.elim Or.inl (fun e => Or.inr ⟨hop, Or.inr ⟨e, a2⟩⟩), fun q => q.elim Or.inl (fun q => q.2.elim (fun q => absurd q.2 a1) (fun q => Or.inr q.1))⟩)
                | (have a1 : ¬ pb x (pS P k) (pW P (pS P k)) = true := fun q => m2.mpr q h61
                   have a2 : ¬ pb x (pF P k) (pW P (pF P k)) = true := fun q => m1.mpr q h84
                   rw [hz i hi]
                   exact ⟨Or.inl, fun q => q.elim id (fun q => q.2.elim (fun q => absurd q.2 a1) (fun q => absurd q.2 a2))⟩)
            · skip
              refine sw_lload dX6_freeInto_88 rfl ?_
              refine sx_lconst (v := 1) dX6_freeInto_90 (by decide) ?_
              refine sw_iload dX6_freeInto_91 rfl ?_
              refine sw_lshl dX6_freeInto_93 ?_
              refine sw_lor dX6_freeInto_94 ?_
              refine sw_lstore dX6_freeInto_95 (Nat.le_of_ble_eq_true rfl) ?_
              refine sx_iinc (nI (k + 1)) dX6_freeInto_97 rfl (nI_inc _) ?_
              refine sw_goto (tgt := 6) dX6_freeInto_100 (by decide) ?_
              refine ih _ _ _ (fun i hi => ?_)
              rw [inK_s]
              first
                | (have hn : ¬ kO K t k := fun q => by
                     have := hb.mpr q
                     rw [hask.mp h24] at this
                     cases this
                   rw [hz i hi]
                   exact ⟨Or.inl, fun q => q.elim id (fun z => absurd z.1 hn)⟩)
                | (have a1 := m2.mp h61
                   have a2 := m1.mp h84
                   rw [bit_or_iff (by omega) (bit_or_iff (by omega) (hz i hi))]
                   exact ⟨fun q => q.elim (fun q => q.elim Or.inl (fun e => Or.inr ⟨hop, Or.inl ⟨e, a1⟩⟩)) (fun e => Or.inr ⟨hop, Or.inr ⟨e, a2⟩⟩), fun q => q.elim (fun q => Or.inl (Or.inl q)) (fun q => q.2.elim (fun q => Or.inl (Or.inr q.1)) (fun q => Or.inr q.1))⟩)
                | (have a1 := m2.mp h61
                   have a2 : ¬ pb x (pF P k) (pW P (pF P k)) = true := fun q => m1.mpr q h84
                   rw [bit_or_iff (by omega) (hz i hi)]
                   exact ⟨fun q => q.elim Or.inl (fun e => Or.inr ⟨hop, Or.inl ⟨e, a1⟩⟩), fun q => q.elim Or.inl (fun q => q.2.elim (fun q => Or.inr q.1) (fun q => absurd q.2 a2))⟩)
                | (have a1 : ¬ pb x (pS P k) (pW P (pS P k)) = true := fun q => m2.mpr q h61
                   have a2 := m1.mp h84
                   rw [bit_or_iff (by omega) (hz i hi)]
                   exact ⟨fun q => q.elim Or.inl (fun e => Or.inr ⟨hop, Or.inr ⟨e, a2⟩⟩), fun q => q.elim Or.inl (fun q => q.2.elim (fun q => absurd q.2 a1) (fun q => Or.inr q.1))⟩)
                | (have a1 : ¬ pb x (pS P k) (pW P (pS P k)) = true := fun q => m2.mpr q h61
                   have a2 : ¬ pb x (pF P k) (pW P (pF P k)) = true := fun q => m1.mpr q h84
                   rw [hz i hi]
                   exact ⟨Or.inl, fun q => q.elim id (fun q => q.2.elim (fun q => absurd q.2 a1) (fun q => absurd q.2 a2))⟩)
  refine sx_lconst (v := 0) dX6_freeInto_0 (by decide) ?_
  refine sw_lstore dX6_freeInto_1 (Nat.le_of_ble_eq_true rfl) ?_
  refine sx_iconst (v := nI 0) dX6_freeInto_3 (by decide) ?_
  refine sw_istore dX6_freeInto_4 (Nat.le_of_ble_eq_true rfl) ?_
  exact loop (pD P) 0 (by omega) (by omega) _ _ _ (fun i hi => by
    rw [mb_0]
    exact ⟨fun q => Bool.noConfusion q, fun ⟨dd, q, _⟩ => absurd q (by omega)⟩)
theorem pb0 (x : Int64) (a : Nat) : pb x a 0 = mb x a := by simp [pb]
def ouK (P : PL) (K : WK) (t : Nat) (x : Int64) (k i : Nat) : Prop := ∃ dd, dd < k ∧ kO K t dd ∧ ((i = 8 * pW P (pS P dd) + pS P dd ∧ mb x (pF P dd) = true) ∨ (i = 8 * pW P (pF P dd) + pF P dd ∧ mb x (pS P dd) = true))
theorem ouK_s {P : PL} {K : WK} {t : Nat} {x : Int64} {k i : Nat} : ouK P K t x (k + 1) i ↔ (ouK P K t x k i ∨ (kO K t k ∧ ((i = 8 * pW P (pS P k) + pS P k ∧ mb x (pF P k) = true) ∨ (i = 8 * pW P (pF P k) + pF P k ∧ mb x (pS P k) = true)))) := by
  constructor
  · rintro ⟨dd, h1, h2⟩
    by_cases e : dd = k
    · subst e; exact Or.inr h2
    · exact Or.inl ⟨dd, by omega, h2⟩
  · rintro (⟨dd, h1, h2⟩ | h2)
    · exact ⟨dd, by omega, h2⟩
    · exact ⟨k, by omega, h2⟩
theorem ouK_all {P : PL} {K : WK} {t : Nat} {x : Int64} {i : Nat} : ouK P K t x (pD P) i ↔ ∃ rm rm', fre P K t rm rm' ∧ mb x rm = true ∧ i = 8 * pW P rm' + rm' := by
  constructor
  · rintro ⟨dd, h1, h2, ⟨e, h3⟩ | ⟨e, h3⟩⟩
    · exact ⟨_, _, ⟨dd, h1, h2, Or.inl ⟨rfl, rfl⟩⟩, h3, e⟩
    · exact ⟨_, _, ⟨dd, h1, h2, Or.inr ⟨rfl, rfl⟩⟩, h3, e⟩
  · rintro ⟨rm, rm', ⟨dd, h1, h2, ⟨e, e'⟩ | ⟨e, e'⟩⟩, h3, h4⟩
    · exact ⟨dd, h1, h2, Or.inl ⟨by rw [e']; exact h4, by rw [e]; exact h3⟩⟩
    · exact ⟨dd, h1, h2, Or.inr ⟨by rw [e']; exact h4, by rw [e]; exact h3⟩⟩
theorem ent_or_iff {z e : Int64} {A : Prop} {a i : Nat} (he : ∀ i, i < 64 → mb e i = decide (i = a)) (hi : i < 64) (h : mb z i = true ↔ A) : mb (z ||| e) i = true ↔ (A ∨ i = a) := by
  rw [mb_or, he i hi, Bool.or_eq_true, decide_eq_true_iff, h]
theorem c_freeOutOf {f : Int64 → Mem → Prop} {P : PL} {K : WK} {t o : Nat} {x : Int64} (hW : WT σ P K) (ho : o < 1024) (hob : ∀ dd, dd < 10 → (o.testBit dd = true ↔ kO K t dd)) (h : ∀ z, (∀ i, i < 64 → (mb z i = true ↔ ∃ rm rm', fre P K t rm rm' ∧ mb x rm = true ∧ i = 8 * pW P rm' + rm')) → f z σ) : SW G d M_X6_freeOutOf 0 [some (.ref 35), some (.long x), none, some (.int (nI o)), none, none, none, none, none] [] σ (RJ f) := by
  obtain ⟨hP, hV, -, -, -, -, -, -, -, hE⟩ := hW
  have hD := hV.2.1
  have h8 := hV.1
  have loop : ∀ (m k : Nat), m = pD P - k → k ≤ pD P → ∀ (z : Int64) (o7 o8 : Option Value), (∀ i, i < 64 → (mb z i = true ↔ ouK P K t x k i)) → SW G d M_X6_freeOutOf 6 [some (.ref 35), some (.long x), none, some (.int (nI o)), some (.long z), none, some (.int (nI k)), o7, o8] [] σ (RJ f) := by
    intro m
    induction m with
    | zero =>
      intro k hm hk z o7 o8 hz
      obtain rfl : k = pD P := by omega
      refine sw_iload dX6_freeOutOf_6 rfl ?_
      refine sw_aloadn dX6_freeOutOf_8 rfl ?_
      refine sw_getR dX6_freeOutOf_9 fs_X6_47 o35 r35_0 ?_
      refine sw_getI dX6_freeOutOf_12 fs_X6_154 o2 ?_
      rw [hP.2.1]
      refine sw_icmp_ge (tgt := 103) dX6_freeOutOf_15 (by decide) (fun h15 => ?_) (fun h15 => ?_)
      · skip
        refine sw_lload dX6_freeOutOf_103 rfl ?_
        refine sx_retl dX6_freeOutOf_105 rfl ?_
        exact h z (fun i hi => (hz i hi).trans ouK_all)
      · exact absurd ((nI_le (Nat.le_refl _) (by omega))) h15
    | succ m ih =>
      intro k hm hk z o7 o8 hz
      have hkD : k < pD P := by omega
      obtain ⟨q1, q2, -, -⟩ := hV.2.2.2.1 k hkD
      have e1 := hE _ q1
      have e2 := hE _ q2
      have m1 := mb_ask x (show pF P k < 64 by omega)
      have m2 := mb_ask x (show pS P k < 64 by omega)
      have hb := hob k (by omega)
      have ih := ih (k + 1) (by omega) (by omega)
      have hask := ib_ask o ho k (by omega)
      refine sw_iload dX6_freeOutOf_6 rfl ?_
      refine sw_aloadn dX6_freeOutOf_8 rfl ?_
      refine sw_getR dX6_freeOutOf_9 fs_X6_47 o35 r35_0 ?_
      refine sw_getI dX6_freeOutOf_12 fs_X6_154 o2 ?_
      rw [hP.2.1]
      refine sw_icmp_ge (tgt := 103) dX6_freeOutOf_15 (by decide) (fun h15 => ?_) (fun h15 => ?_)
      · exact absurd h15 ((by rw [nI_le' (by omega) (by omega)]; omega))
      · skip
        refine sw_iloadn dX6_freeOutOf_18 rfl ?_
        refine sw_iload dX6_freeOutOf_19 rfl ?_
        refine sw_iushr dX6_freeOutOf_21 ?_
        refine sx_iconst (v := nI 1) dX6_freeOutOf_22 (by decide) ?_
        refine sw_iand dX6_freeOutOf_23 ?_
        refine sw_if_eq (tgt := 97) dX6_freeOutOf_24 (by decide) (fun h24 => ?_) (fun h24 => ?_)
        · skip
          refine sx_iinc (nI (k + 1)) dX6_freeOutOf_97 rfl (nI_inc _) ?_
          refine sw_goto (tgt := 6) dX6_freeOutOf_100 (by decide) ?_
          refine ih _ _ _ (fun i hi => ?_)
          rw [ouK_s]
          first
            | (have hn : ¬ kO K t k := fun q => by
                 have := hb.mpr q
                 rw [hask.mp h24] at this
                 cases this
               rw [hz i hi]
               exact ⟨Or.inl, fun q => q.elim id (fun z => absurd z.1 hn)⟩)
            | (have a1 := m1.mp h58
               have a2 := m2.mp h81
               rw [ent_or_iff e1 hi (ent_or_iff e2 hi (hz i hi))]
               exact ⟨fun q => q.elim (fun q => q.elim Or.inl (fun e => Or.inr ⟨hop, Or.inl ⟨e, a1⟩⟩)) (fun e => Or.inr ⟨hop, Or.inr ⟨e, a2⟩⟩), fun q => q.elim (fun q => Or.inl (Or.inl q)) (fun q => q.2.elim (fun q => Or.inl (Or.inr q.1)) (fun q => Or.inr q.1))⟩)
            | (have a1 := m1.mp h58
               have a2 : ¬ mb x (pS P k) = true := fun q => m2.mpr q h81
               rw [ent_or_iff e2 hi (hz i hi)]
               exact ⟨fun q => q.elim Or.inl (fun e => Or.inr ⟨hop, Or.inl ⟨e, a1⟩⟩), fun q => q.elim Or.inl (fun q => q.2.elim (fun q => Or.inr q.1) (fun q => absurd q.2 a2))⟩)
            | (have a1 : ¬ mb x (pF P k) = true := fun q => m1.mpr q h58
               have a2 := m2.mp h81
               rw [ent_or_iff e1 hi (hz i hi)]
               exact ⟨fun q => q.elim Or.inl (fun e => Or.inr ⟨hop, Or.inr ⟨e, a2⟩⟩), fun q => q.elim Or.inl (fun q => q.2.elim (fun q => absurd q.2 a1) (fun q => Or.inr q.1))⟩)
            | (have a1 : ¬ mb x (pF P k) = true := fun q => m1.mpr q h58
               have a2 : ¬ mb x (pS P k) = true := fun q => m2.mpr q h81
               rw [hz i hi]
               exact ⟨Or.inl, fun q => q.elim id (fun q => q.2.elim (fun q => absurd q.2 a1) (fun q => absurd q.2 a2))⟩)
        · skip
          have hop : kO K t k := hb.mp (by rw [← Bool.not_eq_false]; exact fun q => h24 (hask.mpr q))
          refine sw_aloadn dX6_freeOutOf_27 rfl ?_
          refine sw_getR dX6_freeOutOf_28 fs_X6_47 o35 r35_0 ?_
          refine sw_getR dX6_freeOutOf_31 fs_X6_157 o2 r2_5 ?_
          refine sw_iload dX6_freeOutOf_34 rfl ?_
          refine sx_iald (k) dX6_freeOutOf_36 a6 (rfl) (by omega) (by decide) ?_
          rw [hP.2.2.2.1 k hkD]
          refine sw_istore dX6_freeOutOf_37 (Nat.le_of_ble_eq_true rfl) ?_
          refine sw_aloadn dX6_freeOutOf_39 rfl ?_
          refine sw_getR dX6_freeOutOf_40 fs_X6_47 o35 r35_0 ?_
          refine sw_getR dX6_freeOutOf_43 fs_X6_160 o2 r2_6 ?_
          refine sw_iload dX6_freeOutOf_46 rfl ?_
          refine sx_iald (k) dX6_freeOutOf_48 a7 (rfl) (by omega) (by decide) ?_
          rw [hP.2.2.2.2.1 k hkD]
          refine sw_istore dX6_freeOutOf_49 (Nat.le_of_ble_eq_true rfl) ?_
          refine sw_lloadn dX6_freeOutOf_51 rfl ?_
          refine sw_iload dX6_freeOutOf_52 rfl ?_
          refine sw_lushr dX6_freeOutOf_54 ?_
          refine sx_lconst (v := 1) dX6_freeOutOf_55 (by decide) ?_
          refine sw_land dX6_freeOutOf_56 ?_
          refine sx_lconst (v := 0) dX6_freeOutOf_57 (by decide) ?_
          refine sw_lc_eq (tgt := 74) dX6_freeOutOf_58 dX6_freeOutOf_59 (by decide) (fun h58 => ?_) (fun h58 => ?_)
          · skip
            refine sw_lloadn dX6_freeOutOf_74 rfl ?_
            refine sw_iload dX6_freeOutOf_75 rfl ?_
            refine sw_lushr dX6_freeOutOf_77 ?_
            refine sx_lconst (v := 1) dX6_freeOutOf_78 (by decide) ?_
            refine sw_land dX6_freeOutOf_79 ?_
            refine sx_lconst (v := 0) dX6_freeOutOf_80 (by decide) ?_
            refine sw_lc_eq (tgt := 97) dX6_freeOutOf_81 dX6_freeOutOf_82 (by decide) (fun h81 => ?_) (fun h81 => ?_)
            · skip
              refine sx_iinc (nI (k + 1)) dX6_freeOutOf_97 rfl (nI_inc _) ?_
              refine sw_goto (tgt := 6) dX6_freeOutOf_100 (by decide) ?_
              refine ih _ _ _ (fun i hi => ?_)
              rw [ouK_s]
              first
                | (have hn : ¬ kO K t k := fun q => by
                     have := hb.mpr q
                     rw [hask.mp h24] at this
                     cases this
                   rw [hz i hi]
                   exact ⟨Or.inl, fun q => q.elim id (fun z => absurd z.1 hn)⟩)
                | (have a1 := m1.mp h58
                   have a2 := m2.mp h81
                   rw [ent_or_iff e1 hi (ent_or_iff e2 hi (hz i hi))]
                   exact ⟨fun q => q.elim (fun q => q.elim Or.inl (fun e => Or.inr ⟨hop, Or.inl ⟨e, a1⟩⟩)) (fun e => Or.inr ⟨hop, Or.inr ⟨e, a2⟩⟩), fun q => q.elim (fun q => Or.inl (Or.inl q)) (fun q => q.2.elim (fun q => Or.inl (Or.inr q.1)) (fun q => Or.inr q.1))⟩)
                | (have a1 := m1.mp h58
                   have a2 : ¬ mb x (pS P k) = true := fun q => m2.mpr q h81
                   rw [ent_or_iff e2 hi (hz i hi)]
                   exact ⟨fun q => q.elim Or.inl (fun e => Or.inr ⟨hop, Or.inl ⟨e, a1⟩⟩), fun q => q.elim Or.inl (fun q => q.2.elim (fun q => Or.inr q.1) (fun q => absurd q.2 a2))⟩)
                | (have a1 : ¬ mb x (pF P k) = true := fun q => m1.mpr q h58
                   have a2 := m2.mp h81
                   rw [ent_or_iff e1 hi (hz i hi)]
                   exact ⟨fun q => q.elim Or.inl (fun e => Or.inr ⟨hop, Or.inr ⟨e, a2⟩⟩), fun q => q.elim Or.inl (fun q => q.2.elim (fun q => absurd q.2 a1) (fun q => Or.inr q.1))⟩)
                | (have a1 : ¬ mb x (pF P k) = true := fun q => m1.mpr q h58
                   have a2 : ¬ mb x (pS P k) = true := fun q => m2.mpr q h81
                   rw [hz i hi]
                   exact ⟨Or.inl, fun q => q.elim id (fun q => q.2.elim (fun q => absurd q.2 a1) (fun q => absurd q.2 a2))⟩)
            · skip
              refine sw_lload dX6_freeOutOf_85 rfl ?_
              refine sw_aloadn dX6_freeOutOf_87 rfl ?_
              refine sw_getR dX6_freeOutOf_88 fs_X6_38 o35 r35_11 ?_
              refine sw_iload dX6_freeOutOf_91 rfl ?_
              refine sx_lald (pF P k) dX6_freeOutOf_93 a43 (rfl) (by omega) (by decide) ?_
              refine sw_lor dX6_freeOutOf_94 ?_
              refine sw_lstore dX6_freeOutOf_95 (Nat.le_of_ble_eq_true rfl) ?_
              refine sx_iinc (nI (k + 1)) dX6_freeOutOf_97 rfl (nI_inc _) ?_
              refine sw_goto (tgt := 6) dX6_freeOutOf_100 (by decide) ?_
              refine ih _ _ _ (fun i hi => ?_)
              rw [ouK_s]
              first
                | (have hn : ¬ kO K t k := fun q => by
                     have := hb.mpr q
                     rw [hask.mp h24] at this
                     cases this
                   rw [hz i hi]
                   exact ⟨Or.inl, fun q => q.elim id (fun z => absurd z.1 hn)⟩)
                | (have a1 := m1.mp h58
                   have a2 := m2.mp h81
                   rw [ent_or_iff e1 hi (ent_or_iff e2 hi (hz i hi))]
                   exact ⟨fun q => q.elim (fun q => q.elim Or.inl (fun e => Or.inr ⟨hop, Or.inl ⟨e, a1⟩⟩)) (fun e => Or.inr ⟨hop, Or.inr ⟨e, a2⟩⟩), fun q => q.elim (fun q => Or.inl (Or.inl q)) (fun q => q.2.elim (fun q => Or.inl (Or.inr q.1)) (fun q => Or.inr q.1))⟩)
                | (have a1 := m1.mp h58
                   have a2 : ¬ mb x (pS P k) = true := fun q => m2.mpr q h81
                   rw [ent_or_iff e2 hi (hz i hi)]
                   exact ⟨fun q => q.elim Or.inl (fun e => Or.inr ⟨hop, Or.inl ⟨e, a1⟩⟩), fun q => q.elim Or.inl (fun q => q.2.elim (fun q => Or.inr q.1) (fun q => absurd q.2 a2))⟩)
                | (have a1 : ¬ mb x (pF P k) = true := fun q => m1.mpr q h58
                   have a2 := m2.mp h81
                   rw [ent_or_iff e1 hi (hz i hi)]
                   exact ⟨fun q => q.elim Or.inl (fun e => Or.inr ⟨hop, Or.inr ⟨e, a2⟩⟩), fun q => q.elim Or.inl (fun q => q.2.elim (fun q => absurd q.2 a1) (fun q => Or.inr q.1))⟩)
                | (have a1 : ¬ mb x (pF P k) = true := fun q => m1.mpr q h58
                   have a2 : ¬ mb x (pS P k) = true := fun q => m2.mpr q h81
                   rw [hz i hi]
                   exact ⟨Or.inl, fun q => q.elim id (fun q => q.2.elim (fun q => absurd q.2 a1) (fun q => absurd q.2 a2))⟩)
          · skip
            refine sw_lload dX6_freeOutOf_62 rfl ?_
            refine sw_aloadn dX6_freeOutOf_64 rfl ?_
            refine sw_getR dX6_freeOutOf_65 fs_X6_38 o35 r35_11 ?_
            refine sw_iload dX6_freeOutOf_68 rfl ?_
            refine sx_lald (pS P k) dX6_freeOutOf_70 a43 (rfl) (by omega) (by decide) ?_
            refine sw_lor dX6_freeOutOf_71 ?_
            refine sw_lstore dX6_freeOutOf_72 (Nat.le_of_ble_eq_true rfl) ?_
            refine sw_lloadn dX6_freeOutOf_74 rfl ?_
            refine sw_iload dX6_freeOutOf_75 rfl ?_
            refine sw_lushr dX6_freeOutOf_77 ?_
            refine sx_lconst (v := 1) dX6_freeOutOf_78 (by decide) ?_
            refine sw_land dX6_freeOutOf_79 ?_
            refine sx_lconst (v := 0) dX6_freeOutOf_80 (by decide) ?_
            refine sw_lc_eq (tgt := 97) dX6_freeOutOf_81 dX6_freeOutOf_82 (by decide) (fun h81 => ?_) (fun h81 => ?_)
            · skip
              refine sx_iinc (nI (k + 1)) dX6_freeOutOf_97 rfl (nI_inc _) ?_
              refine sw_goto (tgt := 6) dX6_freeOutOf_100 (by decide) ?_
              refine ih _ _ _ (fun i hi => ?_)
              rw [ouK_s]
              first
                | (have hn : ¬ kO K t k := fun q => by
                     have := hb.mpr q
                     rw [hask.mp h24] at this
                     cases this
                   rw [hz i hi]
                   exact ⟨Or.inl, fun q => q.elim id (fun z => absurd z.1 hn)⟩)
                | (have a1 := m1.mp h58
                   have a2 := m2.mp h81
                   rw [ent_or_iff e1 hi (ent_or_iff e2 hi (hz i hi))]
                   exact ⟨fun q => q.elim (fun q => q.elim Or.inl (fun e => Or.inr ⟨hop, Or.inl ⟨e, a1⟩⟩)) (fun e => Or.inr ⟨hop, Or.inr ⟨e, a2⟩⟩), fun q => q.elim (fun q => Or.inl (Or.inl q)) (fun q => q.2.elim (fun q => Or.inl (Or.inr q.1)) (fun q => Or.inr q.1))⟩)
                | (have a1 := m1.mp h58
                   have a2 : ¬ mb x (pS P k) = true := fun q => m2.mpr q h81
                   rw [ent_or_iff e2 hi (hz i hi)]
                   exact ⟨fun q => q.elim Or.inl (fun e => Or.inr ⟨hop, Or.inl ⟨e, a1⟩⟩), fun q => q.elim Or.inl (fun q => q.2.elim (fun q => Or.inr q.1) (fun q => absurd q.2 a2))⟩)
                | (have a1 : ¬ mb x (pF P k) = true := fun q => m1.mpr q h58
                   have a2 := m2.mp h81
                   rw [ent_or_iff e1 hi (hz i hi)]
                   exact ⟨fun q => q.elim Or.inl (fun e => Or.inr ⟨hop, Or.inr ⟨e, a2⟩⟩), fun q => q.elim Or.inl (fun q => q.2.elim (fun q => absurd q.2 a1) (fun q => Or.inr q.1))⟩)
                | (have a1 : ¬ mb x (pF P k) = true := fun q => m1.mpr q h58
                   have a2 : ¬ mb x (pS P k) = true := fun q => m2.mpr q h81
                   rw [hz i hi]
                   exact ⟨Or.inl, fun q => q.elim id (fun q => q.2.elim (fun q => absurd q.2 a1) (fun q => absurd q.2 a2))⟩)
            · skip
              refine sw_lload dX6_freeOutOf_85 rfl ?_
              refine sw_aloadn dX6_freeOutOf_87 rfl ?_
              refine sw_getR dX6_freeOutOf_88 fs_X6_38 o35 r35_11 ?_
              refine sw_iload dX6_freeOutOf_91 rfl ?_
              refine sx_lald (pF P k) dX6_freeOutOf_93 a43 (rfl) (by omega) (by decide) ?_
              refine sw_lor dX6_freeOutOf_94 ?_
              refine sw_lstore dX6_freeOutOf_95 (Nat.le_of_ble_eq_true rfl) ?_
              refine sx_iinc (nI (k + 1)) dX6_freeOutOf_97 rfl (nI_inc _) ?_
              refine sw_goto (tgt := 6) dX6_freeOutOf_100 (by decide) ?_
              refine ih _ _ _ (fun i hi => ?_)
              rw [ouK_s]
              first
                | (have hn : ¬ kO K t k := fun q => by
                     have := hb.mpr q
                     rw [hask.mp h24] at this
                     cases this
                   rw [hz i hi]
                   exact ⟨Or.inl, fun q => q.elim id (fun z => absurd z.1 hn)⟩)
                | (have a1 := m1.mp h58
                   have a2 := m2.mp h81
                   rw [ent_or_iff e1 hi (ent_or_iff e2 hi (hz i hi))]
                   exact ⟨fun q => q.elim (fun q => q.elim Or.inl (fun e => Or.inr ⟨hop, Or.inl ⟨e, a1⟩⟩)) (fun e => Or.inr ⟨hop, Or.inr ⟨e, a2⟩⟩), fun q => q.elim (fun q => Or.inl (Or.inl q)) (fun q => q.2.elim (fun q => Or.inl (Or.inr q.1)) (fun q => Or.inr q.1))⟩)
                | (have a1 := m1.mp h58
                   have a2 : ¬ mb x (pS P k) = true := fun q => m2.mpr q h81
                   rw [ent_or_iff e2 hi (hz i hi)]
                   exact ⟨fun q => q.elim Or.inl (fun e => Or.inr ⟨hop, Or.inl ⟨e, a1⟩⟩), fun q => q.elim Or.inl (fun q => q.2.elim (fun q => Or.inr q.1) (fun q => absurd q.2 a2))⟩)
                | (have a1 : ¬ mb x (pF P k) = true := fun q => m1.mpr q h58
                   have a2 := m2.mp h81
                   rw [ent_or_iff e1 hi (hz i hi)]
                   exact ⟨fun q => q.elim Or.inl (fun e => Or.inr ⟨hop, Or.inr ⟨e, a2⟩⟩), fun q => q.elim Or.inl (fun q => q.2.elim (fun q => absurd q.2 a1) (fun q => Or.inr q.1))⟩)
                | (have a1 : ¬ mb x (pF P k) = true := fun q => m1.mpr q h58
                   have a2 : ¬ mb x (pS P k) = true := fun q => m2.mpr q h81
                   rw [hz i hi]
                   exact ⟨Or.inl, fun q => q.elim id (fun q => q.2.elim (fun q => absurd q.2 a1) (fun q => absurd q.2 a2))⟩)
  refine sx_lconst (v := 0) dX6_freeOutOf_0 (by decide) ?_
  refine sw_lstore dX6_freeOutOf_1 (Nat.le_of_ble_eq_true rfl) ?_
  refine sx_iconst (v := nI 0) dX6_freeOutOf_3 (by decide) ?_
  refine sw_istore dX6_freeOutOf_4 (Nat.le_of_ble_eq_true rfl) ?_
  exact loop (pD P) 0 (by omega) (by omega) _ _ _ (fun i hi => by
    rw [mb_0]
    exact ⟨fun q => Bool.noConfusion q, fun ⟨dd, q, _⟩ => absurd q (by omega)⟩)
/-- a row of sets, one a stage, holds H -/
def rowH (K : WK) (h : Nat → Int64) (b : Nat) (H : Nat → Nat → Nat → Prop) : Prop := ∀ j, j ≤ kN K → (∀ rm a, rm < 8 → a ≤ 4 → (pb (h (b + j)) rm a = true ↔ H j rm a)) ∧ ∀ i, 40 ≤ i → mb (h (b + j)) i = false
theorem pb_up {x : Int64} {rm a : Nat} (hr : rm < 8) (ha : a ≤ 4) : pb ((x <<< ((nI 8).toInt64 &&& 63) &&& 1099511627775) ||| (x &&& 255)) rm a = pb x rm (a - 1) := by
  unfold pb
  rw [mb_or, mb_and, mb_and, mb_shl x (by omega), mb_40, mb_255]
  cases a with
  | zero => simp [hr]
  | succ a =>
    have e : 8 * (a + 1) + rm - 8 = 8 * a + rm := by omega
    have h1 : 8 * (a + 1) + rm < 64 := by omega
    have h2 : ¬ 8 * (a + 1) + rm < 8 := by omega
    have h3 : 8 * (a + 1) + rm < 40 := by omega
    simp [e, h1, h2, h3]
theorem up_out {x : Int64} {i : Nat} (hi : 40 ≤ i) : mb ((x <<< ((nI 8).toInt64 &&& 63) &&& 1099511627775) ||| (x &&& 255)) i = false := by
  rw [mb_or, mb_and, mb_and, mb_40, mb_255, decide_eq_false (by omega), decide_eq_false (by omega)]
  simp
theorem c_hopefulAhead {f : Int64 → Mem → Prop} {P : PL} {K : WK} {t j : Nat} {H : Nat → Nat → Nat → Prop} (hW : WT σ P K) (ht : t < 200) (hj : j ≤ kN K) (hH : rowH K (σ.2 44) (t * 13) H) (h : ∀ z, (∀ rm a, rm < 8 → a ≤ 4 → (pb z rm a = true ↔ ∃ j' rm' a', stp P K t j rm a j' rm' a' ∧ H j' rm' a')) → (∀ i, 40 ≤ i → mb z i = false) → f z σ) : SW G (d + 1) M_X6_hopefulAhead 0 [some (.ref 35), some (.int (nI t)), some (.int (nI j)), none, none, none, none] [] σ (RJ f) := by
  have hP := hW.1
  have hV := hW.2.1
  have hK := hW.2.2.1
  have h12 := hK.1
  have h8 := hV.1
  obtain ⟨o, ho, ho1, ho2⟩ := hW.2.2.2.2.2.2.2.1 t ht
  have hE := hW.2.2.2.2.2.2.2.2.2
  obtain ⟨hH1, hH2⟩ := hH j hj
  have out : ∀ {i : Nat} {A : Prop}, 40 ≤ i → (∀ z : Int64, (∀ i, i < 64 → (mb z i = true ↔ ∃ rm', fre P K t i rm' ∧ A)) → mb z i = false) := by
    intro i A hi z hz
    by_cases h64 : i < 64
    · rw [Bool.eq_false_iff]
      intro q
      obtain ⟨rm', q1, -⟩ := (hz i h64).mp q
      have := (fre_lt hV q1).1
      omega
    · exact mb_out _ (by omega)
  have snd : ∀ (x z : Int64), (∀ rm a, rm < 8 → a ≤ 4 → (pb z rm a = true ↔ (H j rm (a - 1) ∨ (a = 0 ∧ ∃ rm', fre P K t rm rm' ∧ H j rm' (pW P rm'))))) → (∀ i, 40 ≤ i → mb z i = false) → SW G (d + 1) M_X6_hopefulAhead 62 [some (.ref 35), some (.int (nI t)), some (.int (nI j)), some (.long x), none, some (.long z), none] [] σ (RJ f) := by
    intro x z hz hzo
    have none' : ¬ (j < kN K ∧ kT K j t ∧ H (j + 1) (kC K j) (pW P (kC K j))) → f z σ := by
      intro hno
      refine h z (fun rm a hr ha => ?_) hzo
      rw [hz rm a hr ha]
      constructor
      · rintro (q | ⟨rfl, rm', q1, q2⟩)
        · exact ⟨j, rm, a - 1, Or.inl ⟨rfl, rfl, rfl⟩, q⟩
        · exact ⟨j, rm', pW P rm', Or.inr (Or.inl ⟨rfl, rfl, rfl, q1⟩), q2⟩
      · rintro ⟨j', rm', a', ⟨rfl, rfl, rfl⟩ | ⟨rfl, rfl, rfl, q1⟩ | ⟨rfl, rfl, q1, rfl, q2, q3, q4⟩, q⟩
        · exact Or.inl q
        · exact Or.inr ⟨rfl, rm', q1, q⟩
        · exact absurd ⟨q1, q2, by rw [q4]; exact q⟩ hno
    refine sw_iloadn dX6_hopefulAhead_62 rfl ?_
    refine sw_aloadn dX6_hopefulAhead_63 rfl ?_
    refine sw_getI dX6_hopefulAhead_64 fs_X6_67 o35 ?_
    rw [hW.2.2.2.1]
    refine sw_icmp_ge (tgt := 122) dX6_hopefulAhead_67 (by decide) (fun h67 => ?_) (fun h67 => ?_)
    · skip
      refine sw_lload dX6_hopefulAhead_122 rfl ?_
      refine sx_retl dX6_hopefulAhead_124 rfl ?_
      first
        | (have hh := (hN1 _ _ (by omega) hw).mp (mm.mp h105)
           refine h _ (fun rm a hr ha => ?_) (fun i hi => ?_)
           · unfold pb
             rw [bit_or_iff (by omega) (hz rm a hr ha)]
             constructor
             · rintro ((q | ⟨rfl, rm', q1, q2⟩) | q)
               · exact ⟨j, rm, a - 1, Or.inl ⟨rfl, rfl, rfl⟩, q⟩
               · exact ⟨j, rm', pW P rm', Or.inr (Or.inl ⟨rfl, rfl, rfl, q1⟩), q2⟩
               · have ea : a = 0 := by omega
                 subst ea
                 exact ⟨j + 1, kC K j, pW P (kC K j), Or.inr (Or.inr ⟨rfl, rfl, hjn, rfl, h73, by omega, rfl⟩), hh⟩
             · rintro ⟨j', rm', a', ⟨rfl, rfl, rfl⟩ | ⟨rfl, rfl, rfl, q1⟩ | ⟨rfl, rfl, q1, rfl, q2, q3, q4⟩, q⟩
               · exact Or.inl (Or.inl q)
               · exact Or.inl (Or.inr ⟨rfl, rm', q1, q⟩)
               · exact Or.inr (by omega)
           · rw [mb_or, hzo i hi, mb_bit (by omega), decide_eq_false (by omega)]; rfl)
        | exact none' (fun q => absurd (mm.mpr ((hN1 _ _ (by omega) hw).mpr q.2.2)) (fun z => z h105))
        | exact none' (fun q => h73 q.2.1)
        | exact none' (fun q => absurd q.1 (by rw [nI_le' (by omega) (by omega)] at h67; omega))
    · skip
      have hjn : j < kN K := by rw [nI_le' (by omega) (by omega)] at h67; omega
      obtain ⟨hl, hc⟩ := hK.2 j hjn
      have hw := hV.2.2.1 _ hc
      obtain ⟨hN1, hN2⟩ := hH (j + 1) hjn
      have mm := mb_mask (x := σ.2 44 (t * 13 + (j + 1))) (show 8 * pW P (kC K j) + kC K j < 64 by omega) (hE _ hc)
      refine sw_aloadn dX6_hopefulAhead_70 rfl ?_
      refine sw_iloadn dX6_hopefulAhead_71 rfl ?_
      refine sw_iloadn dX6_hopefulAhead_72 rfl ?_
      refine sx_invI2 dX6_hopefulAhead_73 mk_X6_isInTime vk_X6_isInTime lk_X6_151 o35 (Nat.le_of_ble_eq_true rfl) (Nat.le_of_ble_eq_true rfl) ?_
      refine c_isInTime hW hjn ht (fun h73 => ?_) (fun h73 => ?_)
      · skip
        refine sw_if_eq (tgt := 122) dX6_hopefulAhead_76 (by decide) (fun h76 => ?_) (fun h76 => ?_)
        · exact absurd h76 (by decide)
        · skip
          refine sw_aloadn dX6_hopefulAhead_79 rfl ?_
          refine sw_getR dX6_hopefulAhead_80 fs_X6_41 o35 r35_12 ?_
          refine sw_iloadn dX6_hopefulAhead_83 rfl ?_
          refine sx_bipush (v := nI 13) dX6_hopefulAhead_84 (by decide) ?_
          refine sw_imul dX6_hopefulAhead_86 ?_
          refine sw_iloadn dX6_hopefulAhead_87 rfl ?_
          refine sw_iadd dX6_hopefulAhead_88 ?_
          refine sx_iconst (v := nI 1) dX6_hopefulAhead_89 (by decide) ?_
          refine sw_iadd dX6_hopefulAhead_90 ?_
          refine sx_lald (t * 13 + (j + 1)) dX6_hopefulAhead_91 a44 (by rw [nI_mul, nI_add, nI_add, Nat.add_assoc]) (by omega) (by decide) ?_
          refine sw_aloadn dX6_hopefulAhead_92 rfl ?_
          refine sw_getR dX6_hopefulAhead_93 fs_X6_38 o35 r35_11 ?_
          refine sw_aloadn dX6_hopefulAhead_96 rfl ?_
          refine sw_getR dX6_hopefulAhead_97 fs_X6_18 o35 r35_5 ?_
          refine sw_iloadn dX6_hopefulAhead_100 rfl ?_
          refine sx_iald (j) dX6_hopefulAhead_101 a38 (rfl) (by omega) (by decide) ?_
          rw [hW.2.2.2.2.2.1 j hjn]
          refine sx_lald (kC K j) dX6_hopefulAhead_102 a43 (rfl) (by omega) (by decide) ?_
          refine sw_land dX6_hopefulAhead_103 ?_
          refine sx_lconst (v := 0) dX6_hopefulAhead_104 (by decide) ?_
          refine sw_lc_eq (tgt := 122) dX6_hopefulAhead_105 dX6_hopefulAhead_106 (by decide) (fun h105 => ?_) (fun h105 => ?_)
          · skip
            refine sw_lload dX6_hopefulAhead_122 rfl ?_
            refine sx_retl dX6_hopefulAhead_124 rfl ?_
            first
              | (have hh := (hN1 _ _ (by omega) hw).mp (mm.mp h105)
                 refine h _ (fun rm a hr ha => ?_) (fun i hi => ?_)
                 · unfold pb
                   rw [bit_or_iff (by omega) (hz rm a hr ha)]
                   constructor
                   · rintro ((q | ⟨rfl, rm', q1, q2⟩) | q)
                     · exact ⟨j, rm, a - 1, Or.inl ⟨rfl, rfl, rfl⟩, q⟩
                     · exact ⟨j, rm', pW P rm', Or.inr (Or.inl ⟨rfl, rfl, rfl, q1⟩), q2⟩
                     · have ea : a = 0 := by omega
                       subst ea
                       exact ⟨j + 1, kC K j, pW P (kC K j), Or.inr (Or.inr ⟨rfl, rfl, hjn, rfl, h73, by omega, rfl⟩), hh⟩
                   · rintro ⟨j', rm', a', ⟨rfl, rfl, rfl⟩ | ⟨rfl, rfl, rfl, q1⟩ | ⟨rfl, rfl, q1, rfl, q2, q3, q4⟩, q⟩
                     · exact Or.inl (Or.inl q)
                     · exact Or.inl (Or.inr ⟨rfl, rm', q1, q⟩)
                     · exact Or.inr (by omega)
                 · rw [mb_or, hzo i hi, mb_bit (by omega), decide_eq_false (by omega)]; rfl)
              | exact none' (fun q => absurd (mm.mpr ((hN1 _ _ (by omega) hw).mpr q.2.2)) (fun z => z h105))
              | exact none' (fun q => h73 q.2.1)
              | exact none' (fun q => absurd q.1 (by rw [nI_le' (by omega) (by omega)] at h67; omega))
          · skip
            refine sw_lload dX6_hopefulAhead_109 rfl ?_
            refine sx_lconst (v := 1) dX6_hopefulAhead_111 (by decide) ?_
            refine sw_aloadn dX6_hopefulAhead_112 rfl ?_
            refine sw_getR dX6_hopefulAhead_113 fs_X6_15 o35 r35_4 ?_
            refine sw_iloadn dX6_hopefulAhead_116 rfl ?_
            refine sx_iald (j) dX6_hopefulAhead_117 a37 (rfl) (by omega) (by decide) ?_
            rw [hW.2.2.2.2.1 j hjn]
            refine sw_lshl dX6_hopefulAhead_118 ?_
            refine sw_lor dX6_hopefulAhead_119 ?_
            refine sw_lstore dX6_hopefulAhead_120 (Nat.le_of_ble_eq_true rfl) ?_
            refine sw_lload dX6_hopefulAhead_122 rfl ?_
            refine sx_retl dX6_hopefulAhead_124 rfl ?_
            first
              | (have hh := (hN1 _ _ (by omega) hw).mp (mm.mp h105)
                 refine h _ (fun rm a hr ha => ?_) (fun i hi => ?_)
                 · unfold pb
                   rw [bit_or_iff (by omega) (hz rm a hr ha)]
                   constructor
                   · rintro ((q | ⟨rfl, rm', q1, q2⟩) | q)
                     · exact ⟨j, rm, a - 1, Or.inl ⟨rfl, rfl, rfl⟩, q⟩
                     · exact ⟨j, rm', pW P rm', Or.inr (Or.inl ⟨rfl, rfl, rfl, q1⟩), q2⟩
                     · have ea : a = 0 := by omega
                       subst ea
                       exact ⟨j + 1, kC K j, pW P (kC K j), Or.inr (Or.inr ⟨rfl, rfl, hjn, rfl, h73, by omega, rfl⟩), hh⟩
                   · rintro ⟨j', rm', a', ⟨rfl, rfl, rfl⟩ | ⟨rfl, rfl, rfl, q1⟩ | ⟨rfl, rfl, q1, rfl, q2, q3, q4⟩, q⟩
                     · exact Or.inl (Or.inl q)
                     · exact Or.inl (Or.inr ⟨rfl, rm', q1, q⟩)
                     · exact Or.inr (by omega)
                 · rw [mb_or, hzo i hi, mb_bit (by omega), decide_eq_false (by omega)]; rfl)
              | exact none' (fun q => absurd (mm.mpr ((hN1 _ _ (by omega) hw).mpr q.2.2)) (fun z => z h105))
              | exact none' (fun q => h73 q.2.1)
              | exact none' (fun q => absurd q.1 (by rw [nI_le' (by omega) (by omega)] at h67; omega))
      · skip
        refine sw_if_eq (tgt := 122) dX6_hopefulAhead_76 (by decide) (fun h76 => ?_) (fun h76 => ?_)
        · skip
          refine sw_lload dX6_hopefulAhead_122 rfl ?_
          refine sx_retl dX6_hopefulAhead_124 rfl ?_
          first
            | (have hh := (hN1 _ _ (by omega) hw).mp (mm.mp h105)
               refine h _ (fun rm a hr ha => ?_) (fun i hi => ?_)
               · unfold pb
                 rw [bit_or_iff (by omega) (hz rm a hr ha)]
                 constructor
                 · rintro ((q | ⟨rfl, rm', q1, q2⟩) | q)
                   · exact ⟨j, rm, a - 1, Or.inl ⟨rfl, rfl, rfl⟩, q⟩
                   · exact ⟨j, rm', pW P rm', Or.inr (Or.inl ⟨rfl, rfl, rfl, q1⟩), q2⟩
                   · have ea : a = 0 := by omega
                     subst ea
                     exact ⟨j + 1, kC K j, pW P (kC K j), Or.inr (Or.inr ⟨rfl, rfl, hjn, rfl, h73, by omega, rfl⟩), hh⟩
                 · rintro ⟨j', rm', a', ⟨rfl, rfl, rfl⟩ | ⟨rfl, rfl, rfl, q1⟩ | ⟨rfl, rfl, q1, rfl, q2, q3, q4⟩, q⟩
                   · exact Or.inl (Or.inl q)
                   · exact Or.inl (Or.inr ⟨rfl, rm', q1, q⟩)
                   · exact Or.inr (by omega)
               · rw [mb_or, hzo i hi, mb_bit (by omega), decide_eq_false (by omega)]; rfl)
            | exact none' (fun q => absurd (mm.mpr ((hN1 _ _ (by omega) hw).mpr q.2.2)) (fun z => z h105))
            | exact none' (fun q => h73 q.2.1)
            | exact none' (fun q => absurd q.1 (by rw [nI_le' (by omega) (by omega)] at h67; omega))
        · exact absurd h76 (by decide)
  refine sw_aloadn dX6_hopefulAhead_0 rfl ?_
  refine sw_getR dX6_hopefulAhead_1 fs_X6_41 o35 r35_12 ?_
  refine sw_iloadn dX6_hopefulAhead_4 rfl ?_
  refine sx_bipush (v := nI 13) dX6_hopefulAhead_5 (by decide) ?_
  refine sw_imul dX6_hopefulAhead_7 ?_
  refine sw_iloadn dX6_hopefulAhead_8 rfl ?_
  refine sw_iadd dX6_hopefulAhead_9 ?_
  refine sx_lald (t * 13 + j) dX6_hopefulAhead_10 a44 (by rw [nI_mul, nI_add]) (by omega) (by decide) ?_
  refine sw_lstoren dX6_hopefulAhead_11 (Nat.le_of_ble_eq_true rfl) ?_
  refine sx_lconst (v := 0) dX6_hopefulAhead_12 (by decide) ?_
  refine sw_lstore dX6_hopefulAhead_13 (Nat.le_of_ble_eq_true rfl) ?_
  refine sw_lloadn dX6_hopefulAhead_15 rfl ?_
  refine sx_lconst (v := 0) dX6_hopefulAhead_16 (by decide) ?_
  refine sw_lc_eq (tgt := 62) dX6_hopefulAhead_17 dX6_hopefulAhead_18 (by decide) (fun h17 => ?_) (fun h17 => ?_)
  · skip
    first
      | (refine snd _ _ (fun rm a hr ha => ?_) (fun i hi => ?_)
         · have hx := hz (8 * a + rm) (by omega)
           unfold pb
           rw [mb_or, Bool.or_eq_true, hx]
           have hu := pb_up (x := σ.2 44 (t * 13 + j)) hr ha
           unfold pb at hu
           rw [hu]
           refine or_congr (hH1 rm (a - 1) hr (by omega)) ?_
           constructor
           · rintro ⟨rm', q1, q2⟩
             have l1 := fre_lt hV q1
             have ea : a = 0 := by omega
             subst ea
             have hw := hV.2.2.1 _ l1.2
             rw [Nat.mul_zero, Nat.zero_add] at q1
             exact ⟨rfl, rm', q1, (hH1 _ _ (by omega) hw).mp q2⟩
           · rintro ⟨rfl, rm', q1, q2⟩
             have l1 := fre_lt hV q1
             have hw := hV.2.2.1 _ l1.2
             rw [Nat.mul_zero, Nat.zero_add]
             exact ⟨rm', q1, (hH1 _ _ (by omega) hw).mpr q2⟩
         · rw [mb_or, up_out hi, Bool.false_or]
           by_cases h64 : i < 64
           · rw [Bool.eq_false_iff]
             intro q
             obtain ⟨rm', q1, -⟩ := (hz i h64).mp q
             have := (fre_lt hV q1).1
             omega
           · exact mb_out _ (by omega))
      | (have h43 : nI o = 0 := h43
         have o0 : o = 0 := nI_z (by omega) h43
         refine snd _ _ (fun rm a hr ha => ?_) (fun i hi => up_out hi)
         rw [pb_up hr ha, hH1 rm (a - 1) hr (by omega)]
         refine ⟨Or.inl, fun q => q.elim id (fun ⟨_, rm', ⟨dd, b1, b2, _⟩, _⟩ => ?_)⟩
         have hD := hV.2.1
         have := (ho2 dd (by omega)).mpr b2
         rw [o0, Nat.zero_testBit] at this
         cases this)
      | (have hx0 : ∀ rm a, rm < 8 → a ≤ 4 → ¬ H j rm a := fun rm a hr ha q => by
           have := (hH1 rm a hr ha).mpr q
           rw [show σ.2 44 (t * 13 + j) = 0 from h17, pb, mb_0] at this
           cases this
         refine snd _ _ (fun rm a hr ha => ?_) (fun i hi => mb_0 i)
         rw [pb, mb_0]
         refine ⟨fun q => Bool.noConfusion q, fun q => q.elim (fun q => absurd q (hx0 rm (a - 1) hr (by omega))) (fun ⟨_, rm', q1, q2⟩ => ?_)⟩
         have l1 := fre_lt hV q1
         have hw := hV.2.2.1 _ l1.2
         exact absurd q2 (hx0 _ _ (by omega) hw))
  · skip
    refine sw_lloadn dX6_hopefulAhead_21 rfl ?_
    refine sx_bipush (v := nI 8) dX6_hopefulAhead_22 (by decide) ?_
    refine sw_lshl dX6_hopefulAhead_24 ?_
    refine sw_ldc2 dX6_hopefulAhead_25 kl_X6_82 ?_
    refine sw_land dX6_hopefulAhead_28 ?_
    refine sw_lloadn dX6_hopefulAhead_29 rfl ?_
    refine sw_ldc2 dX6_hopefulAhead_30 kl_X6_145 ?_
    refine sw_land dX6_hopefulAhead_33 ?_
    refine sw_lor dX6_hopefulAhead_34 ?_
    refine sw_lstore dX6_hopefulAhead_35 (Nat.le_of_ble_eq_true rfl) ?_
    refine sw_aloadn dX6_hopefulAhead_37 rfl ?_
    refine sw_getR dX6_hopefulAhead_38 fs_X6_31 o35 r35_9 ?_
    refine sw_iloadn dX6_hopefulAhead_41 rfl ?_
    refine sx_iald (t) dX6_hopefulAhead_42 a41 (rfl) (by omega) (by decide) ?_
    rw [ho1]
    refine sw_if_eq (tgt := 62) dX6_hopefulAhead_43 (by decide) (fun h43 => ?_) (fun h43 => ?_)
    · skip
      first
        | (refine snd _ _ (fun rm a hr ha => ?_) (fun i hi => ?_)
           · have hx := hz (8 * a + rm) (by omega)
             unfold pb
             rw [mb_or, Bool.or_eq_true, hx]
             have hu := pb_up (x := σ.2 44 (t * 13 + j)) hr ha
             unfold pb at hu
             rw [hu]
             refine or_congr (hH1 rm (a - 1) hr (by omega)) ?_
             constructor
             · rintro ⟨rm', q1, q2⟩
               have l1 := fre_lt hV q1
               have ea : a = 0 := by omega
               subst ea
               have hw := hV.2.2.1 _ l1.2
               rw [Nat.mul_zero, Nat.zero_add] at q1
               exact ⟨rfl, rm', q1, (hH1 _ _ (by omega) hw).mp q2⟩
             · rintro ⟨rfl, rm', q1, q2⟩
               have l1 := fre_lt hV q1
               have hw := hV.2.2.1 _ l1.2
               rw [Nat.mul_zero, Nat.zero_add]
               exact ⟨rm', q1, (hH1 _ _ (by omega) hw).mpr q2⟩
           · rw [mb_or, up_out hi, Bool.false_or]
             by_cases h64 : i < 64
             · rw [Bool.eq_false_iff]
               intro q
               obtain ⟨rm', q1, -⟩ := (hz i h64).mp q
               have := (fre_lt hV q1).1
               omega
             · exact mb_out _ (by omega))
        | (have h43 : nI o = 0 := h43
           have o0 : o = 0 := nI_z (by omega) h43
           refine snd _ _ (fun rm a hr ha => ?_) (fun i hi => up_out hi)
           rw [pb_up hr ha, hH1 rm (a - 1) hr (by omega)]
           refine ⟨Or.inl, fun q => q.elim id (fun ⟨_, rm', ⟨dd, b1, b2, _⟩, _⟩ => ?_)⟩
           have hD := hV.2.1
           have := (ho2 dd (by omega)).mpr b2
           rw [o0, Nat.zero_testBit] at this
           cases this)
        | (have hx0 : ∀ rm a, rm < 8 → a ≤ 4 → ¬ H j rm a := fun rm a hr ha q => by
             have := (hH1 rm a hr ha).mpr q
             rw [show σ.2 44 (t * 13 + j) = 0 from h17, pb, mb_0] at this
             cases this
           refine snd _ _ (fun rm a hr ha => ?_) (fun i hi => mb_0 i)
           rw [pb, mb_0]
           refine ⟨fun q => Bool.noConfusion q, fun q => q.elim (fun q => absurd q (hx0 rm (a - 1) hr (by omega))) (fun ⟨_, rm', q1, q2⟩ => ?_)⟩
           have l1 := fre_lt hV q1
           have hw := hV.2.2.1 _ l1.2
           exact absurd q2 (hx0 _ _ (by omega) hw))
    · skip
      refine sw_lload dX6_hopefulAhead_46 rfl ?_
      refine sw_aloadn dX6_hopefulAhead_48 rfl ?_
      refine sw_lloadn dX6_hopefulAhead_49 rfl ?_
      refine sw_aloadn dX6_hopefulAhead_50 rfl ?_
      refine sw_getR dX6_hopefulAhead_51 fs_X6_31 o35 r35_9 ?_
      refine sw_iloadn dX6_hopefulAhead_54 rfl ?_
      refine sx_iald (t) dX6_hopefulAhead_55 a41 (rfl) (by omega) (by decide) ?_
      rw [ho1]
      refine sx_invJ2 dX6_hopefulAhead_56 mk_X6_freeInto vk_X6_freeInto lk_X6_147 o35 (Nat.le_of_ble_eq_true rfl) (Nat.le_of_ble_eq_true rfl) ?_
      refine c_freeInto hW ho ho2 (fun z hz => ?_)
      refine sw_lor dX6_hopefulAhead_59 ?_
      refine sw_lstore dX6_hopefulAhead_60 (Nat.le_of_ble_eq_true rfl) ?_
      first
        | (refine snd _ _ (fun rm a hr ha => ?_) (fun i hi => ?_)
           · have hx := hz (8 * a + rm) (by omega)
             unfold pb
             rw [mb_or, Bool.or_eq_true, hx]
             have hu := pb_up (x := σ.2 44 (t * 13 + j)) hr ha
             unfold pb at hu
             rw [hu]
             refine or_congr (hH1 rm (a - 1) hr (by omega)) ?_
             constructor
             · rintro ⟨rm', q1, q2⟩
               have l1 := fre_lt hV q1
               have ea : a = 0 := by omega
               subst ea
               have hw := hV.2.2.1 _ l1.2
               rw [Nat.mul_zero, Nat.zero_add] at q1
               exact ⟨rfl, rm', q1, (hH1 _ _ (by omega) hw).mp q2⟩
             · rintro ⟨rfl, rm', q1, q2⟩
               have l1 := fre_lt hV q1
               have hw := hV.2.2.1 _ l1.2
               rw [Nat.mul_zero, Nat.zero_add]
               exact ⟨rm', q1, (hH1 _ _ (by omega) hw).mpr q2⟩
           · rw [mb_or, up_out hi, Bool.false_or]
             by_cases h64 : i < 64
             · rw [Bool.eq_false_iff]
               intro q
               obtain ⟨rm', q1, -⟩ := (hz i h64).mp q
               have := (fre_lt hV q1).1
               omega
             · exact mb_out _ (by omega))
        | (have h43 : nI o = 0 := h43
           have o0 : o = 0 := nI_z (by omega) h43
           refine snd _ _ (fun rm a hr ha => ?_) (fun i hi => up_out hi)
           rw [pb_up hr ha, hH1 rm (a - 1) hr (by omega)]
           refine ⟨Or.inl, fun q => q.elim id (fun ⟨_, rm', ⟨dd, b1, b2, _⟩, _⟩ => ?_)⟩
           have hD := hV.2.1
           have := (ho2 dd (by omega)).mpr b2
           rw [o0, Nat.zero_testBit] at this
           cases this)
        | (have hx0 : ∀ rm a, rm < 8 → a ≤ 4 → ¬ H j rm a := fun rm a hr ha q => by
             have := (hH1 rm a hr ha).mpr q
             rw [show σ.2 44 (t * 13 + j) = 0 from h17, pb, mb_0] at this
             cases this
           refine snd _ _ (fun rm a hr ha => ?_) (fun i hi => mb_0 i)
           rw [pb, mb_0]
           refine ⟨fun q => Bool.noConfusion q, fun q => q.elim (fun q => absurd q (hx0 rm (a - 1) hr (by omega))) (fun ⟨_, rm', q1, q2⟩ => ?_)⟩
           have l1 := fre_lt hV q1
           have hw := hV.2.2.1 _ l1.2
           exact absurd q2 (hx0 _ _ (by omega) hw))
end WALKS
