/-! ===== sets of the model: bit 6 * room + age ===== -/
def qb (x : Int64) (rm g : Nat) : Bool := mb x (6 * rm + g)
def cel6 (x : Int64) (S : Nat → Nat → Prop) : Prop := (∀ rm g, rm < 8 → g < 6 → (qb x rm g = true ↔ S rm g)) ∧ ∀ i, 48 ≤ i → mb x i = false
theorem cel6_congr {x : Int64} {S S' : Nat → Nat → Prop} (h : cel6 x S) (e : ∀ rm g, rm < 8 → g < 6 → (S rm g ↔ S' rm g)) : cel6 x S' := ⟨fun rm g h1 h2 => (h.1 rm g h1 h2).trans (e rm g h1 h2), h.2⟩
theorem cel6_0 {S : Nat → Nat → Prop} (h : ∀ rm g, rm < 8 → g < 6 → ¬ S rm g) : cel6 0 S := ⟨fun rm g h1 h2 => by rw [qb, mb_0]; exact ⟨fun q => Bool.noConfusion q, fun q => absurd q (h rm g h1 h2)⟩, fun i _ => mb_0 i⟩
theorem cel6_or {x y : Int64} {S T : Nat → Nat → Prop} (h : cel6 x S) (h' : cel6 y T) : cel6 (x ||| y) (fun rm g => S rm g ∨ T rm g) :=
  ⟨fun rm g h1 h2 => by
    have e : qb (x ||| y) rm g = (qb x rm g || qb y rm g) := mb_or _ _ _
    rw [e, Bool.or_eq_true, h.1 rm g h1 h2, h'.1 rm g h1 h2], fun i hi => by rw [mb_or, h.2 i hi, h'.2 i hi]; rfl⟩
theorem cel6_and {x y : Int64} {S T : Nat → Nat → Prop} (h : cel6 x S) (h' : ∀ rm g, rm < 8 → g < 6 → (qb y rm g = true ↔ T rm g)) : cel6 (x &&& y) (fun rm g => S rm g ∧ T rm g) :=
  ⟨fun rm g h1 h2 => by
    have e : qb (x &&& y) rm g = (qb x rm g && qb y rm g) := mb_and _ _ _
    rw [e, Bool.and_eq_true, h.1 rm g h1 h2, h' rm g h1 h2], fun i hi => by rw [mb_and, h.2 i hi]; rfl⟩
theorem cel6_ne0 {x : Int64} {S : Nat → Nat → Prop} (h : cel6 x S) : ¬ x = 0 ↔ ∃ rm g, rm < 8 ∧ g < 6 ∧ S rm g := by
  rw [mb_ne0]
  constructor
  · rintro ⟨i, hi, q⟩
    have h48 : i < 48 := by
      rcases Nat.lt_or_ge i 48 with z | z
      · exact z
      · rw [h.2 i z] at q; cases q
    refine ⟨i / 6, i % 6, by omega, by omega, (h.1 _ _ (by omega) (by omega)).mp ?_⟩
    show mb x (6 * (i / 6) + i % 6) = true
    rw [show 6 * (i / 6) + i % 6 = i by omega]; exact q
  · rintro ⟨rm, g, h1, h2, q⟩
    exact ⟨6 * rm + g, by omega, (h.1 rm g h1 h2).mpr q⟩
/-- bits below six, moved to a room -/
theorem cel6_sh {y : Int64} {k : Nat} (hk : k < 8) (hy : ∀ i, 6 ≤ i → mb y i = false) : cel6 (y <<< ((nI (6 * k)).toInt64 &&& 63)) (fun rm g => rm = k ∧ mb y g = true) := by
  refine ⟨fun rm g h1 h2 => ?_, fun i hi => ?_⟩
  · unfold qb
    rw [mb_shl _ (by omega)]
    by_cases e : rm = k
    · subst e
      have a1 : 6 * rm + g < 64 := by omega
      have a2 : ¬ 6 * rm + g < 6 * rm := by omega
      have a3 : 6 * rm + g - 6 * rm = g := by omega
      simp [a1, a3]
    · by_cases q : 6 * rm + g < 6 * k
      · simp [e, q]
      · rw [hy _ (by omega)]; simp [e]
  · rw [mb_shl _ (by omega), hy _ (by omega)]; simp
theorem mb_shr1 {x : Int64} (hx : mb x 63 = false) (i : Nat) : mb (x >>> ((nI 1).toInt64 &&& 63)) i = mb x (1 + i) := by
  have e : (x >>> ((nI 1).toInt64 &&& 63)).toBitVec = x.toBitVec.sshiftRight 1 := by
    rw [Int64.toBitVec_shiftRight, sh_l 1 (by omega), BitVec.sshiftRight_eq', BitVec.toNat_ofNat]
  unfold mb
  rw [e, BitVec.getLsbD_sshiftRight]
  have hm : x.toBitVec.msb = false := by
    rw [BitVec.msb_eq_getLsbD_last]; exact hx
  by_cases h1 : 64 ≤ i
  · rw [BitVec.getLsbD_of_ge _ (1 + i) (by omega)]; simp [h1]
  · by_cases h2 : 1 + i < 64
    · simp [h1, h2]
    · simp [h1, h2, hm, BitVec.getLsbD_of_ge _ (1 + i) (show 64 ≤ 1 + i by omega)]
section MSETS
variable {G : GG} {d : Nat} {σ : Mem}
theorem m_states {f : Int64 → Mem → Prop} {room : Nat} (hr : room < 8) (h : ∀ z, cel6 z (fun rm _ => rm = room) → f z σ) : SW G d M_X8_states 0 [some (.int (nI room))] [] σ (RJ f) := by
  refine sw_ldc2 dX8_states_0 kl_X8_233 ?_
  refine sx_bipush (v := nI 6) dX8_states_3 (by decide) ?_
  refine sw_iloadn dX8_states_5 rfl ?_
  refine sw_imul dX8_states_6 ?_
  refine sw_topI (y := nI (6 * room)) (nI_mul _ _) ?_
  refine sw_lshl dX8_states_7 ?_
  refine sx_retl dX8_states_8 rfl ?_
  refine h _ (cel6_congr (cel6_sh hr (fun i hi => by rw [mb_63, decide_eq_false (by omega)])) (fun rm g h1 h2 => ?_))
  rw [mb_63, decide_eq_true_iff]
  exact ⟨fun q => q.1, fun q => ⟨q, h2⟩⟩
theorem m_come {f : Int64 → Mem → Prop} {room : Nat} (hr : room < 8) (h : ∀ z, cel6 z (fun rm g => rm = room ∧ g = 0) → f z σ) : SW G d M_X8_come 0 [some (.int (nI room))] [] σ (RJ f) := by
  refine sx_lconst (v := 1) dX8_come_0 (by decide) ?_
  refine sx_bipush (v := nI 6) dX8_come_1 (by decide) ?_
  refine sw_iloadn dX8_come_3 rfl ?_
  refine sw_imul dX8_come_4 ?_
  refine sw_topI (y := nI (6 * room)) (nI_mul _ _) ?_
  refine sw_lshl dX8_come_5 ?_
  refine sx_retl dX8_come_6 rfl ?_
  refine h _ (cel6_congr (cel6_sh hr (fun i hi => by rw [mb_one, decide_eq_false (by omega)])) (fun rm g h1 h2 => ?_))
  rw [mb_one, decide_eq_true_iff]
theorem m_leaving {f : Int64 → Mem → Prop} {P : PL} {room : Nat} (hP : PlM σ P) (hV : PV P) (hr : room < pR P) (h : ∀ z, cel6 z (fun rm g => rm = room ∧ pW P room ≤ g) → f z σ) : SW G d M_X8_leaving 0 [some (.ref 46), some (.int (nI room))] [] σ (RJ f) := by
  have h8 := hV.1
  have hw := hV.2.2.1 room hr
  refine sw_ldc2 dX8_leaving_0 kl_X8_233 ?_
  refine sw_aloadn dX8_leaving_3 rfl ?_
  refine sw_getR dX8_leaving_4 fs_X8_39 o46 r46_20 ?_
  refine sw_iloadn dX8_leaving_7 rfl ?_
  refine sx_iald (room) dX8_leaving_8 a54 (rfl) (by omega) (by decide) ?_
  rw [hP.2.2.1 room hr]
  refine sw_lshl dX8_leaving_9 ?_
  refine sw_ldc2 dX8_leaving_10 kl_X8_233 ?_
  refine sw_land dX8_leaving_13 ?_
  refine sx_bipush (v := nI 6) dX8_leaving_14 (by decide) ?_
  refine sw_iloadn dX8_leaving_16 rfl ?_
  refine sw_imul dX8_leaving_17 ?_
  refine sw_topI (y := nI (6 * room)) (nI_mul _ _) ?_
  refine sw_lshl dX8_leaving_18 ?_
  refine sx_retl dX8_leaving_19 rfl ?_
  refine h _ (cel6_congr (cel6_sh (by omega) (fun i hi => by rw [mb_and, mb_63 i, decide_eq_false (by omega), Bool.and_false])) (fun rm g h1 h2 => ?_))
  rw [mb_and, mb_63, mb_shl _ (by omega), mb_63]
  simp only [Bool.and_eq_true, Bool.not_eq_true', decide_eq_true_iff, decide_eq_false_iff_not]
  omega
/-- an age, one tick on -/
def ag (g : Nat) : Nat := min (g + 1) 5
theorem m_stays {f : Int64 → Mem → Prop} {P : PL} {x : Int64} {S : Nat → Nat → Prop} (hP : PlM σ P) (hV : PV P) (hx : cel6 x S) (h : ∀ z, cel6 z (fun rm g' => rm < pR P ∧ ∃ g, g < 6 ∧ S rm g ∧ g' = ag g) → f z σ) : SW G d M_X8_stays 0 [some (.ref 46), some (.long x), none, none, none, none, none, none] [] σ (RJ f) := by
  have h8 := hV.1
  have loop : ∀ (q k : Nat), q = pR P - k → k ≤ pR P → ∀ z o6 o7, cel6 z (fun rm g' => rm < k ∧ ∃ g, g < 6 ∧ S rm g ∧ g' = ag g) → SW G d M_X8_stays 5 [some (.ref 46), some (.long x), none, some (.long z), none, some (.int (nI k)), o6, o7] [] σ (RJ f) := by
    intro q
    induction q with
    | zero =>
      intro k hq hk z o6 o7 hz
      obtain rfl : k = pR P := by omega
      refine sw_iload dX8_stays_5 rfl ?_
      refine sw_aloadn dX8_stays_7 rfl ?_
      refine sw_getI dX8_stays_8 fs_X8_198 o46 ?_
      rw [hP.1]
      refine sw_icmp_ge (tgt := 57) dX8_stays_11 (by decide) (fun h11 => ?_) (fun h11 => ?_)
      · skip
        refine sw_lloadn dX8_stays_57 rfl ?_
        refine sx_retl dX8_stays_58 rfl ?_
        exact h z hz
      · exact absurd ((nI_le (Nat.le_refl _) (by omega))) h11
    | succ q ih =>
      intro k hq hk z o6 o7 hz
      have hk8 : k < 8 := by omega
      refine sw_iload dX8_stays_5 rfl ?_
      refine sw_aloadn dX8_stays_7 rfl ?_
      refine sw_getI dX8_stays_8 fs_X8_198 o46 ?_
      rw [hP.1]
      refine sw_icmp_ge (tgt := 57) dX8_stays_11 (by decide) (fun h11 => ?_) (fun h11 => ?_)
      · exact absurd h11 ((by rw [nI_le' (by omega) (by omega)]; omega))
      · skip
        refine sw_lloadn dX8_stays_14 rfl ?_
        refine sx_bipush (v := nI 6) dX8_stays_15 (by decide) ?_
        refine sw_iload dX8_stays_17 rfl ?_
        refine sw_imul dX8_stays_19 ?_
        refine sw_topI (y := nI (6 * k)) (nI_mul _ _) ?_
        refine sw_lushr dX8_stays_20 ?_
        refine sw_ldc2 dX8_stays_21 kl_X8_233 ?_
        refine sw_land dX8_stays_24 ?_
        refine sw_lstore dX8_stays_25 (Nat.le_of_ble_eq_true rfl) ?_
        refine sw_lloadn dX8_stays_27 rfl ?_
        refine sw_lload dX8_stays_28 rfl ?_
        refine sx_iconst (v := nI 1) dX8_stays_30 (by decide) ?_
        refine sw_lshl dX8_stays_31 ?_
        refine sw_ldc2 dX8_stays_32 kl_X8_233 ?_
        refine sw_land dX8_stays_35 ?_
        refine sw_lload dX8_stays_36 rfl ?_
        refine sw_ldc2 dX8_stays_38 kl_X8_253 ?_
        refine sw_land dX8_stays_41 ?_
        refine sw_lor dX8_stays_42 ?_
        refine sx_bipush (v := nI 6) dX8_stays_43 (by decide) ?_
        refine sw_iload dX8_stays_45 rfl ?_
        refine sw_imul dX8_stays_47 ?_
        refine sw_topI (y := nI (6 * k)) (nI_mul _ _) ?_
        refine sw_lshl dX8_stays_48 ?_
        refine sw_lor dX8_stays_49 ?_
        refine sw_lstoren dX8_stays_50 (Nat.le_of_ble_eq_true rfl) ?_
        refine sx_iinc (nI (k + 1)) dX8_stays_51 rfl (nI_inc _) ?_
        refine sw_goto (tgt := 5) dX8_stays_54 (by decide) ?_
        refine ih (k + 1) (by omega) (by omega) _ _ _ (cel6_congr (cel6_or hz (cel6_sh hk8 (fun i hi => ?_))) (fun rm g' h1 h2 => ?_))
        · rw [mb_or, mb_and, mb_and, mb_63, mb_32, decide_eq_false (by omega), decide_eq_false (by omega)]; simp
        · rw [mb_or, mb_and, mb_and, mb_63, mb_32, mb_shl _ (by omega), mb_and, mb_and, mb_ushr _ (by omega), mb_ushr _ (by omega), mb_63, mb_63]
          simp only [Bool.or_eq_true, Bool.and_eq_true, Bool.not_eq_true', decide_eq_true_iff, decide_eq_false_iff_not]
          constructor
          · rintro (⟨a1, a2⟩ | ⟨rfl, ⟨⟨⟨b1, b2⟩, b3, b4⟩, b5⟩ | ⟨⟨b1, b2⟩, b3⟩⟩)
            · exact ⟨by omega, a2⟩
            · exact ⟨by omega, g' - 1, by omega, (hx.1 _ _ h1 (by omega)).mp b3, by unfold ag; omega⟩
            · exact ⟨by omega, g', by omega, (hx.1 _ _ h1 (by omega)).mp b1, by unfold ag; omega⟩
          · rintro ⟨a1, g, a2, a3, a4⟩
            by_cases e : rm = k
            · subst e
              unfold ag at a4
              refine Or.inr ⟨rfl, ?_⟩
              by_cases e5 : g = 5
              · subst e5
                have : g' = 5 := by omega
                subst this
                exact Or.inr ⟨⟨(hx.1 _ _ h1 (by omega)).mpr a3, by omega⟩, rfl⟩
              · have : g' = g + 1 := by omega
                subst this
                refine Or.inl ⟨⟨⟨by omega, by omega⟩, ?_, by omega⟩, by omega⟩
                rw [show g + 1 - 1 = g by omega]
                exact (hx.1 _ _ h1 (by omega)).mpr a3
            · exact Or.inl ⟨by omega, g, a2, a3, a4⟩
  refine sx_lconst (v := 0) dX8_stays_0 (by decide) ?_
  refine sw_lstoren dX8_stays_1 (Nat.le_of_ble_eq_true rfl) ?_
  refine sx_iconst (v := nI 0) dX8_stays_2 (by decide) ?_
  refine sw_istore dX8_stays_3 (Nat.le_of_ble_eq_true rfl) ?_
  exact loop (pR P) 0 (by omega) (by omega) _ _ _ (cel6_0 (fun rm g _ _ q => absurd q.1 (by omega)))
theorem m_stayed {f : Int64 → Mem → Prop} {P : PL} {x : Int64} {S : Nat → Nat → Prop} (hP : PlM σ P) (hV : PV P) (hx : cel6 x S) (h : ∀ z, cel6 z (fun rm g => rm < pR P ∧ S rm (ag g)) → f z σ) : SW G d M_X8_stayed 0 [some (.ref 46), some (.long x), none, none, none, none, none, none] [] σ (RJ f) := by
  have h8 := hV.1
  have loop : ∀ (q k : Nat), q = pR P - k → k ≤ pR P → ∀ z o6 o7, cel6 z (fun rm g => rm < k ∧ S rm (ag g)) → SW G d M_X8_stayed 5 [some (.ref 46), some (.long x), none, some (.long z), none, some (.int (nI k)), o6, o7] [] σ (RJ f) := by
    intro q
    induction q with
    | zero =>
      intro k hq hk z o6 o7 hz
      obtain rfl : k = pR P := by omega
      refine sw_iload dX8_stayed_5 rfl ?_
      refine sw_aloadn dX8_stayed_7 rfl ?_
      refine sw_getI dX8_stayed_8 fs_X8_198 o46 ?_
      rw [hP.1]
      refine sw_icmp_ge (tgt := 53) dX8_stayed_11 (by decide) (fun h11 => ?_) (fun h11 => ?_)
      · skip
        refine sw_lloadn dX8_stayed_53 rfl ?_
        refine sx_retl dX8_stayed_54 rfl ?_
        exact h z hz
      · exact absurd ((nI_le (Nat.le_refl _) (by omega))) h11
    | succ q ih =>
      intro k hq hk z o6 o7 hz
      have hk8 : k < 8 := by omega
      have h63 : mb ((x.toUInt64 >>> ((nI (6 * k)).toInt64.toUInt64 &&& Int64.toUInt64 63)).toInt64 &&& 63) 63 = false := by
        rw [mb_and, mb_63, decide_eq_false (by omega), Bool.and_false]
      refine sw_iload dX8_stayed_5 rfl ?_
      refine sw_aloadn dX8_stayed_7 rfl ?_
      refine sw_getI dX8_stayed_8 fs_X8_198 o46 ?_
      rw [hP.1]
      refine sw_icmp_ge (tgt := 53) dX8_stayed_11 (by decide) (fun h11 => ?_) (fun h11 => ?_)
      · exact absurd h11 ((by rw [nI_le' (by omega) (by omega)]; omega))
      · skip
        refine sw_lloadn dX8_stayed_14 rfl ?_
        refine sx_bipush (v := nI 6) dX8_stayed_15 (by decide) ?_
        refine sw_iload dX8_stayed_17 rfl ?_
        refine sw_imul dX8_stayed_19 ?_
        refine sw_topI (y := nI (6 * k)) (nI_mul _ _) ?_
        refine sw_lushr dX8_stayed_20 ?_
        refine sw_ldc2 dX8_stayed_21 kl_X8_233 ?_
        refine sw_land dX8_stayed_24 ?_
        refine sw_lstore dX8_stayed_25 (Nat.le_of_ble_eq_true rfl) ?_
        refine sw_lloadn dX8_stayed_27 rfl ?_
        refine sw_lload dX8_stayed_28 rfl ?_
        refine sx_iconst (v := nI 1) dX8_stayed_30 (by decide) ?_
        refine sw_lshr dX8_stayed_31 ?_
        refine sw_lload dX8_stayed_32 rfl ?_
        refine sw_ldc2 dX8_stayed_34 kl_X8_253 ?_
        refine sw_land dX8_stayed_37 ?_
        refine sw_lor dX8_stayed_38 ?_
        refine sx_bipush (v := nI 6) dX8_stayed_39 (by decide) ?_
        refine sw_iload dX8_stayed_41 rfl ?_
        refine sw_imul dX8_stayed_43 ?_
        refine sw_topI (y := nI (6 * k)) (nI_mul _ _) ?_
        refine sw_lshl dX8_stayed_44 ?_
        refine sw_lor dX8_stayed_45 ?_
        refine sw_lstoren dX8_stayed_46 (Nat.le_of_ble_eq_true rfl) ?_
        refine sx_iinc (nI (k + 1)) dX8_stayed_47 rfl (nI_inc _) ?_
        refine sw_goto (tgt := 5) dX8_stayed_50 (by decide) ?_
        refine ih (k + 1) (by omega) (by omega) _ _ _ (cel6_congr (cel6_or hz (cel6_sh hk8 (fun i hi => ?_))) (fun rm g h1 h2 => ?_))
        · rw [mb_or, mb_shr1 h63, mb_and, mb_and, mb_63, mb_32, decide_eq_false (by omega), decide_eq_false (by omega)]; simp
        · rw [mb_or, mb_shr1 h63, mb_and, mb_and, mb_63, mb_32, mb_and, mb_ushr _ (by omega), mb_ushr _ (by omega), mb_63]
          simp only [Bool.or_eq_true, Bool.and_eq_true, decide_eq_true_iff]
          constructor
          · rintro (⟨a1, a2⟩ | ⟨rfl, ⟨b1, b2⟩ | ⟨⟨b1, b2⟩, b3⟩⟩)
            · exact ⟨by omega, a2⟩
            · refine ⟨by omega, ?_⟩
              rw [show ag g = 1 + g by unfold ag; omega]
              exact (hx.1 _ _ h1 (by omega)).mp b1
            · refine ⟨by omega, ?_⟩
              rw [show ag g = g by unfold ag; omega]
              exact (hx.1 _ _ h1 (by omega)).mp b1
          · rintro ⟨a1, a2⟩
            by_cases e : rm = k
            · subst e
              refine Or.inr ⟨rfl, ?_⟩
              by_cases e5 : g = 5
              · rw [show ag g = g by unfold ag; omega] at a2
                exact Or.inr ⟨⟨(hx.1 _ _ h1 (by omega)).mpr a2, by omega⟩, e5⟩
              · rw [show ag g = 1 + g by unfold ag; omega] at a2
                exact Or.inl ⟨(hx.1 _ _ h1 (by omega)).mpr a2, by omega⟩
            · exact Or.inl ⟨by omega, a2⟩
  refine sx_lconst (v := 0) dX8_stayed_0 (by decide) ?_
  refine sw_lstoren dX8_stayed_1 (Nat.le_of_ble_eq_true rfl) ?_
  refine sx_iconst (v := nI 0) dX8_stayed_2 (by decide) ?_
  refine sw_istore dX8_stayed_3 (Nat.le_of_ble_eq_true rfl) ?_
  exact loop (pR P) 0 (by omega) (by omega) _ _ _ (cel6_0 (fun rm g _ _ q => absurd q.1 (by omega)))
/-- the tables of the model hold K: passes F in order -/
def WM (τ : Mem) (P : PL) (K : WK) (nc n : Nat) (F : Nat → Nat) : Prop := PlM τ P ∧ PV P ∧ KV P K ∧ n ≤ 100 ∧ LV P nc n (lgM τ) ∧ (∀ i, i < kN K → τ.1 68 i = nI (F i) ∧ F i < n ∧ lKD (lgM τ) (F i) = 0 ∧ lft P (lgM τ) (F i) = kL K i ∧ cmt P (lgM τ) (F i) = kC K i ∧ ∀ t, t < 200 → (tmn P (lgM τ) (F i) t ↔ kT K i t)) ∧ (∀ t dd, t < 200 → dd < 10 → isV (τ.1 70 (10 * t + dd)) (kO K t dd)) ∧ (∀ t, t < 200 → ∀ rm g, rm < 8 → g < 6 → (qb (τ.2 69 t) rm g = true ↔ kS K t rm))
theorem abs_tm {tk er t : Nat} (h1 : tk < 1000) (h2 : er < 100) (h3 : t < 1000) : (if nI t - nI tk < 0 then -(nI t - nI tk) else nI t - nI tk) ≤ nI er ↔ (tk ≤ t + er ∧ t ≤ tk + er) := by
  by_cases h : tk ≤ t
  · rw [nI_sub h, if_neg (nI_pos (by omega)), nI_le' (by omega) (by omega)]; omega
  · have hs : -(nI t - nI tk) = nI tk - nI t := by rw [Int32.neg_sub]
    rw [if_pos (pk_sneg (by omega) (by omega)), hs, nI_sub (by omega), nI_le' (by omega) (by omega)]; omega
theorem m_isPass {f : Int32 → Mem → Prop} {P : PL} {K : WK} {nc n : Nat} {F : Nat → Nat} {i t : Nat} (hW : WM σ P K nc n F) (hi : i < kN K) (ht : t < 200) (k1 : kT K i t → f (nI 1) σ) (k0 : ¬ kT K i t → f (nI 0) σ) : SW G d M_X8_isPass 0 [some (.ref 46), some (.int (nI i)), some (.int (nI t)), none, none] [] σ (RI f) := by
  obtain ⟨hP, hV, hK, hn, hL, hO, -, -⟩ := hW
  obtain ⟨o1, o2, o3, -, -, o6⟩ := hO i hi
  have h12 := hK.1
  obtain ⟨-, ⟨t1, t2⟩, ⟨t3, t4⟩, -⟩ := hL.pass o2 o3
  have t1 : σ.1 60 (F i) = nI (nv (lTG (lgM σ)) (F i)) := t1
  have t3 : σ.1 61 (F i) = nI (nv (lTK (lgM σ)) (F i)) := t3
  have hD := hV.2.1
  have e8 := hP.2.2.2.2.2 _ t2
  obtain ⟨-, -, -, he⟩ := hV.2.2.2.1 _ t2
  have key := abs_tm (tk := nv (lTK (lgM σ)) (F i)) (er := pE P (nv (lTG (lgM σ)) (F i))) (t := t) (by omega) (by omega) (by omega)
  rw [show (nv (lTK (lgM σ)) (F i) ≤ t + pE P (nv (lTG (lgM σ)) (F i)) ∧ t ≤ nv (lTK (lgM σ)) (F i) + pE P (nv (lTG (lgM σ)) (F i))) ↔ kT K i t from o6 t ht] at key
  refine sw_aloadn dX8_isPass_0 rfl ?_
  refine sw_getR dX8_isPass_1 fs_X8_82 o46 r46_37 ?_
  refine sw_iloadn dX8_isPass_4 rfl ?_
  refine sx_iald (i) dX8_isPass_5 a68 (rfl) (by omega) (by decide) ?_
  rw [o1]
  refine sw_istoren dX8_isPass_6 (Nat.le_of_ble_eq_true rfl) ?_
  refine sw_iloadn dX8_isPass_7 rfl ?_
  refine sw_aloadn dX8_isPass_8 rfl ?_
  refine sw_getR dX8_isPass_9 fs_X8_60 o46 r46_30 ?_
  refine sw_iloadn dX8_isPass_12 rfl ?_
  refine sx_iald (F i) dX8_isPass_13 a61 (rfl) (by omega) (by decide) ?_
  rw [t3]
  refine sw_isub dX8_isPass_14 ?_
  refine sw_istore dX8_isPass_15 (Nat.le_of_ble_eq_true rfl) ?_
  refine sw_iload dX8_isPass_17 rfl ?_
  refine sw_if_ge (tgt := 28) dX8_isPass_19 (by decide) (fun h19 => ?_) (fun h19 => ?_)
  · skip
    refine sw_iload dX8_isPass_28 rfl ?_
    refine sw_aloadn dX8_isPass_30 rfl ?_
    refine sw_getR dX8_isPass_31 fs_X8_48 o46 r46_23 ?_
    refine sw_aloadn dX8_isPass_34 rfl ?_
    refine sw_getR dX8_isPass_35 fs_X8_57 o46 r46_29 ?_
    refine sw_iloadn dX8_isPass_38 rfl ?_
    refine sx_iald (F i) dX8_isPass_39 a60 (rfl) (by omega) (by decide) ?_
    rw [t1]
    refine sx_iald (nv (lTG (lgM σ)) (F i)) dX8_isPass_40 a57 (rfl) (by omega) (by decide) ?_
    rw [e8]
    refine sw_icmp_gt (tgt := 48) dX8_isPass_41 (by decide) (fun h41 => ?_) (fun h41 => ?_)
    · skip
      refine sx_iconst (v := nI 0) dX8_isPass_48 (by decide) ?_
      refine sx_retz dX8_isPass_49 rfl (Or.inl rfl) ?_
      first
        | (rw [if_neg (Int32.not_lt.mpr h19)] at key; exact k1 (key.mp (Int32.not_lt.mp h41)))
        | (rw [if_neg (Int32.not_lt.mpr h19)] at key; exact k0 (fun q => absurd h41 (Int32.not_lt.mpr (key.mpr q))))
        | (rw [if_pos (Int32.not_le.mp h19)] at key; exact k1 (key.mp (Int32.not_lt.mp h41)))
        | (rw [if_pos (Int32.not_le.mp h19)] at key; exact k0 (fun q => absurd h41 (Int32.not_lt.mpr (key.mpr q))))
    · skip
      refine sx_iconst (v := nI 1) dX8_isPass_44 (by decide) ?_
      refine sw_goto (tgt := 49) dX8_isPass_45 (by decide) ?_
      refine sx_retz dX8_isPass_49 rfl (Or.inr rfl) ?_
      first
        | (rw [if_neg (Int32.not_lt.mpr h19)] at key; exact k1 (key.mp (Int32.not_lt.mp h41)))
        | (rw [if_neg (Int32.not_lt.mpr h19)] at key; exact k0 (fun q => absurd h41 (Int32.not_lt.mpr (key.mpr q))))
        | (rw [if_pos (Int32.not_le.mp h19)] at key; exact k1 (key.mp (Int32.not_lt.mp h41)))
        | (rw [if_pos (Int32.not_le.mp h19)] at key; exact k0 (fun q => absurd h41 (Int32.not_lt.mpr (key.mpr q))))
  · skip
    refine sw_iload dX8_isPass_22 rfl ?_
    refine sw_ineg dX8_isPass_24 ?_
    refine sw_goto (tgt := 30) dX8_isPass_25 (by decide) ?_
    refine sw_aloadn dX8_isPass_30 rfl ?_
    refine sw_getR dX8_isPass_31 fs_X8_48 o46 r46_23 ?_
    refine sw_aloadn dX8_isPass_34 rfl ?_
    refine sw_getR dX8_isPass_35 fs_X8_57 o46 r46_29 ?_
    refine sw_iloadn dX8_isPass_38 rfl ?_
    refine sx_iald (F i) dX8_isPass_39 a60 (rfl) (by omega) (by decide) ?_
    rw [t1]
    refine sx_iald (nv (lTG (lgM σ)) (F i)) dX8_isPass_40 a57 (rfl) (by omega) (by decide) ?_
    rw [e8]
    refine sw_icmp_gt (tgt := 48) dX8_isPass_41 (by decide) (fun h41 => ?_) (fun h41 => ?_)
    · skip
      refine sx_iconst (v := nI 0) dX8_isPass_48 (by decide) ?_
      refine sx_retz dX8_isPass_49 rfl (Or.inl rfl) ?_
      first
        | (rw [if_neg (Int32.not_lt.mpr h19)] at key; exact k1 (key.mp (Int32.not_lt.mp h41)))
        | (rw [if_neg (Int32.not_lt.mpr h19)] at key; exact k0 (fun q => absurd h41 (Int32.not_lt.mpr (key.mpr q))))
        | (rw [if_pos (Int32.not_le.mp h19)] at key; exact k1 (key.mp (Int32.not_lt.mp h41)))
        | (rw [if_pos (Int32.not_le.mp h19)] at key; exact k0 (fun q => absurd h41 (Int32.not_lt.mpr (key.mpr q))))
    · skip
      refine sx_iconst (v := nI 1) dX8_isPass_44 (by decide) ?_
      refine sw_goto (tgt := 49) dX8_isPass_45 (by decide) ?_
      refine sx_retz dX8_isPass_49 rfl (Or.inr rfl) ?_
      first
        | (rw [if_neg (Int32.not_lt.mpr h19)] at key; exact k1 (key.mp (Int32.not_lt.mp h41)))
        | (rw [if_neg (Int32.not_lt.mpr h19)] at key; exact k0 (fun q => absurd h41 (Int32.not_lt.mpr (key.mpr q))))
        | (rw [if_pos (Int32.not_le.mp h19)] at key; exact k1 (key.mp (Int32.not_lt.mp h41)))
        | (rw [if_pos (Int32.not_le.mp h19)] at key; exact k0 (fun q => absurd h41 (Int32.not_lt.mpr (key.mpr q))))
end MSETS
