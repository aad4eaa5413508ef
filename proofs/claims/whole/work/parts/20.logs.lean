/-! ===== LogBook (cell 17; kind 18, card 19, target 20, tick 21, more 22) ===== -/
section LOGS
variable {G : GG} {d : Nat} {σ : Mem}
theorem c_X2_has {f : Int32 → Mem → Prop} {n : Nat} {x : Int32} (hn : σ.1 17 0 = nI n) (hb : n ≤ 100) (h1' : inR x n → f (nI 1) σ) (h0 : ¬ inR x n → f (nI 0) σ) : SW G d M_X2_has 0 [some (.ref 17), some (.int x)] [] σ (RI f) := by
  refine sw_iloadn dX2_has_0 rfl ?_
  refine sw_if_lt (tgt := 16) dX2_has_1 (by decide) (fun h1 => ?_) (fun h1 => ?_)
  · skip
    refine sx_iconst (v := nI 0) dX2_has_16 (by decide) ?_
    refine sx_retz dX2_has_17 rfl (Or.inl rfl) ?_
    first
      | exact h0 (inR_lt h1 (by omega))
      | exact h0 (inR_ge h9 (by omega))
      | exact h1' (inR_of h1 h9 (by omega))
  · skip
    refine sw_iloadn dX2_has_4 rfl ?_
    refine sw_aloadn dX2_has_5 rfl ?_
    refine sw_getI dX2_has_6 fs_X2_27 o17 ?_
    rw [hn]
    refine sw_icmp_ge (tgt := 16) dX2_has_9 (by decide) (fun h9 => ?_) (fun h9 => ?_)
    · skip
      refine sx_iconst (v := nI 0) dX2_has_16 (by decide) ?_
      refine sx_retz dX2_has_17 rfl (Or.inl rfl) ?_
      first
        | exact h0 (inR_lt h1 (by omega))
        | exact h0 (inR_ge h9 (by omega))
        | exact h1' (inR_of h1 h9 (by omega))
    · skip
      refine sx_iconst (v := nI 1) dX2_has_12 (by decide) ?_
      refine sw_goto (tgt := 17) dX2_has_13 (by decide) ?_
      refine sx_retz dX2_has_17 rfl (Or.inr rfl) ?_
      first
        | exact h0 (inR_lt h1 (by omega))
        | exact h0 (inR_ge h9 (by omega))
        | exact h1' (inR_of h1 h9 (by omega))
theorem c_X2_isPass {f : Int32 → Mem → Prop} {n : Nat} {x : Int32} (hn : σ.1 17 0 = nI n) (hb : n ≤ 100) (k1 : (∃ k, k < n ∧ x = nI k ∧ σ.1 18 k = 0) → f (nI 1) σ) (k0 : ¬ (∃ k, k < n ∧ x = nI k ∧ σ.1 18 k = 0) → f (nI 0) σ) : SW G (d + 1) M_X2_isPass 0 [some (.ref 17), some (.int x)] [] σ (RI f) := by
  refine sw_aloadn dX2_isPass_0 rfl ?_
  refine sw_iloadn dX2_isPass_1 rfl ?_
  refine sx_invI1 dX2_isPass_2 mk_X2_has vk_X2_has lk_X2_31 o17 (Nat.le_of_ble_eq_true rfl) (Nat.le_of_ble_eq_true rfl) ?_
  refine c_X2_has hn hb (fun h2 => ?_) (fun h2 => ?_)
  · skip
    refine sw_if_eq (tgt := 21) dX2_isPass_5 (by decide) (fun h5 => ?_) (fun h5 => ?_)
    · exact absurd h5 (by decide)
    · skip
      obtain ⟨k, hk, rfl⟩ := h2
      refine sw_aloadn dX2_isPass_8 rfl ?_
      refine sw_getR dX2_isPass_9 fs_X2_9 o17 r17_1 ?_
      refine sw_iloadn dX2_isPass_12 rfl ?_
      refine sx_iald (k) dX2_isPass_13 a18 (rfl) (by omega) (by decide) ?_
      refine sw_if_ne (tgt := 21) dX2_isPass_14 (by decide) (fun h14 => ?_) (fun h14 => ?_)
      · skip
        refine sx_iconst (v := nI 0) dX2_isPass_21 (by decide) ?_
        refine sx_retz dX2_isPass_22 rfl (Or.inl rfl) ?_
        first
          | exact k1 ⟨k, hk, rfl, h14⟩
          | exact k0 (fun ⟨j, hj, e, z⟩ => h14 (by rw [nI_inj (by omega) (by omega) e]; exact z))
          | exact k0 (fun ⟨j, hj, e, z⟩ => h2 ⟨j, hj, e⟩)
      · skip
        refine sx_iconst (v := nI 1) dX2_isPass_17 (by decide) ?_
        refine sw_goto (tgt := 22) dX2_isPass_18 (by decide) ?_
        refine sx_retz dX2_isPass_22 rfl (Or.inr rfl) ?_
        first
          | exact k1 ⟨k, hk, rfl, h14⟩
          | exact k0 (fun ⟨j, hj, e, z⟩ => h14 (by rw [nI_inj (by omega) (by omega) e]; exact z))
          | exact k0 (fun ⟨j, hj, e, z⟩ => h2 ⟨j, hj, e⟩)
  · skip
    refine sw_if_eq (tgt := 21) dX2_isPass_5 (by decide) (fun h5 => ?_) (fun h5 => ?_)
    · skip
      refine sx_iconst (v := nI 0) dX2_isPass_21 (by decide) ?_
      refine sx_retz dX2_isPass_22 rfl (Or.inl rfl) ?_
      first
        | exact k1 ⟨k, hk, rfl, h14⟩
        | exact k0 (fun ⟨j, hj, e, z⟩ => h14 (by rw [nI_inj (by omega) (by omega) e]; exact z))
        | exact k0 (fun ⟨j, hj, e, z⟩ => h2 ⟨j, hj, e⟩)
    · exact absurd h5 (by decide)
theorem c_X2_isPassOf {f : Int32 → Mem → Prop} {n k : Nat} {y : Int32} (hn : σ.1 17 0 = nI n) (hb : n ≤ 100) (hk : k < n) (k1 : (σ.1 18 k = 0 ∧ σ.1 19 k = y) → f (nI 1) σ) (k0 : ¬ (σ.1 18 k = 0 ∧ σ.1 19 k = y) → f (nI 0) σ) : SW G (d + 2) M_X2_isPassOf 0 [some (.ref 17), some (.int (nI k)), some (.int y)] [] σ (RI f) := by
  refine sw_aloadn dX2_isPassOf_0 rfl ?_
  refine sw_iloadn dX2_isPassOf_1 rfl ?_
  refine sx_invI1 dX2_isPassOf_2 mk_X2_isPass vk_X2_isPass lk_X2_35 o17 (Nat.le_of_ble_eq_true rfl) (Nat.le_of_ble_eq_true rfl) ?_
  refine c_X2_isPass hn hb (fun h2 => ?_) (fun h2 => ?_)
  · skip
    refine sw_if_eq (tgt := 22) dX2_isPassOf_5 (by decide) (fun h5 => ?_) (fun h5 => ?_)
    · exact absurd h5 (by decide)
    · skip
      obtain ⟨j, hj, e, hz⟩ := h2
      obtain rfl := nI_inj (by omega) (by omega) e
      refine sw_aloadn dX2_isPassOf_8 rfl ?_
      refine sw_getR dX2_isPassOf_9 fs_X2_15 o17 r17_2 ?_
      refine sw_iloadn dX2_isPassOf_12 rfl ?_
      refine sx_iald (k) dX2_isPassOf_13 a19 (rfl) (by omega) (by decide) ?_
      refine sw_iloadn dX2_isPassOf_14 rfl ?_
      refine sw_icmp_ne (tgt := 22) dX2_isPassOf_15 (by decide) (fun h15 => ?_) (fun h15 => ?_)
      · skip
        refine sx_iconst (v := nI 0) dX2_isPassOf_22 (by decide) ?_
        refine sx_retz dX2_isPassOf_23 rfl (Or.inl rfl) ?_
        first
          | exact k1 ⟨hz, h15⟩
          | exact k0 (fun q => h15 q.2)
          | exact k0 (fun q => h2 ⟨k, hk, rfl, q.1⟩)
      · skip
        refine sx_iconst (v := nI 1) dX2_isPassOf_18 (by decide) ?_
        refine sw_goto (tgt := 23) dX2_isPassOf_19 (by decide) ?_
        refine sx_retz dX2_isPassOf_23 rfl (Or.inr rfl) ?_
        first
          | exact k1 ⟨hz, h15⟩
          | exact k0 (fun q => h15 q.2)
          | exact k0 (fun q => h2 ⟨k, hk, rfl, q.1⟩)
  · skip
    refine sw_if_eq (tgt := 22) dX2_isPassOf_5 (by decide) (fun h5 => ?_) (fun h5 => ?_)
    · skip
      refine sx_iconst (v := nI 0) dX2_isPassOf_22 (by decide) ?_
      refine sx_retz dX2_isPassOf_23 rfl (Or.inl rfl) ?_
      first
        | exact k1 ⟨hz, h15⟩
        | exact k0 (fun q => h15 q.2)
        | exact k0 (fun q => h2 ⟨k, hk, rfl, q.1⟩)
    · exact absurd h5 (by decide)
theorem c_X2_isBack {f : Int32 → Mem → Prop} {k : Nat} (hk : k < 100) (k1 : σ.1 22 k = nI 1 → f (nI 1) σ) (k0 : ¬ σ.1 22 k = nI 1 → f (nI 0) σ) : SW G d M_X2_isBack 0 [some (.ref 17), some (.int (nI k))] [] σ (RI f) := by
  refine sw_aloadn dX2_isBack_0 rfl ?_
  refine sw_getR dX2_isBack_1 fs_X2_24 o17 r17_5 ?_
  refine sw_iloadn dX2_isBack_4 rfl ?_
  refine sx_iald (k) dX2_isBack_5 a22 (rfl) (by omega) (by decide) ?_
  refine sx_iconst (v := nI 1) dX2_isBack_6 (by decide) ?_
  refine sw_icmp_ne (tgt := 14) dX2_isBack_7 (by decide) (fun h7 => ?_) (fun h7 => ?_)
  · skip
    refine sx_iconst (v := nI 0) dX2_isBack_14 (by decide) ?_
    refine sx_retz dX2_isBack_15 rfl (Or.inl rfl) ?_
    first
      | exact k1 h7
      | exact k0 h7
  · skip
    refine sx_iconst (v := nI 1) dX2_isBack_10 (by decide) ?_
    refine sw_goto (tgt := 15) dX2_isBack_11 (by decide) ?_
    refine sx_retz dX2_isBack_15 rfl (Or.inr rfl) ?_
    first
      | exact k1 h7
      | exact k0 h7
/-- the passes of a card among the first logs, as the rows tell -/
def isP (σ : Mem) (y : Int32) (k : Nat) : Bool := decide (σ.1 18 k = 0 ∧ σ.1 19 k = y)
theorem c_X2_passesOf {f : Int32 → Mem → Prop} {n : Nat} {y : Int32} (hn : σ.1 17 0 = nI n) (hb : n ≤ 100) (h : f (nI (cnt (isP σ y) n)) σ) : SW G (d + 3) M_X2_passesOf 0 [some (.ref 17), some (.int y), none, none] [] σ (RI f) := by
  have loop : ∀ (m k : Nat), m = n - k → k ≤ n → SW G (d + 3) M_X2_passesOf 4 [some (.ref 17), some (.int y), some (.int (nI (cnt (isP σ y) k))), some (.int (nI k))] [] σ (RI f) := by
    intro m
    induction m with
    | zero =>
      intro k hm hk
      obtain rfl : k = n := by omega
      refine sw_iloadn dX2_passesOf_4 rfl ?_
      refine sw_aloadn dX2_passesOf_5 rfl ?_
      refine sw_getI dX2_passesOf_6 fs_X2_27 o17 ?_
      rw [hn]
      refine sw_icmp_ge (tgt := 30) dX2_passesOf_9 (by decide) (fun h9 => ?_) (fun h9 => ?_)
      · skip
        refine sw_iloadn dX2_passesOf_30 rfl ?_
        refine sx_reti dX2_passesOf_31 rfl ?_
        exact h
      · exact absurd ((nI_le (Nat.le_refl _) (by omega))) h9
    | succ m ih =>
      intro k hm hk
      refine sw_iloadn dX2_passesOf_4 rfl ?_
      refine sw_aloadn dX2_passesOf_5 rfl ?_
      refine sw_getI dX2_passesOf_6 fs_X2_27 o17 ?_
      rw [hn]
      refine sw_icmp_ge (tgt := 30) dX2_passesOf_9 (by decide) (fun h9 => ?_) (fun h9 => ?_)
      · exact absurd h9 ((by rw [nI_le' (by omega) (by omega)]; omega))
      · skip
        refine sw_aloadn dX2_passesOf_12 rfl ?_
        refine sw_iloadn dX2_passesOf_13 rfl ?_
        refine sw_iloadn dX2_passesOf_14 rfl ?_
        refine sx_invI2 dX2_passesOf_15 mk_X2_isPassOf vk_X2_isPassOf lk_X2_38 o17 (Nat.le_of_ble_eq_true rfl) (Nat.le_of_ble_eq_true rfl) ?_
        refine c_X2_isPassOf hn hb (by omega) (fun h15 => ?_) (fun h15 => ?_)
        · skip
          refine sw_if_eq (tgt := 24) dX2_passesOf_18 (by decide) (fun h18 => ?_) (fun h18 => ?_)
          · exact absurd h18 (by decide)
          · skip
            refine sx_iinc (nI (cnt (isP σ y) k + 1)) dX2_passesOf_21 rfl (nI_inc _) ?_
            refine sx_iinc (nI (k + 1)) dX2_passesOf_24 rfl (nI_inc _) ?_
            refine sw_goto (tgt := 4) dX2_passesOf_27 (by decide) ?_
            have ih := ih (k + 1) (by omega) (by omega)
            simp only [cnt, isP, h15] at ih
            exact ih
        · skip
          refine sw_if_eq (tgt := 24) dX2_passesOf_18 (by decide) (fun h18 => ?_) (fun h18 => ?_)
          · skip
            refine sx_iinc (nI (k + 1)) dX2_passesOf_24 rfl (nI_inc _) ?_
            refine sw_goto (tgt := 4) dX2_passesOf_27 (by decide) ?_
            have ih := ih (k + 1) (by omega) (by omega)
            simp only [cnt, isP, h15] at ih
            exact ih
          · exact absurd h18 (by decide)
  refine sx_iconst (v := nI 0) dX2_passesOf_0 (by decide) ?_
  refine sw_istoren dX2_passesOf_1 (Nat.le_of_ble_eq_true rfl) ?_
  refine sx_iconst (v := nI 0) dX2_passesOf_2 (by decide) ?_
  refine sw_istoren dX2_passesOf_3 (Nat.le_of_ble_eq_true rfl) ?_
  exact loop n 0 (by omega) (by omega)
end LOGS
