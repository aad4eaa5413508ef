/-! ===== DoorReaderModel (cell 46): tests and simple calls ===== -/
abbrev th (σ : Mem) : Mem := setI σ 46 0 (nI 0)
section MODEL
variable {G : GG} {d : Nat} {σ : Mem}
theorem m_isCard {f : Int32 → Mem → Prop} {n : Nat} {x : Int32} (hn : σ.1 46 24 = nI n) (hb : n ≤ 10) (k1 : inR x n → f (nI 1) σ) (k0 : ¬ inR x n → f (nI 0) σ) : SW G d M_X8_isCard 0 [some (.ref 46), some (.int x)] [] σ (RI f) := by
  refine sw_iloadn dX8_isCard_0 rfl ?_
  refine sw_if_lt (tgt := 16) dX8_isCard_1 (by decide) (fun h1 => ?_) (fun h1 => ?_)
  · skip
    refine sx_iconst (v := nI 0) dX8_isCard_16 (by decide) ?_
    refine sx_retz dX8_isCard_17 rfl (Or.inl rfl) ?_
    first
      | exact k0 (inR_lt h1 (by omega))
      | exact k0 (inR_ge h9 (by omega))
      | exact k1 (inR_of h1 h9 (by omega))
  · skip
    refine sw_iloadn dX8_isCard_4 rfl ?_
    refine sw_aloadn dX8_isCard_5 rfl ?_
    refine sw_getI dX8_isCard_6 fs_X8_204 o46 ?_
    rw [hn]
    refine sw_icmp_ge (tgt := 16) dX8_isCard_9 (by decide) (fun h9 => ?_) (fun h9 => ?_)
    · skip
      refine sx_iconst (v := nI 0) dX8_isCard_16 (by decide) ?_
      refine sx_retz dX8_isCard_17 rfl (Or.inl rfl) ?_
      first
        | exact k0 (inR_lt h1 (by omega))
        | exact k0 (inR_ge h9 (by omega))
        | exact k1 (inR_of h1 h9 (by omega))
    · skip
      refine sx_iconst (v := nI 1) dX8_isCard_12 (by decide) ?_
      refine sw_goto (tgt := 17) dX8_isCard_13 (by decide) ?_
      refine sx_retz dX8_isCard_17 rfl (Or.inr rfl) ?_
      first
        | exact k0 (inR_lt h1 (by omega))
        | exact k0 (inR_ge h9 (by omega))
        | exact k1 (inR_of h1 h9 (by omega))
theorem m_isRoom {f : Int32 → Mem → Prop} {n : Nat} {x : Int32} (hn : σ.1 46 18 = nI n) (hb : n ≤ 10) (k1 : inR x n → f (nI 1) σ) (k0 : ¬ inR x n → f (nI 0) σ) : SW G d M_X8_isRoom 0 [some (.ref 46), some (.int x)] [] σ (RI f) := by
  refine sw_iloadn dX8_isRoom_0 rfl ?_
  refine sw_if_lt (tgt := 16) dX8_isRoom_1 (by decide) (fun h1 => ?_) (fun h1 => ?_)
  · skip
    refine sx_iconst (v := nI 0) dX8_isRoom_16 (by decide) ?_
    refine sx_retz dX8_isRoom_17 rfl (Or.inl rfl) ?_
    first
      | exact k0 (inR_lt h1 (by omega))
      | exact k0 (inR_ge h9 (by omega))
      | exact k1 (inR_of h1 h9 (by omega))
  · skip
    refine sw_iloadn dX8_isRoom_4 rfl ?_
    refine sw_aloadn dX8_isRoom_5 rfl ?_
    refine sw_getI dX8_isRoom_6 fs_X8_198 o46 ?_
    rw [hn]
    refine sw_icmp_ge (tgt := 16) dX8_isRoom_9 (by decide) (fun h9 => ?_) (fun h9 => ?_)
    · skip
      refine sx_iconst (v := nI 0) dX8_isRoom_16 (by decide) ?_
      refine sx_retz dX8_isRoom_17 rfl (Or.inl rfl) ?_
      first
        | exact k0 (inR_lt h1 (by omega))
        | exact k0 (inR_ge h9 (by omega))
        | exact k1 (inR_of h1 h9 (by omega))
    · skip
      refine sx_iconst (v := nI 1) dX8_isRoom_12 (by decide) ?_
      refine sw_goto (tgt := 17) dX8_isRoom_13 (by decide) ?_
      refine sx_retz dX8_isRoom_17 rfl (Or.inr rfl) ?_
      first
        | exact k0 (inR_lt h1 (by omega))
        | exact k0 (inR_ge h9 (by omega))
        | exact k1 (inR_of h1 h9 (by omega))
theorem m_isTick {f : Int32 → Mem → Prop} {x : Int32} (k1 : inR x 200 → f (nI 1) σ) (k0 : ¬ inR x 200 → f (nI 0) σ) : SW G d M_X8_isTick 0 [some (.int x)] [] σ (RI f) := by
  refine sw_iloadn dX8_isTick_0 rfl ?_
  refine sw_if_lt (tgt := 15) dX8_isTick_1 (by decide) (fun h1 => ?_) (fun h1 => ?_)
  · skip
    refine sx_iconst (v := nI 0) dX8_isTick_15 (by decide) ?_
    refine sx_retz dX8_isTick_16 rfl (Or.inl rfl) ?_
    first
      | exact k0 (inR_lt h1 (by omega))
      | exact k0 (inR_ge h8 (by omega))
      | exact k1 (inR_of h1 h8 (by omega))
  · skip
    refine sw_iloadn dX8_isTick_4 rfl ?_
    refine sx_sipush (v := nI 200) dX8_isTick_5 (by decide) ?_
    refine sw_icmp_ge (tgt := 15) dX8_isTick_8 (by decide) (fun h8 => ?_) (fun h8 => ?_)
    · skip
      refine sx_iconst (v := nI 0) dX8_isTick_15 (by decide) ?_
      refine sx_retz dX8_isTick_16 rfl (Or.inl rfl) ?_
      first
        | exact k0 (inR_lt h1 (by omega))
        | exact k0 (inR_ge h8 (by omega))
        | exact k1 (inR_of h1 h8 (by omega))
    · skip
      refine sx_iconst (v := nI 1) dX8_isTick_11 (by decide) ?_
      refine sw_goto (tgt := 16) dX8_isTick_12 (by decide) ?_
      refine sx_retz dX8_isTick_16 rfl (Or.inr rfl) ?_
      first
        | exact k0 (inR_lt h1 (by omega))
        | exact k0 (inR_ge h8 (by omega))
        | exact k1 (inR_of h1 h8 (by omega))
theorem m_within {f : Int32 → Mem → Prop} {x y z : Int32} (k1 : (y ≤ x ∧ x ≤ z) → f (nI 1) σ) (k0 : ¬ (y ≤ x ∧ x ≤ z) → f (nI 0) σ) : SW G d M_X8_within 0 [some (.int x), some (.int y), some (.int z)] [] σ (RI f) := by
  refine sw_iloadn dX8_within_0 rfl ?_
  refine sw_iloadn dX8_within_1 rfl ?_
  refine sw_icmp_lt (tgt := 14) dX8_within_2 (by decide) (fun h2 => ?_) (fun h2 => ?_)
  · skip
    refine sx_iconst (v := nI 0) dX8_within_14 (by decide) ?_
    refine sx_retz dX8_within_15 rfl (Or.inl rfl) ?_
    first
      | exact k1 ⟨Int32.not_lt.mp h2, Int32.not_lt.mp h7⟩
      | exact k0 (fun q => absurd q.1 (Int32.not_le.mpr h2))
      | exact k0 (fun q => absurd q.2 (Int32.not_le.mpr h7))
  · skip
    refine sw_iloadn dX8_within_5 rfl ?_
    refine sw_iloadn dX8_within_6 rfl ?_
    refine sw_icmp_gt (tgt := 14) dX8_within_7 (by decide) (fun h7 => ?_) (fun h7 => ?_)
    · skip
      refine sx_iconst (v := nI 0) dX8_within_14 (by decide) ?_
      refine sx_retz dX8_within_15 rfl (Or.inl rfl) ?_
      first
        | exact k1 ⟨Int32.not_lt.mp h2, Int32.not_lt.mp h7⟩
        | exact k0 (fun q => absurd q.1 (Int32.not_le.mpr h2))
        | exact k0 (fun q => absurd q.2 (Int32.not_le.mpr h7))
    · skip
      refine sx_iconst (v := nI 1) dX8_within_10 (by decide) ?_
      refine sw_goto (tgt := 15) dX8_within_11 (by decide) ?_
      refine sx_retz dX8_within_15 rfl (Or.inr rfl) ?_
      first
        | exact k1 ⟨Int32.not_lt.mp h2, Int32.not_lt.mp h7⟩
        | exact k0 (fun q => absurd q.1 (Int32.not_le.mpr h2))
        | exact k0 (fun q => absurd q.2 (Int32.not_le.mpr h7))
theorem wi_in {x : Int32} {n : Nat} (hn : n < 10000) : (nI 0 ≤ x ∧ x ≤ nI n - nI 1) ↔ inR x n := by
  cases n with
  | zero =>
    refine ⟨fun q => ?_, fun ⟨k, hk, _⟩ => absurd hk (by omega)⟩
    exfalso
    have h1 := q.1
    have h2 := q.2
    rw [show nI 0 - nI 1 = (-1 : Int32) from by decide] at h2
    have := Int32.le_trans h1 h2
    exact absurd this (by decide)
  | succ n =>
    rw [show nI (n + 1) - nI 1 = nI n from nI_pred n]
    constructor
    · rintro ⟨h1, h2⟩
      exact inR_le (Int32.not_lt.mpr h1) (Int32.not_lt.mpr h2) (by omega)
    · rintro ⟨k, hk, rfl⟩
      exact ⟨nI_le (by omega) (by omega), nI_le (by omega) (by omega)⟩
theorem wi_in0 {x : Int32} {n : Nat} (hn : n < 9000) : (nI 0 ≤ x ∧ x ≤ nI n) ↔ inR x (n + 1) := by
  have := wi_in (x := x) (n := n + 1) (by omega)
  rwa [show nI (n + 1) - nI 1 = nI n from nI_pred n] at this
theorem m_thrown {f : Int32 → Mem → Prop} (h : f (σ.1 46 0) σ) : SW G d M_X8_thrown 0 [some (.ref 46)] [] σ (RI f) := by
  refine sw_aloadn dX8_thrown_0 rfl ?_
  refine sw_getI dX8_thrown_1 fs_X8_1 o46 ?_
  refine sx_reti dX8_thrown_4 rfl ?_
  exact h
theorem m_place {f : Int32 → Mem → Prop} (h : f (σ.1 46 9) (th σ)) : SW G d M_X8_place 0 [some (.ref 46)] [] σ (RI f) := by
  refine sw_aloadn dX8_place_0 rfl ?_
  refine sx_iconst (v := nI 0) dX8_place_1 (by decide) ?_
  refine sw_putI dX8_place_2 fs_X8_1 o46 ?_
  refine sw_aloadn dX8_place_5 rfl ?_
  refine sw_getI dX8_place_6 fs_X8_17 o46 ?_
  refine sx_reti dX8_place_9 rfl ?_
  exact h
theorem m_end {f : Int32 → Mem → Prop} {n : Nat} {x : Int32} (hn : σ.1 46 2 = nI n) (hb : n ≤ 600) (k1 : inR x (n + 1) → f x (setI (th σ) 46 2 x)) (k0 : ¬ inR x (n + 1) → f (-1) (th σ)) : SW G d M_X8_end 0 [some (.ref 46), some (.int x)] [] σ (RI f) := by
  refine sw_aloadn dX8_end_0 rfl ?_
  refine sx_iconst (v := nI 0) dX8_end_1 (by decide) ?_
  refine sw_putI dX8_end_2 fs_X8_1 o46 ?_
  refine sw_iloadn dX8_end_5 rfl ?_
  refine sw_if_lt (tgt := 17) dX8_end_6 (by decide) (fun h6 => ?_) (fun h6 => ?_)
  · skip
    refine sx_iconst (v := (-1)) dX8_end_17 (by decide) ?_
    refine sx_reti dX8_end_18 rfl ?_
    first
      | exact k0 (inR_lt h6 (by omega))
      | exact k0 (inR_gt (Int32.not_le.mp h14) (by omega))
      | exact k1 (inR_le h6 (Int32.not_lt.mpr h14) (by omega))
  · skip
    refine sw_iloadn dX8_end_9 rfl ?_
    refine sw_aloadn dX8_end_10 rfl ?_
    refine sw_getI dX8_end_11 fs_X8_104 o46 ?_
    rw [show (th σ).1 46 2 = nI n from hn]
    refine sw_icmp_le (tgt := 19) dX8_end_14 (by decide) (fun h14 => ?_) (fun h14 => ?_)
    · skip
      refine sw_aloadn dX8_end_19 rfl ?_
      refine sw_iloadn dX8_end_20 rfl ?_
      refine sw_putI dX8_end_21 fs_X8_104 o46 ?_
      refine sw_iloadn dX8_end_24 rfl ?_
      refine sx_reti dX8_end_25 rfl ?_
      first
        | exact k0 (inR_lt h6 (by omega))
        | exact k0 (inR_gt (Int32.not_le.mp h14) (by omega))
        | exact k1 (inR_le h6 (Int32.not_lt.mpr h14) (by omega))
    · skip
      refine sx_iconst (v := (-1)) dX8_end_17 (by decide) ?_
      refine sx_reti dX8_end_18 rfl ?_
      first
        | exact k0 (inR_lt h6 (by omega))
        | exact k0 (inR_gt (Int32.not_le.mp h14) (by omega))
        | exact k1 (inR_le h6 (Int32.not_lt.mpr h14) (by omega))
theorem m_card {f : Int32 → Mem → Prop} {r n : Nat} (hr : σ.1 46 18 = nI r) (hr' : r ≤ 8) (hn : σ.1 46 24 = nI n) (hb : n ≤ 10) (k1 : ¬ r = 0 → n < 10 → f (nI n) (setI (th σ) 46 24 (nI (n + 1)))) (k0 : (r = 0 ∨ n = 10) → f (-1) (th σ)) : SW G d M_X8_card 0 [some (.ref 46)] [] σ (RI f) := by
  refine sw_aloadn dX8_card_0 rfl ?_
  refine sx_iconst (v := nI 0) dX8_card_1 (by decide) ?_
  refine sw_putI dX8_card_2 fs_X8_1 o46 ?_
  refine sw_aloadn dX8_card_5 rfl ?_
  refine sw_getI dX8_card_6 fs_X8_198 o46 ?_
  rw [show (th σ).1 46 18 = nI r from hr]
  refine sw_if_eq (tgt := 21) dX8_card_9 (by decide) (fun h9 => ?_) (fun h9 => ?_)
  · skip
    refine sx_iconst (v := (-1)) dX8_card_21 (by decide) ?_
    refine sx_reti dX8_card_22 rfl ?_
    first
      | exact k0 (Or.inl (nI_inj (by omega) (by omega) h9))
      | exact k0 (Or.inr (nI_inj (by omega) (by omega) h18))
      | (have hz : ¬ n = 10 := fun e => h18 (by rw [e])
         exact k1 (fun e => h9 (by rw [e]; rfl)) (by omega))
  · skip
    refine sw_aloadn dX8_card_12 rfl ?_
    refine sw_getI dX8_card_13 fs_X8_204 o46 ?_
    rw [show (th σ).1 46 24 = nI n from hn]
    refine sx_bipush (v := nI 10) dX8_card_16 (by decide) ?_
    refine sw_icmp_ne (tgt := 23) dX8_card_18 (by decide) (fun h18 => ?_) (fun h18 => ?_)
    · skip
      refine sw_aloadn dX8_card_23 rfl ?_
      refine sw_dup dX8_card_24 rfl ?_
      refine sw_getI dX8_card_25 fs_X8_204 o46 ?_
      rw [show (th σ).1 46 24 = nI n from hn]
      refine sx_iconst (v := nI 1) dX8_card_28 (by decide) ?_
      refine sw_iadd dX8_card_29 ?_
      refine sw_topI (y := nI (n + 1)) (nI_1 n) ?_
      refine sw_putI dX8_card_30 fs_X8_204 o46 ?_
      refine sw_aloadn dX8_card_33 rfl ?_
      refine sw_getI dX8_card_34 fs_X8_204 o46 ?_
      simp only [setI_at, upd_same]
      refine sx_iconst (v := nI 1) dX8_card_37 (by decide) ?_
      refine sw_isub dX8_card_38 ?_
      refine sw_topI (y := nI n) (nI_pred n) ?_
      refine sx_reti dX8_card_39 rfl ?_
      first
        | exact k0 (Or.inl (nI_inj (by omega) (by omega) h9))
        | exact k0 (Or.inr (nI_inj (by omega) (by omega) h18))
        | (have hz : ¬ n = 10 := fun e => h18 (by rw [e])
           exact k1 (fun e => h9 (by rw [e]; rfl)) (by omega))
    · skip
      refine sx_iconst (v := (-1)) dX8_card_21 (by decide) ?_
      refine sx_reti dX8_card_22 rfl ?_
      first
        | exact k0 (Or.inl (nI_inj (by omega) (by omega) h9))
        | exact k0 (Or.inr (nI_inj (by omega) (by omega) h18))
        | (have hz : ¬ n = 10 := fun e => h18 (by rw [e])
           exact k1 (fun e => h9 (by rw [e]; rfl)) (by omega))
/-- the logs with one more -/
def addM (σ : Mem) (n : Nat) (a b c d e : Int32) : Mem := setI (setI (setI (setI (setI (setI σ 58 n a) 59 n b) 60 n c) 61 n d) 62 n e) 46 25 (nI (n + 1))
theorem m_logAdd {f : Int32 → Mem → Prop} {n : Nat} {a b c x e : Int32} (hn : σ.1 46 25 = nI n) (hb : n < 100) (h : f (nI n) (addM σ n a b c x e)) : SW G d M_X8_log 0 [some (.ref 46), some (.int a), some (.int b), some (.int c), some (.int x), some (.int e)] [] σ (RI f) := by
  refine sw_aloadn dX8_log_0 rfl ?_
  refine sw_getR dX8_log_1 fs_X8_51 o46 r46_27 ?_
  refine sw_aloadn dX8_log_4 rfl ?_
  refine sw_getI dX8_log_5 fs_X8_207 o46 ?_
  rw [hn]
  refine sw_iloadn dX8_log_8 rfl ?_
  refine sx_iast (n) dX8_log_9 a58 (rfl) (by omega) (by decide) ?_
  refine sw_aloadn dX8_log_10 rfl ?_
  refine sw_getR dX8_log_11 fs_X8_54 o46 r46_28 ?_
  refine sw_aloadn dX8_log_14 rfl ?_
  refine sw_getI dX8_log_15 fs_X8_207 o46 ?_
  rw [show (setI σ 58 n a).1 46 25 = nI n from hn]
  refine sw_iloadn dX8_log_18 rfl ?_
  refine sx_iast (n) dX8_log_19 a59 (rfl) (by omega) (by decide) ?_
  refine sw_aloadn dX8_log_20 rfl ?_
  refine sw_getR dX8_log_21 fs_X8_57 o46 r46_29 ?_
  refine sw_aloadn dX8_log_24 rfl ?_
  refine sw_getI dX8_log_25 fs_X8_207 o46 ?_
  rw [show (setI (setI σ 58 n a) 59 n b).1 46 25 = nI n from hn]
  refine sw_iloadn dX8_log_28 rfl ?_
  refine sx_iast (n) dX8_log_29 a60 (rfl) (by omega) (by decide) ?_
  refine sw_aloadn dX8_log_30 rfl ?_
  refine sw_getR dX8_log_31 fs_X8_60 o46 r46_30 ?_
  refine sw_aloadn dX8_log_34 rfl ?_
  refine sw_getI dX8_log_35 fs_X8_207 o46 ?_
  rw [show (setI (setI (setI σ 58 n a) 59 n b) 60 n c).1 46 25 = nI n from hn]
  refine sw_iload dX8_log_38 rfl ?_
  refine sx_iast (n) dX8_log_40 a61 (rfl) (by omega) (by decide) ?_
  refine sw_aloadn dX8_log_41 rfl ?_
  refine sw_getR dX8_log_42 fs_X8_63 o46 r46_31 ?_
  refine sw_aloadn dX8_log_45 rfl ?_
  refine sw_getI dX8_log_46 fs_X8_207 o46 ?_
  rw [show (setI (setI (setI (setI σ 58 n a) 59 n b) 60 n c) 61 n x).1 46 25 = nI n from hn]
  refine sw_iload dX8_log_49 rfl ?_
  refine sx_iast (n) dX8_log_51 a62 (rfl) (by omega) (by decide) ?_
  refine sw_aloadn dX8_log_52 rfl ?_
  refine sw_dup dX8_log_53 rfl ?_
  refine sw_getI dX8_log_54 fs_X8_207 o46 ?_
  rw [show (setI (setI (setI (setI (setI σ 58 n a) 59 n b) 60 n c) 61 n x) 62 n e).1 46 25 = nI n from hn]
  refine sx_iconst (v := nI 1) dX8_log_57 (by decide) ?_
  refine sw_iadd dX8_log_58 ?_
  refine sw_topI (y := nI (n + 1)) (nI_1 n) ?_
  refine sw_putI dX8_log_59 fs_X8_207 o46 ?_
  refine sw_aloadn dX8_log_62 rfl ?_
  refine sw_getI dX8_log_63 fs_X8_207 o46 ?_
  simp only [setI_at, upd_same]
  refine sx_iconst (v := nI 1) dX8_log_66 (by decide) ?_
  refine sw_isub dX8_log_67 ?_
  refine sw_topI (y := nI n) (nI_pred n) ?_
  refine sx_reti dX8_log_68 rfl ?_
  exact h
def isPM (σ : Mem) (y : Int32) (k : Nat) : Bool := decide (σ.1 58 k = 0 ∧ σ.1 59 k = y)
def okPassM (σ : Mem) (nc nd n : Nat) (x y t : Int32) : Prop := inR x nc ∧ inR y nd ∧ inR t 200 ∧ cnt (isPM σ x) n ≠ 12 ∧ n < 100
theorem m_pass_loop {f : Int32 → Mem → Prop} {n : Nat} {x y b t : Int32} (hn : σ.1 46 25 = nI n) (hb : n ≤ 100)
    (h : SW G d M_X8_pass 91 [some (.ref 46), some (.int x), some (.int y), some (.int b), some (.int t), some (.int (nI (cnt (isPM σ x) n))), some (.int (nI n))] [] σ (RI f)) :
    ∀ (m k : Nat), m = n - k → k ≤ n → SW G d M_X8_pass 52 [some (.ref 46), some (.int x), some (.int y), some (.int b), some (.int t), some (.int (nI (cnt (isPM σ x) k))), some (.int (nI k))] [] σ (RI f) := by
  intro m
  induction m with
  | zero =>
    intro k hm hk
    obtain rfl : k = n := by omega
    refine sw_iload dX8_pass_52 rfl ?_
    refine sw_aloadn dX8_pass_54 rfl ?_
    refine sw_getI dX8_pass_55 fs_X8_207 o46 ?_
    rw [hn]
    refine sw_icmp_ge (tgt := 91) dX8_pass_58 (by decide) (fun h58 => ?_) (fun h58 => ?_)
    · skip
      exact h
    · exact absurd ((nI_le (Nat.le_refl _) (by omega))) h58
  | succ m ih =>
    intro k hm hk
    have ih := ih (k + 1) (by omega) (by omega)
    refine sw_iload dX8_pass_52 rfl ?_
    refine sw_aloadn dX8_pass_54 rfl ?_
    refine sw_getI dX8_pass_55 fs_X8_207 o46 ?_
    rw [hn]
    refine sw_icmp_ge (tgt := 91) dX8_pass_58 (by decide) (fun h58 => ?_) (fun h58 => ?_)
    · exact absurd h58 ((by rw [nI_le' (by omega) (by omega)]; omega))
    · skip
      refine sw_aloadn dX8_pass_61 rfl ?_
      refine sw_getR dX8_pass_62 fs_X8_51 o46 r46_27 ?_
      refine sw_iload dX8_pass_65 rfl ?_
      refine sx_iald (k) dX8_pass_67 a58 (rfl) (by omega) (by decide) ?_
      refine sw_if_ne (tgt := 85) dX8_pass_68 (by decide) (fun h68 => ?_) (fun h68 => ?_)
      · skip
        refine sx_iinc (nI (k + 1)) dX8_pass_85 rfl (nI_inc _) ?_
        refine sw_goto (tgt := 52) dX8_pass_88 (by decide) ?_
        first
          | (simp only [cnt, isPM, h68, h79, and_self, decide_true, if_true] at ih; exact ih)
          | (simp only [cnt, isPM, h68, h79, and_false, false_and, and_true, decide_false, if_false, Nat.add_zero, Bool.false_eq_true] at ih; exact ih)
          | (simp only [cnt, isPM, h68, and_false, false_and, and_true, decide_false, if_false, Nat.add_zero, Bool.false_eq_true] at ih; exact ih)
      · skip
        refine sw_aloadn dX8_pass_71 rfl ?_
        refine sw_getR dX8_pass_72 fs_X8_54 o46 r46_28 ?_
        refine sw_iload dX8_pass_75 rfl ?_
        refine sx_iald (k) dX8_pass_77 a59 (rfl) (by omega) (by decide) ?_
        refine sw_iloadn dX8_pass_78 rfl ?_
        refine sw_icmp_ne (tgt := 85) dX8_pass_79 (by decide) (fun h79 => ?_) (fun h79 => ?_)
        · skip
          refine sx_iinc (nI (k + 1)) dX8_pass_85 rfl (nI_inc _) ?_
          refine sw_goto (tgt := 52) dX8_pass_88 (by decide) ?_
          first
            | (simp only [cnt, isPM, h68, h79, and_self, decide_true, if_true] at ih; exact ih)
            | (simp only [cnt, isPM, h68, h79, and_false, false_and, and_true, decide_false, if_false, Nat.add_zero, Bool.false_eq_true] at ih; exact ih)
            | (simp only [cnt, isPM, h68, and_false, false_and, and_true, decide_false, if_false, Nat.add_zero, Bool.false_eq_true] at ih; exact ih)
        · skip
          refine sx_iinc (nI (cnt (isPM σ x) k + 1)) dX8_pass_82 rfl (nI_inc _) ?_
          refine sx_iinc (nI (k + 1)) dX8_pass_85 rfl (nI_inc _) ?_
          refine sw_goto (tgt := 52) dX8_pass_88 (by decide) ?_
          first
            | (simp only [cnt, isPM, h68, h79, and_self, decide_true, if_true] at ih; exact ih)
            | (simp only [cnt, isPM, h68, h79, and_false, false_and, and_true, decide_false, if_false, Nat.add_zero, Bool.false_eq_true] at ih; exact ih)
            | (simp only [cnt, isPM, h68, and_false, false_and, and_true, decide_false, if_false, Nat.add_zero, Bool.false_eq_true] at ih; exact ih)
theorem m_pass {f : Int32 → Mem → Prop} {nc nd n : Nat} {x y b t : Int32} (h1c : σ.1 46 24 = nI nc) (h2c : nc ≤ 10) (h1d : σ.1 46 19 = nI nd) (h2d : nd ≤ 10) (hn : σ.1 46 25 = nI n) (hb : n ≤ 100) (hbk : b = nI 0 ∨ b = nI 1) (k1 : okPassM σ nc nd n x y t → f (nI n) (addM (th σ) n (nI 0) x y t b)) (k0 : ¬ okPassM σ nc nd n x y t → f (-1) (th σ)) : SW G (d + 1) M_X8_pass 0 [some (.ref 46), some (.int x), some (.int y), some (.int b), some (.int t), none, none] [] σ (RI f) := by
  have fin : inR x nc → inR y nd → inR t 200 → n < 100 → SW G (d + 1) M_X8_pass 91 [some (.ref 46), some (.int x), some (.int y), some (.int b), some (.int t), some (.int (nI (cnt (isPM σ x) n))), some (.int (nI n))] [] (th σ) (RI f) := by
    intro h7 h21 h29 hlt
    have hc := cnt_le (isPM σ x) n
    refine sw_iload dX8_pass_91 rfl ?_
    refine sx_bipush (v := nI 12) dX8_pass_93 (by decide) ?_
    refine sw_icmp_ne (tgt := 102) dX8_pass_95 (by decide) (fun h95 => ?_) (fun h95 => ?_)
    · skip
      refine sw_aloadn dX8_pass_102 rfl ?_
      refine sx_iconst (v := nI 0) dX8_pass_103 (by decide) ?_
      refine sw_iloadn dX8_pass_104 rfl ?_
      refine sw_iloadn dX8_pass_105 rfl ?_
      refine sw_iload dX8_pass_106 rfl ?_
      refine sw_iloadn dX8_pass_108 rfl ?_
      refine sw_if_eq (tgt := 116) dX8_pass_109 (by decide) (fun h109 => ?_) (fun h109 => ?_)
      · skip
        refine sx_iconst (v := nI 0) dX8_pass_116 (by decide) ?_
        refine sx_invI5 dX8_pass_117 mk_X8_log vk_X8_log lk_X8_223 o46 (Nat.le_of_ble_eq_true rfl) (Nat.le_of_ble_eq_true rfl) ?_
        refine m_logAdd (n := n) hn hlt ?_
        refine sx_reti dX8_pass_120 rfl ?_
        first
          | (have hz := nI_inj (by omega) (by omega) h95
             exact k0 (fun q => q.2.2.2.1 hz))
          | (have hz : b = nI 0 := h109
             rw [hz] at k1
             exact k1 ⟨h7, h21, h29, fun e => h95 (by rw [e]), hlt⟩)
          | (have hz : b = nI 1 := hbk.resolve_left h109
             rw [hz] at k1
             exact k1 ⟨h7, h21, h29, fun e => h95 (by rw [e]), hlt⟩)
      · skip
        refine sx_iconst (v := nI 1) dX8_pass_112 (by decide) ?_
        refine sw_goto (tgt := 117) dX8_pass_113 (by decide) ?_
        refine sx_invI5 dX8_pass_117 mk_X8_log vk_X8_log lk_X8_223 o46 (Nat.le_of_ble_eq_true rfl) (Nat.le_of_ble_eq_true rfl) ?_
        refine m_logAdd (n := n) hn hlt ?_
        refine sx_reti dX8_pass_120 rfl ?_
        first
          | (have hz := nI_inj (by omega) (by omega) h95
             exact k0 (fun q => q.2.2.2.1 hz))
          | (have hz : b = nI 0 := h109
             rw [hz] at k1
             exact k1 ⟨h7, h21, h29, fun e => h95 (by rw [e]), hlt⟩)
          | (have hz : b = nI 1 := hbk.resolve_left h109
             rw [hz] at k1
             exact k1 ⟨h7, h21, h29, fun e => h95 (by rw [e]), hlt⟩)
    · skip
      refine sx_iconst (v := (-1)) dX8_pass_98 (by decide) ?_
      refine sw_goto (tgt := 120) dX8_pass_99 (by decide) ?_
      refine sx_reti dX8_pass_120 rfl ?_
      first
        | (have hz := nI_inj (by omega) (by omega) h95
           exact k0 (fun q => q.2.2.2.1 hz))
        | (have hz : b = nI 0 := h109
           rw [hz] at k1
           exact k1 ⟨h7, h21, h29, fun e => h95 (by rw [e]), hlt⟩)
        | (have hz : b = nI 1 := hbk.resolve_left h109
           rw [hz] at k1
           exact k1 ⟨h7, h21, h29, fun e => h95 (by rw [e]), hlt⟩)
  refine sw_aloadn dX8_pass_0 rfl ?_
  refine sx_iconst (v := nI 0) dX8_pass_1 (by decide) ?_
  refine sw_putI dX8_pass_2 fs_X8_1 o46 ?_
  refine sw_aloadn dX8_pass_5 rfl ?_
  refine sw_iloadn dX8_pass_6 rfl ?_
  refine sx_invI1 dX8_pass_7 mk_X8_isCard vk_X8_isCard lk_X8_213 o46 (Nat.le_of_ble_eq_true rfl) (Nat.le_of_ble_eq_true rfl) ?_
  refine m_isCard (n := nc) h1c h2c (fun h7 => ?_) (fun h7 => ?_)
  · skip
    refine sw_if_eq (tgt := 44) dX8_pass_10 (by decide) (fun h10 => ?_) (fun h10 => ?_)
    · exact absurd h10 (by decide)
    · skip
      refine sw_iloadn dX8_pass_13 rfl ?_
      refine sx_iconst (v := nI 0) dX8_pass_14 (by decide) ?_
      refine sw_aloadn dX8_pass_15 rfl ?_
      refine sw_getI dX8_pass_16 fs_X8_201 o46 ?_
      rw [show (th σ).1 46 19 = nI nd from h1d]
      refine sx_iconst (v := nI 1) dX8_pass_19 (by decide) ?_
      refine sw_isub dX8_pass_20 ?_
      refine sx_insI3 dX8_pass_21 mk_X8_within sk_X8_within lk_X8_216 (Nat.le_of_ble_eq_true rfl) (Nat.le_of_ble_eq_true rfl) ?_
      refine m_within (fun h21 => ?_) (fun h21 => ?_)
      · skip
        refine sw_if_eq (tgt := 44) dX8_pass_24 (by decide) (fun h24 => ?_) (fun h24 => ?_)
        · exact absurd h24 (by decide)
        · skip
          have h21 := (wi_in (by omega)).mp h21
          refine sw_iload dX8_pass_27 rfl ?_
          refine sx_insI1 dX8_pass_29 mk_X8_isTick sk_X8_isTick lk_X8_220 (Nat.le_of_ble_eq_true rfl) (Nat.le_of_ble_eq_true rfl) ?_
          refine m_isTick (fun h29 => ?_) (fun h29 => ?_)
          · skip
            refine sw_if_eq (tgt := 44) dX8_pass_32 (by decide) (fun h32 => ?_) (fun h32 => ?_)
            · exact absurd h32 (by decide)
            · skip
              refine sw_aloadn dX8_pass_35 rfl ?_
              refine sw_getI dX8_pass_36 fs_X8_207 o46 ?_
              rw [show (th σ).1 46 25 = nI n from hn]
              refine sx_bipush (v := nI 100) dX8_pass_39 (by decide) ?_
              refine sw_icmp_ne (tgt := 46) dX8_pass_41 (by decide) (fun h41 => ?_) (fun h41 => ?_)
              · skip
                have hlt : n < 100 := by
                  have : ¬ n = 100 := fun e => h41 (by rw [e])
                  omega
                refine sx_iconst (v := nI 0) dX8_pass_46 (by decide) ?_
                refine sw_istore dX8_pass_47 (Nat.le_of_ble_eq_true rfl) ?_
                refine sx_iconst (v := nI 0) dX8_pass_49 (by decide) ?_
                refine sw_istore dX8_pass_50 (Nat.le_of_ble_eq_true rfl) ?_
                refine m_pass_loop (σ := th σ) hn hb ?_ n 0 (by omega) (by omega)
                have hc : nI (cnt (isPM (th σ) x) n) = nI (cnt (isPM σ x) n) := rfl
                rw [hc]
                exact fin h7 h21 h29 hlt
              · skip
                refine sx_iconst (v := (-1)) dX8_pass_44 (by decide) ?_
                refine sx_reti dX8_pass_45 rfl ?_
                first
                  | exact k0 (fun q => h7 q.1)
                  | exact k0 (fun q => h21 ((wi_in (by omega)).mpr q.2.1))
                  | exact k0 (fun q => h29 q.2.2.1)
                  | (have hz := nI_inj (by omega) (by omega) h41
                     exact k0 (fun q => absurd q.2.2.2.2 (by omega)))
          · skip
            refine sw_if_eq (tgt := 44) dX8_pass_32 (by decide) (fun h32 => ?_) (fun h32 => ?_)
            · skip
              refine sx_iconst (v := (-1)) dX8_pass_44 (by decide) ?_
              refine sx_reti dX8_pass_45 rfl ?_
              first
                | exact k0 (fun q => h7 q.1)
                | exact k0 (fun q => h21 ((wi_in (by omega)).mpr q.2.1))
                | exact k0 (fun q => h29 q.2.2.1)
                | (have hz := nI_inj (by omega) (by omega) h41
                   exact k0 (fun q => absurd q.2.2.2.2 (by omega)))
            · exact absurd h32 (by decide)
      · skip
        refine sw_if_eq (tgt := 44) dX8_pass_24 (by decide) (fun h24 => ?_) (fun h24 => ?_)
        · skip
          refine sx_iconst (v := (-1)) dX8_pass_44 (by decide) ?_
          refine sx_reti dX8_pass_45 rfl ?_
          first
            | exact k0 (fun q => h7 q.1)
            | exact k0 (fun q => h21 ((wi_in (by omega)).mpr q.2.1))
            | exact k0 (fun q => h29 q.2.2.1)
            | (have hz := nI_inj (by omega) (by omega) h41
               exact k0 (fun q => absurd q.2.2.2.2 (by omega)))
        · exact absurd h24 (by decide)
  · skip
    refine sw_if_eq (tgt := 44) dX8_pass_10 (by decide) (fun h10 => ?_) (fun h10 => ?_)
    · skip
      refine sx_iconst (v := (-1)) dX8_pass_44 (by decide) ?_
      refine sx_reti dX8_pass_45 rfl ?_
      first
        | exact k0 (fun q => h7 q.1)
        | exact k0 (fun q => h21 ((wi_in (by omega)).mpr q.2.1))
        | exact k0 (fun q => h29 q.2.2.1)
        | (have hz := nI_inj (by omega) (by omega) h41
           exact k0 (fun q => absurd q.2.2.2.2 (by omega)))
    · exact absurd h10 (by decide)
end MODEL
