/-! ===== DoorReader (cell 0; bytes 1, faultPlace 2, cards 3): tests and simple calls ===== -/
section BASIC
variable {G : GG} {d : Nat} {σ : Mem}
theorem c_X7_hasCard {f : Int32 → Mem → Prop} {n : Nat} {x : Int32} (hn : σ.1 0 3 = nI n) (hb : n ≤ 10) (k1 : inR x n → f (nI 1) σ) (k0 : ¬ inR x n → f (nI 0) σ) : SW G d M_X7_hasCard 0 [some (.ref 0), some (.int x)] [] σ (RI f) := by
  refine sw_iloadn dX7_hasCard_0 rfl ?_
  refine sw_if_lt (tgt := 16) dX7_hasCard_1 (by decide) (fun h1 => ?_) (fun h1 => ?_)
  · skip
    refine sx_iconst (v := nI 0) dX7_hasCard_16 (by decide) ?_
    refine sx_retz dX7_hasCard_17 rfl (Or.inl rfl) ?_
    first
      | exact k0 (inR_lt h1 (by omega))
      | exact k0 (inR_ge h9 (by omega))
      | exact k1 (inR_of h1 h9 (by omega))
  · skip
    refine sw_iloadn dX7_hasCard_4 rfl ?_
    refine sw_aloadn dX7_hasCard_5 rfl ?_
    refine sw_getI dX7_hasCard_6 fs_X7_87 o0 ?_
    rw [hn]
    refine sw_icmp_ge (tgt := 16) dX7_hasCard_9 (by decide) (fun h9 => ?_) (fun h9 => ?_)
    · skip
      refine sx_iconst (v := nI 0) dX7_hasCard_16 (by decide) ?_
      refine sx_retz dX7_hasCard_17 rfl (Or.inl rfl) ?_
      first
        | exact k0 (inR_lt h1 (by omega))
        | exact k0 (inR_ge h9 (by omega))
        | exact k1 (inR_of h1 h9 (by omega))
    · skip
      refine sx_iconst (v := nI 1) dX7_hasCard_12 (by decide) ?_
      refine sw_goto (tgt := 17) dX7_hasCard_13 (by decide) ?_
      refine sx_retz dX7_hasCard_17 rfl (Or.inr rfl) ?_
      first
        | exact k0 (inR_lt h1 (by omega))
        | exact k0 (inR_ge h9 (by omega))
        | exact k1 (inR_of h1 h9 (by omega))
theorem c_X7_hasRoom {f : Int32 → Mem → Prop} {n : Nat} {x : Int32} (hn : σ.1 2 0 = nI n) (hb : n ≤ 10) (k1 : inR x n → f (nI 1) σ) (k0 : ¬ inR x n → f (nI 0) σ) : SW G d M_X7_hasRoom 0 [some (.ref 0), some (.int x)] [] σ (RI f) := by
  refine sw_iloadn dX7_hasRoom_0 rfl ?_
  refine sw_if_lt (tgt := 19) dX7_hasRoom_1 (by decide) (fun h1 => ?_) (fun h1 => ?_)
  · skip
    refine sx_iconst (v := nI 0) dX7_hasRoom_19 (by decide) ?_
    refine sx_retz dX7_hasRoom_20 rfl (Or.inl rfl) ?_
    first
      | exact k0 (inR_lt h1 (by omega))
      | exact k0 (inR_ge h12 (by omega))
      | exact k1 (inR_of h1 h12 (by omega))
  · skip
    refine sw_iloadn dX7_hasRoom_4 rfl ?_
    refine sw_aloadn dX7_hasRoom_5 rfl ?_
    refine sw_getR dX7_hasRoom_6 fs_X7_20 o0 r0_4 ?_
    refine sw_getI dX7_hasRoom_9 fs_X7_97 o2 ?_
    rw [hn]
    refine sw_icmp_ge (tgt := 19) dX7_hasRoom_12 (by decide) (fun h12 => ?_) (fun h12 => ?_)
    · skip
      refine sx_iconst (v := nI 0) dX7_hasRoom_19 (by decide) ?_
      refine sx_retz dX7_hasRoom_20 rfl (Or.inl rfl) ?_
      first
        | exact k0 (inR_lt h1 (by omega))
        | exact k0 (inR_ge h12 (by omega))
        | exact k1 (inR_of h1 h12 (by omega))
    · skip
      refine sx_iconst (v := nI 1) dX7_hasRoom_15 (by decide) ?_
      refine sw_goto (tgt := 20) dX7_hasRoom_16 (by decide) ?_
      refine sx_retz dX7_hasRoom_20 rfl (Or.inr rfl) ?_
      first
        | exact k0 (inR_lt h1 (by omega))
        | exact k0 (inR_ge h12 (by omega))
        | exact k1 (inR_of h1 h12 (by omega))
theorem c_X7_hasDoor {f : Int32 → Mem → Prop} {n : Nat} {x : Int32} (hn : σ.1 2 1 = nI n) (hb : n ≤ 10) (k1 : inR x n → f (nI 1) σ) (k0 : ¬ inR x n → f (nI 0) σ) : SW G d M_X7_hasDoor 0 [some (.ref 0), some (.int x)] [] σ (RI f) := by
  refine sw_iloadn dX7_hasDoor_0 rfl ?_
  refine sw_if_lt (tgt := 19) dX7_hasDoor_1 (by decide) (fun h1 => ?_) (fun h1 => ?_)
  · skip
    refine sx_iconst (v := nI 0) dX7_hasDoor_19 (by decide) ?_
    refine sx_retz dX7_hasDoor_20 rfl (Or.inl rfl) ?_
    first
      | exact k0 (inR_lt h1 (by omega))
      | exact k0 (inR_ge h12 (by omega))
      | exact k1 (inR_of h1 h12 (by omega))
  · skip
    refine sw_iloadn dX7_hasDoor_4 rfl ?_
    refine sw_aloadn dX7_hasDoor_5 rfl ?_
    refine sw_getR dX7_hasDoor_6 fs_X7_20 o0 r0_4 ?_
    refine sw_getI dX7_hasDoor_9 fs_X7_210 o2 ?_
    rw [hn]
    refine sw_icmp_ge (tgt := 19) dX7_hasDoor_12 (by decide) (fun h12 => ?_) (fun h12 => ?_)
    · skip
      refine sx_iconst (v := nI 0) dX7_hasDoor_19 (by decide) ?_
      refine sx_retz dX7_hasDoor_20 rfl (Or.inl rfl) ?_
      first
        | exact k0 (inR_lt h1 (by omega))
        | exact k0 (inR_ge h12 (by omega))
        | exact k1 (inR_of h1 h12 (by omega))
    · skip
      refine sx_iconst (v := nI 1) dX7_hasDoor_15 (by decide) ?_
      refine sw_goto (tgt := 20) dX7_hasDoor_16 (by decide) ?_
      refine sx_retz dX7_hasDoor_20 rfl (Or.inr rfl) ?_
      first
        | exact k0 (inR_lt h1 (by omega))
        | exact k0 (inR_ge h12 (by omega))
        | exact k1 (inR_of h1 h12 (by omega))
theorem c_X7_isTick {f : Int32 → Mem → Prop} {x : Int32} (k1 : inR x 200 → f (nI 1) σ) (k0 : ¬ inR x 200 → f (nI 0) σ) : SW G d M_X7_isTick 0 [some (.ref 0), some (.int x)] [] σ (RI f) := by
  refine sw_iloadn dX7_isTick_0 rfl ?_
  refine sw_if_lt (tgt := 15) dX7_isTick_1 (by decide) (fun h1 => ?_) (fun h1 => ?_)
  · skip
    refine sx_iconst (v := nI 0) dX7_isTick_15 (by decide) ?_
    refine sx_retz dX7_isTick_16 rfl (Or.inl rfl) ?_
    first
      | exact k0 (inR_lt h1 (by omega))
      | exact k0 (inR_ge h8 (by omega))
      | exact k1 (inR_of h1 h8 (by omega))
  · skip
    refine sw_iloadn dX7_isTick_4 rfl ?_
    refine sx_sipush (v := nI 200) dX7_isTick_5 (by decide) ?_
    refine sw_icmp_ge (tgt := 15) dX7_isTick_8 (by decide) (fun h8 => ?_) (fun h8 => ?_)
    · skip
      refine sx_iconst (v := nI 0) dX7_isTick_15 (by decide) ?_
      refine sx_retz dX7_isTick_16 rfl (Or.inl rfl) ?_
      first
        | exact k0 (inR_lt h1 (by omega))
        | exact k0 (inR_ge h8 (by omega))
        | exact k1 (inR_of h1 h8 (by omega))
    · skip
      refine sx_iconst (v := nI 1) dX7_isTick_11 (by decide) ?_
      refine sw_goto (tgt := 16) dX7_isTick_12 (by decide) ?_
      refine sx_retz dX7_isTick_16 rfl (Or.inr rfl) ?_
      first
        | exact k0 (inR_lt h1 (by omega))
        | exact k0 (inR_ge h8 (by omega))
        | exact k1 (inR_of h1 h8 (by omega))
theorem inR_gt {x : Int32} {n : Nat} (h : nI n < x) (hn : n < 10000) : ¬ inR x (n + 1) := by
  rintro ⟨k, hk, rfl⟩
  rw [nI_ltI (by omega) (by omega)] at h
  omega
theorem inR_le {x : Int32} {n : Nat} (h0 : ¬ x < 0) (h : ¬ nI n < x) (hn : n < 10000) : inR x (n + 1) := by
  obtain ⟨j, hj, rfl⟩ := nI_of h0
  rw [nI_ltI (by omega) hj] at h
  exact ⟨j, by omega, rfl⟩
theorem c_X7_isBehind {f : Int32 → Mem → Prop} {n : Nat} {x : Int32} (hn : σ.1 17 0 = nI n) (hb : n ≤ 100) (k1 : inR x (n + 1) → f (nI 1) σ) (k0 : ¬ inR x (n + 1) → f (nI 0) σ) : SW G d M_X7_isBehind 0 [some (.ref 0), some (.int x)] [] σ (RI f) := by
  refine sw_iloadn dX7_isBehind_0 rfl ?_
  refine sw_if_lt (tgt := 19) dX7_isBehind_1 (by decide) (fun h1 => ?_) (fun h1 => ?_)
  · skip
    refine sx_iconst (v := nI 0) dX7_isBehind_19 (by decide) ?_
    refine sx_retz dX7_isBehind_20 rfl (Or.inl rfl) ?_
    first
      | exact k0 (inR_lt h1 (by omega))
      | exact k0 (inR_gt h12 (by omega))
      | exact k1 (inR_le h1 h12 (by omega))
  · skip
    refine sw_iloadn dX7_isBehind_4 rfl ?_
    refine sw_aloadn dX7_isBehind_5 rfl ?_
    refine sw_getR dX7_isBehind_6 fs_X7_39 o0 r0_7 ?_
    refine sw_getI dX7_isBehind_9 fs_X7_213 o17 ?_
    rw [hn]
    refine sw_icmp_gt (tgt := 19) dX7_isBehind_12 (by decide) (fun h12 => ?_) (fun h12 => ?_)
    · skip
      refine sx_iconst (v := nI 0) dX7_isBehind_19 (by decide) ?_
      refine sx_retz dX7_isBehind_20 rfl (Or.inl rfl) ?_
      first
        | exact k0 (inR_lt h1 (by omega))
        | exact k0 (inR_gt h12 (by omega))
        | exact k1 (inR_le h1 h12 (by omega))
    · skip
      refine sx_iconst (v := nI 1) dX7_isBehind_15 (by decide) ?_
      refine sw_goto (tgt := 20) dX7_isBehind_16 (by decide) ?_
      refine sx_retz dX7_isBehind_20 rfl (Or.inr rfl) ?_
      first
        | exact k0 (inR_lt h1 (by omega))
        | exact k0 (inR_gt h12 (by omega))
        | exact k1 (inR_le h1 h12 (by omega))
theorem c_X7_place {f : Int32 → Mem → Prop} (h : f (σ.1 0 2) σ) : SW G d M_X7_place 0 [some (.ref 0)] [] σ (RI f) := by
  refine sw_aloadn dX7_place_0 rfl ?_
  refine sw_getI dX7_place_1 fs_X7_13 o0 ?_
  refine sx_reti dX7_place_4 rfl ?_
  exact h
theorem c_X7_end {f : Int32 → Mem → Prop} {n : Nat} {x : Int32} (hn : σ.1 0 1 = nI n) (hb : n ≤ 600) (k1 : inR x (n + 1) → f x (setI σ 0 1 x)) (k0 : ¬ inR x (n + 1) → f (-1) σ) : SW G d M_X7_end 0 [some (.ref 0), some (.int x)] [] σ (RI f) := by
  refine sw_iloadn dX7_end_0 rfl ?_
  refine sw_if_lt (tgt := 12) dX7_end_1 (by decide) (fun h1 => ?_) (fun h1 => ?_)
  · skip
    refine sx_iconst (v := (-1)) dX7_end_12 (by decide) ?_
    refine sx_reti dX7_end_13 rfl ?_
    first
      | exact k0 (inR_lt h1 (by omega))
      | exact k0 (inR_gt (Int32.not_le.mp h9) (by omega))
      | exact k1 (inR_le h1 (Int32.not_lt.mpr h9) (by omega))
  · skip
    refine sw_iloadn dX7_end_4 rfl ?_
    refine sw_aloadn dX7_end_5 rfl ?_
    refine sw_getI dX7_end_6 fs_X7_71 o0 ?_
    rw [hn]
    refine sw_icmp_le (tgt := 14) dX7_end_9 (by decide) (fun h9 => ?_) (fun h9 => ?_)
    · skip
      refine sw_aloadn dX7_end_14 rfl ?_
      refine sw_iloadn dX7_end_15 rfl ?_
      refine sw_putI dX7_end_16 fs_X7_71 o0 ?_
      refine sw_iloadn dX7_end_19 rfl ?_
      refine sx_reti dX7_end_20 rfl ?_
      first
        | exact k0 (inR_lt h1 (by omega))
        | exact k0 (inR_gt (Int32.not_le.mp h9) (by omega))
        | exact k1 (inR_le h1 (Int32.not_lt.mpr h9) (by omega))
    · skip
      refine sx_iconst (v := (-1)) dX7_end_12 (by decide) ?_
      refine sx_reti dX7_end_13 rfl ?_
      first
        | exact k0 (inR_lt h1 (by omega))
        | exact k0 (inR_gt (Int32.not_le.mp h9) (by omega))
        | exact k1 (inR_le h1 (Int32.not_lt.mpr h9) (by omega))
theorem c_X7_card {f : Int32 → Mem → Prop} {r n : Nat} (hr : σ.1 2 0 = nI r) (hr' : r ≤ 8) (hn : σ.1 0 3 = nI n) (hb : n ≤ 10) (k1 : ¬ r = 0 → n < 10 → f (nI n) (setI σ 0 3 (nI (n + 1)))) (k0 : (r = 0 ∨ n = 10) → f (-1) σ) : SW G d M_X7_card 0 [some (.ref 0)] [] σ (RI f) := by
  refine sw_aloadn dX7_card_0 rfl ?_
  refine sw_getR dX7_card_1 fs_X7_20 o0 r0_4 ?_
  refine sw_getI dX7_card_4 fs_X7_97 o2 ?_
  rw [hr]
  refine sw_if_eq (tgt := 19) dX7_card_7 (by decide) (fun h7 => ?_) (fun h7 => ?_)
  · skip
    refine sx_iconst (v := (-1)) dX7_card_19 (by decide) ?_
    refine sx_reti dX7_card_20 rfl ?_
    first
      | exact k0 (Or.inl (nI_inj (by omega) (by omega) h7))
      | exact k0 (Or.inr (nI_inj (by omega) (by omega) h16))
      | (have hz : ¬ n = 10 := fun e => h16 (by rw [e])
         exact k1 (fun e => h7 (by rw [e]; rfl)) (by omega))
  · skip
    refine sw_aloadn dX7_card_10 rfl ?_
    refine sw_getI dX7_card_11 fs_X7_87 o0 ?_
    rw [hn]
    refine sx_bipush (v := nI 10) dX7_card_14 (by decide) ?_
    refine sw_icmp_ne (tgt := 21) dX7_card_16 (by decide) (fun h16 => ?_) (fun h16 => ?_)
    · skip
      refine sw_aloadn dX7_card_21 rfl ?_
      refine sw_dup dX7_card_22 rfl ?_
      refine sw_getI dX7_card_23 fs_X7_87 o0 ?_
      rw [hn]
      refine sx_iconst (v := nI 1) dX7_card_26 (by decide) ?_
      refine sw_iadd dX7_card_27 ?_
      refine sw_topI (y := nI (n + 1)) (nI_1 n) ?_
      refine sw_putI dX7_card_28 fs_X7_87 o0 ?_
      refine sw_aloadn dX7_card_31 rfl ?_
      refine sw_getI dX7_card_32 fs_X7_87 o0 ?_
      simp only [setI_at, upd_same]
      refine sx_iconst (v := nI 1) dX7_card_35 (by decide) ?_
      refine sw_isub dX7_card_36 ?_
      refine sw_topI (y := nI n) (nI_pred n) ?_
      refine sx_reti dX7_card_37 rfl ?_
      first
        | exact k0 (Or.inl (nI_inj (by omega) (by omega) h7))
        | exact k0 (Or.inr (nI_inj (by omega) (by omega) h16))
        | (have hz : ¬ n = 10 := fun e => h16 (by rw [e])
           exact k1 (fun e => h7 (by rw [e]; rfl)) (by omega))
    · skip
      refine sx_iconst (v := (-1)) dX7_card_19 (by decide) ?_
      refine sx_reti dX7_card_20 rfl ?_
      first
        | exact k0 (Or.inl (nI_inj (by omega) (by omega) h7))
        | exact k0 (Or.inr (nI_inj (by omega) (by omega) h16))
        | (have hz : ¬ n = 10 := fun e => h16 (by rw [e])
           exact k1 (fun e => h7 (by rw [e]; rfl)) (by omega))
/-- the logs with one more -/
def addC (σ : Mem) (n : Nat) (a b c d e : Int32) : Mem := setI (setI (setI (setI (setI (setI σ 18 n a) 19 n b) 20 n c) 21 n d) 22 n e) 17 0 (nI (n + 1))
theorem c_X2_add {f : Int32 → Mem → Prop} {n : Nat} {a b c x e : Int32} (hn : σ.1 17 0 = nI n) (hb : n ≤ 100) (k1 : n < 100 → f (nI n) (addC σ n a b c x e)) (k0 : n = 100 → f (-1) σ) : SW G d M_X2_add 0 [some (.ref 17), some (.int a), some (.int b), some (.int c), some (.int x), some (.int e)] [] σ (RI f) := by
  refine sw_aloadn dX2_add_0 rfl ?_
  refine sw_getI dX2_add_1 fs_X2_27 o17 ?_
  rw [hn]
  refine sx_bipush (v := nI 100) dX2_add_4 (by decide) ?_
  refine sw_icmp_lt (tgt := 11) dX2_add_6 (by decide) (fun h6 => ?_) (fun h6 => ?_)
  · skip
    have hlt : n < 100 := (nI_lt' (by omega) (by omega)).mp h6
    refine sw_aloadn dX2_add_11 rfl ?_
    refine sw_getR dX2_add_12 fs_X2_9 o17 r17_1 ?_
    refine sw_aloadn dX2_add_15 rfl ?_
    refine sw_getI dX2_add_16 fs_X2_27 o17 ?_
    rw [hn]
    refine sw_iloadn dX2_add_19 rfl ?_
    refine sx_iast (n) dX2_add_20 a18 (rfl) (by omega) (by decide) ?_
    refine sw_aloadn dX2_add_21 rfl ?_
    refine sw_getR dX2_add_22 fs_X2_15 o17 r17_2 ?_
    refine sw_aloadn dX2_add_25 rfl ?_
    refine sw_getI dX2_add_26 fs_X2_27 o17 ?_
    rw [show (setI σ 18 n a).1 17 0 = nI n from hn]
    refine sw_iloadn dX2_add_29 rfl ?_
    refine sx_iast (n) dX2_add_30 a19 (rfl) (by omega) (by decide) ?_
    refine sw_aloadn dX2_add_31 rfl ?_
    refine sw_getR dX2_add_32 fs_X2_18 o17 r17_3 ?_
    refine sw_aloadn dX2_add_35 rfl ?_
    refine sw_getI dX2_add_36 fs_X2_27 o17 ?_
    rw [show (setI (setI σ 18 n a) 19 n b).1 17 0 = nI n from hn]
    refine sw_iloadn dX2_add_39 rfl ?_
    refine sx_iast (n) dX2_add_40 a20 (rfl) (by omega) (by decide) ?_
    refine sw_aloadn dX2_add_41 rfl ?_
    refine sw_getR dX2_add_42 fs_X2_21 o17 r17_4 ?_
    refine sw_aloadn dX2_add_45 rfl ?_
    refine sw_getI dX2_add_46 fs_X2_27 o17 ?_
    rw [show (setI (setI (setI σ 18 n a) 19 n b) 20 n c).1 17 0 = nI n from hn]
    refine sw_iload dX2_add_49 rfl ?_
    refine sx_iast (n) dX2_add_51 a21 (rfl) (by omega) (by decide) ?_
    refine sw_aloadn dX2_add_52 rfl ?_
    refine sw_getR dX2_add_53 fs_X2_24 o17 r17_5 ?_
    refine sw_aloadn dX2_add_56 rfl ?_
    refine sw_getI dX2_add_57 fs_X2_27 o17 ?_
    rw [show (setI (setI (setI (setI σ 18 n a) 19 n b) 20 n c) 21 n x).1 17 0 = nI n from hn]
    refine sw_iload dX2_add_60 rfl ?_
    refine sx_iast (n) dX2_add_62 a22 (rfl) (by omega) (by decide) ?_
    refine sw_aloadn dX2_add_63 rfl ?_
    refine sw_dup dX2_add_64 rfl ?_
    refine sw_getI dX2_add_65 fs_X2_27 o17 ?_
    rw [show (setI (setI (setI (setI (setI σ 18 n a) 19 n b) 20 n c) 21 n x) 22 n e).1 17 0 = nI n from hn]
    refine sx_iconst (v := nI 1) dX2_add_68 (by decide) ?_
    refine sw_iadd dX2_add_69 ?_
    refine sw_topI (y := nI (n + 1)) (nI_1 n) ?_
    refine sw_putI dX2_add_70 fs_X2_27 o17 ?_
    refine sw_aloadn dX2_add_73 rfl ?_
    refine sw_getI dX2_add_74 fs_X2_27 o17 ?_
    simp only [setI_at, upd_same]
    refine sx_iconst (v := nI 1) dX2_add_77 (by decide) ?_
    refine sw_isub dX2_add_78 ?_
    refine sw_topI (y := nI n) (nI_pred n) ?_
    refine sx_reti dX2_add_79 rfl ?_
    exact k1 hlt
  · skip
    refine sx_iconst (v := (-1)) dX2_add_9 (by decide) ?_
    refine sx_reti dX2_add_10 rfl ?_
    exact k0 (by rw [nI_lt' (by omega) (by omega)] at h6; omega)
/-- what a pass asks for -/
def okPass (σ : Mem) (nc nd n : Nat) (x y t : Int32) : Prop := inR x nc ∧ inR y nd ∧ inR t 200 ∧ cnt (isP σ x) n < 12 ∧ n < 100
theorem c_X7_pass {f : Int32 → Mem → Prop} {nc nd n : Nat} {x y b t : Int32} (h1c : σ.1 0 3 = nI nc) (h2c : nc ≤ 10) (h1d : σ.1 2 1 = nI nd) (h2d : nd ≤ 10) (hn : σ.1 17 0 = nI n) (hb : n ≤ 100) (hbk : b = nI 0 ∨ b = nI 1) (k1 : okPass σ nc nd n x y t → f (nI n) (addC σ n (nI 0) x y t b)) (k0 : ¬ okPass σ nc nd n x y t → f (-1) σ) : SW G (d + 4) M_X7_pass 0 [some (.ref 0), some (.int x), some (.int y), some (.int b), some (.int t)] [] σ (RI f) := by
  refine sw_aloadn dX7_pass_0 rfl ?_
  refine sw_iloadn dX7_pass_1 rfl ?_
  refine sx_invI1 dX7_pass_2 mk_X7_hasCard vk_X7_hasCard lk_X7_100 o0 (Nat.le_of_ble_eq_true rfl) (Nat.le_of_ble_eq_true rfl) ?_
  refine c_X7_hasCard h1c h2c (fun h2 => ?_) (fun h2 => ?_)
  · skip
    refine sw_if_eq (tgt := 38) dX7_pass_5 (by decide) (fun h5 => ?_) (fun h5 => ?_)
    · exact absurd h5 (by decide)
    · skip
      refine sw_aloadn dX7_pass_8 rfl ?_
      refine sw_iloadn dX7_pass_9 rfl ?_
      refine sx_invI1 dX7_pass_10 mk_X7_hasDoor vk_X7_hasDoor lk_X7_104 o0 (Nat.le_of_ble_eq_true rfl) (Nat.le_of_ble_eq_true rfl) ?_
      refine c_X7_hasDoor h1d h2d (fun h10 => ?_) (fun h10 => ?_)
      · skip
        refine sw_if_eq (tgt := 38) dX7_pass_13 (by decide) (fun h13 => ?_) (fun h13 => ?_)
        · exact absurd h13 (by decide)
        · skip
          refine sw_aloadn dX7_pass_16 rfl ?_
          refine sw_iload dX7_pass_17 rfl ?_
          refine sx_invI1 dX7_pass_19 mk_X7_isTick vk_X7_isTick lk_X7_107 o0 (Nat.le_of_ble_eq_true rfl) (Nat.le_of_ble_eq_true rfl) ?_
          refine c_X7_isTick (fun h19 => ?_) (fun h19 => ?_)
          · skip
            refine sw_if_eq (tgt := 38) dX7_pass_22 (by decide) (fun h22 => ?_) (fun h22 => ?_)
            · exact absurd h22 (by decide)
            · skip
              refine sw_aloadn dX7_pass_25 rfl ?_
              refine sw_getR dX7_pass_26 fs_X7_39 o0 r0_7 ?_
              refine sw_iloadn dX7_pass_29 rfl ?_
              refine sx_invI1 dX7_pass_30 mk_X2_passesOf vk_X2_passesOf lk_X7_110 o17 (Nat.le_of_ble_eq_true rfl) (Nat.le_of_ble_eq_true rfl) ?_
              refine c_X2_passesOf hn hb ?_
              refine sx_bipush (v := nI 12) dX7_pass_33 (by decide) ?_
              refine sw_icmp_lt (tgt := 40) dX7_pass_35 (by decide) (fun h35 => ?_) (fun h35 => ?_)
              · skip
                have hp : cnt (isP σ x) n < 12 := (nI_lt' (by have := cnt_le (isP σ x) n; omega) (by omega)).mp h35
                refine sw_aloadn dX7_pass_40 rfl ?_
                refine sw_getR dX7_pass_41 fs_X7_39 o0 r0_7 ?_
                refine sx_iconst (v := nI 0) dX7_pass_44 (by decide) ?_
                refine sw_iloadn dX7_pass_45 rfl ?_
                refine sw_iloadn dX7_pass_46 rfl ?_
                refine sw_iload dX7_pass_47 rfl ?_
                refine sw_iloadn dX7_pass_49 rfl ?_
                refine sw_if_eq (tgt := 57) dX7_pass_50 (by decide) (fun h50 => ?_) (fun h50 => ?_)
                · skip
                  refine sx_iconst (v := nI 0) dX7_pass_57 (by decide) ?_
                  refine sx_invI5 dX7_pass_58 mk_X2_add vk_X2_add lk_X7_114 o17 (Nat.le_of_ble_eq_true rfl) (Nat.le_of_ble_eq_true rfl) ?_
                  refine c_X2_add hn hb (fun h58 => ?_) (fun h58 => ?_)
                  · skip
                    refine sx_reti dX7_pass_61 rfl ?_
                    first
                      | exact k0 (fun q => h2 q.1)
                      | exact k0 (fun q => h10 q.2.1)
                      | exact k0 (fun q => h19 q.2.2.1)
                      | exact k0 (fun q => h35 ((nI_lt' (by have := cnt_le (isP σ x) n; omega) (by omega)).mpr q.2.2.2.1))
                      | exact k0 (fun q => absurd q.2.2.2.2 (by omega))
                      | (have hz : b = nI 0 := h50
                         rw [hz] at k1
                         exact k1 ⟨h2, h10, h19, hp, h58⟩)
                      | (have hz : b = nI 1 := hbk.resolve_left h50
                         rw [hz] at k1
                         exact k1 ⟨h2, h10, h19, hp, h58⟩)
                  · skip
                    refine sx_reti dX7_pass_61 rfl ?_
                    first
                      | exact k0 (fun q => h2 q.1)
                      | exact k0 (fun q => h10 q.2.1)
                      | exact k0 (fun q => h19 q.2.2.1)
                      | exact k0 (fun q => h35 ((nI_lt' (by have := cnt_le (isP σ x) n; omega) (by omega)).mpr q.2.2.2.1))
                      | exact k0 (fun q => absurd q.2.2.2.2 (by omega))
                      | (have hz : b = nI 0 := h50
                         rw [hz] at k1
                         exact k1 ⟨h2, h10, h19, hp, h58⟩)
                      | (have hz : b = nI 1 := hbk.resolve_left h50
                         rw [hz] at k1
                         exact k1 ⟨h2, h10, h19, hp, h58⟩)
                · skip
                  refine sx_iconst (v := nI 1) dX7_pass_53 (by decide) ?_
                  refine sw_goto (tgt := 58) dX7_pass_54 (by decide) ?_
                  refine sx_invI5 dX7_pass_58 mk_X2_add vk_X2_add lk_X7_114 o17 (Nat.le_of_ble_eq_true rfl) (Nat.le_of_ble_eq_true rfl) ?_
                  refine c_X2_add hn hb (fun h58 => ?_) (fun h58 => ?_)
                  · skip
                    refine sx_reti dX7_pass_61 rfl ?_
                    first
                      | exact k0 (fun q => h2 q.1)
                      | exact k0 (fun q => h10 q.2.1)
                      | exact k0 (fun q => h19 q.2.2.1)
                      | exact k0 (fun q => h35 ((nI_lt' (by have := cnt_le (isP σ x) n; omega) (by omega)).mpr q.2.2.2.1))
                      | exact k0 (fun q => absurd q.2.2.2.2 (by omega))
                      | (have hz : b = nI 0 := h50
                         rw [hz] at k1
                         exact k1 ⟨h2, h10, h19, hp, h58⟩)
                      | (have hz : b = nI 1 := hbk.resolve_left h50
                         rw [hz] at k1
                         exact k1 ⟨h2, h10, h19, hp, h58⟩)
                  · skip
                    refine sx_reti dX7_pass_61 rfl ?_
                    first
                      | exact k0 (fun q => h2 q.1)
                      | exact k0 (fun q => h10 q.2.1)
                      | exact k0 (fun q => h19 q.2.2.1)
                      | exact k0 (fun q => h35 ((nI_lt' (by have := cnt_le (isP σ x) n; omega) (by omega)).mpr q.2.2.2.1))
                      | exact k0 (fun q => absurd q.2.2.2.2 (by omega))
                      | (have hz : b = nI 0 := h50
                         rw [hz] at k1
                         exact k1 ⟨h2, h10, h19, hp, h58⟩)
                      | (have hz : b = nI 1 := hbk.resolve_left h50
                         rw [hz] at k1
                         exact k1 ⟨h2, h10, h19, hp, h58⟩)
              · skip
                refine sx_iconst (v := (-1)) dX7_pass_38 (by decide) ?_
                refine sx_reti dX7_pass_39 rfl ?_
                first
                  | exact k0 (fun q => h2 q.1)
                  | exact k0 (fun q => h10 q.2.1)
                  | exact k0 (fun q => h19 q.2.2.1)
                  | exact k0 (fun q => h35 ((nI_lt' (by have := cnt_le (isP σ x) n; omega) (by omega)).mpr q.2.2.2.1))
                  | exact k0 (fun q => absurd q.2.2.2.2 (by omega))
                  | (have hz : b = nI 0 := h50
                     rw [hz] at k1
                     exact k1 ⟨h2, h10, h19, hp, h58⟩)
                  | (have hz : b = nI 1 := hbk.resolve_left h50
                     rw [hz] at k1
                     exact k1 ⟨h2, h10, h19, hp, h58⟩)
          · skip
            refine sw_if_eq (tgt := 38) dX7_pass_22 (by decide) (fun h22 => ?_) (fun h22 => ?_)
            · skip
              refine sx_iconst (v := (-1)) dX7_pass_38 (by decide) ?_
              refine sx_reti dX7_pass_39 rfl ?_
              first
                | exact k0 (fun q => h2 q.1)
                | exact k0 (fun q => h10 q.2.1)
                | exact k0 (fun q => h19 q.2.2.1)
                | exact k0 (fun q => h35 ((nI_lt' (by have := cnt_le (isP σ x) n; omega) (by omega)).mpr q.2.2.2.1))
                | exact k0 (fun q => absurd q.2.2.2.2 (by omega))
                | (have hz : b = nI 0 := h50
                   rw [hz] at k1
                   exact k1 ⟨h2, h10, h19, hp, h58⟩)
                | (have hz : b = nI 1 := hbk.resolve_left h50
                   rw [hz] at k1
                   exact k1 ⟨h2, h10, h19, hp, h58⟩)
            · exact absurd h22 (by decide)
      · skip
        refine sw_if_eq (tgt := 38) dX7_pass_13 (by decide) (fun h13 => ?_) (fun h13 => ?_)
        · skip
          refine sx_iconst (v := (-1)) dX7_pass_38 (by decide) ?_
          refine sx_reti dX7_pass_39 rfl ?_
          first
            | exact k0 (fun q => h2 q.1)
            | exact k0 (fun q => h10 q.2.1)
            | exact k0 (fun q => h19 q.2.2.1)
            | exact k0 (fun q => h35 ((nI_lt' (by have := cnt_le (isP σ x) n; omega) (by omega)).mpr q.2.2.2.1))
            | exact k0 (fun q => absurd q.2.2.2.2 (by omega))
            | (have hz : b = nI 0 := h50
               rw [hz] at k1
               exact k1 ⟨h2, h10, h19, hp, h58⟩)
            | (have hz : b = nI 1 := hbk.resolve_left h50
               rw [hz] at k1
               exact k1 ⟨h2, h10, h19, hp, h58⟩)
        · exact absurd h13 (by decide)
  · skip
    refine sw_if_eq (tgt := 38) dX7_pass_5 (by decide) (fun h5 => ?_) (fun h5 => ?_)
    · skip
      refine sx_iconst (v := (-1)) dX7_pass_38 (by decide) ?_
      refine sx_reti dX7_pass_39 rfl ?_
      first
        | exact k0 (fun q => h2 q.1)
        | exact k0 (fun q => h10 q.2.1)
        | exact k0 (fun q => h19 q.2.2.1)
        | exact k0 (fun q => h35 ((nI_lt' (by have := cnt_le (isP σ x) n; omega) (by omega)).mpr q.2.2.2.1))
        | exact k0 (fun q => absurd q.2.2.2.2 (by omega))
        | (have hz : b = nI 0 := h50
           rw [hz] at k1
           exact k1 ⟨h2, h10, h19, hp, h58⟩)
        | (have hz : b = nI 1 := hbk.resolve_left h50
           rw [hz] at k1
           exact k1 ⟨h2, h10, h19, hp, h58⟩)
    · exact absurd h5 (by decide)
end BASIC
