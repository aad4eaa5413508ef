section BASIC2
variable {G : GG} {d : Nat} {σ : Mem}
def okGap (nd n : Nat) (y a b : Int32) : Prop := inR y nd ∧ inR a 200 ∧ inR b 200 ∧ a ≤ b ∧ n < 100
theorem c_X7_gap {f : Int32 → Mem → Prop} {nd n : Nat} {y a b : Int32} (h1d : σ.1 2 1 = nI nd) (h2d : nd ≤ 10) (hn : σ.1 17 0 = nI n) (hb : n ≤ 100) (k1 : okGap nd n y a b → f (nI n) (addC σ n (nI 1) (-1) y a b)) (k0 : ¬ okGap nd n y a b → f (-1) σ) : SW G (d + 1) M_X7_gap 0 [some (.ref 0), some (.int y), some (.int a), some (.int b)] [] σ (RI f) := by
  refine sw_aloadn dX7_gap_0 rfl ?_
  refine sw_iloadn dX7_gap_1 rfl ?_
  refine sx_invI1 dX7_gap_2 mk_X7_hasDoor vk_X7_hasDoor lk_X7_104 o0 (Nat.le_of_ble_eq_true rfl) (Nat.le_of_ble_eq_true rfl) ?_
  refine c_X7_hasDoor h1d h2d (fun h2 => ?_) (fun h2 => ?_)
  · skip
    refine sw_if_eq (tgt := 29) dX7_gap_5 (by decide) (fun h5 => ?_) (fun h5 => ?_)
    · exact absurd h5 (by decide)
    · skip
      refine sw_aloadn dX7_gap_8 rfl ?_
      refine sw_iloadn dX7_gap_9 rfl ?_
      refine sx_invI1 dX7_gap_10 mk_X7_isTick vk_X7_isTick lk_X7_107 o0 (Nat.le_of_ble_eq_true rfl) (Nat.le_of_ble_eq_true rfl) ?_
      refine c_X7_isTick (fun h10 => ?_) (fun h10 => ?_)
      · skip
        refine sw_if_eq (tgt := 29) dX7_gap_13 (by decide) (fun h13 => ?_) (fun h13 => ?_)
        · exact absurd h13 (by decide)
        · skip
          refine sw_aloadn dX7_gap_16 rfl ?_
          refine sw_iloadn dX7_gap_17 rfl ?_
          refine sx_invI1 dX7_gap_18 mk_X7_isTick vk_X7_isTick lk_X7_107 o0 (Nat.le_of_ble_eq_true rfl) (Nat.le_of_ble_eq_true rfl) ?_
          refine c_X7_isTick (fun h18 => ?_) (fun h18 => ?_)
          · skip
            refine sw_if_eq (tgt := 29) dX7_gap_21 (by decide) (fun h21 => ?_) (fun h21 => ?_)
            · exact absurd h21 (by decide)
            · skip
              refine sw_iloadn dX7_gap_24 rfl ?_
              refine sw_iloadn dX7_gap_25 rfl ?_
              refine sw_icmp_le (tgt := 31) dX7_gap_26 (by decide) (fun h26 => ?_) (fun h26 => ?_)
              · skip
                refine sw_aloadn dX7_gap_31 rfl ?_
                refine sw_getR dX7_gap_32 fs_X7_39 o0 r0_7 ?_
                refine sx_iconst (v := nI 1) dX7_gap_35 (by decide) ?_
                refine sx_iconst (v := (-1)) dX7_gap_36 (by decide) ?_
                refine sw_iloadn dX7_gap_37 rfl ?_
                refine sw_iloadn dX7_gap_38 rfl ?_
                refine sw_iloadn dX7_gap_39 rfl ?_
                refine sx_invI5 dX7_gap_40 mk_X2_add vk_X2_add lk_X7_114 o17 (Nat.le_of_ble_eq_true rfl) (Nat.le_of_ble_eq_true rfl) ?_
                refine c_X2_add hn hb (fun h40 => ?_) (fun h40 => ?_)
                · skip
                  refine sx_reti dX7_gap_43 rfl ?_
                  first
                    | exact k1 ⟨h2, h10, h18, h26, h40⟩
                    | exact k0 (fun q => absurd q.2.2.2.2 (by omega))
                    | exact k0 (fun q => h2 q.1)
                    | exact k0 (fun q => h10 q.2.1)
                    | exact k0 (fun q => h18 q.2.2.1)
                    | exact k0 (fun q => h26 q.2.2.2.1)
                · skip
                  refine sx_reti dX7_gap_43 rfl ?_
                  first
                    | exact k1 ⟨h2, h10, h18, h26, h40⟩
                    | exact k0 (fun q => absurd q.2.2.2.2 (by omega))
                    | exact k0 (fun q => h2 q.1)
                    | exact k0 (fun q => h10 q.2.1)
                    | exact k0 (fun q => h18 q.2.2.1)
                    | exact k0 (fun q => h26 q.2.2.2.1)
              · skip
                refine sx_iconst (v := (-1)) dX7_gap_29 (by decide) ?_
                refine sx_reti dX7_gap_30 rfl ?_
                first
                  | exact k1 ⟨h2, h10, h18, h26, h40⟩
                  | exact k0 (fun q => absurd q.2.2.2.2 (by omega))
                  | exact k0 (fun q => h2 q.1)
                  | exact k0 (fun q => h10 q.2.1)
                  | exact k0 (fun q => h18 q.2.2.1)
                  | exact k0 (fun q => h26 q.2.2.2.1)
          · skip
            refine sw_if_eq (tgt := 29) dX7_gap_21 (by decide) (fun h21 => ?_) (fun h21 => ?_)
            · skip
              refine sx_iconst (v := (-1)) dX7_gap_29 (by decide) ?_
              refine sx_reti dX7_gap_30 rfl ?_
              first
                | exact k1 ⟨h2, h10, h18, h26, h40⟩
                | exact k0 (fun q => absurd q.2.2.2.2 (by omega))
                | exact k0 (fun q => h2 q.1)
                | exact k0 (fun q => h10 q.2.1)
                | exact k0 (fun q => h18 q.2.2.1)
                | exact k0 (fun q => h26 q.2.2.2.1)
            · exact absurd h21 (by decide)
      · skip
        refine sw_if_eq (tgt := 29) dX7_gap_13 (by decide) (fun h13 => ?_) (fun h13 => ?_)
        · skip
          refine sx_iconst (v := (-1)) dX7_gap_29 (by decide) ?_
          refine sx_reti dX7_gap_30 rfl ?_
          first
            | exact k1 ⟨h2, h10, h18, h26, h40⟩
            | exact k0 (fun q => absurd q.2.2.2.2 (by omega))
            | exact k0 (fun q => h2 q.1)
            | exact k0 (fun q => h10 q.2.1)
            | exact k0 (fun q => h18 q.2.2.1)
            | exact k0 (fun q => h26 q.2.2.2.1)
        · exact absurd h13 (by decide)
  · skip
    refine sw_if_eq (tgt := 29) dX7_gap_5 (by decide) (fun h5 => ?_) (fun h5 => ?_)
    · skip
      refine sx_iconst (v := (-1)) dX7_gap_29 (by decide) ?_
      refine sx_reti dX7_gap_30 rfl ?_
      first
        | exact k1 ⟨h2, h10, h18, h26, h40⟩
        | exact k0 (fun q => absurd q.2.2.2.2 (by omega))
        | exact k0 (fun q => h2 q.1)
        | exact k0 (fun q => h10 q.2.1)
        | exact k0 (fun q => h18 q.2.2.1)
        | exact k0 (fun q => h26 q.2.2.2.1)
    · exact absurd h5 (by decide)
def okSight (nc nr n : Nat) (x y t : Int32) : Prop := inR x nc ∧ inR y nr ∧ inR t 200 ∧ n < 100
theorem c_X7_sight {f : Int32 → Mem → Prop} {nc nr n : Nat} {x y t : Int32} (h1c : σ.1 0 3 = nI nc) (h2c : nc ≤ 10) (h1r : σ.1 2 0 = nI nr) (h2r : nr ≤ 10) (hn : σ.1 17 0 = nI n) (hb : n ≤ 100) (k1 : okSight nc nr n x y t → f (nI n) (addC σ n (nI 2) x y t (-1))) (k0 : ¬ okSight nc nr n x y t → f (-1) σ) : SW G (d + 1) M_X7_sight 0 [some (.ref 0), some (.int x), some (.int y), some (.int t)] [] σ (RI f) := by
  refine sw_aloadn dX7_sight_0 rfl ?_
  refine sw_iloadn dX7_sight_1 rfl ?_
  refine sx_invI1 dX7_sight_2 mk_X7_hasCard vk_X7_hasCard lk_X7_100 o0 (Nat.le_of_ble_eq_true rfl) (Nat.le_of_ble_eq_true rfl) ?_
  refine c_X7_hasCard h1c h2c (fun h2 => ?_) (fun h2 => ?_)
  · skip
    refine sw_if_eq (tgt := 24) dX7_sight_5 (by decide) (fun h5 => ?_) (fun h5 => ?_)
    · exact absurd h5 (by decide)
    · skip
      refine sw_aloadn dX7_sight_8 rfl ?_
      refine sw_iloadn dX7_sight_9 rfl ?_
      refine sx_invI1 dX7_sight_10 mk_X7_hasRoom vk_X7_hasRoom lk_X7_118 o0 (Nat.le_of_ble_eq_true rfl) (Nat.le_of_ble_eq_true rfl) ?_
      refine c_X7_hasRoom h1r h2r (fun h10 => ?_) (fun h10 => ?_)
      · skip
        refine sw_if_eq (tgt := 24) dX7_sight_13 (by decide) (fun h13 => ?_) (fun h13 => ?_)
        · exact absurd h13 (by decide)
        · skip
          refine sw_aloadn dX7_sight_16 rfl ?_
          refine sw_iloadn dX7_sight_17 rfl ?_
          refine sx_invI1 dX7_sight_18 mk_X7_isTick vk_X7_isTick lk_X7_107 o0 (Nat.le_of_ble_eq_true rfl) (Nat.le_of_ble_eq_true rfl) ?_
          refine c_X7_isTick (fun h18 => ?_) (fun h18 => ?_)
          · skip
            refine sw_if_ne (tgt := 26) dX7_sight_21 (by decide) (fun h21 => ?_) (fun h21 => ?_)
            · skip
              refine sw_aloadn dX7_sight_26 rfl ?_
              refine sw_getR dX7_sight_27 fs_X7_39 o0 r0_7 ?_
              refine sx_iconst (v := nI 2) dX7_sight_30 (by decide) ?_
              refine sw_iloadn dX7_sight_31 rfl ?_
              refine sw_iloadn dX7_sight_32 rfl ?_
              refine sw_iloadn dX7_sight_33 rfl ?_
              refine sx_iconst (v := (-1)) dX7_sight_34 (by decide) ?_
              refine sx_invI5 dX7_sight_35 mk_X2_add vk_X2_add lk_X7_114 o17 (Nat.le_of_ble_eq_true rfl) (Nat.le_of_ble_eq_true rfl) ?_
              refine c_X2_add hn hb (fun h35 => ?_) (fun h35 => ?_)
              · skip
                refine sx_reti dX7_sight_38 rfl ?_
                first
                  | exact k1 ⟨h2, h10, h18, h35⟩
                  | exact k0 (fun q => absurd q.2.2.2 (by omega))
                  | exact k0 (fun q => h2 q.1)
                  | exact k0 (fun q => h10 q.2.1)
                  | exact k0 (fun q => h18 q.2.2.1)
              · skip
                refine sx_reti dX7_sight_38 rfl ?_
                first
                  | exact k1 ⟨h2, h10, h18, h35⟩
                  | exact k0 (fun q => absurd q.2.2.2 (by omega))
                  | exact k0 (fun q => h2 q.1)
                  | exact k0 (fun q => h10 q.2.1)
                  | exact k0 (fun q => h18 q.2.2.1)
            · exact absurd h21 (by decide)
          · skip
            refine sw_if_ne (tgt := 26) dX7_sight_21 (by decide) (fun h21 => ?_) (fun h21 => ?_)
            · exact absurd h21 (by decide)
            · skip
              refine sx_iconst (v := (-1)) dX7_sight_24 (by decide) ?_
              refine sx_reti dX7_sight_25 rfl ?_
              first
                | exact k1 ⟨h2, h10, h18, h35⟩
                | exact k0 (fun q => absurd q.2.2.2 (by omega))
                | exact k0 (fun q => h2 q.1)
                | exact k0 (fun q => h10 q.2.1)
                | exact k0 (fun q => h18 q.2.2.1)
      · skip
        refine sw_if_eq (tgt := 24) dX7_sight_13 (by decide) (fun h13 => ?_) (fun h13 => ?_)
        · skip
          refine sx_iconst (v := (-1)) dX7_sight_24 (by decide) ?_
          refine sx_reti dX7_sight_25 rfl ?_
          first
            | exact k1 ⟨h2, h10, h18, h35⟩
            | exact k0 (fun q => absurd q.2.2.2 (by omega))
            | exact k0 (fun q => h2 q.1)
            | exact k0 (fun q => h10 q.2.1)
            | exact k0 (fun q => h18 q.2.2.1)
        · exact absurd h13 (by decide)
  · skip
    refine sw_if_eq (tgt := 24) dX7_sight_5 (by decide) (fun h5 => ?_) (fun h5 => ?_)
    · skip
      refine sx_iconst (v := (-1)) dX7_sight_24 (by decide) ?_
      refine sx_reti dX7_sight_25 rfl ?_
      first
        | exact k1 ⟨h2, h10, h18, h35⟩
        | exact k0 (fun q => absurd q.2.2.2 (by omega))
        | exact k0 (fun q => h2 q.1)
        | exact k0 (fun q => h10 q.2.1)
        | exact k0 (fun q => h18 q.2.2.1)
    · exact absurd h5 (by decide)
/-- the rights with one more -/
def addR (σ : Mem) (n : Nat) (a b c d e : Int32) : Mem := setI (setI (setI (setI (setI (setI σ 24 n a) 25 n b) 26 n c) 27 n d) 28 n e) 23 0 (nI (n + 1))
theorem nar_bool {e : Int32} (h : e = nI 0 ∨ e = nI 1) : vp_nar .boolean e = e := by rcases h with rfl | rfl <;> decide
theorem c_X4_add {f : Int32 → Mem → Prop} {n : Nat} {a b c x e : Int32} (hn : σ.1 23 0 = nI n) (hb : n ≤ 100) (he : e = nI 0 ∨ e = nI 1) (k1 : n < 100 → f (nI n) (addR σ n a b c x e)) (k0 : n = 100 → f (-1) σ) : SW G d M_X4_add 0 [some (.ref 23), some (.int a), some (.int b), some (.int c), some (.int x), some (.int e)] [] σ (RI f) := by
  refine sw_aloadn dX4_add_0 rfl ?_
  refine sw_getI dX4_add_1 fs_X4_28 o23 ?_
  rw [hn]
  refine sx_bipush (v := nI 100) dX4_add_4 (by decide) ?_
  refine sw_icmp_lt (tgt := 11) dX4_add_6 (by decide) (fun h6 => ?_) (fun h6 => ?_)
  · skip
    have hlt : n < 100 := (nI_lt' (by omega) (by omega)).mp h6
    refine sw_aloadn dX4_add_11 rfl ?_
    refine sw_getR dX4_add_12 fs_X4_9 o23 r23_1 ?_
    refine sw_aloadn dX4_add_15 rfl ?_
    refine sw_getI dX4_add_16 fs_X4_28 o23 ?_
    rw [hn]
    refine sw_iloadn dX4_add_19 rfl ?_
    refine sx_iast (n) dX4_add_20 a24 (rfl) (by omega) (by decide) ?_
    refine sw_aloadn dX4_add_21 rfl ?_
    refine sw_getR dX4_add_22 fs_X4_15 o23 r23_2 ?_
    refine sw_aloadn dX4_add_25 rfl ?_
    refine sw_getI dX4_add_26 fs_X4_28 o23 ?_
    rw [show (setI σ 24 n a).1 23 0 = nI n from hn]
    refine sw_iloadn dX4_add_29 rfl ?_
    refine sx_iast (n) dX4_add_30 a25 (rfl) (by omega) (by decide) ?_
    refine sw_aloadn dX4_add_31 rfl ?_
    refine sw_getR dX4_add_32 fs_X4_18 o23 r23_3 ?_
    refine sw_aloadn dX4_add_35 rfl ?_
    refine sw_getI dX4_add_36 fs_X4_28 o23 ?_
    rw [show (setI (setI σ 24 n a) 25 n b).1 23 0 = nI n from hn]
    refine sw_iloadn dX4_add_39 rfl ?_
    refine sx_iast (n) dX4_add_40 a26 (rfl) (by omega) (by decide) ?_
    refine sw_aloadn dX4_add_41 rfl ?_
    refine sw_getR dX4_add_42 fs_X4_21 o23 r23_4 ?_
    refine sw_aloadn dX4_add_45 rfl ?_
    refine sw_getI dX4_add_46 fs_X4_28 o23 ?_
    rw [show (setI (setI (setI σ 24 n a) 25 n b) 26 n c).1 23 0 = nI n from hn]
    refine sw_iload dX4_add_49 rfl ?_
    refine sx_iast (n) dX4_add_51 a27 (rfl) (by omega) (by decide) ?_
    refine sw_aloadn dX4_add_52 rfl ?_
    refine sw_getR dX4_add_53 fs_X4_24 o23 r23_5 ?_
    refine sw_aloadn dX4_add_56 rfl ?_
    refine sw_getI dX4_add_57 fs_X4_28 o23 ?_
    rw [show (setI (setI (setI (setI σ 24 n a) 25 n b) 26 n c) 27 n x).1 23 0 = nI n from hn]
    refine sw_iload dX4_add_60 rfl ?_
    refine sx_zast (n) dX4_add_62 a28 (rfl) (by omega) (by decide) ?_
    rw [nar_bool he]
    refine sw_aloadn dX4_add_63 rfl ?_
    refine sw_dup dX4_add_64 rfl ?_
    refine sw_getI dX4_add_65 fs_X4_28 o23 ?_
    rw [show (setI (setI (setI (setI (setI σ 24 n a) 25 n b) 26 n c) 27 n x) 28 n e).1 23 0 = nI n from hn]
    refine sx_iconst (v := nI 1) dX4_add_68 (by decide) ?_
    refine sw_iadd dX4_add_69 ?_
    refine sw_topI (y := nI (n + 1)) (nI_1 n) ?_
    refine sw_putI dX4_add_70 fs_X4_28 o23 ?_
    refine sw_aloadn dX4_add_73 rfl ?_
    refine sw_getI dX4_add_74 fs_X4_28 o23 ?_
    simp only [setI_at, upd_same]
    refine sx_iconst (v := nI 1) dX4_add_77 (by decide) ?_
    refine sw_isub dX4_add_78 ?_
    refine sw_topI (y := nI n) (nI_pred n) ?_
    refine sx_reti dX4_add_79 rfl ?_
    exact k1 hlt
  · skip
    refine sx_iconst (v := (-1)) dX4_add_9 (by decide) ?_
    refine sx_reti dX4_add_10 rfl ?_
    exact k0 (by rw [nI_lt' (by omega) (by omega)] at h6; omega)
def okRight (nc nr n : Nat) (x y a b : Int32) : Prop := inR x nc ∧ inR y nr ∧ inR a 200 ∧ inR b 200 ∧ a ≤ b ∧ n < 100
theorem c_X7_right {f : Int32 → Mem → Prop} {nc nr n : Nat} {x y a b e : Int32} (h1c : σ.1 0 3 = nI nc) (h2c : nc ≤ 10) (h1r : σ.1 2 0 = nI nr) (h2r : nr ≤ 10) (hn : σ.1 23 0 = nI n) (hb : n ≤ 100) (he : e = nI 0 ∨ e = nI 1) (k1 : okRight nc nr n x y a b → f (nI n) (addR σ n x y a b e)) (k0 : ¬ okRight nc nr n x y a b → f (-1) σ) : SW G (d + 1) M_X7_right 0 [some (.ref 0), some (.int x), some (.int y), some (.int a), some (.int b), some (.int e)] [] σ (RI f) := by
  refine sw_aloadn dX7_right_0 rfl ?_
  refine sw_iloadn dX7_right_1 rfl ?_
  refine sx_invI1 dX7_right_2 mk_X7_hasCard vk_X7_hasCard lk_X7_100 o0 (Nat.le_of_ble_eq_true rfl) (Nat.le_of_ble_eq_true rfl) ?_
  refine c_X7_hasCard h1c h2c (fun h2 => ?_) (fun h2 => ?_)
  · skip
    refine sw_if_eq (tgt := 39) dX7_right_5 (by decide) (fun h5 => ?_) (fun h5 => ?_)
    · exact absurd h5 (by decide)
    · skip
      refine sw_aloadn dX7_right_8 rfl ?_
      refine sw_iloadn dX7_right_9 rfl ?_
      refine sx_invI1 dX7_right_10 mk_X7_hasRoom vk_X7_hasRoom lk_X7_118 o0 (Nat.le_of_ble_eq_true rfl) (Nat.le_of_ble_eq_true rfl) ?_
      refine c_X7_hasRoom h1r h2r (fun h10 => ?_) (fun h10 => ?_)
      · skip
        refine sw_if_eq (tgt := 39) dX7_right_13 (by decide) (fun h13 => ?_) (fun h13 => ?_)
        · exact absurd h13 (by decide)
        · skip
          refine sw_aloadn dX7_right_16 rfl ?_
          refine sw_iloadn dX7_right_17 rfl ?_
          refine sx_invI1 dX7_right_18 mk_X7_isTick vk_X7_isTick lk_X7_107 o0 (Nat.le_of_ble_eq_true rfl) (Nat.le_of_ble_eq_true rfl) ?_
          refine c_X7_isTick (fun h18 => ?_) (fun h18 => ?_)
          · skip
            refine sw_if_eq (tgt := 39) dX7_right_21 (by decide) (fun h21 => ?_) (fun h21 => ?_)
            · exact absurd h21 (by decide)
            · skip
              refine sw_aloadn dX7_right_24 rfl ?_
              refine sw_iload dX7_right_25 rfl ?_
              refine sx_invI1 dX7_right_27 mk_X7_isTick vk_X7_isTick lk_X7_107 o0 (Nat.le_of_ble_eq_true rfl) (Nat.le_of_ble_eq_true rfl) ?_
              refine c_X7_isTick (fun h27 => ?_) (fun h27 => ?_)
              · skip
                refine sw_if_eq (tgt := 39) dX7_right_30 (by decide) (fun h30 => ?_) (fun h30 => ?_)
                · exact absurd h30 (by decide)
                · skip
                  refine sw_iloadn dX7_right_33 rfl ?_
                  refine sw_iload dX7_right_34 rfl ?_
                  refine sw_icmp_le (tgt := 41) dX7_right_36 (by decide) (fun h36 => ?_) (fun h36 => ?_)
                  · skip
                    refine sw_aloadn dX7_right_41 rfl ?_
                    refine sw_getR dX7_right_42 fs_X7_46 o0 r0_8 ?_
                    refine sw_iloadn dX7_right_45 rfl ?_
                    refine sw_iloadn dX7_right_46 rfl ?_
                    refine sw_iloadn dX7_right_47 rfl ?_
                    refine sw_iload dX7_right_48 rfl ?_
                    refine sw_iload dX7_right_50 rfl ?_
                    refine sx_invI5 dX7_right_52 mk_X4_add vk_X4_add lk_X7_121 o23 (Nat.le_of_ble_eq_true rfl) (Nat.le_of_ble_eq_true rfl) ?_
                    refine c_X4_add hn hb he (fun h52 => ?_) (fun h52 => ?_)
                    · skip
                      refine sx_reti dX7_right_55 rfl ?_
                      first
                        | exact k1 ⟨h2, h10, h18, h27, h36, h52⟩
                        | exact k0 (fun q => absurd q.2.2.2.2.2 (by omega))
                        | exact k0 (fun q => h2 q.1)
                        | exact k0 (fun q => h10 q.2.1)
                        | exact k0 (fun q => h18 q.2.2.1)
                        | exact k0 (fun q => h27 q.2.2.2.1)
                        | exact k0 (fun q => h36 q.2.2.2.2.1)
                    · skip
                      refine sx_reti dX7_right_55 rfl ?_
                      first
                        | exact k1 ⟨h2, h10, h18, h27, h36, h52⟩
                        | exact k0 (fun q => absurd q.2.2.2.2.2 (by omega))
                        | exact k0 (fun q => h2 q.1)
                        | exact k0 (fun q => h10 q.2.1)
                        | exact k0 (fun q => h18 q.2.2.1)
                        | exact k0 (fun q => h27 q.2.2.2.1)
                        | exact k0 (fun q => h36 q.2.2.2.2.1)
                  · skip
                    refine sx_iconst (v := (-1)) dX7_right_39 (by decide) ?_
                    refine sx_reti dX7_right_40 rfl ?_
                    first
                      | exact k1 ⟨h2, h10, h18, h27, h36, h52⟩
                      | exact k0 (fun q => absurd q.2.2.2.2.2 (by omega))
                      | exact k0 (fun q => h2 q.1)
                      | exact k0 (fun q => h10 q.2.1)
                      | exact k0 (fun q => h18 q.2.2.1)
                      | exact k0 (fun q => h27 q.2.2.2.1)
                      | exact k0 (fun q => h36 q.2.2.2.2.1)
              · skip
                refine sw_if_eq (tgt := 39) dX7_right_30 (by decide) (fun h30 => ?_) (fun h30 => ?_)
                · skip
                  refine sx_iconst (v := (-1)) dX7_right_39 (by decide) ?_
                  refine sx_reti dX7_right_40 rfl ?_
                  first
                    | exact k1 ⟨h2, h10, h18, h27, h36, h52⟩
                    | exact k0 (fun q => absurd q.2.2.2.2.2 (by omega))
                    | exact k0 (fun q => h2 q.1)
                    | exact k0 (fun q => h10 q.2.1)
                    | exact k0 (fun q => h18 q.2.2.1)
                    | exact k0 (fun q => h27 q.2.2.2.1)
                    | exact k0 (fun q => h36 q.2.2.2.2.1)
                · exact absurd h30 (by decide)
          · skip
            refine sw_if_eq (tgt := 39) dX7_right_21 (by decide) (fun h21 => ?_) (fun h21 => ?_)
            · skip
              refine sx_iconst (v := (-1)) dX7_right_39 (by decide) ?_
              refine sx_reti dX7_right_40 rfl ?_
              first
                | exact k1 ⟨h2, h10, h18, h27, h36, h52⟩
                | exact k0 (fun q => absurd q.2.2.2.2.2 (by omega))
                | exact k0 (fun q => h2 q.1)
                | exact k0 (fun q => h10 q.2.1)
                | exact k0 (fun q => h18 q.2.2.1)
                | exact k0 (fun q => h27 q.2.2.2.1)
                | exact k0 (fun q => h36 q.2.2.2.2.1)
            · exact absurd h21 (by decide)
      · skip
        refine sw_if_eq (tgt := 39) dX7_right_13 (by decide) (fun h13 => ?_) (fun h13 => ?_)
        · skip
          refine sx_iconst (v := (-1)) dX7_right_39 (by decide) ?_
          refine sx_reti dX7_right_40 rfl ?_
          first
            | exact k1 ⟨h2, h10, h18, h27, h36, h52⟩
            | exact k0 (fun q => absurd q.2.2.2.2.2 (by omega))
            | exact k0 (fun q => h2 q.1)
            | exact k0 (fun q => h10 q.2.1)
            | exact k0 (fun q => h18 q.2.2.1)
            | exact k0 (fun q => h27 q.2.2.2.1)
            | exact k0 (fun q => h36 q.2.2.2.2.1)
        · exact absurd h13 (by decide)
  · skip
    refine sw_if_eq (tgt := 39) dX7_right_5 (by decide) (fun h5 => ?_) (fun h5 => ?_)
    · skip
      refine sx_iconst (v := (-1)) dX7_right_39 (by decide) ?_
      refine sx_reti dX7_right_40 rfl ?_
      first
        | exact k1 ⟨h2, h10, h18, h27, h36, h52⟩
        | exact k0 (fun q => absurd q.2.2.2.2.2 (by omega))
        | exact k0 (fun q => h2 q.1)
        | exact k0 (fun q => h10 q.2.1)
        | exact k0 (fun q => h18 q.2.2.1)
        | exact k0 (fun q => h27 q.2.2.2.1)
        | exact k0 (fun q => h36 q.2.2.2.2.1)
    · exact absurd h5 (by decide)
/-- a right of the card for the room that has the tick in it -/
def hitR (ca ro fr to : Nat → Int32) (x y t : Int32) (k : Nat) : Bool := decide (ca k = x ∧ ro k = y ∧ fr k ≤ t ∧ t ≤ to k)
/-- the latest of the first n decides -/
def alw (ca ro fr to gi : Nat → Int32) (x y t : Int32) : Nat → Bool
  | 0 => decide (y = 0)
  | n + 1 => if hitR ca ro fr to x y t n then decide (gi n = nI 1) else alw ca ro fr to gi x y t n
theorem c_X4_allows {f : Int32 → Mem → Prop} {n : Nat} {x y t : Int32} (hn : σ.1 23 0 = nI n) (hb : n ≤ 100) (hg : ∀ k, k < n → σ.1 28 k = nI 0 ∨ σ.1 28 k = nI 1) (k1 : alw (σ.1 24) (σ.1 25) (σ.1 26) (σ.1 27) (σ.1 28) x y t n = true → f (nI 1) σ) (k0 : ¬ alw (σ.1 24) (σ.1 25) (σ.1 26) (σ.1 27) (σ.1 28) x y t n = true → f (nI 0) σ) : SW G d M_X4_allows 0 [some (.ref 23), some (.int x), some (.int y), some (.int t), none] [] σ (RI f) := by
  have loop : ∀ k, k ≤ n → alw (σ.1 24) (σ.1 25) (σ.1 26) (σ.1 27) (σ.1 28) x y t n = alw (σ.1 24) (σ.1 25) (σ.1 26) (σ.1 27) (σ.1 28) x y t k → SW G d M_X4_allows 8 [some (.ref 23), some (.int x), some (.int y), some (.int t), some (.int (nI k - nI 1))] [] σ (RI f) := by
    intro k
    induction k with
    | zero =>
      intro _ he
      rw [he] at k1 k0
      refine sw_iload dX4_allows_8 rfl ?_
      refine sw_if_lt (tgt := 71) dX4_allows_10 (by decide) (fun h10 => ?_) (fun h10 => ?_)
      · skip
        refine sw_iloadn dX4_allows_71 rfl ?_
        refine sw_if_ne (tgt := 79) dX4_allows_72 (by decide) (fun h72 => ?_) (fun h72 => ?_)
        · skip
          refine sx_iconst (v := nI 0) dX4_allows_79 (by decide) ?_
          refine sx_retz dX4_allows_80 rfl (Or.inl rfl) ?_
          first
            | exact k1 (by simp [alw, h72])
            | exact k0 (by simp [alw, h72])
        · skip
          refine sx_iconst (v := nI 1) dX4_allows_75 (by decide) ?_
          refine sw_goto (tgt := 80) dX4_allows_76 (by decide) ?_
          refine sx_retz dX4_allows_80 rfl (Or.inr rfl) ?_
          first
            | exact k1 (by simp [alw, h72])
            | exact k0 (by simp [alw, h72])
      · exact absurd ((by decide)) h10
    | succ k ih =>
      intro hk he
      rw [show nI (k + 1) - nI 1 = nI k from nI_pred k]
      have hit : ∀ (z : Prop), (¬ z → SW G d M_X4_allows 8 [some (.ref 23), some (.int x), some (.int y), some (.int t), some (.int (nI k - nI 1))] [] σ (RI f)) → True := fun _ _ => trivial
      have miss : hitR (σ.1 24) (σ.1 25) (σ.1 26) (σ.1 27) x y t k = false → SW G d M_X4_allows 8 [some (.ref 23), some (.int x), some (.int y), some (.int t), some (.int (nI k - nI 1))] [] σ (RI f) := fun hm => ih (by omega) (by rw [he, alw, hm]; rfl)
      refine sw_iload dX4_allows_8 rfl ?_
      refine sw_if_lt (tgt := 71) dX4_allows_10 (by decide) (fun h10 => ?_) (fun h10 => ?_)
      · exact absurd h10 ((nI_pos (by omega)))
      · skip
        refine sw_aloadn dX4_allows_13 rfl ?_
        refine sw_getR dX4_allows_14 fs_X4_9 o23 r23_1 ?_
        refine sw_iload dX4_allows_17 rfl ?_
        refine sx_iald (k) dX4_allows_19 a24 (rfl) (by omega) (by decide) ?_
        refine sw_iloadn dX4_allows_20 rfl ?_
        refine sw_icmp_ne (tgt := 65) dX4_allows_21 (by decide) (fun h21 => ?_) (fun h21 => ?_)
        · skip
          refine sx_iinc (nI k - nI 1) dX4_allows_65 rfl (dec1 _) ?_
          refine sw_goto (tgt := 8) dX4_allows_68 (by decide) ?_
          refine miss ?_
          simp only [hitR, decide_eq_false_iff_not]
          first
            | exact fun q => h21 q.1
            | exact fun q => h32 q.2.1
            | exact fun q => absurd q.2.2.1 (Int32.not_le.mpr h43)
            | exact fun q => absurd q.2.2.2 (Int32.not_le.mpr h54)
        · skip
          refine sw_aloadn dX4_allows_24 rfl ?_
          refine sw_getR dX4_allows_25 fs_X4_15 o23 r23_2 ?_
          refine sw_iload dX4_allows_28 rfl ?_
          refine sx_iald (k) dX4_allows_30 a25 (rfl) (by omega) (by decide) ?_
          refine sw_iloadn dX4_allows_31 rfl ?_
          refine sw_icmp_ne (tgt := 65) dX4_allows_32 (by decide) (fun h32 => ?_) (fun h32 => ?_)
          · skip
            refine sx_iinc (nI k - nI 1) dX4_allows_65 rfl (dec1 _) ?_
            refine sw_goto (tgt := 8) dX4_allows_68 (by decide) ?_
            refine miss ?_
            simp only [hitR, decide_eq_false_iff_not]
            first
              | exact fun q => h21 q.1
              | exact fun q => h32 q.2.1
              | exact fun q => absurd q.2.2.1 (Int32.not_le.mpr h43)
              | exact fun q => absurd q.2.2.2 (Int32.not_le.mpr h54)
          · skip
            refine sw_aloadn dX4_allows_35 rfl ?_
            refine sw_getR dX4_allows_36 fs_X4_18 o23 r23_3 ?_
            refine sw_iload dX4_allows_39 rfl ?_
            refine sx_iald (k) dX4_allows_41 a26 (rfl) (by omega) (by decide) ?_
            refine sw_iloadn dX4_allows_42 rfl ?_
            refine sw_icmp_gt (tgt := 65) dX4_allows_43 (by decide) (fun h43 => ?_) (fun h43 => ?_)
            · skip
              refine sx_iinc (nI k - nI 1) dX4_allows_65 rfl (dec1 _) ?_
              refine sw_goto (tgt := 8) dX4_allows_68 (by decide) ?_
              refine miss ?_
              simp only [hitR, decide_eq_false_iff_not]
              first
                | exact fun q => h21 q.1
                | exact fun q => h32 q.2.1
                | exact fun q => absurd q.2.2.1 (Int32.not_le.mpr h43)
                | exact fun q => absurd q.2.2.2 (Int32.not_le.mpr h54)
            · skip
              refine sw_iloadn dX4_allows_46 rfl ?_
              refine sw_aloadn dX4_allows_47 rfl ?_
              refine sw_getR dX4_allows_48 fs_X4_21 o23 r23_4 ?_
              refine sw_iload dX4_allows_51 rfl ?_
              refine sx_iald (k) dX4_allows_53 a27 (rfl) (by omega) (by decide) ?_
              refine sw_icmp_gt (tgt := 65) dX4_allows_54 (by decide) (fun h54 => ?_) (fun h54 => ?_)
              · skip
                refine sx_iinc (nI k - nI 1) dX4_allows_65 rfl (dec1 _) ?_
                refine sw_goto (tgt := 8) dX4_allows_68 (by decide) ?_
                refine miss ?_
                simp only [hitR, decide_eq_false_iff_not]
                first
                  | exact fun q => h21 q.1
                  | exact fun q => h32 q.2.1
                  | exact fun q => absurd q.2.2.1 (Int32.not_le.mpr h43)
                  | exact fun q => absurd q.2.2.2 (Int32.not_le.mpr h54)
              · skip
                refine sw_aloadn dX4_allows_57 rfl ?_
                refine sw_getR dX4_allows_58 fs_X4_24 o23 r23_5 ?_
                refine sw_iload dX4_allows_61 rfl ?_
                refine sx_zald (k) dX4_allows_63 a28 (rfl) (by omega) (by decide) ?_
                refine sx_retz dX4_allows_64 rfl (hg k (by omega)) ?_
                have hh : hitR (σ.1 24) (σ.1 25) (σ.1 26) (σ.1 27) x y t k = true := by simp only [hitR, decide_eq_true_eq]; exact ⟨h21, h32, Int32.not_lt.mp h43, Int32.not_lt.mp h54⟩
                rw [he, alw, hh, if_pos rfl] at k1 k0
                rcases hg k (by omega) with e | e <;> rw [e] at k1 k0 ⊢
                · exact k0 (by decide)
                · exact k1 (by decide)
  refine sw_aloadn dX4_allows_0 rfl ?_
  refine sw_getI dX4_allows_1 fs_X4_28 o23 ?_
  rw [hn]
  refine sx_iconst (v := nI 1) dX4_allows_4 (by decide) ?_
  refine sw_isub dX4_allows_5 ?_
  refine sw_istore dX4_allows_6 (Nat.le_of_ble_eq_true rfl) ?_
  exact loop n (Nat.le_refl n) rfl
end BASIC2
