section MODEL2
variable {G : GG} {d : Nat} {σ : Mem}
theorem m_gap {f : Int32 → Mem → Prop} {nd n : Nat} {y a b : Int32} (h1d : σ.1 46 19 = nI nd) (h2d : nd ≤ 10) (hn : σ.1 46 25 = nI n) (hb : n ≤ 100) (k1 : okGap nd n y a b → f (nI n) (addM (th σ) n (nI 1) (-1) y a b)) (k0 : ¬ okGap nd n y a b → f (-1) (th σ)) : SW G (d + 1) M_X8_gap 0 [some (.ref 46), some (.int y), some (.int a), some (.int b)] [] σ (RI f) := by
  refine sw_aloadn dX8_gap_0 rfl ?_
  refine sx_iconst (v := nI 0) dX8_gap_1 (by decide) ?_
  refine sw_putI dX8_gap_2 fs_X8_1 o46 ?_
  refine sw_iloadn dX8_gap_5 rfl ?_
  refine sx_iconst (v := nI 0) dX8_gap_6 (by decide) ?_
  refine sw_aloadn dX8_gap_7 rfl ?_
  refine sw_getI dX8_gap_8 fs_X8_201 o46 ?_
  rw [show (th σ).1 46 19 = nI nd from h1d]
  refine sx_iconst (v := nI 1) dX8_gap_11 (by decide) ?_
  refine sw_isub dX8_gap_12 ?_
  refine sx_insI3 dX8_gap_13 mk_X8_within sk_X8_within lk_X8_216 (Nat.le_of_ble_eq_true rfl) (Nat.le_of_ble_eq_true rfl) ?_
  refine m_within (fun h13 => ?_) (fun h13 => ?_)
  · skip
    refine sw_if_eq (tgt := 47) dX8_gap_16 (by decide) (fun h16 => ?_) (fun h16 => ?_)
    · exact absurd h16 (by decide)
    · skip
      have h13 := (wi_in (by omega)).mp h13
      refine sw_iloadn dX8_gap_19 rfl ?_
      refine sx_insI1 dX8_gap_20 mk_X8_isTick sk_X8_isTick lk_X8_220 (Nat.le_of_ble_eq_true rfl) (Nat.le_of_ble_eq_true rfl) ?_
      refine m_isTick (fun h20 => ?_) (fun h20 => ?_)
      · skip
        refine sw_if_eq (tgt := 47) dX8_gap_23 (by decide) (fun h23 => ?_) (fun h23 => ?_)
        · exact absurd h23 (by decide)
        · skip
          refine sw_iloadn dX8_gap_26 rfl ?_
          refine sx_insI1 dX8_gap_27 mk_X8_isTick sk_X8_isTick lk_X8_220 (Nat.le_of_ble_eq_true rfl) (Nat.le_of_ble_eq_true rfl) ?_
          refine m_isTick (fun h27 => ?_) (fun h27 => ?_)
          · skip
            refine sw_if_eq (tgt := 47) dX8_gap_30 (by decide) (fun h30 => ?_) (fun h30 => ?_)
            · exact absurd h30 (by decide)
            · skip
              refine sw_iloadn dX8_gap_33 rfl ?_
              refine sw_iloadn dX8_gap_34 rfl ?_
              refine sw_icmp_gt (tgt := 47) dX8_gap_35 (by decide) (fun h35 => ?_) (fun h35 => ?_)
              · skip
                refine sx_iconst (v := (-1)) dX8_gap_47 (by decide) ?_
                refine sx_reti dX8_gap_48 rfl ?_
                first
                  | exact k1 ⟨h13, h20, h27, Int32.not_lt.mp h35, hlt⟩
                  | exact k0 (fun q => h13 ((wi_in (by omega)).mpr q.1))
                  | exact k0 (fun q => h20 q.2.1)
                  | exact k0 (fun q => h27 q.2.2.1)
                  | exact k0 (fun q => absurd q.2.2.2.1 (Int32.not_le.mpr h35))
                  | (have hz := nI_inj (by omega) (by omega) h44
                     exact k0 (fun q => absurd q.2.2.2.2 (by omega)))
              · skip
                refine sw_aloadn dX8_gap_38 rfl ?_
                refine sw_getI dX8_gap_39 fs_X8_207 o46 ?_
                rw [show (th σ).1 46 25 = nI n from hn]
                refine sx_bipush (v := nI 100) dX8_gap_42 (by decide) ?_
                refine sw_icmp_ne (tgt := 49) dX8_gap_44 (by decide) (fun h44 => ?_) (fun h44 => ?_)
                · skip
                  have hlt : n < 100 := by
                    have : ¬ n = 100 := fun e => h44 (by rw [e])
                    omega
                  refine sw_aloadn dX8_gap_49 rfl ?_
                  refine sx_iconst (v := nI 1) dX8_gap_50 (by decide) ?_
                  refine sx_iconst (v := (-1)) dX8_gap_51 (by decide) ?_
                  refine sw_iloadn dX8_gap_52 rfl ?_
                  refine sw_iloadn dX8_gap_53 rfl ?_
                  refine sw_iloadn dX8_gap_54 rfl ?_
                  refine sx_invI5 dX8_gap_55 mk_X8_log vk_X8_log lk_X8_223 o46 (Nat.le_of_ble_eq_true rfl) (Nat.le_of_ble_eq_true rfl) ?_
                  refine m_logAdd (n := n) hn hlt ?_
                  refine sx_reti dX8_gap_58 rfl ?_
                  first
                    | exact k1 ⟨h13, h20, h27, Int32.not_lt.mp h35, hlt⟩
                    | exact k0 (fun q => h13 ((wi_in (by omega)).mpr q.1))
                    | exact k0 (fun q => h20 q.2.1)
                    | exact k0 (fun q => h27 q.2.2.1)
                    | exact k0 (fun q => absurd q.2.2.2.1 (Int32.not_le.mpr h35))
                    | (have hz := nI_inj (by omega) (by omega) h44
                       exact k0 (fun q => absurd q.2.2.2.2 (by omega)))
                · skip
                  refine sx_iconst (v := (-1)) dX8_gap_47 (by decide) ?_
                  refine sx_reti dX8_gap_48 rfl ?_
                  first
                    | exact k1 ⟨h13, h20, h27, Int32.not_lt.mp h35, hlt⟩
                    | exact k0 (fun q => h13 ((wi_in (by omega)).mpr q.1))
                    | exact k0 (fun q => h20 q.2.1)
                    | exact k0 (fun q => h27 q.2.2.1)
                    | exact k0 (fun q => absurd q.2.2.2.1 (Int32.not_le.mpr h35))
                    | (have hz := nI_inj (by omega) (by omega) h44
                       exact k0 (fun q => absurd q.2.2.2.2 (by omega)))
          · skip
            refine sw_if_eq (tgt := 47) dX8_gap_30 (by decide) (fun h30 => ?_) (fun h30 => ?_)
            · skip
              refine sx_iconst (v := (-1)) dX8_gap_47 (by decide) ?_
              refine sx_reti dX8_gap_48 rfl ?_
              first
                | exact k1 ⟨h13, h20, h27, Int32.not_lt.mp h35, hlt⟩
                | exact k0 (fun q => h13 ((wi_in (by omega)).mpr q.1))
                | exact k0 (fun q => h20 q.2.1)
                | exact k0 (fun q => h27 q.2.2.1)
                | exact k0 (fun q => absurd q.2.2.2.1 (Int32.not_le.mpr h35))
                | (have hz := nI_inj (by omega) (by omega) h44
                   exact k0 (fun q => absurd q.2.2.2.2 (by omega)))
            · exact absurd h30 (by decide)
      · skip
        refine sw_if_eq (tgt := 47) dX8_gap_23 (by decide) (fun h23 => ?_) (fun h23 => ?_)
        · skip
          refine sx_iconst (v := (-1)) dX8_gap_47 (by decide) ?_
          refine sx_reti dX8_gap_48 rfl ?_
          first
            | exact k1 ⟨h13, h20, h27, Int32.not_lt.mp h35, hlt⟩
            | exact k0 (fun q => h13 ((wi_in (by omega)).mpr q.1))
            | exact k0 (fun q => h20 q.2.1)
            | exact k0 (fun q => h27 q.2.2.1)
            | exact k0 (fun q => absurd q.2.2.2.1 (Int32.not_le.mpr h35))
            | (have hz := nI_inj (by omega) (by omega) h44
               exact k0 (fun q => absurd q.2.2.2.2 (by omega)))
        · exact absurd h23 (by decide)
  · skip
    refine sw_if_eq (tgt := 47) dX8_gap_16 (by decide) (fun h16 => ?_) (fun h16 => ?_)
    · skip
      refine sx_iconst (v := (-1)) dX8_gap_47 (by decide) ?_
      refine sx_reti dX8_gap_48 rfl ?_
      first
        | exact k1 ⟨h13, h20, h27, Int32.not_lt.mp h35, hlt⟩
        | exact k0 (fun q => h13 ((wi_in (by omega)).mpr q.1))
        | exact k0 (fun q => h20 q.2.1)
        | exact k0 (fun q => h27 q.2.2.1)
        | exact k0 (fun q => absurd q.2.2.2.1 (Int32.not_le.mpr h35))
        | (have hz := nI_inj (by omega) (by omega) h44
           exact k0 (fun q => absurd q.2.2.2.2 (by omega)))
    · exact absurd h16 (by decide)
theorem m_sight {f : Int32 → Mem → Prop} {nc nr n : Nat} {x y t : Int32} (h1c : σ.1 46 24 = nI nc) (h2c : nc ≤ 10) (h1r : σ.1 46 18 = nI nr) (h2r : nr ≤ 10) (hn : σ.1 46 25 = nI n) (hb : n ≤ 100) (k1 : okSight nc nr n x y t → f (nI n) (addM (th σ) n (nI 2) x y t (-1))) (k0 : ¬ okSight nc nr n x y t → f (-1) (th σ)) : SW G (d + 1) M_X8_sight 0 [some (.ref 46), some (.int x), some (.int y), some (.int t)] [] σ (RI f) := by
  refine sw_aloadn dX8_sight_0 rfl ?_
  refine sx_iconst (v := nI 0) dX8_sight_1 (by decide) ?_
  refine sw_putI dX8_sight_2 fs_X8_1 o46 ?_
  refine sw_aloadn dX8_sight_5 rfl ?_
  refine sw_iloadn dX8_sight_6 rfl ?_
  refine sx_invI1 dX8_sight_7 mk_X8_isCard vk_X8_isCard lk_X8_213 o46 (Nat.le_of_ble_eq_true rfl) (Nat.le_of_ble_eq_true rfl) ?_
  refine m_isCard (n := nc) h1c h2c (fun h7 => ?_) (fun h7 => ?_)
  · skip
    refine sw_if_eq (tgt := 37) dX8_sight_10 (by decide) (fun h10 => ?_) (fun h10 => ?_)
    · exact absurd h10 (by decide)
    · skip
      refine sw_aloadn dX8_sight_13 rfl ?_
      refine sw_iloadn dX8_sight_14 rfl ?_
      refine sx_invI1 dX8_sight_15 mk_X8_isRoom vk_X8_isRoom lk_X8_227 o46 (Nat.le_of_ble_eq_true rfl) (Nat.le_of_ble_eq_true rfl) ?_
      refine m_isRoom (n := nr) h1r h2r (fun h15 => ?_) (fun h15 => ?_)
      · skip
        refine sw_if_eq (tgt := 37) dX8_sight_18 (by decide) (fun h18 => ?_) (fun h18 => ?_)
        · exact absurd h18 (by decide)
        · skip
          refine sw_iloadn dX8_sight_21 rfl ?_
          refine sx_insI1 dX8_sight_22 mk_X8_isTick sk_X8_isTick lk_X8_220 (Nat.le_of_ble_eq_true rfl) (Nat.le_of_ble_eq_true rfl) ?_
          refine m_isTick (fun h22 => ?_) (fun h22 => ?_)
          · skip
            refine sw_if_eq (tgt := 37) dX8_sight_25 (by decide) (fun h25 => ?_) (fun h25 => ?_)
            · exact absurd h25 (by decide)
            · skip
              refine sw_aloadn dX8_sight_28 rfl ?_
              refine sw_getI dX8_sight_29 fs_X8_207 o46 ?_
              rw [show (th σ).1 46 25 = nI n from hn]
              refine sx_bipush (v := nI 100) dX8_sight_32 (by decide) ?_
              refine sw_icmp_ne (tgt := 39) dX8_sight_34 (by decide) (fun h34 => ?_) (fun h34 => ?_)
              · skip
                have hlt : n < 100 := by
                  have : ¬ n = 100 := fun e => h34 (by rw [e])
                  omega
                refine sw_aloadn dX8_sight_39 rfl ?_
                refine sx_iconst (v := nI 2) dX8_sight_40 (by decide) ?_
                refine sw_iloadn dX8_sight_41 rfl ?_
                refine sw_iloadn dX8_sight_42 rfl ?_
                refine sw_iloadn dX8_sight_43 rfl ?_
                refine sx_iconst (v := (-1)) dX8_sight_44 (by decide) ?_
                refine sx_invI5 dX8_sight_45 mk_X8_log vk_X8_log lk_X8_223 o46 (Nat.le_of_ble_eq_true rfl) (Nat.le_of_ble_eq_true rfl) ?_
                refine m_logAdd (n := n) hn hlt ?_
                refine sx_reti dX8_sight_48 rfl ?_
                first
                  | exact k1 ⟨h7, h15, h22, hlt⟩
                  | exact k0 (fun q => h7 q.1)
                  | exact k0 (fun q => h15 q.2.1)
                  | exact k0 (fun q => h22 q.2.2.1)
                  | (have hz := nI_inj (by omega) (by omega) h34
                     exact k0 (fun q => absurd q.2.2.2 (by omega)))
              · skip
                refine sx_iconst (v := (-1)) dX8_sight_37 (by decide) ?_
                refine sx_reti dX8_sight_38 rfl ?_
                first
                  | exact k1 ⟨h7, h15, h22, hlt⟩
                  | exact k0 (fun q => h7 q.1)
                  | exact k0 (fun q => h15 q.2.1)
                  | exact k0 (fun q => h22 q.2.2.1)
                  | (have hz := nI_inj (by omega) (by omega) h34
                     exact k0 (fun q => absurd q.2.2.2 (by omega)))
          · skip
            refine sw_if_eq (tgt := 37) dX8_sight_25 (by decide) (fun h25 => ?_) (fun h25 => ?_)
            · skip
              refine sx_iconst (v := (-1)) dX8_sight_37 (by decide) ?_
              refine sx_reti dX8_sight_38 rfl ?_
              first
                | exact k1 ⟨h7, h15, h22, hlt⟩
                | exact k0 (fun q => h7 q.1)
                | exact k0 (fun q => h15 q.2.1)
                | exact k0 (fun q => h22 q.2.2.1)
                | (have hz := nI_inj (by omega) (by omega) h34
                   exact k0 (fun q => absurd q.2.2.2 (by omega)))
            · exact absurd h25 (by decide)
      · skip
        refine sw_if_eq (tgt := 37) dX8_sight_18 (by decide) (fun h18 => ?_) (fun h18 => ?_)
        · skip
          refine sx_iconst (v := (-1)) dX8_sight_37 (by decide) ?_
          refine sx_reti dX8_sight_38 rfl ?_
          first
            | exact k1 ⟨h7, h15, h22, hlt⟩
            | exact k0 (fun q => h7 q.1)
            | exact k0 (fun q => h15 q.2.1)
            | exact k0 (fun q => h22 q.2.2.1)
            | (have hz := nI_inj (by omega) (by omega) h34
               exact k0 (fun q => absurd q.2.2.2 (by omega)))
        · exact absurd h18 (by decide)
  · skip
    refine sw_if_eq (tgt := 37) dX8_sight_10 (by decide) (fun h10 => ?_) (fun h10 => ?_)
    · skip
      refine sx_iconst (v := (-1)) dX8_sight_37 (by decide) ?_
      refine sx_reti dX8_sight_38 rfl ?_
      first
        | exact k1 ⟨h7, h15, h22, hlt⟩
        | exact k0 (fun q => h7 q.1)
        | exact k0 (fun q => h15 q.2.1)
        | exact k0 (fun q => h22 q.2.2.1)
        | (have hz := nI_inj (by omega) (by omega) h34
           exact k0 (fun q => absurd q.2.2.2 (by omega)))
    · exact absurd h10 (by decide)
/-- the rights with one more -/
def addRM (σ : Mem) (n : Nat) (a b c d e : Int32) : Mem := setI (setI (setI (setI (setI (setI σ 63 n a) 64 n b) 65 n c) 66 n d) 67 n e) 46 26 (nI (n + 1))
theorem m_right {f : Int32 → Mem → Prop} {nc nr n : Nat} {x y a b e : Int32} (h1c : σ.1 46 24 = nI nc) (h2c : nc ≤ 10) (h1r : σ.1 46 18 = nI nr) (h2r : nr ≤ 10) (hn : σ.1 46 26 = nI n) (hb : n ≤ 100) (he : e = nI 0 ∨ e = nI 1) (k1 : okRight nc nr n x y a b → f (nI n) (addRM (th σ) n x y a b e)) (k0 : ¬ okRight nc nr n x y a b → f (-1) (th σ)) : SW G (d + 1) M_X8_right 0 [some (.ref 46), some (.int x), some (.int y), some (.int a), some (.int b), some (.int e)] [] σ (RI f) := by
  refine sw_aloadn dX8_right_0 rfl ?_
  refine sx_iconst (v := nI 0) dX8_right_1 (by decide) ?_
  refine sw_putI dX8_right_2 fs_X8_1 o46 ?_
  refine sw_aloadn dX8_right_5 rfl ?_
  refine sw_iloadn dX8_right_6 rfl ?_
  refine sx_invI1 dX8_right_7 mk_X8_isCard vk_X8_isCard lk_X8_213 o46 (Nat.le_of_ble_eq_true rfl) (Nat.le_of_ble_eq_true rfl) ?_
  refine m_isCard (n := nc) h1c h2c (fun h7 => ?_) (fun h7 => ?_)
  · skip
    refine sw_if_eq (tgt := 51) dX8_right_10 (by decide) (fun h10 => ?_) (fun h10 => ?_)
    · exact absurd h10 (by decide)
    · skip
      refine sw_aloadn dX8_right_13 rfl ?_
      refine sw_iloadn dX8_right_14 rfl ?_
      refine sx_invI1 dX8_right_15 mk_X8_isRoom vk_X8_isRoom lk_X8_227 o46 (Nat.le_of_ble_eq_true rfl) (Nat.le_of_ble_eq_true rfl) ?_
      refine m_isRoom (n := nr) h1r h2r (fun h15 => ?_) (fun h15 => ?_)
      · skip
        refine sw_if_eq (tgt := 51) dX8_right_18 (by decide) (fun h18 => ?_) (fun h18 => ?_)
        · exact absurd h18 (by decide)
        · skip
          refine sw_iloadn dX8_right_21 rfl ?_
          refine sx_insI1 dX8_right_22 mk_X8_isTick sk_X8_isTick lk_X8_220 (Nat.le_of_ble_eq_true rfl) (Nat.le_of_ble_eq_true rfl) ?_
          refine m_isTick (fun h22 => ?_) (fun h22 => ?_)
          · skip
            refine sw_if_eq (tgt := 51) dX8_right_25 (by decide) (fun h25 => ?_) (fun h25 => ?_)
            · exact absurd h25 (by decide)
            · skip
              refine sw_iload dX8_right_28 rfl ?_
              refine sx_insI1 dX8_right_30 mk_X8_isTick sk_X8_isTick lk_X8_220 (Nat.le_of_ble_eq_true rfl) (Nat.le_of_ble_eq_true rfl) ?_
              refine m_isTick (fun h30 => ?_) (fun h30 => ?_)
              · skip
                refine sw_if_eq (tgt := 51) dX8_right_33 (by decide) (fun h33 => ?_) (fun h33 => ?_)
                · exact absurd h33 (by decide)
                · skip
                  refine sw_iloadn dX8_right_36 rfl ?_
                  refine sw_iload dX8_right_37 rfl ?_
                  refine sw_icmp_gt (tgt := 51) dX8_right_39 (by decide) (fun h39 => ?_) (fun h39 => ?_)
                  · skip
                    refine sx_iconst (v := (-1)) dX8_right_51 (by decide) ?_
                    refine sx_reti dX8_right_52 rfl ?_
                    first
                      | exact k1 ⟨h7, h15, h22, h30, Int32.not_lt.mp h39, hlt⟩
                      | exact k0 (fun q => h7 q.1)
                      | exact k0 (fun q => h15 q.2.1)
                      | exact k0 (fun q => h22 q.2.2.1)
                      | exact k0 (fun q => h30 q.2.2.2.1)
                      | exact k0 (fun q => absurd q.2.2.2.2.1 (Int32.not_le.mpr h39))
                      | (have hz := nI_inj (by omega) (by omega) h48
                         exact k0 (fun q => absurd q.2.2.2.2.2 (by omega)))
                  · skip
                    refine sw_aloadn dX8_right_42 rfl ?_
                    refine sw_getI dX8_right_43 fs_X8_210 o46 ?_
                    rw [show (th σ).1 46 26 = nI n from hn]
                    refine sx_bipush (v := nI 100) dX8_right_46 (by decide) ?_
                    refine sw_icmp_ne (tgt := 53) dX8_right_48 (by decide) (fun h48 => ?_) (fun h48 => ?_)
                    · skip
                      have hlt : n < 100 := by
                        have : ¬ n = 100 := fun e => h48 (by rw [e])
                        omega
                      refine sw_aloadn dX8_right_53 rfl ?_
                      refine sw_getR dX8_right_54 fs_X8_66 o46 r46_32 ?_
                      refine sw_aloadn dX8_right_57 rfl ?_
                      refine sw_getI dX8_right_58 fs_X8_210 o46 ?_
                      rw [show (th σ).1 46 26 = nI n from hn]
                      refine sw_iloadn dX8_right_61 rfl ?_
                      refine sx_iast (n) dX8_right_62 a63 (rfl) (by omega) (by decide) ?_
                      refine sw_aloadn dX8_right_63 rfl ?_
                      refine sw_getR dX8_right_64 fs_X8_69 o46 r46_33 ?_
                      refine sw_aloadn dX8_right_67 rfl ?_
                      refine sw_getI dX8_right_68 fs_X8_210 o46 ?_
                      rw [show (setI (th σ) 63 n x).1 46 26 = nI n from hn]
                      refine sw_iloadn dX8_right_71 rfl ?_
                      refine sx_iast (n) dX8_right_72 a64 (rfl) (by omega) (by decide) ?_
                      refine sw_aloadn dX8_right_73 rfl ?_
                      refine sw_getR dX8_right_74 fs_X8_72 o46 r46_34 ?_
                      refine sw_aloadn dX8_right_77 rfl ?_
                      refine sw_getI dX8_right_78 fs_X8_210 o46 ?_
                      rw [show (setI (setI (th σ) 63 n x) 64 n y).1 46 26 = nI n from hn]
                      refine sw_iloadn dX8_right_81 rfl ?_
                      refine sx_iast (n) dX8_right_82 a65 (rfl) (by omega) (by decide) ?_
                      refine sw_aloadn dX8_right_83 rfl ?_
                      refine sw_getR dX8_right_84 fs_X8_75 o46 r46_35 ?_
                      refine sw_aloadn dX8_right_87 rfl ?_
                      refine sw_getI dX8_right_88 fs_X8_210 o46 ?_
                      rw [show (setI (setI (setI (th σ) 63 n x) 64 n y) 65 n a).1 46 26 = nI n from hn]
                      refine sw_iload dX8_right_91 rfl ?_
                      refine sx_iast (n) dX8_right_93 a66 (rfl) (by omega) (by decide) ?_
                      refine sw_aloadn dX8_right_94 rfl ?_
                      refine sw_getR dX8_right_95 fs_X8_78 o46 r46_36 ?_
                      refine sw_aloadn dX8_right_98 rfl ?_
                      refine sw_getI dX8_right_99 fs_X8_210 o46 ?_
                      rw [show (setI (setI (setI (setI (th σ) 63 n x) 64 n y) 65 n a) 66 n b).1 46 26 = nI n from hn]
                      refine sw_iload dX8_right_102 rfl ?_
                      refine sx_zast (n) dX8_right_104 a67 (rfl) (by omega) (by decide) ?_
                      rw [nar_bool he]
                      refine sw_aloadn dX8_right_105 rfl ?_
                      refine sw_dup dX8_right_106 rfl ?_
                      refine sw_getI dX8_right_107 fs_X8_210 o46 ?_
                      rw [show (setI (setI (setI (setI (setI (th σ) 63 n x) 64 n y) 65 n a) 66 n b) 67 n e).1 46 26 = nI n from hn]
                      refine sx_iconst (v := nI 1) dX8_right_110 (by decide) ?_
                      refine sw_iadd dX8_right_111 ?_
                      refine sw_topI (y := nI (n + 1)) (nI_1 n) ?_
                      refine sw_putI dX8_right_112 fs_X8_210 o46 ?_
                      refine sw_aloadn dX8_right_115 rfl ?_
                      refine sw_getI dX8_right_116 fs_X8_210 o46 ?_
                      simp only [setI_at, upd_same]
                      refine sx_iconst (v := nI 1) dX8_right_119 (by decide) ?_
                      refine sw_isub dX8_right_120 ?_
                      refine sw_topI (y := nI n) (nI_pred n) ?_
                      refine sx_reti dX8_right_121 rfl ?_
                      first
                        | exact k1 ⟨h7, h15, h22, h30, Int32.not_lt.mp h39, hlt⟩
                        | exact k0 (fun q => h7 q.1)
                        | exact k0 (fun q => h15 q.2.1)
                        | exact k0 (fun q => h22 q.2.2.1)
                        | exact k0 (fun q => h30 q.2.2.2.1)
                        | exact k0 (fun q => absurd q.2.2.2.2.1 (Int32.not_le.mpr h39))
                        | (have hz := nI_inj (by omega) (by omega) h48
                           exact k0 (fun q => absurd q.2.2.2.2.2 (by omega)))
                    · skip
                      refine sx_iconst (v := (-1)) dX8_right_51 (by decide) ?_
                      refine sx_reti dX8_right_52 rfl ?_
                      first
                        | exact k1 ⟨h7, h15, h22, h30, Int32.not_lt.mp h39, hlt⟩
                        | exact k0 (fun q => h7 q.1)
                        | exact k0 (fun q => h15 q.2.1)
                        | exact k0 (fun q => h22 q.2.2.1)
                        | exact k0 (fun q => h30 q.2.2.2.1)
                        | exact k0 (fun q => absurd q.2.2.2.2.1 (Int32.not_le.mpr h39))
                        | (have hz := nI_inj (by omega) (by omega) h48
                           exact k0 (fun q => absurd q.2.2.2.2.2 (by omega)))
              · skip
                refine sw_if_eq (tgt := 51) dX8_right_33 (by decide) (fun h33 => ?_) (fun h33 => ?_)
                · skip
                  refine sx_iconst (v := (-1)) dX8_right_51 (by decide) ?_
                  refine sx_reti dX8_right_52 rfl ?_
                  first
                    | exact k1 ⟨h7, h15, h22, h30, Int32.not_lt.mp h39, hlt⟩
                    | exact k0 (fun q => h7 q.1)
                    | exact k0 (fun q => h15 q.2.1)
                    | exact k0 (fun q => h22 q.2.2.1)
                    | exact k0 (fun q => h30 q.2.2.2.1)
                    | exact k0 (fun q => absurd q.2.2.2.2.1 (Int32.not_le.mpr h39))
                    | (have hz := nI_inj (by omega) (by omega) h48
                       exact k0 (fun q => absurd q.2.2.2.2.2 (by omega)))
                · exact absurd h33 (by decide)
          · skip
            refine sw_if_eq (tgt := 51) dX8_right_25 (by decide) (fun h25 => ?_) (fun h25 => ?_)
            · skip
              refine sx_iconst (v := (-1)) dX8_right_51 (by decide) ?_
              refine sx_reti dX8_right_52 rfl ?_
              first
                | exact k1 ⟨h7, h15, h22, h30, Int32.not_lt.mp h39, hlt⟩
                | exact k0 (fun q => h7 q.1)
                | exact k0 (fun q => h15 q.2.1)
                | exact k0 (fun q => h22 q.2.2.1)
                | exact k0 (fun q => h30 q.2.2.2.1)
                | exact k0 (fun q => absurd q.2.2.2.2.1 (Int32.not_le.mpr h39))
                | (have hz := nI_inj (by omega) (by omega) h48
                   exact k0 (fun q => absurd q.2.2.2.2.2 (by omega)))
            · exact absurd h25 (by decide)
      · skip
        refine sw_if_eq (tgt := 51) dX8_right_18 (by decide) (fun h18 => ?_) (fun h18 => ?_)
        · skip
          refine sx_iconst (v := (-1)) dX8_right_51 (by decide) ?_
          refine sx_reti dX8_right_52 rfl ?_
          first
            | exact k1 ⟨h7, h15, h22, h30, Int32.not_lt.mp h39, hlt⟩
            | exact k0 (fun q => h7 q.1)
            | exact k0 (fun q => h15 q.2.1)
            | exact k0 (fun q => h22 q.2.2.1)
            | exact k0 (fun q => h30 q.2.2.2.1)
            | exact k0 (fun q => absurd q.2.2.2.2.1 (Int32.not_le.mpr h39))
            | (have hz := nI_inj (by omega) (by omega) h48
               exact k0 (fun q => absurd q.2.2.2.2.2 (by omega)))
        · exact absurd h18 (by decide)
  · skip
    refine sw_if_eq (tgt := 51) dX8_right_10 (by decide) (fun h10 => ?_) (fun h10 => ?_)
    · skip
      refine sx_iconst (v := (-1)) dX8_right_51 (by decide) ?_
      refine sx_reti dX8_right_52 rfl ?_
      first
        | exact k1 ⟨h7, h15, h22, h30, Int32.not_lt.mp h39, hlt⟩
        | exact k0 (fun q => h7 q.1)
        | exact k0 (fun q => h15 q.2.1)
        | exact k0 (fun q => h22 q.2.2.1)
        | exact k0 (fun q => h30 q.2.2.2.1)
        | exact k0 (fun q => absurd q.2.2.2.2.1 (Int32.not_le.mpr h39))
        | (have hz := nI_inj (by omega) (by omega) h48
           exact k0 (fun q => absurd q.2.2.2.2.2 (by omega)))
    · exact absurd h10 (by decide)
abbrev alM (σ : Mem) (x y t : Int32) (n : Nat) : Bool := alw (σ.1 63) (σ.1 64) (σ.1 65) (σ.1 66) (σ.1 67) x y t n
def b2I (b : Bool) : Int32 := if b then nI 1 else nI 0
theorem b2I_01 (b : Bool) : b2I b = 0 ∨ b2I b = 1 := by cases b <;> decide
theorem m_isAllowed {f : Int32 → Mem → Prop} {n : Nat} {x y t : Int32} (hn : σ.1 46 26 = nI n) (hb : n ≤ 100) (hg : ∀ k, k < n → σ.1 67 k = nI 0 ∨ σ.1 67 k = nI 1) (k1 : alM σ x y t n = true → f (nI 1) σ) (k0 : ¬ alM σ x y t n = true → f (nI 0) σ) : SW G (d + 1) M_X8_isAllowed 0 [some (.ref 46), some (.int x), some (.int y), some (.int t), none, none] [] σ (RI f) := by
  have hit : ∀ k, hitR (σ.1 63) (σ.1 64) (σ.1 65) (σ.1 66) x y t k = true → alM σ x y t (k + 1) = decide (σ.1 67 k = nI 1) := fun k h => by simp only [alM, alw, h, if_true]
  have mis : ∀ k, hitR (σ.1 63) (σ.1 64) (σ.1 65) (σ.1 66) x y t k = false → alM σ x y t (k + 1) = alM σ x y t k := fun k h => by simp only [alM, alw, h]; rfl
  have loop : ∀ (m k : Nat), m = n - k → k ≤ n → SW G (d + 1) M_X8_isAllowed 14 [some (.ref 46), some (.int x), some (.int y), some (.int t), some (.int (b2I (alM σ x y t k))), some (.int (nI k))] [] σ (RI f) := by
    intro m
    induction m with
    | zero =>
      intro k hm hk
      obtain rfl : k = n := by omega
      refine sw_iload dX8_isAllowed_14 rfl ?_
      refine sw_aloadn dX8_isAllowed_16 rfl ?_
      refine sw_getI dX8_isAllowed_17 fs_X8_210 o46 ?_
      rw [hn]
      refine sw_icmp_ge (tgt := 81) dX8_isAllowed_20 (by decide) (fun h20 => ?_) (fun h20 => ?_)
      · skip
        refine sw_iload dX8_isAllowed_81 rfl ?_
        refine sx_retz dX8_isAllowed_83 rfl (b2I_01 _) ?_
        cases hc : alM σ x y t k with
        | false => exact k0 (by rw [hc]; decide)
        | true => exact k1 hc
      · exact absurd ((nI_le (Nat.le_refl _) (by omega))) h20
    | succ m ih =>
      intro k hm hk
      have ih := ih (k + 1) (by omega) (by omega)
      refine sw_iload dX8_isAllowed_14 rfl ?_
      refine sw_aloadn dX8_isAllowed_16 rfl ?_
      refine sw_getI dX8_isAllowed_17 fs_X8_210 o46 ?_
      rw [hn]
      refine sw_icmp_ge (tgt := 81) dX8_isAllowed_20 (by decide) (fun h20 => ?_) (fun h20 => ?_)
      · exact absurd h20 ((by rw [nI_le' (by omega) (by omega)]; omega))
      · skip
        refine sw_aloadn dX8_isAllowed_23 rfl ?_
        refine sw_getR dX8_isAllowed_24 fs_X8_66 o46 r46_32 ?_
        refine sw_iload dX8_isAllowed_27 rfl ?_
        refine sx_iald (k) dX8_isAllowed_29 a63 (rfl) (by omega) (by decide) ?_
        refine sw_iloadn dX8_isAllowed_30 rfl ?_
        refine sw_icmp_ne (tgt := 75) dX8_isAllowed_31 (by decide) (fun h31 => ?_) (fun h31 => ?_)
        · skip
          refine sx_iinc (nI (k + 1)) dX8_isAllowed_75 rfl (nI_inc _) ?_
          refine sw_goto (tgt := 14) dX8_isAllowed_78 (by decide) ?_
          first
            | (rw [hit k (by simp only [hitR, decide_eq_true_eq]; exact ⟨h31, h42, h60.1, h60.2⟩)] at ih
               have e : b2I (decide (σ.1 67 k = nI 1)) = σ.1 67 k := by rcases hg k (by omega) with e | e <;> rw [e] <;> decide
               rw [e] at ih
               exact ih)
            | (rw [mis k (by simp only [hitR, decide_eq_false_iff_not]; exact fun q => h60 ⟨q.2.2.1, q.2.2.2⟩)] at ih; exact ih)
            | (rw [mis k (by simp only [hitR, decide_eq_false_iff_not]; exact fun q => h42 q.2.1)] at ih; exact ih)
            | (rw [mis k (by simp only [hitR, decide_eq_false_iff_not]; exact fun q => h31 q.1)] at ih; exact ih)
        · skip
          refine sw_aloadn dX8_isAllowed_34 rfl ?_
          refine sw_getR dX8_isAllowed_35 fs_X8_69 o46 r46_33 ?_
          refine sw_iload dX8_isAllowed_38 rfl ?_
          refine sx_iald (k) dX8_isAllowed_40 a64 (rfl) (by omega) (by decide) ?_
          refine sw_iloadn dX8_isAllowed_41 rfl ?_
          refine sw_icmp_ne (tgt := 75) dX8_isAllowed_42 (by decide) (fun h42 => ?_) (fun h42 => ?_)
          · skip
            refine sx_iinc (nI (k + 1)) dX8_isAllowed_75 rfl (nI_inc _) ?_
            refine sw_goto (tgt := 14) dX8_isAllowed_78 (by decide) ?_
            first
              | (rw [hit k (by simp only [hitR, decide_eq_true_eq]; exact ⟨h31, h42, h60.1, h60.2⟩)] at ih
                 have e : b2I (decide (σ.1 67 k = nI 1)) = σ.1 67 k := by rcases hg k (by omega) with e | e <;> rw [e] <;> decide
                 rw [e] at ih
                 exact ih)
              | (rw [mis k (by simp only [hitR, decide_eq_false_iff_not]; exact fun q => h60 ⟨q.2.2.1, q.2.2.2⟩)] at ih; exact ih)
              | (rw [mis k (by simp only [hitR, decide_eq_false_iff_not]; exact fun q => h42 q.2.1)] at ih; exact ih)
              | (rw [mis k (by simp only [hitR, decide_eq_false_iff_not]; exact fun q => h31 q.1)] at ih; exact ih)
          · skip
            refine sw_iloadn dX8_isAllowed_45 rfl ?_
            refine sw_aloadn dX8_isAllowed_46 rfl ?_
            refine sw_getR dX8_isAllowed_47 fs_X8_72 o46 r46_34 ?_
            refine sw_iload dX8_isAllowed_50 rfl ?_
            refine sx_iald (k) dX8_isAllowed_52 a65 (rfl) (by omega) (by decide) ?_
            refine sw_aloadn dX8_isAllowed_53 rfl ?_
            refine sw_getR dX8_isAllowed_54 fs_X8_75 o46 r46_35 ?_
            refine sw_iload dX8_isAllowed_57 rfl ?_
            refine sx_iald (k) dX8_isAllowed_59 a66 (rfl) (by omega) (by decide) ?_
            refine sx_insI3 dX8_isAllowed_60 mk_X8_within sk_X8_within lk_X8_216 (Nat.le_of_ble_eq_true rfl) (Nat.le_of_ble_eq_true rfl) ?_
            refine m_within (fun h60 => ?_) (fun h60 => ?_)
            · skip
              refine sw_if_eq (tgt := 75) dX8_isAllowed_63 (by decide) (fun h63 => ?_) (fun h63 => ?_)
              · exact absurd h63 (by decide)
              · skip
                refine sw_aloadn dX8_isAllowed_66 rfl ?_
                refine sw_getR dX8_isAllowed_67 fs_X8_78 o46 r46_36 ?_
                refine sw_iload dX8_isAllowed_70 rfl ?_
                refine sx_zald (k) dX8_isAllowed_72 a67 (rfl) (by omega) (by decide) ?_
                refine sw_istore dX8_isAllowed_73 (Nat.le_of_ble_eq_true rfl) ?_
                refine sx_iinc (nI (k + 1)) dX8_isAllowed_75 rfl (nI_inc _) ?_
                refine sw_goto (tgt := 14) dX8_isAllowed_78 (by decide) ?_
                first
                  | (rw [hit k (by simp only [hitR, decide_eq_true_eq]; exact ⟨h31, h42, h60.1, h60.2⟩)] at ih
                     have e : b2I (decide (σ.1 67 k = nI 1)) = σ.1 67 k := by rcases hg k (by omega) with e | e <;> rw [e] <;> decide
                     rw [e] at ih
                     exact ih)
                  | (rw [mis k (by simp only [hitR, decide_eq_false_iff_not]; exact fun q => h60 ⟨q.2.2.1, q.2.2.2⟩)] at ih; exact ih)
                  | (rw [mis k (by simp only [hitR, decide_eq_false_iff_not]; exact fun q => h42 q.2.1)] at ih; exact ih)
                  | (rw [mis k (by simp only [hitR, decide_eq_false_iff_not]; exact fun q => h31 q.1)] at ih; exact ih)
            · skip
              refine sw_if_eq (tgt := 75) dX8_isAllowed_63 (by decide) (fun h63 => ?_) (fun h63 => ?_)
              · skip
                refine sx_iinc (nI (k + 1)) dX8_isAllowed_75 rfl (nI_inc _) ?_
                refine sw_goto (tgt := 14) dX8_isAllowed_78 (by decide) ?_
                first
                  | (rw [hit k (by simp only [hitR, decide_eq_true_eq]; exact ⟨h31, h42, h60.1, h60.2⟩)] at ih
                     have e : b2I (decide (σ.1 67 k = nI 1)) = σ.1 67 k := by rcases hg k (by omega) with e | e <;> rw [e] <;> decide
                     rw [e] at ih
                     exact ih)
                  | (rw [mis k (by simp only [hitR, decide_eq_false_iff_not]; exact fun q => h60 ⟨q.2.2.1, q.2.2.2⟩)] at ih; exact ih)
                  | (rw [mis k (by simp only [hitR, decide_eq_false_iff_not]; exact fun q => h42 q.2.1)] at ih; exact ih)
                  | (rw [mis k (by simp only [hitR, decide_eq_false_iff_not]; exact fun q => h31 q.1)] at ih; exact ih)
              · exact absurd h63 (by decide)
  have l0 := loop n 0 (by omega) (by omega)
  refine sw_iloadn dX8_isAllowed_0 rfl ?_
  refine sw_if_ne (tgt := 8) dX8_isAllowed_1 (by decide) (fun h1 => ?_) (fun h1 => ?_)
  · skip
    refine sx_iconst (v := nI 0) dX8_isAllowed_8 (by decide) ?_
    refine sw_istore dX8_isAllowed_9 (Nat.le_of_ble_eq_true rfl) ?_
    refine sx_iconst (v := nI 0) dX8_isAllowed_11 (by decide) ?_
    refine sw_istore dX8_isAllowed_12 (Nat.le_of_ble_eq_true rfl) ?_
    first
      | (rw [show b2I (alM σ x y t 0) = nI 1 from by simp [alM, alw, b2I, h1]] at l0; exact l0)
      | (rw [show b2I (alM σ x y t 0) = nI 0 from by simp [alM, alw, b2I, h1]] at l0; exact l0)
  · skip
    refine sx_iconst (v := nI 1) dX8_isAllowed_4 (by decide) ?_
    refine sw_goto (tgt := 9) dX8_isAllowed_5 (by decide) ?_
    refine sw_istore dX8_isAllowed_9 (Nat.le_of_ble_eq_true rfl) ?_
    refine sx_iconst (v := nI 0) dX8_isAllowed_11 (by decide) ?_
    refine sw_istore dX8_isAllowed_12 (Nat.le_of_ble_eq_true rfl) ?_
    first
      | (rw [show b2I (alM σ x y t 0) = nI 1 from by simp [alM, alw, b2I, h1]] at l0; exact l0)
      | (rw [show b2I (alM σ x y t 0) = nI 0 from by simp [alM, alw, b2I, h1]] at l0; exact l0)
def okAllow (nc nr : Nat) (x y t : Int32) : Prop := inR x nc ∧ inR y nr ∧ inR t 200
theorem m_allowed {f : Int32 → Mem → Prop} {nc nr n : Nat} {x y t : Int32} (h1c : σ.1 46 24 = nI nc) (h2c : nc ≤ 10) (h1r : σ.1 46 18 = nI nr) (h2r : nr ≤ 10) (hn : σ.1 46 26 = nI n) (hb : n ≤ 100) (hg : ∀ k, k < n → σ.1 67 k = nI 0 ∨ σ.1 67 k = nI 1) (k1 : okAllow nc nr x y t → f (b2I (alM σ x y t n)) (th σ)) (k0 : ¬ okAllow nc nr x y t → f (-1) (th σ)) : SW G (d + 2) M_X8_allowed 0 [some (.ref 46), some (.int x), some (.int y), some (.int t)] [] σ (RI f) := by
  refine sw_aloadn dX8_allowed_0 rfl ?_
  refine sx_iconst (v := nI 0) dX8_allowed_1 (by decide) ?_
  refine sw_putI dX8_allowed_2 fs_X8_1 o46 ?_
  refine sw_aloadn dX8_allowed_5 rfl ?_
  refine sw_iloadn dX8_allowed_6 rfl ?_
  refine sx_invI1 dX8_allowed_7 mk_X8_isCard vk_X8_isCard lk_X8_213 o46 (Nat.le_of_ble_eq_true rfl) (Nat.le_of_ble_eq_true rfl) ?_
  refine m_isCard (n := nc) h1c h2c (fun h7 => ?_) (fun h7 => ?_)
  · skip
    refine sw_if_eq (tgt := 28) dX8_allowed_10 (by decide) (fun h10 => ?_) (fun h10 => ?_)
    · exact absurd h10 (by decide)
    · skip
      refine sw_aloadn dX8_allowed_13 rfl ?_
      refine sw_iloadn dX8_allowed_14 rfl ?_
      refine sx_invI1 dX8_allowed_15 mk_X8_isRoom vk_X8_isRoom lk_X8_227 o46 (Nat.le_of_ble_eq_true rfl) (Nat.le_of_ble_eq_true rfl) ?_
      refine m_isRoom (n := nr) h1r h2r (fun h15 => ?_) (fun h15 => ?_)
      · skip
        refine sw_if_eq (tgt := 28) dX8_allowed_18 (by decide) (fun h18 => ?_) (fun h18 => ?_)
        · exact absurd h18 (by decide)
        · skip
          refine sw_iloadn dX8_allowed_21 rfl ?_
          refine sx_insI1 dX8_allowed_22 mk_X8_isTick sk_X8_isTick lk_X8_220 (Nat.le_of_ble_eq_true rfl) (Nat.le_of_ble_eq_true rfl) ?_
          refine m_isTick (fun h22 => ?_) (fun h22 => ?_)
          · skip
            refine sw_if_ne (tgt := 30) dX8_allowed_25 (by decide) (fun h25 => ?_) (fun h25 => ?_)
            · skip
              refine sw_aloadn dX8_allowed_30 rfl ?_
              refine sw_iloadn dX8_allowed_31 rfl ?_
              refine sw_iloadn dX8_allowed_32 rfl ?_
              refine sw_iloadn dX8_allowed_33 rfl ?_
              refine sx_invI3 dX8_allowed_34 mk_X8_isAllowed vk_X8_isAllowed lk_X8_230 o46 (Nat.le_of_ble_eq_true rfl) (Nat.le_of_ble_eq_true rfl) ?_
              refine m_isAllowed (σ := th σ) (n := n) hn hb hg (fun h34 => ?_) (fun h34 => ?_)
              · skip
                refine sw_if_eq (tgt := 44) dX8_allowed_37 (by decide) (fun h37 => ?_) (fun h37 => ?_)
                · exact absurd h37 (by decide)
                · skip
                  refine sx_iconst (v := nI 1) dX8_allowed_40 (by decide) ?_
                  refine sw_goto (tgt := 45) dX8_allowed_41 (by decide) ?_
                  refine sx_reti dX8_allowed_45 rfl ?_
                  first
                    | (have h34 : alM σ x y t n = true := h34
                       have k1 := k1 ⟨h7, h15, h22⟩
                       rw [h34] at k1
                       exact k1)
                    | (have h34 : ¬ alM σ x y t n = true := h34
                       have k1 := k1 ⟨h7, h15, h22⟩
                       rw [Bool.eq_false_iff.mpr h34] at k1
                       exact k1)
                    | exact k0 (fun q => h7 q.1)
                    | exact k0 (fun q => h15 q.2.1)
                    | exact k0 (fun q => h22 q.2.2)
              · skip
                refine sw_if_eq (tgt := 44) dX8_allowed_37 (by decide) (fun h37 => ?_) (fun h37 => ?_)
                · skip
                  refine sx_iconst (v := nI 0) dX8_allowed_44 (by decide) ?_
                  refine sx_reti dX8_allowed_45 rfl ?_
                  first
                    | (have h34 : alM σ x y t n = true := h34
                       have k1 := k1 ⟨h7, h15, h22⟩
                       rw [h34] at k1
                       exact k1)
                    | (have h34 : ¬ alM σ x y t n = true := h34
                       have k1 := k1 ⟨h7, h15, h22⟩
                       rw [Bool.eq_false_iff.mpr h34] at k1
                       exact k1)
                    | exact k0 (fun q => h7 q.1)
                    | exact k0 (fun q => h15 q.2.1)
                    | exact k0 (fun q => h22 q.2.2)
                · exact absurd h37 (by decide)
            · exact absurd h25 (by decide)
          · skip
            refine sw_if_ne (tgt := 30) dX8_allowed_25 (by decide) (fun h25 => ?_) (fun h25 => ?_)
            · exact absurd h25 (by decide)
            · skip
              refine sx_iconst (v := (-1)) dX8_allowed_28 (by decide) ?_
              refine sx_reti dX8_allowed_29 rfl ?_
              first
                | (have h34 : alM σ x y t n = true := h34
                   have k1 := k1 ⟨h7, h15, h22⟩
                   rw [h34] at k1
                   exact k1)
                | (have h34 : ¬ alM σ x y t n = true := h34
                   have k1 := k1 ⟨h7, h15, h22⟩
                   rw [Bool.eq_false_iff.mpr h34] at k1
                   exact k1)
                | exact k0 (fun q => h7 q.1)
                | exact k0 (fun q => h15 q.2.1)
                | exact k0 (fun q => h22 q.2.2)
      · skip
        refine sw_if_eq (tgt := 28) dX8_allowed_18 (by decide) (fun h18 => ?_) (fun h18 => ?_)
        · skip
          refine sx_iconst (v := (-1)) dX8_allowed_28 (by decide) ?_
          refine sx_reti dX8_allowed_29 rfl ?_
          first
            | (have h34 : alM σ x y t n = true := h34
               have k1 := k1 ⟨h7, h15, h22⟩
               rw [h34] at k1
               exact k1)
            | (have h34 : ¬ alM σ x y t n = true := h34
               have k1 := k1 ⟨h7, h15, h22⟩
               rw [Bool.eq_false_iff.mpr h34] at k1
               exact k1)
            | exact k0 (fun q => h7 q.1)
            | exact k0 (fun q => h15 q.2.1)
            | exact k0 (fun q => h22 q.2.2)
        · exact absurd h18 (by decide)
  · skip
    refine sw_if_eq (tgt := 28) dX8_allowed_10 (by decide) (fun h10 => ?_) (fun h10 => ?_)
    · skip
      refine sx_iconst (v := (-1)) dX8_allowed_28 (by decide) ?_
      refine sx_reti dX8_allowed_29 rfl ?_
      first
        | (have h34 : alM σ x y t n = true := h34
           have k1 := k1 ⟨h7, h15, h22⟩
           rw [h34] at k1
           exact k1)
        | (have h34 : ¬ alM σ x y t n = true := h34
           have k1 := k1 ⟨h7, h15, h22⟩
           rw [Bool.eq_false_iff.mpr h34] at k1
           exact k1)
        | exact k0 (fun q => h7 q.1)
        | exact k0 (fun q => h15 q.2.1)
        | exact k0 (fun q => h22 q.2.2)
    · exact absurd h10 (by decide)
theorem c_X7_allowed {f : Int32 → Mem → Prop} {nc nr n : Nat} {x y t : Int32} (h1c : σ.1 0 3 = nI nc) (h2c : nc ≤ 10) (h1r : σ.1 2 0 = nI nr) (h2r : nr ≤ 10) (hn : σ.1 23 0 = nI n) (hb : n ≤ 100) (hg : ∀ k, k < n → σ.1 28 k = nI 0 ∨ σ.1 28 k = nI 1) (k1 : okAllow nc nr x y t → f (b2I (alw (σ.1 24) (σ.1 25) (σ.1 26) (σ.1 27) (σ.1 28) x y t n)) σ) (k0 : ¬ okAllow nc nr x y t → f (-1) σ) : SW G (d + 1) M_X7_allowed 0 [some (.ref 0), some (.int x), some (.int y), some (.int t)] [] σ (RI f) := by
  refine sw_aloadn dX7_allowed_0 rfl ?_
  refine sw_iloadn dX7_allowed_1 rfl ?_
  refine sx_invI1 dX7_allowed_2 mk_X7_hasCard vk_X7_hasCard lk_X7_100 o0 (Nat.le_of_ble_eq_true rfl) (Nat.le_of_ble_eq_true rfl) ?_
  refine c_X7_hasCard h1c h2c (fun h2 => ?_) (fun h2 => ?_)
  · skip
    refine sw_if_eq (tgt := 24) dX7_allowed_5 (by decide) (fun h5 => ?_) (fun h5 => ?_)
    · exact absurd h5 (by decide)
    · skip
      refine sw_aloadn dX7_allowed_8 rfl ?_
      refine sw_iloadn dX7_allowed_9 rfl ?_
      refine sx_invI1 dX7_allowed_10 mk_X7_hasRoom vk_X7_hasRoom lk_X7_118 o0 (Nat.le_of_ble_eq_true rfl) (Nat.le_of_ble_eq_true rfl) ?_
      refine c_X7_hasRoom h1r h2r (fun h10 => ?_) (fun h10 => ?_)
      · skip
        refine sw_if_eq (tgt := 24) dX7_allowed_13 (by decide) (fun h13 => ?_) (fun h13 => ?_)
        · exact absurd h13 (by decide)
        · skip
          refine sw_aloadn dX7_allowed_16 rfl ?_
          refine sw_iloadn dX7_allowed_17 rfl ?_
          refine sx_invI1 dX7_allowed_18 mk_X7_isTick vk_X7_isTick lk_X7_107 o0 (Nat.le_of_ble_eq_true rfl) (Nat.le_of_ble_eq_true rfl) ?_
          refine c_X7_isTick (fun h18 => ?_) (fun h18 => ?_)
          · skip
            refine sw_if_ne (tgt := 26) dX7_allowed_21 (by decide) (fun h21 => ?_) (fun h21 => ?_)
            · skip
              refine sw_aloadn dX7_allowed_26 rfl ?_
              refine sw_getR dX7_allowed_27 fs_X7_46 o0 r0_8 ?_
              refine sw_iloadn dX7_allowed_30 rfl ?_
              refine sw_iloadn dX7_allowed_31 rfl ?_
              refine sw_iloadn dX7_allowed_32 rfl ?_
              refine sx_invI3 dX7_allowed_33 mk_X4_allows vk_X4_allows lk_X7_151 o23 (Nat.le_of_ble_eq_true rfl) (Nat.le_of_ble_eq_true rfl) ?_
              refine c_X4_allows hn hb hg (fun h33 => ?_) (fun h33 => ?_)
              · skip
                refine sw_if_eq (tgt := 43) dX7_allowed_36 (by decide) (fun h36 => ?_) (fun h36 => ?_)
                · exact absurd h36 (by decide)
                · skip
                  refine sx_iconst (v := nI 1) dX7_allowed_39 (by decide) ?_
                  refine sw_goto (tgt := 44) dX7_allowed_40 (by decide) ?_
                  refine sx_reti dX7_allowed_44 rfl ?_
                  first
                    | (have k1 := k1 ⟨h2, h10, h18⟩
                       rw [h33] at k1
                       exact k1)
                    | (have k1 := k1 ⟨h2, h10, h18⟩
                       rw [Bool.eq_false_iff.mpr h33] at k1
                       exact k1)
                    | exact k0 (fun q => h2 q.1)
                    | exact k0 (fun q => h10 q.2.1)
                    | exact k0 (fun q => h18 q.2.2)
              · skip
                refine sw_if_eq (tgt := 43) dX7_allowed_36 (by decide) (fun h36 => ?_) (fun h36 => ?_)
                · skip
                  refine sx_iconst (v := nI 0) dX7_allowed_43 (by decide) ?_
                  refine sx_reti dX7_allowed_44 rfl ?_
                  first
                    | (have k1 := k1 ⟨h2, h10, h18⟩
                       rw [h33] at k1
                       exact k1)
                    | (have k1 := k1 ⟨h2, h10, h18⟩
                       rw [Bool.eq_false_iff.mpr h33] at k1
                       exact k1)
                    | exact k0 (fun q => h2 q.1)
                    | exact k0 (fun q => h10 q.2.1)
                    | exact k0 (fun q => h18 q.2.2)
                · exact absurd h36 (by decide)
            · exact absurd h21 (by decide)
          · skip
            refine sw_if_ne (tgt := 26) dX7_allowed_21 (by decide) (fun h21 => ?_) (fun h21 => ?_)
            · exact absurd h21 (by decide)
            · skip
              refine sx_iconst (v := (-1)) dX7_allowed_24 (by decide) ?_
              refine sx_reti dX7_allowed_25 rfl ?_
              first
                | (have k1 := k1 ⟨h2, h10, h18⟩
                   rw [h33] at k1
                   exact k1)
                | (have k1 := k1 ⟨h2, h10, h18⟩
                   rw [Bool.eq_false_iff.mpr h33] at k1
                   exact k1)
                | exact k0 (fun q => h2 q.1)
                | exact k0 (fun q => h10 q.2.1)
                | exact k0 (fun q => h18 q.2.2)
      · skip
        refine sw_if_eq (tgt := 24) dX7_allowed_13 (by decide) (fun h13 => ?_) (fun h13 => ?_)
        · skip
          refine sx_iconst (v := (-1)) dX7_allowed_24 (by decide) ?_
          refine sx_reti dX7_allowed_25 rfl ?_
          first
            | (have k1 := k1 ⟨h2, h10, h18⟩
               rw [h33] at k1
               exact k1)
            | (have k1 := k1 ⟨h2, h10, h18⟩
               rw [Bool.eq_false_iff.mpr h33] at k1
               exact k1)
            | exact k0 (fun q => h2 q.1)
            | exact k0 (fun q => h10 q.2.1)
            | exact k0 (fun q => h18 q.2.2)
        · exact absurd h13 (by decide)
  · skip
    refine sw_if_eq (tgt := 24) dX7_allowed_5 (by decide) (fun h5 => ?_) (fun h5 => ?_)
    · skip
      refine sx_iconst (v := (-1)) dX7_allowed_24 (by decide) ?_
      refine sx_reti dX7_allowed_25 rfl ?_
      first
        | (have k1 := k1 ⟨h2, h10, h18⟩
           rw [h33] at k1
           exact k1)
        | (have k1 := k1 ⟨h2, h10, h18⟩
           rw [Bool.eq_false_iff.mpr h33] at k1
           exact k1)
        | exact k0 (fun q => h2 q.1)
        | exact k0 (fun q => h10 q.2.1)
        | exact k0 (fun q => h18 q.2.2)
    · exact absurd h5 (by decide)
end MODEL2
