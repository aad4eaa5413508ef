/-! ===== each call: the model answers as the class, and the invariant holds again ===== -/
def MR (G : GG) (M : MM) (L : List (Option Value)) (a : Int32) (τ : Mem) : Prop := ∀ g : Int32 → Mem → Prop, (∀ ρ, Inv ρ → g a ρ) → SW G 11 M 0 L [] τ (RI g)
section OPS
variable {G : GG} {d : Nat} {σ : Mem} {f : Int32 → Mem → Prop}
theorem c_many0 {n nr : Nat} {x t m w : Int32} (hc : σ.1 0 3 = nI 0) (hr : σ.1 2 0 = nI nr) (hrb : nr ≤ 8) (hn : σ.1 17 0 = nI n) (hnb : n ≤ 100) (k1 : (inR x nr ∧ inR t 200 ∧ inR m (n + 1) ∧ inR w 2) → f (nI 0) σ) (k0 : ¬ (inR x nr ∧ inR t 200 ∧ inR m (n + 1) ∧ inR w 2) → f (-1) σ) : SW G (d + 5) M_X7_many 0 [some (.ref 0), some (.int x), some (.int t), some (.int m), some (.int w), none, none, none, none] [] σ (RI f) := by
  refine sw_aloadn dX7_many_0 rfl ?_
  refine sw_iloadn dX7_many_1 rfl ?_
  refine sx_invI1 dX7_many_2 mk_X7_hasRoom vk_X7_hasRoom lk_X7_118 o0 (Nat.le_of_ble_eq_true rfl) (Nat.le_of_ble_eq_true rfl) ?_
  refine c_X7_hasRoom hr (by omega) (fun h2 => ?_) (fun h2 => ?_)
  · skip
    refine sw_if_eq (tgt := 35) dX7_many_5 (by decide) (fun h5 => ?_) (fun h5 => ?_)
    · exact absurd h5 (by decide)
    · skip
      refine sw_aloadn dX7_many_8 rfl ?_
      refine sw_iloadn dX7_many_9 rfl ?_
      refine sx_invI1 dX7_many_10 mk_X7_isTick vk_X7_isTick lk_X7_107 o0 (Nat.le_of_ble_eq_true rfl) (Nat.le_of_ble_eq_true rfl) ?_
      refine c_X7_isTick (fun h10 => ?_) (fun h10 => ?_)
      · skip
        refine sw_if_eq (tgt := 35) dX7_many_13 (by decide) (fun h13 => ?_) (fun h13 => ?_)
        · exact absurd h13 (by decide)
        · skip
          refine sw_aloadn dX7_many_16 rfl ?_
          refine sw_iloadn dX7_many_17 rfl ?_
          refine sx_invI1 dX7_many_18 mk_X7_isBehind vk_X7_isBehind lk_X7_124 o0 (Nat.le_of_ble_eq_true rfl) (Nat.le_of_ble_eq_true rfl) ?_
          refine c_X7_isBehind hn hnb (fun h18 => ?_) (fun h18 => ?_)
          · skip
            refine sw_if_eq (tgt := 35) dX7_many_21 (by decide) (fun h21 => ?_) (fun h21 => ?_)
            · exact absurd h21 (by decide)
            · skip
              refine sw_iload dX7_many_24 rfl ?_
              refine sw_if_lt (tgt := 35) dX7_many_26 (by decide) (fun h26 => ?_) (fun h26 => ?_)
              · skip
                refine sx_iconst (v := (-1)) dX7_many_35 (by decide) ?_
                refine sx_reti dX7_many_36 rfl ?_
                first
                  | exact k0 (fun q => h2 q.1)
                  | exact k0 (fun q => h10 q.2.1)
                  | exact k0 (fun q => h18 q.2.2.1)
                  | exact k0 (fun q => inR_lt h26 (by omega) q.2.2.2)
                  | exact k1 ⟨h2, h10, h18, (wi_in0 (n := 1) (by omega)).mp ⟨Int32.not_lt.mp h26, h32⟩⟩
                  | exact k0 (fun q => h32 ((wi_in0 (n := 1) (by omega)).mpr q.2.2.2).2)
              · skip
                refine sw_iload dX7_many_29 rfl ?_
                refine sx_iconst (v := nI 1) dX7_many_31 (by decide) ?_
                refine sw_icmp_le (tgt := 37) dX7_many_32 (by decide) (fun h32 => ?_) (fun h32 => ?_)
                · skip
                  refine sx_iconst (v := nI 1) dX7_many_37 (by decide) ?_
                  refine sw_iloadn dX7_many_38 rfl ?_
                  refine sw_ishl dX7_many_39 ?_
                  refine sw_istore dX7_many_40 (Nat.le_of_ble_eq_true rfl) ?_
                  refine sx_iconst (v := nI 0) dX7_many_42 (by decide) ?_
                  refine sw_istore dX7_many_43 (Nat.le_of_ble_eq_true rfl) ?_
                  refine sx_iconst (v := nI 0) dX7_many_45 (by decide) ?_
                  refine sw_istore dX7_many_46 (Nat.le_of_ble_eq_true rfl) ?_
                  refine sw_iload dX7_many_48 rfl ?_
                  refine sw_aloadn dX7_many_50 rfl ?_
                  refine sw_getI dX7_many_51 fs_X7_87 o0 ?_
                  rw [hc]
                  refine sw_icmp_ge (tgt := 102) dX7_many_54 (by decide) (fun h54 => ?_) (fun h54 => ?_)
                  · skip
                    refine sw_iload dX7_many_102 rfl ?_
                    refine sx_reti dX7_many_104 rfl ?_
                    first
                      | exact k0 (fun q => h2 q.1)
                      | exact k0 (fun q => h10 q.2.1)
                      | exact k0 (fun q => h18 q.2.2.1)
                      | exact k0 (fun q => inR_lt h26 (by omega) q.2.2.2)
                      | exact k1 ⟨h2, h10, h18, (wi_in0 (n := 1) (by omega)).mp ⟨Int32.not_lt.mp h26, h32⟩⟩
                      | exact k0 (fun q => h32 ((wi_in0 (n := 1) (by omega)).mpr q.2.2.2).2)
                  · exact absurd ((by decide)) h54
                · skip
                  refine sx_iconst (v := (-1)) dX7_many_35 (by decide) ?_
                  refine sx_reti dX7_many_36 rfl ?_
                  first
                    | exact k0 (fun q => h2 q.1)
                    | exact k0 (fun q => h10 q.2.1)
                    | exact k0 (fun q => h18 q.2.2.1)
                    | exact k0 (fun q => inR_lt h26 (by omega) q.2.2.2)
                    | exact k1 ⟨h2, h10, h18, (wi_in0 (n := 1) (by omega)).mp ⟨Int32.not_lt.mp h26, h32⟩⟩
                    | exact k0 (fun q => h32 ((wi_in0 (n := 1) (by omega)).mpr q.2.2.2).2)
          · skip
            refine sw_if_eq (tgt := 35) dX7_many_21 (by decide) (fun h21 => ?_) (fun h21 => ?_)
            · skip
              refine sx_iconst (v := (-1)) dX7_many_35 (by decide) ?_
              refine sx_reti dX7_many_36 rfl ?_
              first
                | exact k0 (fun q => h2 q.1)
                | exact k0 (fun q => h10 q.2.1)
                | exact k0 (fun q => h18 q.2.2.1)
                | exact k0 (fun q => inR_lt h26 (by omega) q.2.2.2)
                | exact k1 ⟨h2, h10, h18, (wi_in0 (n := 1) (by omega)).mp ⟨Int32.not_lt.mp h26, h32⟩⟩
                | exact k0 (fun q => h32 ((wi_in0 (n := 1) (by omega)).mpr q.2.2.2).2)
            · exact absurd h21 (by decide)
      · skip
        refine sw_if_eq (tgt := 35) dX7_many_13 (by decide) (fun h13 => ?_) (fun h13 => ?_)
        · skip
          refine sx_iconst (v := (-1)) dX7_many_35 (by decide) ?_
          refine sx_reti dX7_many_36 rfl ?_
          first
            | exact k0 (fun q => h2 q.1)
            | exact k0 (fun q => h10 q.2.1)
            | exact k0 (fun q => h18 q.2.2.1)
            | exact k0 (fun q => inR_lt h26 (by omega) q.2.2.2)
            | exact k1 ⟨h2, h10, h18, (wi_in0 (n := 1) (by omega)).mp ⟨Int32.not_lt.mp h26, h32⟩⟩
            | exact k0 (fun q => h32 ((wi_in0 (n := 1) (by omega)).mpr q.2.2.2).2)
        · exact absurd h13 (by decide)
  · skip
    refine sw_if_eq (tgt := 35) dX7_many_5 (by decide) (fun h5 => ?_) (fun h5 => ?_)
    · skip
      refine sx_iconst (v := (-1)) dX7_many_35 (by decide) ?_
      refine sx_reti dX7_many_36 rfl ?_
      first
        | exact k0 (fun q => h2 q.1)
        | exact k0 (fun q => h10 q.2.1)
        | exact k0 (fun q => h18 q.2.2.1)
        | exact k0 (fun q => inR_lt h26 (by omega) q.2.2.2)
        | exact k1 ⟨h2, h10, h18, (wi_in0 (n := 1) (by omega)).mp ⟨Int32.not_lt.mp h26, h32⟩⟩
        | exact k0 (fun q => h32 ((wi_in0 (n := 1) (by omega)).mpr q.2.2.2).2)
    · exact absurd h5 (by decide)
theorem c_inside0 {n : Nat} {t m w : Int32} (hc : σ.1 0 3 = nI 0) (hn : σ.1 17 0 = nI n) (hnb : n ≤ 100) (k1 : (inR t 200 ∧ inR m (n + 1) ∧ inR w 3) → f (nI 0) σ) (k0 : ¬ (inR t 200 ∧ inR m (n + 1) ∧ inR w 3) → f (-1) σ) : SW G (d + 5) M_X7_inside 0 [some (.ref 0), some (.int t), some (.int m), some (.int w), none, none, none, none, none] [] σ (RI f) := by
  refine sw_aloadn dX7_inside_0 rfl ?_
  refine sw_iloadn dX7_inside_1 rfl ?_
  refine sx_invI1 dX7_inside_2 mk_X7_isTick vk_X7_isTick lk_X7_107 o0 (Nat.le_of_ble_eq_true rfl) (Nat.le_of_ble_eq_true rfl) ?_
  refine c_X7_isTick (fun h2 => ?_) (fun h2 => ?_)
  · skip
    refine sw_if_eq (tgt := 25) dX7_inside_5 (by decide) (fun h5 => ?_) (fun h5 => ?_)
    · exact absurd h5 (by decide)
    · skip
      refine sw_aloadn dX7_inside_8 rfl ?_
      refine sw_iloadn dX7_inside_9 rfl ?_
      refine sx_invI1 dX7_inside_10 mk_X7_isBehind vk_X7_isBehind lk_X7_124 o0 (Nat.le_of_ble_eq_true rfl) (Nat.le_of_ble_eq_true rfl) ?_
      refine c_X7_isBehind hn hnb (fun h10 => ?_) (fun h10 => ?_)
      · skip
        refine sw_if_eq (tgt := 25) dX7_inside_13 (by decide) (fun h13 => ?_) (fun h13 => ?_)
        · exact absurd h13 (by decide)
        · skip
          refine sw_iloadn dX7_inside_16 rfl ?_
          refine sw_if_lt (tgt := 25) dX7_inside_17 (by decide) (fun h17 => ?_) (fun h17 => ?_)
          · skip
            refine sx_iconst (v := (-1)) dX7_inside_25 (by decide) ?_
            refine sx_reti dX7_inside_26 rfl ?_
            first
              | exact k0 (fun q => h2 q.1)
              | exact k0 (fun q => h10 q.2.1)
              | exact k0 (fun q => inR_lt h17 (by omega) q.2.2)
              | exact k1 ⟨h2, h10, (wi_in0 (n := 2) (by omega)).mp ⟨Int32.not_lt.mp h17, h22⟩⟩
              | exact k0 (fun q => h22 ((wi_in0 (n := 2) (by omega)).mpr q.2.2).2)
          · skip
            refine sw_iloadn dX7_inside_20 rfl ?_
            refine sx_iconst (v := nI 2) dX7_inside_21 (by decide) ?_
            refine sw_icmp_le (tgt := 27) dX7_inside_22 (by decide) (fun h22 => ?_) (fun h22 => ?_)
            · skip
              refine sx_iconst (v := nI 1) dX7_inside_27 (by decide) ?_
              refine sw_istore dX7_inside_28 (Nat.le_of_ble_eq_true rfl) ?_
              refine sx_iconst (v := nI 0) dX7_inside_30 (by decide) ?_
              refine sw_istore dX7_inside_31 (Nat.le_of_ble_eq_true rfl) ?_
              refine sx_iconst (v := nI 0) dX7_inside_33 (by decide) ?_
              refine sw_istore dX7_inside_34 (Nat.le_of_ble_eq_true rfl) ?_
              refine sx_iconst (v := nI 0) dX7_inside_36 (by decide) ?_
              refine sw_istore dX7_inside_37 (Nat.le_of_ble_eq_true rfl) ?_
              refine sw_iload dX7_inside_39 rfl ?_
              refine sw_aloadn dX7_inside_41 rfl ?_
              refine sw_getI dX7_inside_42 fs_X7_87 o0 ?_
              rw [hc]
              refine sw_icmp_ge (tgt := 97) dX7_inside_45 (by decide) (fun h45 => ?_) (fun h45 => ?_)
              · skip
                refine sw_iloadn dX7_inside_97 rfl ?_
                refine sw_if_ne (tgt := 104) dX7_inside_98 (by decide) (fun h98 => ?_) (fun h98 => ?_)
                · skip
                  refine sw_iloadn dX7_inside_104 rfl ?_
                  refine sx_iconst (v := nI 1) dX7_inside_105 (by decide) ?_
                  refine sw_icmp_ne (tgt := 117) dX7_inside_106 (by decide) (fun h106 => ?_) (fun h106 => ?_)
                  · skip
                    refine sw_iload dX7_inside_117 rfl ?_
                    refine sx_reti dX7_inside_119 rfl ?_
                    first
                      | exact k0 (fun q => h2 q.1)
                      | exact k0 (fun q => h10 q.2.1)
                      | exact k0 (fun q => inR_lt h17 (by omega) q.2.2)
                      | exact k1 ⟨h2, h10, (wi_in0 (n := 2) (by omega)).mp ⟨Int32.not_lt.mp h17, h22⟩⟩
                      | exact k0 (fun q => h22 ((wi_in0 (n := 2) (by omega)).mpr q.2.2).2)
                  · skip
                    refine sw_iload dX7_inside_109 rfl ?_
                    refine sx_insI1 dX7_inside_111 mk_J6_bitCount_0f7a4 sk_J6_bitCount_0f7a4 lk_X7_146 (Nat.le_of_ble_eq_true rfl) (Nat.le_of_ble_eq_true rfl) ?_
                    refine c_bitCount ?_
                    refine sw_topI (y := nI 0) (bc_small 0 (by omega)) ?_
                    refine sw_goto (tgt := 119) dX7_inside_114 (by decide) ?_
                    refine sx_reti dX7_inside_119 rfl ?_
                    first
                      | exact k0 (fun q => h2 q.1)
                      | exact k0 (fun q => h10 q.2.1)
                      | exact k0 (fun q => inR_lt h17 (by omega) q.2.2)
                      | exact k1 ⟨h2, h10, (wi_in0 (n := 2) (by omega)).mp ⟨Int32.not_lt.mp h17, h22⟩⟩
                      | exact k0 (fun q => h22 ((wi_in0 (n := 2) (by omega)).mpr q.2.2).2)
                · skip
                  refine sw_iload dX7_inside_101 rfl ?_
                  refine sx_reti dX7_inside_103 rfl ?_
                  first
                    | exact k0 (fun q => h2 q.1)
                    | exact k0 (fun q => h10 q.2.1)
                    | exact k0 (fun q => inR_lt h17 (by omega) q.2.2)
                    | exact k1 ⟨h2, h10, (wi_in0 (n := 2) (by omega)).mp ⟨Int32.not_lt.mp h17, h22⟩⟩
                    | exact k0 (fun q => h22 ((wi_in0 (n := 2) (by omega)).mpr q.2.2).2)
              · exact absurd ((by decide)) h45
            · skip
              refine sx_iconst (v := (-1)) dX7_inside_25 (by decide) ?_
              refine sx_reti dX7_inside_26 rfl ?_
              first
                | exact k0 (fun q => h2 q.1)
                | exact k0 (fun q => h10 q.2.1)
                | exact k0 (fun q => inR_lt h17 (by omega) q.2.2)
                | exact k1 ⟨h2, h10, (wi_in0 (n := 2) (by omega)).mp ⟨Int32.not_lt.mp h17, h22⟩⟩
                | exact k0 (fun q => h22 ((wi_in0 (n := 2) (by omega)).mpr q.2.2).2)
      · skip
        refine sw_if_eq (tgt := 25) dX7_inside_13 (by decide) (fun h13 => ?_) (fun h13 => ?_)
        · skip
          refine sx_iconst (v := (-1)) dX7_inside_25 (by decide) ?_
          refine sx_reti dX7_inside_26 rfl ?_
          first
            | exact k0 (fun q => h2 q.1)
            | exact k0 (fun q => h10 q.2.1)
            | exact k0 (fun q => inR_lt h17 (by omega) q.2.2)
            | exact k1 ⟨h2, h10, (wi_in0 (n := 2) (by omega)).mp ⟨Int32.not_lt.mp h17, h22⟩⟩
            | exact k0 (fun q => h22 ((wi_in0 (n := 2) (by omega)).mpr q.2.2).2)
        · exact absurd h13 (by decide)
  · skip
    refine sw_if_eq (tgt := 25) dX7_inside_5 (by decide) (fun h5 => ?_) (fun h5 => ?_)
    · skip
      refine sx_iconst (v := (-1)) dX7_inside_25 (by decide) ?_
      refine sx_reti dX7_inside_26 rfl ?_
      first
        | exact k0 (fun q => h2 q.1)
        | exact k0 (fun q => h10 q.2.1)
        | exact k0 (fun q => inR_lt h17 (by omega) q.2.2)
        | exact k1 ⟨h2, h10, (wi_in0 (n := 2) (by omega)).mp ⟨Int32.not_lt.mp h17, h22⟩⟩
        | exact k0 (fun q => h22 ((wi_in0 (n := 2) (by omega)).mpr q.2.2).2)
    · exact absurd h5 (by decide)
theorem op_place (hI : Inv σ) (h : ∀ a τ, MR G M_X8_place [some (.ref 46)] a τ → f a τ) : SW G 11 M_X7_place 0 [some (.ref 0)] [] σ (RI f) := by
  obtain ⟨P, nc, n, N, k, h5⟩ := hI
  refine c_X7_place (h _ _ (fun g hg => m_place ?_))
  rw [← h5.2.2.2.1]
  exact hg _ ⟨P, nc, n, N, k, I5_th h5⟩
theorem op_end {x : Int32} (hI : Inv σ) (h : ∀ a τ, MR G M_X8_end [some (.ref 46), some (.int x)] a τ → f a τ) : SW G 11 M_X7_end 0 [some (.ref 0), some (.int x)] [] σ (RI f) := by
  obtain ⟨P, nc, n, N, k, h5⟩ := hI
  obtain ⟨hT, hP, hD, hF, hL, hR, hC⟩ := id h5
  refine c_X7_end hT.2.1 hT.2.2.2 (fun q => h _ _ (fun g hg => ?_)) (fun q => h _ _ (fun g hg => ?_))
  · refine m_end (σ := setI σ 0 1 x) (n := N) hT.2.2.1 hT.2.2.2 (fun _ => hg _ ?_) (fun z => absurd q z)
    obtain ⟨j, hj, rfl⟩ := q
    exact ⟨P, nc, n, j, k, ⟨hT.1, rfl, rfl, by have := hT.2.2.2; omega⟩, IP_fr hP rfl rfl rfl rfl rfl rfl rfl rfl rfl rfl rfl, ID_fr hD rfl rfl, hF, IL_fr hL rfl rfl rfl rfl, IR_fr hR rfl rfl rfl rfl rfl rfl rfl rfl rfl rfl rfl rfl, IC_fr hC rfl (fun h0 => CI_cg (fun c h1 h2 => ⟨by rw [setI_ne _ _ _ (by omega), setI_ne _ _ _ (by omega), setI_ne _ _ _ (by omega)], rfl⟩) (hC.2.2.2 h0))⟩
  · exact m_end hT.2.2.1 hT.2.2.2 (fun z => absurd z q) (fun _ => hg _ ⟨P, nc, n, N, k, I5_th h5⟩)
theorem op_card (hI : Inv σ) (h : ∀ a τ, MR G M_X8_card [some (.ref 46)] a τ → f a τ) : SW G 11 M_X7_card 0 [some (.ref 0)] [] σ (RI f) := by
  obtain ⟨P, nc, n, N, k, h5⟩ := hI
  obtain ⟨hT, hP, hD, hF, hL, hR, hC⟩ := id h5
  refine c_X7_card hP.1.1 hP.2.2.1 hD.1 hD.2.2 (fun q1 q2 => h _ _ (fun g hg => ?_)) (fun q => h _ _ (fun g hg => ?_))
  · refine m_card (σ := setI σ 0 3 (nI (nc + 1))) hP.2.1.1 hP.2.2.1 hD.2.1 hD.2.2 (fun _ _ => hg _ ?_) (fun z => z.elim (fun z => absurd z q1) (fun z => by omega))
    exact ⟨P, nc + 1, n, N, k, IT_fr hT rfl rfl rfl rfl, IP_fr hP rfl rfl rfl rfl rfl rfl rfl rfl rfl rfl rfl, ⟨rfl, rfl, by omega⟩, hF, IL_fr hL rfl rfl rfl rfl, IR_fr hR rfl rfl rfl rfl rfl rfl rfl rfl rfl rfl rfl rfl, ⟨fun _ => by omega, LV_nc hC.2.1 (by omega), hC.2.2.1, fun h0 => CI_cg (fun c h1 h2 => ⟨by rw [setI_ne _ _ _ (by omega), setI_ne _ _ _ (by omega), setI_ne _ _ _ (by omega)], rfl⟩) (hC.2.2.2 h0)⟩⟩
  · exact m_card hP.2.1.1 hP.2.2.1 hD.2.1 hD.2.2 (fun z1 z2 => by omega) (fun _ => hg _ ⟨P, nc, n, N, k, I5_th h5⟩)
theorem op_log {x w : Int32} (hI : Inv σ) (h : ∀ a τ, MR G M_X8_log_ [some (.ref 46), some (.int x), some (.int w)] a τ → f a τ) : SW G 11 M_X7_log 0 [some (.ref 0), some (.int x), some (.int w)] [] σ (RI f) := by
  obtain ⟨P, nc, n, N, k, h5⟩ := hI
  obtain ⟨hT, hP, hD, hF, hL, hR, hC⟩ := id h5
  obtain ⟨e1, e2, e3, e4, e5⟩ := I5_e h5
  have hn := hL.2.2.1
  refine c_X7_log hL.1 hn (fun j hj ex => h _ _ (fun g hg => ?_)) (fun q => h _ _ (fun g hg => ?_))
  · refine m_log hL.2.1 hn (fun j' hj' ex' => ?_) (fun z => absurd ⟨j, hj, ex⟩ z)
    obtain rfl : j = j' := nI_inj (by omega) (by omega) (ex.symm.trans ex')
    rw [e1, e2, e3, e4, e5]
    exact hg _ ⟨P, nc, n, N, k, I5_th h5⟩
  · exact m_log hL.2.1 hn (fun j' hj' ex' => absurd ⟨j', hj', ex'⟩ q) (fun _ => hg _ ⟨P, nc, n, N, k, I5_th h5⟩)
theorem op_door {x w : Int32} (hI : Inv σ) (h : ∀ a τ, MR G M_X8_door [some (.ref 46), some (.int x), some (.int w)] a τ → f a τ) : SW G 11 M_X7_door 0 [some (.ref 0), some (.int x), some (.int w)] [] σ (RI f) := by
  obtain ⟨P, nc, n, N, k, h5⟩ := hI
  obtain ⟨hT, hP, hD, hF, hL, hR, hC⟩ := id h5
  have hd := hP.2.2.2.1
  refine c_X7_door hP.1.2.1 hd (fun j hj ex => h _ _ (fun g hg => ?_)) (fun q => h _ _ (fun g hg => ?_))
  · refine m_door hP.2.1.2.1 hd (fun j' hj' ex' => ?_) (fun z => absurd ⟨j, hj, ex⟩ z)
    obtain rfl : j = j' := nI_inj (by omega) (by omega) (ex.symm.trans ex')
    rw [hP.1.2.2.2.1 j hj, hP.1.2.2.2.2.1 j hj, hP.1.2.2.2.2.2 j hj] at hg
    rw [hP.2.1.2.2.2.1 j hj, hP.2.1.2.2.2.2.1 j hj, hP.2.1.2.2.2.2.2 j hj]
    exact hg _ ⟨P, nc, n, N, k, I5_th h5⟩
  · exact m_door hP.2.1.2.1 hd (fun j' hj' ex' => absurd ⟨j', hj', ex'⟩ q) (fun _ => hg _ ⟨P, nc, n, N, k, I5_th h5⟩)
theorem op_wide {x : Int32} (hI : Inv σ) (h : ∀ a τ, MR G M_X8_wide [some (.ref 46), some (.int x)] a τ → f a τ) : SW G 11 M_X7_wide 0 [some (.ref 0), some (.int x)] [] σ (RI f) := by
  obtain ⟨P, nc, n, N, k, h5⟩ := hI
  obtain ⟨hT, hP, hD, hF, hL, hR, hC⟩ := id h5
  have hd := hP.2.2.1
  refine c_X7_wide hP.1.1 hd (fun j hj ex => h _ _ (fun g hg => ?_)) (fun q => h _ _ (fun g hg => ?_))
  · refine m_wide hP.2.1.1 hd (fun j' hj' ex' => ?_) (fun z => absurd ⟨j, hj, ex⟩ z)
    obtain rfl : j = j' := nI_inj (by omega) (by omega) (ex.symm.trans ex')
    rw [hP.1.2.2.1 j hj] at hg
    rw [hP.2.1.2.2.1 j hj]
    exact hg _ ⟨P, nc, n, N, k, I5_th h5⟩
  · exact m_wide hP.2.1.1 hd (fun j' hj' ex' => absurd ⟨j', hj', ex'⟩ q) (fun _ => hg _ ⟨P, nc, n, N, k, I5_th h5⟩)
theorem op_count {w : Int32} (hI : Inv σ) (h : ∀ a τ, MR G M_X8_count [some (.ref 46), some (.int w)] a τ → f a τ) : SW G 11 M_X7_count 0 [some (.ref 0), some (.int w)] [] σ (RI f) := by
  obtain ⟨P, nc, n, N, k, h5⟩ := hI
  obtain ⟨hT, hP, hD, hF, hL, hR, hC⟩ := id h5
  refine c_X7_count (h _ _ (fun g hg => m_count ?_))
  rw [hP.1.1, hP.1.2.1, hD.1, hL.1, hR.1, hT.2.1] at hg
  rw [hP.2.1.1, hP.2.1.2.1, hD.2.1, hL.2.1, hR.2.1, hT.2.2.1]
  exact hg _ ⟨P, nc, n, N, k, I5_th h5⟩
theorem op_allowed {x y t : Int32} (hI : Inv σ) (h : ∀ a τ, MR G M_X8_allowed [some (.ref 46), some (.int x), some (.int y), some (.int t)] a τ → f a τ) : SW G 11 M_X7_allowed 0 [some (.ref 0), some (.int x), some (.int y), some (.int t)] [] σ (RI f) := by
  obtain ⟨P, nc, n, N, k, h5⟩ := hI
  obtain ⟨hT, hP, hD, hF, hL, hR, hC⟩ := id h5
  obtain ⟨r1, r2, r3, ⟨e1, e2, e3, e4, e5⟩, r5⟩ := hR
  have p8 := hP.2.2.1
  have g5 : ∀ j, j < k → σ.1 67 j = nI 0 ∨ σ.1 67 j = nI 1 := by rw [e5]; exact r5
  refine c_X7_allowed hD.1 hD.2.2 hP.1.1 (by omega) r1 r3 r5 (fun q => h _ _ (fun g hg => ?_)) (fun q => h _ _ (fun g hg => ?_))
  · refine m_allowed hD.2.1 hD.2.2 hP.2.1.1 (by omega) r2 r3 g5 (fun _ => ?_) (fun z => absurd q z)
    unfold alM
    rw [e1, e2, e3, e4, e5]
    exact hg _ ⟨P, nc, n, N, k, I5_th h5⟩
  · exact m_allowed hD.2.1 hD.2.2 hP.2.1.1 (by omega) r2 r3 g5 (fun z => absurd z q) (fun _ => hg _ ⟨P, nc, n, N, k, I5_th h5⟩)
theorem op_odd {x w : Int32} (hI : Inv σ) (h : ∀ a τ, MR G M_X8_odd [some (.ref 46), some (.int x), some (.int w), none, none, none, none] a τ → f a τ) : SW G 11 M_X7_odd 0 [some (.ref 0), some (.int x), some (.int w)] [] σ (RI f) := by
  obtain ⟨P, nc, n, N, k, h5⟩ := hI
  obtain ⟨hT, hP, hD, hF, hL, hR, hC⟩ := id h5
  obtain ⟨r1, r2, r3, ⟨e1, e2, e3, e4, e5⟩, r5⟩ := hR
  have hn := hL.2.2.1
  have g5 : ∀ j, j < k → σ.1 67 j = nI 0 ∨ σ.1 67 j = nI 1 := by rw [e5]; exact r5
  have eg := hL.2.2.2
  have e58 := (I5_e h5).1
  refine c_X7_odd hP.1 hP.2.2 hL.1 hn hC.2.1 r1 r3 r5 (fun j hj ex h0 g8 => h _ _ (fun g hg => ?_)) (fun q => h _ _ (fun g hg => ?_))
  · have h8 : I5 (setA σ 30 g8) P nc n N k := I5_fr h5 (fun c hc => setA_ne _ _ (by omega)) (fun _ _ _ => rfl) (fun z => CI_cg (fun c h1 h2 => ⟨setA_ne _ _ (by omega), rfl⟩) (hC.2.2.2 z))
    refine m_odd (σ := setA σ 30 g8) (P := P) (nc := nc) (n := n) (nr := k) hP.2.1 hP.2.2 hL.2.1 hn (by show LV P nc n (lgM σ); rw [eg]; exact hC.2.1) r2 r3 g5 (fun j' hj' ex' h0' => ?_) (fun z => absurd ⟨j, hj, ex, by show σ.1 58 j = 0; rw [e58]; exact h0⟩ z)
    obtain rfl : j = j' := nI_inj (by omega) (by omega) (ex.symm.trans ex')
    have ee : (fun a b c => alM (setA σ 30 g8) a b c k) = (fun a b c => alw (σ.1 24) (σ.1 25) (σ.1 26) (σ.1 27) (σ.1 28) a b c k) := by
      funext a b c
      show alw (σ.1 63) (σ.1 64) (σ.1 65) (σ.1 66) (σ.1 67) a b c k = _
      rw [e1, e2, e3, e4, e5]
    rw [show lgM (setA σ 30 g8) = lgC σ from eg, ee]
    exact hg _ ⟨P, nc, n, N, k, I5_th h8⟩
  · refine m_odd (P := P) (nc := nc) (n := n) (nr := k) hP.2.1 hP.2.2 hL.2.1 hn (by rw [eg]; exact hC.2.1) r2 r3 g5 (fun j' hj' ex' h0' => absurd ⟨j', hj', ex', by rw [← e58]; exact h0'⟩ q) (fun _ => hg _ ⟨P, nc, n, N, k, I5_th h5⟩)
theorem op_pairs {x y s w : Int32} (hI : Inv σ) (h : ∀ a τ, MR G M_X8_pairs [some (.ref 46), some (.int x), some (.int y), some (.int s), some (.int w), none, none, none, none, none] a τ → f a τ) : SW G 11 M_X7_pairs 0 [some (.ref 0), some (.int x), some (.int y), some (.int s), some (.int w)] [] σ (RI f) := by
  obtain ⟨P, nc, n, N, k, h5⟩ := hI
  obtain ⟨hT, hP, hD, hF, hL, hR, hC⟩ := id h5
  have hn := hL.2.2.1
  have eg := hL.2.2.2
  refine c_X7_pairs hD.1 hD.2.2 hL.1 hn hC.2.1 (fun q => h _ _ (fun g hg => ?_)) (fun q => h _ _ (fun g hg => ?_))
  · refine m_pairs (P := P) hD.2.1 hD.2.2 hL.2.1 hn (by rw [eg]; exact hC.2.1) (fun _ => ?_) (fun z => absurd q z)
    rw [eg]
    exact hg _ ⟨P, nc, n, N, k, I5_th h5⟩
  · exact m_pairs (P := P) hD.2.1 hD.2.2 hL.2.1 hn (by rw [eg]; exact hC.2.1) (fun z => absurd z q) (fun _ => hg _ ⟨P, nc, n, N, k, I5_th h5⟩)
end OPS
