/-! ===== the model: way, many, inside, whole ===== -/
section MPUB3
variable {G : GG} {d : Nat} {σ : Mem}
def okWay (nc nr : Nat) (x t r u : Int32) : Prop := inR x nc ∧ inR t 200 ∧ inR r nr ∧ inR u 200
theorem WP_seen {τ : Mem} {P : PL} {g : LG} {y : Int32} {m nc n t0 r0 : Nat} {F : Nat → Nat} {z : Int64} (hW : WP τ P (wkG P g y m (skn g y m)) nc n F) (ht : t0 < 200) (hz : cel6 z (fun rm _ => rm = r0)) : WP (setJ τ 69 t0 (τ.2 69 t0 &&& z)) P (wkW P g y m t0 r0) nc n F := by
  obtain ⟨⟨h1, h2, h3, h4, h5, h6, h7, h8⟩, h9⟩ := hW
  refine ⟨⟨h1, h2, h3, h4, h5, h6, h7, fun t ht' rm g' b1 b2 => ?_⟩, h9⟩
  rw [setJ_at]
  by_cases e : t = t0
  · subst e
    rw [updL_same]
    have e2 : qb (τ.2 69 t &&& z) rm g' = (qb (τ.2 69 t) rm g' && qb z rm g') := mb_and _ _ _
    rw [e2, Bool.and_eq_true, h8 t ht' rm g' b1 b2, hz.1 rm g' b1 b2]
    exact ⟨fun w => ⟨w.1, fun _ => w.2⟩, fun w => ⟨w.1, w.2 rfl⟩⟩
  · rw [updL_ne _ _ e, h8 t ht' rm g' b1 b2]
    exact ⟨fun w => ⟨w, fun q => absurd q e⟩, fun w => w.1⟩
theorem m_way {f : Int32 → Mem → Prop} {P : PL} {nc nr n : Nat} {x t r u : Int32} (hc : σ.1 46 24 = nI nc) (hcb : nc ≤ 10) (hr : σ.1 46 18 = nI nr) (hrb : nr ≤ 8) (hn : σ.1 46 25 = nI n) (hnb : n ≤ 100) (hS : 0 < nc → StdM σ P nc n) (k1 : ∀ c t0 r0 u0, c < nc → t0 < 200 → r0 < nr → u0 < 200 → x = nI c → t = nI t0 → r = nI r0 → u = nI u0 → ∀ ρ : Nat → Nat, (∀ t, t < u0 + 1 → leastAt P (wkW P (lgM σ) (nI c) n t0 r0) ρ t ∧ ρ t < pR P) → ∀ τ, kfr (th σ) τ → f (nI (ρ u0)) τ) (k2 : ∀ c t0 r0 u0, c < nc → t0 < 200 → r0 < nr → u0 < 200 → x = nI c → t = nI t0 → r = nI r0 → u = nI u0 → ¬ hop0 P (wkW P (lgM σ) (nI c) n t0 r0) → ∀ τ, kfr (th σ) τ → f (-1) τ) (k0 : ¬ okWay nc nr x t r u → f (nI 0) (setI (th σ) 46 0 (nI 1))) : SW G (d + 4) M_X8_way 0 [some (.ref 46), some (.int x), some (.int t), some (.int r), some (.int u), none, none, none] [] σ (RI f) := by
  refine sw_aloadn dX8_way_0 rfl ?_
  refine sx_iconst (v := nI 0) dX8_way_1 (by decide) ?_
  refine sw_putI dX8_way_2 fs_X8_1 o46 ?_
  refine sw_aloadn dX8_way_5 rfl ?_
  refine sw_iloadn dX8_way_6 rfl ?_
  refine sx_invI1 dX8_way_7 mk_X8_isCard vk_X8_isCard lk_X8_213 o46 (Nat.le_of_ble_eq_true rfl) (Nat.le_of_ble_eq_true rfl) ?_
  refine m_isCard (σ := th σ) hc hcb (fun h7 => ?_) (fun h7 => ?_)
  · skip
    refine sw_if_eq (tgt := 36) dX8_way_10 (by decide) (fun h10 => ?_) (fun h10 => ?_)
    · exact absurd h10 (by decide)
    · skip
      refine sw_iloadn dX8_way_13 rfl ?_
      refine sx_insI1 dX8_way_14 mk_X8_isTick sk_X8_isTick lk_X8_220 (Nat.le_of_ble_eq_true rfl) (Nat.le_of_ble_eq_true rfl) ?_
      refine m_isTick (fun h14 => ?_) (fun h14 => ?_)
      · skip
        refine sw_if_eq (tgt := 36) dX8_way_17 (by decide) (fun h17 => ?_) (fun h17 => ?_)
        · exact absurd h17 (by decide)
        · skip
          refine sw_aloadn dX8_way_20 rfl ?_
          refine sw_iloadn dX8_way_21 rfl ?_
          refine sx_invI1 dX8_way_22 mk_X8_isRoom vk_X8_isRoom lk_X8_227 o46 (Nat.le_of_ble_eq_true rfl) (Nat.le_of_ble_eq_true rfl) ?_
          refine m_isRoom (σ := th σ) hr (by omega) (fun h22 => ?_) (fun h22 => ?_)
          · skip
            refine sw_if_eq (tgt := 36) dX8_way_25 (by decide) (fun h25 => ?_) (fun h25 => ?_)
            · exact absurd h25 (by decide)
            · skip
              refine sw_iload dX8_way_28 rfl ?_
              refine sx_insI1 dX8_way_30 mk_X8_isTick sk_X8_isTick lk_X8_220 (Nat.le_of_ble_eq_true rfl) (Nat.le_of_ble_eq_true rfl) ?_
              refine m_isTick (fun h30 => ?_) (fun h30 => ?_)
              · skip
                refine sw_if_ne (tgt := 43) dX8_way_33 (by decide) (fun h33 => ?_) (fun h33 => ?_)
                · skip
                  obtain ⟨c, c1, rfl⟩ := h7
                  obtain ⟨t0, t1, rfl⟩ := h14
                  obtain ⟨r0, r1, rfl⟩ := h22
                  obtain ⟨u0, u1, rfl⟩ := h30
                  obtain ⟨hP, hV, hR, -, hL, h12⟩ := hS (by omega)
                  have h8 := hV.1
                  refine sw_aloadn dX8_way_43 rfl ?_
                  refine sw_iloadn dX8_way_44 rfl ?_
                  refine sw_aloadn dX8_way_45 rfl ?_
                  refine sw_getI dX8_way_46 fs_X8_207 o46 ?_
                  rw [show (th σ).1 46 25 = nI n from hn]
                  refine sx_iconst (v := nI 1) dX8_way_49 (by decide) ?_
                  refine sx_invV3 dX8_way_50 mk_X8_knows vk_X8_knows lk_X8_289 o46 (Nat.le_of_ble_eq_true rfl) (Nat.le_of_ble_eq_true rfl) ?_
                  refine m_knows (σ := th σ) (P := P) (nc := nc) (n := n) (S := skn (lgM σ) (nI c) n) hP hV hnb (Nat.le_refl n) hL (h12 c (by omega)) (nI_nm1 (by omega)) (Or.inr rfl) (fun t rm => ⟨fun w _ => w, fun w => w rfl⟩) (fun τ1 f1 hW1 => ?_)
                  refine sw_aloadn dX8_way_53 rfl ?_
                  refine sw_getR dX8_way_54 fs_X8_85 o46 r46_39 ?_
                  refine sw_iloadn dX8_way_57 rfl ?_
                  refine sw_dup2 dX8_way_58 rfl rfl ?_
                  refine sx_lald (t0) dX8_way_59 a69 (rfl) (by omega) (by decide) ?_
                  refine sw_iloadn dX8_way_60 rfl ?_
                  refine sx_insJ1 dX8_way_61 mk_X8_states sk_X8_states lk_X8_249 (Nat.le_of_ble_eq_true rfl) (Nat.le_of_ble_eq_true rfl) ?_
                  refine m_states (show r0 < 8 by omega) (fun z hz => ?_)
                  refine sw_land dX8_way_64 ?_
                  refine sx_last (t0) dX8_way_65 a69 (rfl) (by omega) (by decide) ?_
                  refine sw_aloadn dX8_way_66 rfl ?_
                  refine sx_invV0 dX8_way_67 mk_X8_fillBack vk_X8_fillBack lk_X8_296 o46 (Nat.le_of_ble_eq_true rfl) (Nat.le_of_ble_eq_true rfl) ?_
                  refine m_fillBack (WP_seen hW1 t1 hz) (fun τ2 f2 hB2 => ?_)
                  refine sw_aloadn dX8_way_70 rfl ?_
                  refine sw_aloadn dX8_way_71 rfl ?_
                  refine sw_getI dX8_way_72 fs_X8_235 o46 ?_
                  rw [(WP_fr (WP_seen hW1 t1 hz) (fr_wide f2 (by omega) (by omega))).2]
                  refine sx_invV1 dX8_way_75 mk_X8_begins vk_X8_begins lk_X8_275 o46 (Nat.le_of_ble_eq_true rfl) (Nat.le_of_ble_eq_true rfl) ?_
                  refine m_begins (WP_seen hW1 t1 hz).1.2.2.1.1 (fun τ3 f3 hS3 => ?_)
                  have kf : kfr (th σ) τ3 := kfr_tr f1 (kfr_tr (kfr_J kfr_rf (by omega)) (kfr_tr (kfr_fr f2 (by omega) (by omega)) (kfr_fr f3 (by omega) (by omega))))
                  have hW3 := WP_fr (WP_fr (WP_seen hW1 t1 hz) (fr_wide f2 (by omega) (by omega))) (fr_wide f3 (by omega) (by omega))
                  refine m_wayT hW3 hR u1 (fun t ht j hj => by rw [(f3 72 (by omega)).2]; exact hB2 t ht j hj) hS3 (fun ρ hρ τ4 f4 => k1 c t0 r0 u0 c1 t1 r1 u1 rfl rfl rfl rfl ρ hρ τ4 (kfr_tr kf (kfr_fr f4 (by omega) (by omega)))) (fun hno => k2 c t0 r0 u0 c1 t1 r1 u1 rfl rfl rfl rfl hno τ3 kf)
                · exact absurd h33 (by decide)
              · skip
                refine sw_if_ne (tgt := 43) dX8_way_33 (by decide) (fun h33 => ?_) (fun h33 => ?_)
                · exact absurd h33 (by decide)
                · skip
                  refine sw_aloadn dX8_way_36 rfl ?_
                  refine sx_iconst (v := nI 1) dX8_way_37 (by decide) ?_
                  refine sw_putI dX8_way_38 fs_X8_1 o46 ?_
                  refine sx_iconst (v := nI 0) dX8_way_41 (by decide) ?_
                  refine sx_reti dX8_way_42 rfl ?_
                  first
                    | exact k0 (fun q => h7 q.1)
                    | exact k0 (fun q => h14 q.2.1)
                    | exact k0 (fun q => h22 q.2.2.1)
                    | exact k0 (fun q => h30 q.2.2.2)
          · skip
            refine sw_if_eq (tgt := 36) dX8_way_25 (by decide) (fun h25 => ?_) (fun h25 => ?_)
            · skip
              refine sw_aloadn dX8_way_36 rfl ?_
              refine sx_iconst (v := nI 1) dX8_way_37 (by decide) ?_
              refine sw_putI dX8_way_38 fs_X8_1 o46 ?_
              refine sx_iconst (v := nI 0) dX8_way_41 (by decide) ?_
              refine sx_reti dX8_way_42 rfl ?_
              first
                | exact k0 (fun q => h7 q.1)
                | exact k0 (fun q => h14 q.2.1)
                | exact k0 (fun q => h22 q.2.2.1)
                | exact k0 (fun q => h30 q.2.2.2)
            · exact absurd h25 (by decide)
      · skip
        refine sw_if_eq (tgt := 36) dX8_way_17 (by decide) (fun h17 => ?_) (fun h17 => ?_)
        · skip
          refine sw_aloadn dX8_way_36 rfl ?_
          refine sx_iconst (v := nI 1) dX8_way_37 (by decide) ?_
          refine sw_putI dX8_way_38 fs_X8_1 o46 ?_
          refine sx_iconst (v := nI 0) dX8_way_41 (by decide) ?_
          refine sx_reti dX8_way_42 rfl ?_
          first
            | exact k0 (fun q => h7 q.1)
            | exact k0 (fun q => h14 q.2.1)
            | exact k0 (fun q => h22 q.2.2.1)
            | exact k0 (fun q => h30 q.2.2.2)
        · exact absurd h17 (by decide)
  · skip
    refine sw_if_eq (tgt := 36) dX8_way_10 (by decide) (fun h10 => ?_) (fun h10 => ?_)
    · skip
      refine sw_aloadn dX8_way_36 rfl ?_
      refine sx_iconst (v := nI 1) dX8_way_37 (by decide) ?_
      refine sw_putI dX8_way_38 fs_X8_1 o46 ?_
      refine sx_iconst (v := nI 0) dX8_way_41 (by decide) ?_
      refine sx_reti dX8_way_42 rfl ?_
      first
        | exact k0 (fun q => h7 q.1)
        | exact k0 (fun q => h14 q.2.1)
        | exact k0 (fun q => h22 q.2.2.1)
        | exact k0 (fun q => h30 q.2.2.2)
    · exact absurd h10 (by decide)
theorem ishr_nI : ∀ m, m < 256 → ∀ k, k < 8 → ((nI m >>> (nI k &&& 31)) &&& nI 1 = nI 1 ↔ m.testBit k = true) := by decide +kernel
theorem and1_nI : ∀ m, m < 256 → (nI m &&& nI 1 = 0 ↔ m.testBit 0 = false) := by decide +kernel
theorem m_many {f : Int32 → Mem → Prop} {P : PL} {nc n nr : Nat} {x t m w : Int32} (hc : σ.1 46 24 = nI nc) (hcb : nc ≤ 10) (hr : σ.1 46 18 = nI nr) (hrb : nr ≤ 8) (hn : σ.1 46 25 = nI n) (hnb : n ≤ 100) (hS : 0 < nc → StdM σ P nc n) (k1 : ∀ r t' m', r < nr → t' < 200 → m' < n + 1 → x = nI r → t = nI t' → m = nI m' → inR w 2 → ∀ τ, kfr (th σ) τ → f (nI (cnt (manyB P (lgM σ) r t' m' w) nc)) τ) (k0 : ¬ (inR x nr ∧ inR t 200 ∧ inR m (n + 1) ∧ inR w 2) → f (-1) (th σ)) : SW G (d + 4) M_X8_many 0 [some (.ref 46), some (.int x), some (.int t), some (.int m), some (.int w), none, none, none] [] σ (RI f) := by
  have loop : ∀ r t' m', r < nr → t' < 200 → m' < n + 1 → x = nI r → t = nI t' → m = nI m' → inR w 2 → ∀ (q k : Nat), q = nc - k → k ≤ nc → ∀ τ o7, kfr (th σ) τ → SW G (d + 4) M_X8_many 50 [some (.ref 46), some (.int (nI r)), some (.int (nI t')), some (.int (nI m')), some (.int w), some (.int (nI (cnt (manyB P (lgM σ) r t' m' w) k))), some (.int (nI k)), o7] [] τ (RI f) := by
    intro r t' m' b1 b2 b3 b4 b5 b6 b7 q
    have pw : 2 ^ r < 1024 := Nat.pow_lt_pow_right (by omega) (show r < 10 by omega)
    induction q with
    | zero =>
      intro k hq hk τ o7 hf
      obtain rfl : k = nc := by omega
      have hc' : τ.1 46 24 = nI k := (hf.2.1 24 (by decide)).trans hc
      refine sw_iload dX8_many_50 rfl ?_
      refine sw_aloadn dX8_many_52 rfl ?_
      refine sw_getI dX8_many_53 fs_X8_204 o46 ?_
      rw [hc']
      refine sw_icmp_ge (tgt := 104) dX8_many_56 (by decide) (fun h56 => ?_) (fun h56 => ?_)
      · skip
        refine sw_iload dX8_many_104 rfl ?_
        refine sx_reti dX8_many_106 rfl ?_
        exact k1 r t' m' b1 b2 b3 b4 b5 b6 b7 τ hf
      · exact absurd ((nI_le (Nat.le_refl _) (by omega))) h56
    | succ q ih =>
      intro k hq hk τ o7 hf
      have hc' : τ.1 46 24 = nI nc := (hf.2.1 24 (by decide)).trans hc
      have hlg : lgM τ = lgM σ := kfr_lg (σ := th σ) hf
      have ih := ih (k + 1) (by omega) (by omega)
      have hlt := roomsV_lt P (lgM σ) (nI k) m' t'
      refine sw_iload dX8_many_50 rfl ?_
      refine sw_aloadn dX8_many_52 rfl ?_
      refine sw_getI dX8_many_53 fs_X8_204 o46 ?_
      rw [hc']
      refine sw_icmp_ge (tgt := 104) dX8_many_56 (by decide) (fun h56 => ?_) (fun h56 => ?_)
      · exact absurd h56 ((by rw [nI_le' (by omega) (by omega)]; omega))
      · skip
        refine sw_aloadn dX8_many_59 rfl ?_
        refine sw_iload dX8_many_60 rfl ?_
        refine sw_iloadn dX8_many_62 rfl ?_
        refine sw_iloadn dX8_many_63 rfl ?_
        refine sx_invI3 dX8_many_64 mk_X8_can vk_X8_can lk_X8_299 o46 (Nat.le_of_ble_eq_true rfl) (Nat.le_of_ble_eq_true rfl) ?_
        refine m_can (σ := τ) (P := P) (nc := nc) (n := n) (StdM_k hf (StdM_th (hS (by omega)))) (show k < 10 by omega) b2 (show m' ≤ n by omega) (fun τ' hf' => ?_)
        rw [hlg]
        refine sw_istore dX8_many_67 (Nat.le_of_ble_eq_true rfl) ?_
        refine sw_iload dX8_many_69 rfl ?_
        refine sw_if_ne (tgt := 85) dX8_many_71 (by decide) (fun h71 => ?_) (fun h71 => ?_)
        · skip
          refine sw_iload dX8_many_85 rfl ?_
          refine sw_iloadn dX8_many_87 rfl ?_
          refine sw_ishr dX8_many_88 ?_
          refine sx_iconst (v := nI 1) dX8_many_89 (by decide) ?_
          refine sw_iand dX8_many_90 ?_
          refine sx_iconst (v := nI 1) dX8_many_91 (by decide) ?_
          refine sw_icmp_ne (tgt := 98) dX8_many_92 (by decide) (fun h92 => ?_) (fun h92 => ?_)
          · skip
            refine sx_iinc (nI (k + 1)) dX8_many_98 rfl (nI_inc _) ?_
            refine sw_goto (tgt := 50) dX8_many_101 (by decide) ?_
            have ih := ih τ'
            first
              | (have e : manyB P (lgM σ) r t' m' w k = true := by rw [manyB, if_pos (show w = nI 0 from h71)]; exact decide_eq_true (nI_inj (by omega) (by omega) h79)
                 rw [cnt, if_pos e] at ih; exact ih _ (kfr_tr hf hf'))
              | (have e : ¬ manyB P (lgM σ) r t' m' w k = true := by rw [manyB, if_pos (show w = nI 0 from h71)]; exact fun z => h79 (congrArg nI (of_decide_eq_true z))
                 rw [cnt, if_neg e] at ih; exact ih _ (kfr_tr hf hf'))
              | (have e : manyB P (lgM σ) r t' m' w k = true := by
                   rw [manyB, if_neg (show ¬ w = nI 0 from h71)]
                   exact (ishr_nI _ hlt r (by omega)).mp h92
                 rw [cnt, if_pos e] at ih; exact ih _ (kfr_tr hf hf'))
              | (have e : ¬ manyB P (lgM σ) r t' m' w k = true := by
                   rw [manyB, if_neg (show ¬ w = nI 0 from h71)]
                   exact fun z => h92 ((ishr_nI _ hlt r (by omega)).mpr z)
                 rw [cnt, if_neg e] at ih; exact ih _ (kfr_tr hf hf'))
          · skip
            refine sx_iinc (nI (cnt (manyB P (lgM σ) r t' m' w) k + 1)) dX8_many_95 rfl (nI_inc _) ?_
            refine sx_iinc (nI (k + 1)) dX8_many_98 rfl (nI_inc _) ?_
            refine sw_goto (tgt := 50) dX8_many_101 (by decide) ?_
            have ih := ih τ'
            first
              | (have e : manyB P (lgM σ) r t' m' w k = true := by rw [manyB, if_pos (show w = nI 0 from h71)]; exact decide_eq_true (nI_inj (by omega) (by omega) h79)
                 rw [cnt, if_pos e] at ih; exact ih _ (kfr_tr hf hf'))
              | (have e : ¬ manyB P (lgM σ) r t' m' w k = true := by rw [manyB, if_pos (show w = nI 0 from h71)]; exact fun z => h79 (congrArg nI (of_decide_eq_true z))
                 rw [cnt, if_neg e] at ih; exact ih _ (kfr_tr hf hf'))
              | (have e : manyB P (lgM σ) r t' m' w k = true := by
                   rw [manyB, if_neg (show ¬ w = nI 0 from h71)]
                   exact (ishr_nI _ hlt r (by omega)).mp h92
                 rw [cnt, if_pos e] at ih; exact ih _ (kfr_tr hf hf'))
              | (have e : ¬ manyB P (lgM σ) r t' m' w k = true := by
                   rw [manyB, if_neg (show ¬ w = nI 0 from h71)]
                   exact fun z => h92 ((ishr_nI _ hlt r (by omega)).mpr z)
                 rw [cnt, if_neg e] at ih; exact ih _ (kfr_tr hf hf'))
        · skip
          refine sw_iload dX8_many_74 rfl ?_
          refine sx_iconst (v := nI 1) dX8_many_76 (by decide) ?_
          refine sw_iloadn dX8_many_77 rfl ?_
          refine sw_ishl dX8_many_78 ?_
          refine sw_topI (y := nI (2 ^ r)) (shl_nI r (by omega)) ?_
          refine sw_icmp_ne (tgt := 98) dX8_many_79 (by decide) (fun h79 => ?_) (fun h79 => ?_)
          · skip
            refine sx_iinc (nI (k + 1)) dX8_many_98 rfl (nI_inc _) ?_
            refine sw_goto (tgt := 50) dX8_many_101 (by decide) ?_
            have ih := ih τ'
            first
              | (have e : manyB P (lgM σ) r t' m' w k = true := by rw [manyB, if_pos (show w = nI 0 from h71)]; exact decide_eq_true (nI_inj (by omega) (by omega) h79)
                 rw [cnt, if_pos e] at ih; exact ih _ (kfr_tr hf hf'))
              | (have e : ¬ manyB P (lgM σ) r t' m' w k = true := by rw [manyB, if_pos (show w = nI 0 from h71)]; exact fun z => h79 (congrArg nI (of_decide_eq_true z))
                 rw [cnt, if_neg e] at ih; exact ih _ (kfr_tr hf hf'))
              | (have e : manyB P (lgM σ) r t' m' w k = true := by
                   rw [manyB, if_neg (show ¬ w = nI 0 from h71)]
                   exact (ishr_nI _ hlt r (by omega)).mp h92
                 rw [cnt, if_pos e] at ih; exact ih _ (kfr_tr hf hf'))
              | (have e : ¬ manyB P (lgM σ) r t' m' w k = true := by
                   rw [manyB, if_neg (show ¬ w = nI 0 from h71)]
                   exact fun z => h92 ((ishr_nI _ hlt r (by omega)).mpr z)
                 rw [cnt, if_neg e] at ih; exact ih _ (kfr_tr hf hf'))
          · skip
            refine sw_goto (tgt := 95) dX8_many_82 (by decide) ?_
            refine sx_iinc (nI (cnt (manyB P (lgM σ) r t' m' w) k + 1)) dX8_many_95 rfl (nI_inc _) ?_
            refine sx_iinc (nI (k + 1)) dX8_many_98 rfl (nI_inc _) ?_
            refine sw_goto (tgt := 50) dX8_many_101 (by decide) ?_
            have ih := ih τ'
            first
              | (have e : manyB P (lgM σ) r t' m' w k = true := by rw [manyB, if_pos (show w = nI 0 from h71)]; exact decide_eq_true (nI_inj (by omega) (by omega) h79)
                 rw [cnt, if_pos e] at ih; exact ih _ (kfr_tr hf hf'))
              | (have e : ¬ manyB P (lgM σ) r t' m' w k = true := by rw [manyB, if_pos (show w = nI 0 from h71)]; exact fun z => h79 (congrArg nI (of_decide_eq_true z))
                 rw [cnt, if_neg e] at ih; exact ih _ (kfr_tr hf hf'))
              | (have e : manyB P (lgM σ) r t' m' w k = true := by
                   rw [manyB, if_neg (show ¬ w = nI 0 from h71)]
                   exact (ishr_nI _ hlt r (by omega)).mp h92
                 rw [cnt, if_pos e] at ih; exact ih _ (kfr_tr hf hf'))
              | (have e : ¬ manyB P (lgM σ) r t' m' w k = true := by
                   rw [manyB, if_neg (show ¬ w = nI 0 from h71)]
                   exact fun z => h92 ((ishr_nI _ hlt r (by omega)).mpr z)
                 rw [cnt, if_neg e] at ih; exact ih _ (kfr_tr hf hf'))
  refine sw_aloadn dX8_many_0 rfl ?_
  refine sx_iconst (v := nI 0) dX8_many_1 (by decide) ?_
  refine sw_putI dX8_many_2 fs_X8_1 o46 ?_
  refine sw_aloadn dX8_many_5 rfl ?_
  refine sw_iloadn dX8_many_6 rfl ?_
  refine sx_invI1 dX8_many_7 mk_X8_isRoom vk_X8_isRoom lk_X8_227 o46 (Nat.le_of_ble_eq_true rfl) (Nat.le_of_ble_eq_true rfl) ?_
  refine m_isRoom (σ := th σ) hr (by omega) (fun h7 => ?_) (fun h7 => ?_)
  · skip
    refine sw_if_eq (tgt := 42) dX8_many_10 (by decide) (fun h10 => ?_) (fun h10 => ?_)
    · exact absurd h10 (by decide)
    · skip
      refine sw_iloadn dX8_many_13 rfl ?_
      refine sx_insI1 dX8_many_14 mk_X8_isTick sk_X8_isTick lk_X8_220 (Nat.le_of_ble_eq_true rfl) (Nat.le_of_ble_eq_true rfl) ?_
      refine m_isTick (fun h14 => ?_) (fun h14 => ?_)
      · skip
        refine sw_if_eq (tgt := 42) dX8_many_17 (by decide) (fun h17 => ?_) (fun h17 => ?_)
        · exact absurd h17 (by decide)
        · skip
          refine sw_iloadn dX8_many_20 rfl ?_
          refine sx_iconst (v := nI 0) dX8_many_21 (by decide) ?_
          refine sw_aloadn dX8_many_22 rfl ?_
          refine sw_getI dX8_many_23 fs_X8_207 o46 ?_
          rw [show (th σ).1 46 25 = nI n from hn]
          refine sx_insI3 dX8_many_26 mk_X8_within sk_X8_within lk_X8_216 (Nat.le_of_ble_eq_true rfl) (Nat.le_of_ble_eq_true rfl) ?_
          refine m_within (fun h26 => ?_) (fun h26 => ?_)
          · skip
            refine sw_if_eq (tgt := 42) dX8_many_29 (by decide) (fun h29 => ?_) (fun h29 => ?_)
            · exact absurd h29 (by decide)
            · skip
              refine sw_iload dX8_many_32 rfl ?_
              refine sx_iconst (v := nI 0) dX8_many_34 (by decide) ?_
              refine sx_iconst (v := nI 1) dX8_many_35 (by decide) ?_
              refine sx_insI3 dX8_many_36 mk_X8_within sk_X8_within lk_X8_216 (Nat.le_of_ble_eq_true rfl) (Nat.le_of_ble_eq_true rfl) ?_
              refine m_within (fun h36 => ?_) (fun h36 => ?_)
              · skip
                refine sw_if_ne (tgt := 44) dX8_many_39 (by decide) (fun h39 => ?_) (fun h39 => ?_)
                · skip
                  obtain ⟨r, r1, rfl⟩ := h7
                  obtain ⟨t', t1, rfl⟩ := h14
                  obtain ⟨m', m1, rfl⟩ := (wi_in0 (by omega)).mp h26
                  have hw : inR w 2 := (wi_in0 (n := 1) (by omega)).mp h36
                  refine sx_iconst (v := nI 0) dX8_many_44 (by decide) ?_
                  refine sw_istore dX8_many_45 (Nat.le_of_ble_eq_true rfl) ?_
                  refine sx_iconst (v := nI 0) dX8_many_47 (by decide) ?_
                  refine sw_istore dX8_many_48 (Nat.le_of_ble_eq_true rfl) ?_
                  exact loop r t' m' r1 t1 m1 rfl rfl rfl hw nc 0 (by omega) (by omega) (th σ) _ kfr_rf
                · exact absurd h39 (by decide)
              · skip
                refine sw_if_ne (tgt := 44) dX8_many_39 (by decide) (fun h39 => ?_) (fun h39 => ?_)
                · exact absurd h39 (by decide)
                · skip
                  refine sx_iconst (v := (-1)) dX8_many_42 (by decide) ?_
                  refine sx_reti dX8_many_43 rfl ?_
                  first
                    | exact k0 (fun q => h7 q.1)
                    | exact k0 (fun q => h14 q.2.1)
                    | exact k0 (fun q => h26 ((wi_in0 (by omega)).mpr q.2.2.1))
                    | exact k0 (fun q => h36 ((wi_in0 (n := 1) (by omega)).mpr q.2.2.2))
          · skip
            refine sw_if_eq (tgt := 42) dX8_many_29 (by decide) (fun h29 => ?_) (fun h29 => ?_)
            · skip
              refine sx_iconst (v := (-1)) dX8_many_42 (by decide) ?_
              refine sx_reti dX8_many_43 rfl ?_
              first
                | exact k0 (fun q => h7 q.1)
                | exact k0 (fun q => h14 q.2.1)
                | exact k0 (fun q => h26 ((wi_in0 (by omega)).mpr q.2.2.1))
                | exact k0 (fun q => h36 ((wi_in0 (n := 1) (by omega)).mpr q.2.2.2))
            · exact absurd h29 (by decide)
      · skip
        refine sw_if_eq (tgt := 42) dX8_many_17 (by decide) (fun h17 => ?_) (fun h17 => ?_)
        · skip
          refine sx_iconst (v := (-1)) dX8_many_42 (by decide) ?_
          refine sx_reti dX8_many_43 rfl ?_
          first
            | exact k0 (fun q => h7 q.1)
            | exact k0 (fun q => h14 q.2.1)
            | exact k0 (fun q => h26 ((wi_in0 (by omega)).mpr q.2.2.1))
            | exact k0 (fun q => h36 ((wi_in0 (n := 1) (by omega)).mpr q.2.2.2))
        · exact absurd h17 (by decide)
  · skip
    refine sw_if_eq (tgt := 42) dX8_many_10 (by decide) (fun h10 => ?_) (fun h10 => ?_)
    · skip
      refine sx_iconst (v := (-1)) dX8_many_42 (by decide) ?_
      refine sx_reti dX8_many_43 rfl ?_
      first
        | exact k0 (fun q => h7 q.1)
        | exact k0 (fun q => h14 q.2.1)
        | exact k0 (fun q => h26 ((wi_in0 (by omega)).mpr q.2.2.1))
        | exact k0 (fun q => h36 ((wi_in0 (n := 1) (by omega)).mpr q.2.2.2))
    · exact absurd h10 (by decide)
theorem m_inside {f : Int32 → Mem → Prop} {P : PL} {nc n : Nat} {t m w : Int32} (hc : σ.1 46 24 = nI nc) (hcb : nc ≤ 10) (hn : σ.1 46 25 = nI n) (hnb : n ≤ 100) (hS : 0 < nc → StdM σ P nc n) (k1 : ∀ t' m', t' < 200 → m' < n + 1 → t = nI t' → m = nI m' → inR w 3 → ∀ τ, kfr (th σ) τ → f (if w = nI 0 then nI (cnt (sureB P (lgM σ) t' m') nc) else if w = nI 1 then nI (cnt (insB P (lgM σ) t' m') nc) else nI (bts (insB P (lgM σ) t' m') id nc)) τ) (k0 : ¬ (inR t 200 ∧ inR m (n + 1) ∧ inR w 3) → f (-1) (th σ)) : SW G (d + 4) M_X8_inside 0 [some (.ref 46), some (.int t), some (.int m), some (.int w), none, none, none, none, none] [] σ (RI f) := by
  have loop : ∀ t' m', t' < 200 → m' < n + 1 → t = nI t' → m = nI m' → inR w 3 → ∀ (q k : Nat), q = nc - k → k ≤ nc → ∀ τ o8, kfr (th σ) τ → SW G (d + 4) M_X8_inside 47 [some (.ref 46), some (.int (nI t')), some (.int (nI m')), some (.int w), some (.int (nI (cnt (sureB P (lgM σ) t' m') k))), some (.int (nI (cnt (insB P (lgM σ) t' m') k))), some (.int (nI (bts (insB P (lgM σ) t' m') id k))), some (.int (nI k)), o8] [] τ (RI f) := by
    intro t' m' b2 b3 b5 b6 b7 q
    induction q with
    | zero =>
      intro k hq hk τ o8 hf
      obtain rfl : k = nc := by omega
      have hc' : τ.1 46 24 = nI k := (hf.2.1 24 (by decide)).trans hc
      have k1 := k1 t' m' b2 b3 b5 b6 b7 τ hf
      refine sw_iload dX8_inside_47 rfl ?_
      refine sw_aloadn dX8_inside_49 rfl ?_
      refine sw_getI dX8_inside_50 fs_X8_204 o46 ?_
      rw [hc']
      refine sw_icmp_ge (tgt := 108) dX8_inside_53 (by decide) (fun h53 => ?_) (fun h53 => ?_)
      · skip
        refine sw_iloadn dX8_inside_108 rfl ?_
        refine sw_if_ne (tgt := 117) dX8_inside_109 (by decide) (fun h109 => ?_) (fun h109 => ?_)
        · skip
          refine sw_iloadn dX8_inside_117 rfl ?_
          refine sx_iconst (v := nI 1) dX8_inside_118 (by decide) ?_
          refine sw_icmp_ne (tgt := 127) dX8_inside_119 (by decide) (fun h119 => ?_) (fun h119 => ?_)
          · skip
            refine sw_iload dX8_inside_127 rfl ?_
            refine sx_reti dX8_inside_129 rfl ?_
            first
              | (rw [if_pos (show w = nI 0 from h109)] at k1; exact k1)
              | (rw [if_neg (show ¬ w = nI 0 from h109), if_pos h119] at k1; exact k1)
              | (rw [if_neg (show ¬ w = nI 0 from h109), if_neg h119] at k1; exact k1)
          · skip
            refine sw_iload dX8_inside_122 rfl ?_
            refine sw_goto (tgt := 129) dX8_inside_124 (by decide) ?_
            refine sx_reti dX8_inside_129 rfl ?_
            first
              | (rw [if_pos (show w = nI 0 from h109)] at k1; exact k1)
              | (rw [if_neg (show ¬ w = nI 0 from h109), if_pos h119] at k1; exact k1)
              | (rw [if_neg (show ¬ w = nI 0 from h109), if_neg h119] at k1; exact k1)
        · skip
          refine sw_iload dX8_inside_112 rfl ?_
          refine sw_goto (tgt := 129) dX8_inside_114 (by decide) ?_
          refine sx_reti dX8_inside_129 rfl ?_
          first
            | (rw [if_pos (show w = nI 0 from h109)] at k1; exact k1)
            | (rw [if_neg (show ¬ w = nI 0 from h109), if_pos h119] at k1; exact k1)
            | (rw [if_neg (show ¬ w = nI 0 from h109), if_neg h119] at k1; exact k1)
      · exact absurd ((nI_le (Nat.le_refl _) (by omega))) h53
    | succ q ih =>
      intro k hq hk τ o8 hf
      have hc' : τ.1 46 24 = nI nc := (hf.2.1 24 (by decide)).trans hc
      have hlg : lgM τ = lgM σ := kfr_lg (σ := th σ) hf
      have ih := ih (k + 1) (by omega) (by omega)
      have hlt := roomsV_lt P (lgM σ) (nI k) m' t'
      generalize hv : roomsV P (lgM σ) (nI k) m' t' = v at hlt
      have hb0 := and1_nI v hlt
      have i1 : insB P (lgM σ) t' m' k = decide (2 ≤ v) := by unfold insB; rw [hv]
      have i2 : sureB P (lgM σ) t' m' k = (decide (2 ≤ v) && !v.testBit 0) := by unfold sureB; rw [hv]
      have v1 : v = 1 → v.testBit 0 = true := fun e => by rw [e]; rfl
      refine sw_iload dX8_inside_47 rfl ?_
      refine sw_aloadn dX8_inside_49 rfl ?_
      refine sw_getI dX8_inside_50 fs_X8_204 o46 ?_
      rw [hc']
      refine sw_icmp_ge (tgt := 108) dX8_inside_53 (by decide) (fun h53 => ?_) (fun h53 => ?_)
      · exact absurd h53 ((by rw [nI_le' (by omega) (by omega)]; omega))
      · skip
        refine sw_aloadn dX8_inside_56 rfl ?_
        refine sw_iload dX8_inside_57 rfl ?_
        refine sw_iloadn dX8_inside_59 rfl ?_
        refine sw_iloadn dX8_inside_60 rfl ?_
        refine sx_invI3 dX8_inside_61 mk_X8_can vk_X8_can lk_X8_299 o46 (Nat.le_of_ble_eq_true rfl) (Nat.le_of_ble_eq_true rfl) ?_
        refine m_can (σ := τ) (P := P) (nc := nc) (n := n) (StdM_k hf (StdM_th (hS (by omega)))) (show k < 10 by omega) b2 (show m' ≤ n by omega) (fun τ' hf' => ?_)
        rw [hlg, hv]
        refine sw_istore dX8_inside_64 (Nat.le_of_ble_eq_true rfl) ?_
        refine sw_iload dX8_inside_66 rfl ?_
        refine sw_if_eq (tgt := 81) dX8_inside_68 (by decide) (fun h68 => ?_) (fun h68 => ?_)
        · skip
          refine sw_iload dX8_inside_81 rfl ?_
          refine sx_iconst (v := nI 2) dX8_inside_83 (by decide) ?_
          refine sw_icmp_ge (tgt := 90) dX8_inside_84 (by decide) (fun h84 => ?_) (fun h84 => ?_)
          · skip
            refine sx_iinc (nI (cnt (insB P (lgM σ) t' m') k + 1)) dX8_inside_90 rfl (nI_inc _) ?_
            refine sw_iload dX8_inside_93 rfl ?_
            refine sx_iconst (v := nI 1) dX8_inside_95 (by decide) ?_
            refine sw_iload dX8_inside_96 rfl ?_
            refine sw_ishl dX8_inside_98 ?_
            refine sw_ior dX8_inside_99 ?_
            rw [or_st _ (show k < 31 by omega)]
            refine sw_istore dX8_inside_100 (Nat.le_of_ble_eq_true rfl) ?_
            refine sx_iinc (nI (k + 1)) dX8_inside_102 rfl (nI_inc _) ?_
            refine sw_goto (tgt := 47) dX8_inside_105 (by decide) ?_
            have ih := ih τ'
            have e1 : (insB P (lgM σ) t' m' k = true ↔ 2 ≤ v) := by rw [i1, decide_eq_true_iff]
            have e2 : (sureB P (lgM σ) t' m' k = true ↔ (2 ≤ v ∧ v.testBit 0 = false)) := by rw [i2]; simp
            rw [nI_le' (by omega) (by omega)] at h84
            first
              | (have hz := nI_z (by omega) h68
                 have n1 : ¬ 2 ≤ v := by omega
                 rw [cnt, if_neg (fun z => n1 (e2.mp z).1), cnt, if_neg (fun z => n1 (e1.mp z)), bts, if_neg (fun z => n1 (e1.mp z))] at ih
                 exact ih _ (kfr_tr hf hf'))
              | (have hz := nI_z (by omega) h68
                 exact absurd h84 (by omega))
              | (have t0 := hb0.mp h75
                 rw [cnt, if_pos (e2.mpr ⟨h84, t0⟩), cnt, if_pos (e1.mpr h84), bts, if_pos (e1.mpr h84)] at ih
                 exact ih _ (kfr_tr hf hf'))
              | (have t0 := hb0.mp h75
                 have hz : ¬ v = 0 := fun e => h68 (congrArg nI e)
                 have : v = 1 := by omega
                 rw [v1 this] at t0
                 cases t0)
              | (have t0 : ¬ v.testBit 0 = false := fun z => h75 (hb0.mpr z)
                 rw [cnt, if_neg (fun z => t0 (e2.mp z).2), cnt, if_pos (e1.mpr h84), bts, if_pos (e1.mpr h84)] at ih
                 exact ih _ (kfr_tr hf hf'))
              | (have t0 : ¬ v.testBit 0 = false := fun z => h75 (hb0.mpr z)
                 rw [cnt, if_neg (fun z => t0 (e2.mp z).2), cnt, if_neg (fun z => h84 (e1.mp z)), bts, if_neg (fun z => h84 (e1.mp z))] at ih
                 exact ih _ (kfr_tr hf hf'))
          · skip
            refine sw_goto (tgt := 102) dX8_inside_87 (by decide) ?_
            refine sx_iinc (nI (k + 1)) dX8_inside_102 rfl (nI_inc _) ?_
            refine sw_goto (tgt := 47) dX8_inside_105 (by decide) ?_
            have ih := ih τ'
            have e1 : (insB P (lgM σ) t' m' k = true ↔ 2 ≤ v) := by rw [i1, decide_eq_true_iff]
            have e2 : (sureB P (lgM σ) t' m' k = true ↔ (2 ≤ v ∧ v.testBit 0 = false)) := by rw [i2]; simp
            rw [nI_le' (by omega) (by omega)] at h84
            first
              | (have hz := nI_z (by omega) h68
                 have n1 : ¬ 2 ≤ v := by omega
                 rw [cnt, if_neg (fun z => n1 (e2.mp z).1), cnt, if_neg (fun z => n1 (e1.mp z)), bts, if_neg (fun z => n1 (e1.mp z))] at ih
                 exact ih _ (kfr_tr hf hf'))
              | (have hz := nI_z (by omega) h68
                 exact absurd h84 (by omega))
              | (have t0 := hb0.mp h75
                 rw [cnt, if_pos (e2.mpr ⟨h84, t0⟩), cnt, if_pos (e1.mpr h84), bts, if_pos (e1.mpr h84)] at ih
                 exact ih _ (kfr_tr hf hf'))
              | (have t0 := hb0.mp h75
                 have hz : ¬ v = 0 := fun e => h68 (congrArg nI e)
                 have : v = 1 := by omega
                 rw [v1 this] at t0
                 cases t0)
              | (have t0 : ¬ v.testBit 0 = false := fun z => h75 (hb0.mpr z)
                 rw [cnt, if_neg (fun z => t0 (e2.mp z).2), cnt, if_pos (e1.mpr h84), bts, if_pos (e1.mpr h84)] at ih
                 exact ih _ (kfr_tr hf hf'))
              | (have t0 : ¬ v.testBit 0 = false := fun z => h75 (hb0.mpr z)
                 rw [cnt, if_neg (fun z => t0 (e2.mp z).2), cnt, if_neg (fun z => h84 (e1.mp z)), bts, if_neg (fun z => h84 (e1.mp z))] at ih
                 exact ih _ (kfr_tr hf hf'))
        · skip
          refine sw_iload dX8_inside_71 rfl ?_
          refine sx_iconst (v := nI 1) dX8_inside_73 (by decide) ?_
          refine sw_iand dX8_inside_74 ?_
          refine sw_if_ne (tgt := 81) dX8_inside_75 (by decide) (fun h75 => ?_) (fun h75 => ?_)
          · skip
            refine sw_iload dX8_inside_81 rfl ?_
            refine sx_iconst (v := nI 2) dX8_inside_83 (by decide) ?_
            refine sw_icmp_ge (tgt := 90) dX8_inside_84 (by decide) (fun h84 => ?_) (fun h84 => ?_)
            · skip
              refine sx_iinc (nI (cnt (insB P (lgM σ) t' m') k + 1)) dX8_inside_90 rfl (nI_inc _) ?_
              refine sw_iload dX8_inside_93 rfl ?_
              refine sx_iconst (v := nI 1) dX8_inside_95 (by decide) ?_
              refine sw_iload dX8_inside_96 rfl ?_
              refine sw_ishl dX8_inside_98 ?_
              refine sw_ior dX8_inside_99 ?_
              rw [or_st _ (show k < 31 by omega)]
              refine sw_istore dX8_inside_100 (Nat.le_of_ble_eq_true rfl) ?_
              refine sx_iinc (nI (k + 1)) dX8_inside_102 rfl (nI_inc _) ?_
              refine sw_goto (tgt := 47) dX8_inside_105 (by decide) ?_
              have ih := ih τ'
              have e1 : (insB P (lgM σ) t' m' k = true ↔ 2 ≤ v) := by rw [i1, decide_eq_true_iff]
              have e2 : (sureB P (lgM σ) t' m' k = true ↔ (2 ≤ v ∧ v.testBit 0 = false)) := by rw [i2]; simp
              rw [nI_le' (by omega) (by omega)] at h84
              first
                | (have hz := nI_z (by omega) h68
                   have n1 : ¬ 2 ≤ v := by omega
                   rw [cnt, if_neg (fun z => n1 (e2.mp z).1), cnt, if_neg (fun z => n1 (e1.mp z)), bts, if_neg (fun z => n1 (e1.mp z))] at ih
                   exact ih _ (kfr_tr hf hf'))
                | (have hz := nI_z (by omega) h68
                   exact absurd h84 (by omega))
                | (have t0 := hb0.mp h75
                   rw [cnt, if_pos (e2.mpr ⟨h84, t0⟩), cnt, if_pos (e1.mpr h84), bts, if_pos (e1.mpr h84)] at ih
                   exact ih _ (kfr_tr hf hf'))
                | (have t0 := hb0.mp h75
                   have hz : ¬ v = 0 := fun e => h68 (congrArg nI e)
                   have : v = 1 := by omega
                   rw [v1 this] at t0
                   cases t0)
                | (have t0 : ¬ v.testBit 0 = false := fun z => h75 (hb0.mpr z)
                   rw [cnt, if_neg (fun z => t0 (e2.mp z).2), cnt, if_pos (e1.mpr h84), bts, if_pos (e1.mpr h84)] at ih
                   exact ih _ (kfr_tr hf hf'))
                | (have t0 : ¬ v.testBit 0 = false := fun z => h75 (hb0.mpr z)
                   rw [cnt, if_neg (fun z => t0 (e2.mp z).2), cnt, if_neg (fun z => h84 (e1.mp z)), bts, if_neg (fun z => h84 (e1.mp z))] at ih
                   exact ih _ (kfr_tr hf hf'))
            · skip
              refine sw_goto (tgt := 102) dX8_inside_87 (by decide) ?_
              refine sx_iinc (nI (k + 1)) dX8_inside_102 rfl (nI_inc _) ?_
              refine sw_goto (tgt := 47) dX8_inside_105 (by decide) ?_
              have ih := ih τ'
              have e1 : (insB P (lgM σ) t' m' k = true ↔ 2 ≤ v) := by rw [i1, decide_eq_true_iff]
              have e2 : (sureB P (lgM σ) t' m' k = true ↔ (2 ≤ v ∧ v.testBit 0 = false)) := by rw [i2]; simp
              rw [nI_le' (by omega) (by omega)] at h84
              first
                | (have hz := nI_z (by omega) h68
                   have n1 : ¬ 2 ≤ v := by omega
                   rw [cnt, if_neg (fun z => n1 (e2.mp z).1), cnt, if_neg (fun z => n1 (e1.mp z)), bts, if_neg (fun z => n1 (e1.mp z))] at ih
                   exact ih _ (kfr_tr hf hf'))
                | (have hz := nI_z (by omega) h68
                   exact absurd h84 (by omega))
                | (have t0 := hb0.mp h75
                   rw [cnt, if_pos (e2.mpr ⟨h84, t0⟩), cnt, if_pos (e1.mpr h84), bts, if_pos (e1.mpr h84)] at ih
                   exact ih _ (kfr_tr hf hf'))
                | (have t0 := hb0.mp h75
                   have hz : ¬ v = 0 := fun e => h68 (congrArg nI e)
                   have : v = 1 := by omega
                   rw [v1 this] at t0
                   cases t0)
                | (have t0 : ¬ v.testBit 0 = false := fun z => h75 (hb0.mpr z)
                   rw [cnt, if_neg (fun z => t0 (e2.mp z).2), cnt, if_pos (e1.mpr h84), bts, if_pos (e1.mpr h84)] at ih
                   exact ih _ (kfr_tr hf hf'))
                | (have t0 : ¬ v.testBit 0 = false := fun z => h75 (hb0.mpr z)
                   rw [cnt, if_neg (fun z => t0 (e2.mp z).2), cnt, if_neg (fun z => h84 (e1.mp z)), bts, if_neg (fun z => h84 (e1.mp z))] at ih
                   exact ih _ (kfr_tr hf hf'))
          · skip
            refine sx_iinc (nI (cnt (sureB P (lgM σ) t' m') k + 1)) dX8_inside_78 rfl (nI_inc _) ?_
            refine sw_iload dX8_inside_81 rfl ?_
            refine sx_iconst (v := nI 2) dX8_inside_83 (by decide) ?_
            refine sw_icmp_ge (tgt := 90) dX8_inside_84 (by decide) (fun h84 => ?_) (fun h84 => ?_)
            · skip
              refine sx_iinc (nI (cnt (insB P (lgM σ) t' m') k + 1)) dX8_inside_90 rfl (nI_inc _) ?_
              refine sw_iload dX8_inside_93 rfl ?_
              refine sx_iconst (v := nI 1) dX8_inside_95 (by decide) ?_
              refine sw_iload dX8_inside_96 rfl ?_
              refine sw_ishl dX8_inside_98 ?_
              refine sw_ior dX8_inside_99 ?_
              rw [or_st _ (show k < 31 by omega)]
              refine sw_istore dX8_inside_100 (Nat.le_of_ble_eq_true rfl) ?_
              refine sx_iinc (nI (k + 1)) dX8_inside_102 rfl (nI_inc _) ?_
              refine sw_goto (tgt := 47) dX8_inside_105 (by decide) ?_
              have ih := ih τ'
              have e1 : (insB P (lgM σ) t' m' k = true ↔ 2 ≤ v) := by rw [i1, decide_eq_true_iff]
              have e2 : (sureB P (lgM σ) t' m' k = true ↔ (2 ≤ v ∧ v.testBit 0 = false)) := by rw [i2]; simp
              rw [nI_le' (by omega) (by omega)] at h84
              first
                | (have hz := nI_z (by omega) h68
                   have n1 : ¬ 2 ≤ v := by omega
                   rw [cnt, if_neg (fun z => n1 (e2.mp z).1), cnt, if_neg (fun z => n1 (e1.mp z)), bts, if_neg (fun z => n1 (e1.mp z))] at ih
                   exact ih _ (kfr_tr hf hf'))
                | (have hz := nI_z (by omega) h68
                   exact absurd h84 (by omega))
                | (have t0 := hb0.mp h75
                   rw [cnt, if_pos (e2.mpr ⟨h84, t0⟩), cnt, if_pos (e1.mpr h84), bts, if_pos (e1.mpr h84)] at ih
                   exact ih _ (kfr_tr hf hf'))
                | (have t0 := hb0.mp h75
                   have hz : ¬ v = 0 := fun e => h68 (congrArg nI e)
                   have : v = 1 := by omega
                   rw [v1 this] at t0
                   cases t0)
                | (have t0 : ¬ v.testBit 0 = false := fun z => h75 (hb0.mpr z)
                   rw [cnt, if_neg (fun z => t0 (e2.mp z).2), cnt, if_pos (e1.mpr h84), bts, if_pos (e1.mpr h84)] at ih
                   exact ih _ (kfr_tr hf hf'))
                | (have t0 : ¬ v.testBit 0 = false := fun z => h75 (hb0.mpr z)
                   rw [cnt, if_neg (fun z => t0 (e2.mp z).2), cnt, if_neg (fun z => h84 (e1.mp z)), bts, if_neg (fun z => h84 (e1.mp z))] at ih
                   exact ih _ (kfr_tr hf hf'))
            · skip
              refine sw_goto (tgt := 102) dX8_inside_87 (by decide) ?_
              refine sx_iinc (nI (k + 1)) dX8_inside_102 rfl (nI_inc _) ?_
              refine sw_goto (tgt := 47) dX8_inside_105 (by decide) ?_
              have ih := ih τ'
              have e1 : (insB P (lgM σ) t' m' k = true ↔ 2 ≤ v) := by rw [i1, decide_eq_true_iff]
              have e2 : (sureB P (lgM σ) t' m' k = true ↔ (2 ≤ v ∧ v.testBit 0 = false)) := by rw [i2]; simp
              rw [nI_le' (by omega) (by omega)] at h84
              first
                | (have hz := nI_z (by omega) h68
                   have n1 : ¬ 2 ≤ v := by omega
                   rw [cnt, if_neg (fun z => n1 (e2.mp z).1), cnt, if_neg (fun z => n1 (e1.mp z)), bts, if_neg (fun z => n1 (e1.mp z))] at ih
                   exact ih _ (kfr_tr hf hf'))
                | (have hz := nI_z (by omega) h68
                   exact absurd h84 (by omega))
                | (have t0 := hb0.mp h75
                   rw [cnt, if_pos (e2.mpr ⟨h84, t0⟩), cnt, if_pos (e1.mpr h84), bts, if_pos (e1.mpr h84)] at ih
                   exact ih _ (kfr_tr hf hf'))
                | (have t0 := hb0.mp h75
                   have hz : ¬ v = 0 := fun e => h68 (congrArg nI e)
                   have : v = 1 := by omega
                   rw [v1 this] at t0
                   cases t0)
                | (have t0 : ¬ v.testBit 0 = false := fun z => h75 (hb0.mpr z)
                   rw [cnt, if_neg (fun z => t0 (e2.mp z).2), cnt, if_pos (e1.mpr h84), bts, if_pos (e1.mpr h84)] at ih
                   exact ih _ (kfr_tr hf hf'))
                | (have t0 : ¬ v.testBit 0 = false := fun z => h75 (hb0.mpr z)
                   rw [cnt, if_neg (fun z => t0 (e2.mp z).2), cnt, if_neg (fun z => h84 (e1.mp z)), bts, if_neg (fun z => h84 (e1.mp z))] at ih
                   exact ih _ (kfr_tr hf hf'))
  refine sw_aloadn dX8_inside_0 rfl ?_
  refine sx_iconst (v := nI 0) dX8_inside_1 (by decide) ?_
  refine sw_putI dX8_inside_2 fs_X8_1 o46 ?_
  refine sw_iloadn dX8_inside_5 rfl ?_
  refine sx_insI1 dX8_inside_6 mk_X8_isTick sk_X8_isTick lk_X8_220 (Nat.le_of_ble_eq_true rfl) (Nat.le_of_ble_eq_true rfl) ?_
  refine m_isTick (fun h6 => ?_) (fun h6 => ?_)
  · skip
    refine sw_if_eq (tgt := 33) dX8_inside_9 (by decide) (fun h9 => ?_) (fun h9 => ?_)
    · exact absurd h9 (by decide)
    · skip
      refine sw_iloadn dX8_inside_12 rfl ?_
      refine sx_iconst (v := nI 0) dX8_inside_13 (by decide) ?_
      refine sw_aloadn dX8_inside_14 rfl ?_
      refine sw_getI dX8_inside_15 fs_X8_207 o46 ?_
      rw [show (th σ).1 46 25 = nI n from hn]
      refine sx_insI3 dX8_inside_18 mk_X8_within sk_X8_within lk_X8_216 (Nat.le_of_ble_eq_true rfl) (Nat.le_of_ble_eq_true rfl) ?_
      refine m_within (fun h18 => ?_) (fun h18 => ?_)
      · skip
        refine sw_if_eq (tgt := 33) dX8_inside_21 (by decide) (fun h21 => ?_) (fun h21 => ?_)
        · exact absurd h21 (by decide)
        · skip
          refine sw_iloadn dX8_inside_24 rfl ?_
          refine sx_iconst (v := nI 0) dX8_inside_25 (by decide) ?_
          refine sx_iconst (v := nI 2) dX8_inside_26 (by decide) ?_
          refine sx_insI3 dX8_inside_27 mk_X8_within sk_X8_within lk_X8_216 (Nat.le_of_ble_eq_true rfl) (Nat.le_of_ble_eq_true rfl) ?_
          refine m_within (fun h27 => ?_) (fun h27 => ?_)
          · skip
            refine sw_if_ne (tgt := 35) dX8_inside_30 (by decide) (fun h30 => ?_) (fun h30 => ?_)
            · skip
              obtain ⟨t', t1, rfl⟩ := h6
              obtain ⟨m', m1, rfl⟩ := (wi_in0 (by omega)).mp h18
              have hw : inR w 3 := (wi_in0 (n := 2) (by omega)).mp h27
              refine sx_iconst (v := nI 0) dX8_inside_35 (by decide) ?_
              refine sw_istore dX8_inside_36 (Nat.le_of_ble_eq_true rfl) ?_
              refine sx_iconst (v := nI 0) dX8_inside_38 (by decide) ?_
              refine sw_istore dX8_inside_39 (Nat.le_of_ble_eq_true rfl) ?_
              refine sx_iconst (v := nI 0) dX8_inside_41 (by decide) ?_
              refine sw_istore dX8_inside_42 (Nat.le_of_ble_eq_true rfl) ?_
              refine sx_iconst (v := nI 0) dX8_inside_44 (by decide) ?_
              refine sw_istore dX8_inside_45 (Nat.le_of_ble_eq_true rfl) ?_
              exact loop t' m' t1 m1 rfl rfl hw nc 0 (by omega) (by omega) (th σ) _ kfr_rf
            · exact absurd h30 (by decide)
          · skip
            refine sw_if_ne (tgt := 35) dX8_inside_30 (by decide) (fun h30 => ?_) (fun h30 => ?_)
            · exact absurd h30 (by decide)
            · skip
              refine sx_iconst (v := (-1)) dX8_inside_33 (by decide) ?_
              refine sx_reti dX8_inside_34 rfl ?_
              first
                | exact k0 (fun q => h6 q.1)
                | exact k0 (fun q => h18 ((wi_in0 (by omega)).mpr q.2.1))
                | exact k0 (fun q => h27 ((wi_in0 (n := 2) (by omega)).mpr q.2.2))
      · skip
        refine sw_if_eq (tgt := 33) dX8_inside_21 (by decide) (fun h21 => ?_) (fun h21 => ?_)
        · skip
          refine sx_iconst (v := (-1)) dX8_inside_33 (by decide) ?_
          refine sx_reti dX8_inside_34 rfl ?_
          first
            | exact k0 (fun q => h6 q.1)
            | exact k0 (fun q => h18 ((wi_in0 (by omega)).mpr q.2.1))
            | exact k0 (fun q => h27 ((wi_in0 (n := 2) (by omega)).mpr q.2.2))
        · exact absurd h21 (by decide)
  · skip
    refine sw_if_eq (tgt := 33) dX8_inside_9 (by decide) (fun h9 => ?_) (fun h9 => ?_)
    · skip
      refine sx_iconst (v := (-1)) dX8_inside_33 (by decide) ?_
      refine sx_reti dX8_inside_34 rfl ?_
      first
        | exact k0 (fun q => h6 q.1)
        | exact k0 (fun q => h18 ((wi_in0 (by omega)).mpr q.2.1))
        | exact k0 (fun q => h27 ((wi_in0 (n := 2) (by omega)).mpr q.2.2))
    · exact absurd h9 (by decide)
end MPUB3
