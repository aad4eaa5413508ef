/-! ===== the model: can, rooms, way, broken, many, inside ===== -/
def StdM (σ : Mem) (P : PL) (nc n : Nat) : Prop := PlM σ P ∧ PV P ∧ 0 < pR P ∧ n ≤ 100 ∧ LV P nc n (lgM σ) ∧ (∀ c, c < 10 → pcN (lgM σ) (nI c) n ≤ 12)
theorem StdM_k {σ τ : Mem} {P : PL} {nc n : Nat} (h : kfr σ τ) (hS : StdM σ P nc n) : StdM τ P nc n := by
  obtain ⟨h1, h2, h3, h4, h5, h6⟩ := hS
  exact ⟨kfr_Pl h h1, h2, h3, h4, by rw [kfr_lg h]; exact h5, by rw [kfr_lg h]; exact h6⟩
theorem StdM_th {σ : Mem} {P : PL} {nc n : Nat} (hS : StdM σ P nc n) : StdM (th σ) P nc n := hS
theorem nI_nm1 {k : Nat} (hk : k < 100000) : ¬ nI k = (-1 : Int32) := fun q => nI_m1 hk q.symm
/-- in stage j, in that room -/
def CJ (P : PL) (K : WK) (t j r : Nat) : Prop := ∃ a, rch P K (t + 1) j r a ∧ hop P K (199 - t) j r a
section MPUB
variable {G : GG} {d : Nat} {σ : Mem}
theorem m_canT {f : Int32 → Mem → Prop} {P : PL} {K : WK} {nc n m c t : Nat} {F : Nat → Nat} (hW : WP σ P K nc n F) (hR : 0 < pR P) (ht : t < 200) (hF : ∀ j, j ≤ kN K → cel6 (σ.2 71 (13 * (t + 1) + j)) (arch P K (t + 1) j)) (hB : ∀ j, j ≤ kN K → cel6 (σ.2 72 (13 * (t + 1) + j)) (fun rm g => rm < pR P ∧ hop P K (199 - t) j rm (pW P rm - g))) (h : f (nI (rmN (can P K t))) σ) : SW G (d + 3) M_X8_can 21 [some (.ref 46), some (.int (nI c)), some (.int (nI t)), some (.int (nI m)), some (.int (nI 0)), some (.int (nI 0)), none, none, none] [] σ (RI f) := by
  have hV := hW.1.2.1
  have hK := hW.1.2.2.1
  have h12 := hK.1
  have h8 := hV.1
  have hx : ∀ j, j ≤ kN K → cel6 (σ.2 71 (13 * (t + 1) + j) &&& σ.2 72 (13 * (t + 1) + j)) (fun rm g => arch P K (t + 1) j rm g ∧ (rm < pR P ∧ hop P K (199 - t) j rm (pW P rm - g))) := fun j hj => cel6_and (hF j hj) (hB j hj).1
  have hcj : ∀ j r, CJ P K t j r → j ≤ kN K ∧ r < pR P := fun j r ⟨a, w, _⟩ => ⟨(rch_in hV hK hR _ _ _ _ w).1, (rch_in hV hK hR _ _ _ _ w).2.1⟩
  have hcj2 : ∀ j r, (∃ g, g < 6 ∧ arch P K (t + 1) j r g ∧ (r < pR P ∧ hop P K (199 - t) j r (pW P r - g))) ↔ CJ P K t j r := by
    intro j r
    constructor
    · rintro ⟨g, b1, b2, b3, b4⟩; exact ⟨_, (arch_rch hV hK hR _ _ _ _).mpr ⟨g, b1, b2, rfl⟩, b4⟩
    · rintro ⟨a, b1, b2⟩
      obtain ⟨g, c1, c2, rfl⟩ := (arch_rch hV hK hR _ _ _ _).mp b1
      exact ⟨g, c1, c2, (arch_in hV hK hR _ _ _ _ c2).2.1, b2⟩
  have outer : ∀ (q s : Nat), q = kN K + 1 - s → s ≤ kN K + 1 → ∀ B o6 o7 o8, B < 256 → (∀ r, B.testBit r = true ↔ ∃ j, j < s ∧ CJ P K t j r) → SW G (d + 3) M_X8_can 21 [some (.ref 46), some (.int (nI c)), some (.int (nI t)), some (.int (nI m)), some (.int (nI B)), some (.int (nI s)), o6, o7, o8] [] σ (RI f) := by
    intro q
    induction q with
    | zero =>
      intro s hq hs B o6 o7 o8 hB hbit
      obtain rfl : s = kN K + 1 := by omega
      have eB : B = rmN (can P K t) := by
        apply Nat.eq_of_testBit_eq
        intro r
        rw [Bool.eq_iff_iff, rmN_bit, hbit]
        constructor
        · rintro ⟨j, b1, b2⟩
          have := (hcj j r b2).2
          exact ⟨by omega, j, b2⟩
        · rintro ⟨-, j, a, b⟩
          have := (hcj j r ⟨a, b⟩).1
          exact ⟨j, by omega, a, b⟩
      refine sw_iload dX8_can_21 rfl ?_
      refine sw_aloadn dX8_can_23 rfl ?_
      refine sw_getI dX8_can_24 fs_X8_235 o46 ?_
      rw [hW.2]
      refine sw_icmp_gt (tgt := 107) dX8_can_27 (by decide) (fun h27 => ?_) (fun h27 => ?_)
      · skip
        refine sw_iload dX8_can_107 rfl ?_
        refine sx_reti dX8_can_109 rfl ?_
        rw [eB]; exact h
      · exact absurd ((nI_lt (by omega) (by omega))) h27
    | succ q ih =>
      intro s hq hs B o6 o7 o8 hB hbit
      have hs' : s ≤ kN K := by omega
      have inner : ∀ (p k : Nat), p = pR P - k → k ≤ pR P → ∀ B, B < 256 → (∀ r, B.testBit r = true ↔ ((∃ j, j < s ∧ CJ P K t j r) ∨ (r < k ∧ CJ P K t s r))) → SW G (d + 3) M_X8_can 64 [some (.ref 46), some (.int (nI c)), some (.int (nI t)), some (.int (nI m)), some (.int (nI B)), some (.int (nI s)), some (.long (σ.2 71 (13 * (t + 1) + s) &&& σ.2 72 (13 * (t + 1) + s))), none, some (.int (nI k))] [] σ (RI f) := by
        intro p
        induction p with
        | zero =>
          intro k hp hk B hB hbit
          obtain rfl : k = pR P := by omega
          refine sw_iload dX8_can_64 rfl ?_
          refine sw_aloadn dX8_can_66 rfl ?_
          refine sw_getI dX8_can_67 fs_X8_198 o46 ?_
          rw [hW.1.1.1]
          refine sw_icmp_ge (tgt := 101) dX8_can_70 (by decide) (fun h70 => ?_) (fun h70 => ?_)
          · skip
            refine sx_iinc (nI (s + 1)) dX8_can_101 rfl (nI_inc _) ?_
            refine sw_goto (tgt := 21) dX8_can_104 (by decide) ?_
            refine ih (s + 1) (by omega) (by omega) B _ _ _ hB (fun r => ?_)
            rw [hbit]
            constructor
            · rintro (⟨j, b1, b2⟩ | ⟨b1, b2⟩)
              · exact ⟨j, by omega, b2⟩
              · exact ⟨s, by omega, b2⟩
            · rintro ⟨j, b1, b2⟩
              by_cases e : j = s
              · subst e; exact Or.inr ⟨(hcj _ _ b2).2, b2⟩
              · exact Or.inl ⟨j, by omega, b2⟩
          · exact absurd ((nI_le (Nat.le_refl _) (by omega))) h70
        | succ p ihp =>
          intro k hp hk B hB hbit
          refine sw_iload dX8_can_64 rfl ?_
          refine sw_aloadn dX8_can_66 rfl ?_
          refine sw_getI dX8_can_67 fs_X8_198 o46 ?_
          rw [hW.1.1.1]
          refine sw_icmp_ge (tgt := 101) dX8_can_70 (by decide) (fun h70 => ?_) (fun h70 => ?_)
          · exact absurd h70 ((by rw [nI_le' (by omega) (by omega)]; omega))
          · skip
            refine sw_lload dX8_can_73 rfl ?_
            refine sw_iload dX8_can_75 rfl ?_
            refine sx_insJ1 dX8_can_77 mk_X8_states sk_X8_states lk_X8_249 (Nat.le_of_ble_eq_true rfl) (Nat.le_of_ble_eq_true rfl) ?_
            refine m_states (show k < 8 by omega) (fun z hz => ?_)
            refine sw_land dX8_can_80 ?_
            refine sx_lconst (v := 0) dX8_can_81 (by decide) ?_
            refine sw_lc_eq (tgt := 95) dX8_can_82 dX8_can_83 (by decide) (fun h82 => ?_) (fun h82 => ?_)
            · skip
              refine sx_iinc (nI (k + 1)) dX8_can_95 rfl (nI_inc _) ?_
              refine sw_goto (tgt := 64) dX8_can_98 (by decide) ?_
              first
                | (have hne := (hcj2 s k).mp ((st_ne0 (show k < 8 by omega) (hx s hs') hz).mp h82)
                   refine ihp (k + 1) (by omega) (by omega) _ (or_lt (b := 8) hB (by omega)) (fun r => ?_)
                   rw [tb_or, Bool.or_eq_true, decide_eq_true_iff, hbit]
                   constructor
                   · rintro ((w | ⟨w1, w2⟩) | rfl)
                     · exact Or.inl w
                     · exact Or.inr ⟨by omega, w2⟩
                     · exact Or.inr ⟨by omega, hne⟩
                   · rintro (w | ⟨w1, w2⟩)
                     · exact Or.inl (Or.inl w)
                     · by_cases e : r = k
                       · exact Or.inr e
                       · exact Or.inl (Or.inr ⟨by omega, w2⟩))
                | (have hne : ¬ CJ P K t s k := fun w => absurd ((st_ne0 (show k < 8 by omega) (hx s hs') hz).mpr ((hcj2 s k).mpr w)) (fun q => q h82)
                   refine ihp (k + 1) (by omega) (by omega) _ hB (fun r => ?_)
                   rw [hbit]
                   refine or_congr Iff.rfl ⟨fun w => ⟨by omega, w.2⟩, fun w => ⟨?_, w.2⟩⟩
                   have : ¬ r = k := fun e => hne (e ▸ w.2)
                   omega)
            · skip
              refine sw_iload dX8_can_86 rfl ?_
              refine sx_iconst (v := nI 1) dX8_can_88 (by decide) ?_
              refine sw_iload dX8_can_89 rfl ?_
              refine sw_ishl dX8_can_91 ?_
              refine sw_ior dX8_can_92 ?_
              rw [or_st _ (show k < 31 by omega)]
              refine sw_istore dX8_can_93 (Nat.le_of_ble_eq_true rfl) ?_
              refine sx_iinc (nI (k + 1)) dX8_can_95 rfl (nI_inc _) ?_
              refine sw_goto (tgt := 64) dX8_can_98 (by decide) ?_
              first
                | (have hne := (hcj2 s k).mp ((st_ne0 (show k < 8 by omega) (hx s hs') hz).mp h82)
                   refine ihp (k + 1) (by omega) (by omega) _ (or_lt (b := 8) hB (by omega)) (fun r => ?_)
                   rw [tb_or, Bool.or_eq_true, decide_eq_true_iff, hbit]
                   constructor
                   · rintro ((w | ⟨w1, w2⟩) | rfl)
                     · exact Or.inl w
                     · exact Or.inr ⟨by omega, w2⟩
                     · exact Or.inr ⟨by omega, hne⟩
                   · rintro (w | ⟨w1, w2⟩)
                     · exact Or.inl (Or.inl w)
                     · by_cases e : r = k
                       · exact Or.inr e
                       · exact Or.inl (Or.inr ⟨by omega, w2⟩))
                | (have hne : ¬ CJ P K t s k := fun w => absurd ((st_ne0 (show k < 8 by omega) (hx s hs') hz).mpr ((hcj2 s k).mpr w)) (fun q => q h82)
                   refine ihp (k + 1) (by omega) (by omega) _ hB (fun r => ?_)
                   rw [hbit]
                   refine or_congr Iff.rfl ⟨fun w => ⟨by omega, w.2⟩, fun w => ⟨?_, w.2⟩⟩
                   have : ¬ r = k := fun e => hne (e ▸ w.2)
                   omega)
      refine sw_iload dX8_can_21 rfl ?_
      refine sw_aloadn dX8_can_23 rfl ?_
      refine sw_getI dX8_can_24 fs_X8_235 o46 ?_
      rw [hW.2]
      refine sw_icmp_gt (tgt := 107) dX8_can_27 (by decide) (fun h27 => ?_) (fun h27 => ?_)
      · exact absurd h27 ((by rw [nI_lt' (by omega) (by omega)]; omega))
      · skip
        refine sw_aloadn dX8_can_30 rfl ?_
        refine sw_getR dX8_can_31 fs_X8_92 o46 r46_41 ?_
        refine sx_bipush (v := nI 13) dX8_can_34 (by decide) ?_
        refine sw_iloadn dX8_can_36 rfl ?_
        refine sx_iconst (v := nI 1) dX8_can_37 (by decide) ?_
        refine sw_iadd dX8_can_38 ?_
        refine sw_topI (y := nI (t + 1)) (nI_1 t) ?_
        refine sw_imul dX8_can_39 ?_
        refine sw_iload dX8_can_40 rfl ?_
        refine sw_iadd dX8_can_42 ?_
        refine sx_lald (13 * (t + 1) + s) dX8_can_43 a71 (by rw [nI_mul, nI_add]) (by omega) (by decide) ?_
        refine sw_aloadn dX8_can_44 rfl ?_
        refine sw_getR dX8_can_45 fs_X8_95 o46 r46_42 ?_
        refine sx_bipush (v := nI 13) dX8_can_48 (by decide) ?_
        refine sw_iloadn dX8_can_50 rfl ?_
        refine sx_iconst (v := nI 1) dX8_can_51 (by decide) ?_
        refine sw_iadd dX8_can_52 ?_
        refine sw_topI (y := nI (t + 1)) (nI_1 t) ?_
        refine sw_imul dX8_can_53 ?_
        refine sw_iload dX8_can_54 rfl ?_
        refine sw_iadd dX8_can_56 ?_
        refine sx_lald (13 * (t + 1) + s) dX8_can_57 a72 (by rw [nI_mul, nI_add]) (by omega) (by decide) ?_
        refine sw_land dX8_can_58 ?_
        refine sw_lstore dX8_can_59 (Nat.le_of_ble_eq_true rfl) ?_
        refine sx_iconst (v := nI 0) dX8_can_61 (by decide) ?_
        refine sw_istore dX8_can_62 (Nat.le_of_ble_eq_true rfl) ?_
        exact inner (pR P) 0 (by omega) (by omega) B hB (fun r => by rw [hbit]; exact ⟨Or.inl, fun w => w.elim id (fun w => absurd w.1 (by omega))⟩)
  exact outer (kN K + 1) 0 (by omega) (by omega) 0 _ _ _ (by omega) (fun r => by rw [Nat.zero_testBit]; exact ⟨fun w => Bool.noConfusion w, fun ⟨j, w, _⟩ => absurd w (by omega)⟩)
theorem m_can {f : Int32 → Mem → Prop} {P : PL} {nc n m c t : Nat} (hS : StdM σ P nc n) (hc : c < 10) (ht : t < 200) (hm : m ≤ n) (h : ∀ τ, kfr σ τ → f (nI (roomsV P (lgM σ) (nI c) m t)) τ) : SW G (d + 3) M_X8_can 0 [some (.ref 46), some (.int (nI c)), some (.int (nI t)), some (.int (nI m)), none, none, none, none, none] [] σ (RI f) := by
  obtain ⟨hP, hV, hR, hn, hL, h12⟩ := hS
  refine sw_aloadn dX8_can_0 rfl ?_
  refine sw_iloadn dX8_can_1 rfl ?_
  refine sw_iloadn dX8_can_2 rfl ?_
  refine sx_iconst (v := nI 1) dX8_can_3 (by decide) ?_
  refine sx_invV3 dX8_can_4 mk_X8_knows vk_X8_knows lk_X8_289 o46 (Nat.le_of_ble_eq_true rfl) (Nat.le_of_ble_eq_true rfl) ?_
  refine m_knows (S := skn (lgM σ) (nI c) m) hP hV hn hm hL (h12 c hc) (nI_nm1 (by omega)) (Or.inr rfl) (fun t rm => ⟨fun w _ => w, fun w => w rfl⟩) (fun τ1 f1 hW1 => ?_)
  refine sw_aloadn dX8_can_7 rfl ?_
  refine sx_invV0 dX8_can_8 mk_X8_fillFront vk_X8_fillFront lk_X8_293 o46 (Nat.le_of_ble_eq_true rfl) (Nat.le_of_ble_eq_true rfl) ?_
  refine m_fillFront hW1 hR (fun τ2 f2 e72 hF2 => ?_)
  refine sw_aloadn dX8_can_11 rfl ?_
  refine sx_invV0 dX8_can_12 mk_X8_fillBack vk_X8_fillBack lk_X8_296 o46 (Nat.le_of_ble_eq_true rfl) (Nat.le_of_ble_eq_true rfl) ?_
  refine m_fillBack (WP_fr hW1 f2) (fun τ3 f3 hB3 => ?_)
  refine sx_iconst (v := nI 0) dX8_can_15 (by decide) ?_
  refine sw_istore dX8_can_16 (Nat.le_of_ble_eq_true rfl) ?_
  refine sx_iconst (v := nI 0) dX8_can_18 (by decide) ?_
  refine sw_istore dX8_can_19 (Nat.le_of_ble_eq_true rfl) ?_
  refine m_canT (WP_fr (WP_fr hW1 f2) (fr_wide f3 (by omega) (by omega))) hR ht (fun j hj => ?_) (fun j hj => hB3 (t + 1) (by omega) j hj) (h τ3 (kfr_tr f1 (kfr_tr (kfr_fr f2 (by omega) (by omega)) (kfr_fr f3 (by omega) (by omega)))))
  rw [(f3 71 (by omega)).2]
  exact hF2 (t + 1) (by omega) j hj
theorem m_rooms {f : Int32 → Mem → Prop} {P : PL} {nc n : Nat} {x t m : Int32} (hc : σ.1 46 24 = nI nc) (hcb : nc ≤ 10) (hn : σ.1 46 25 = nI n) (hnb : n ≤ 100) (hS : 0 < nc → StdM σ P nc n) (k1 : ∀ c t' m', c < nc → t' < 200 → m' < n + 1 → x = nI c → t = nI t' → m = nI m' → ∀ τ, kfr (th σ) τ → f (nI (roomsV P (lgM σ) (nI c) m' t')) τ) (k0 : ¬ (inR x nc ∧ inR t 200 ∧ inR m (n + 1)) → f (-1) (th σ)) : SW G (d + 4) M_X8_rooms 0 [some (.ref 46), some (.int x), some (.int t), some (.int m)] [] σ (RI f) := by
  refine sw_aloadn dX8_rooms_0 rfl ?_
  refine sx_iconst (v := nI 0) dX8_rooms_1 (by decide) ?_
  refine sw_putI dX8_rooms_2 fs_X8_1 o46 ?_
  refine sw_aloadn dX8_rooms_5 rfl ?_
  refine sw_iloadn dX8_rooms_6 rfl ?_
  refine sx_invI1 dX8_rooms_7 mk_X8_isCard vk_X8_isCard lk_X8_213 o46 (Nat.le_of_ble_eq_true rfl) (Nat.le_of_ble_eq_true rfl) ?_
  refine m_isCard (σ := th σ) hc hcb (fun h7 => ?_) (fun h7 => ?_)
  · skip
    refine sw_if_eq (tgt := 42) dX8_rooms_10 (by decide) (fun h10 => ?_) (fun h10 => ?_)
    · exact absurd h10 (by decide)
    · skip
      refine sw_iloadn dX8_rooms_13 rfl ?_
      refine sx_insI1 dX8_rooms_14 mk_X8_isTick sk_X8_isTick lk_X8_220 (Nat.le_of_ble_eq_true rfl) (Nat.le_of_ble_eq_true rfl) ?_
      refine m_isTick (fun h14 => ?_) (fun h14 => ?_)
      · skip
        refine sw_if_eq (tgt := 42) dX8_rooms_17 (by decide) (fun h17 => ?_) (fun h17 => ?_)
        · exact absurd h17 (by decide)
        · skip
          refine sw_iloadn dX8_rooms_20 rfl ?_
          refine sx_iconst (v := nI 0) dX8_rooms_21 (by decide) ?_
          refine sw_aloadn dX8_rooms_22 rfl ?_
          refine sw_getI dX8_rooms_23 fs_X8_207 o46 ?_
          rw [show (th σ).1 46 25 = nI n from hn]
          refine sx_insI3 dX8_rooms_26 mk_X8_within sk_X8_within lk_X8_216 (Nat.le_of_ble_eq_true rfl) (Nat.le_of_ble_eq_true rfl) ?_
          refine m_within (fun h26 => ?_) (fun h26 => ?_)
          · skip
            refine sw_if_eq (tgt := 42) dX8_rooms_29 (by decide) (fun h29 => ?_) (fun h29 => ?_)
            · exact absurd h29 (by decide)
            · skip
              obtain ⟨c, c1, rfl⟩ := h7
              obtain ⟨t', t1, rfl⟩ := h14
              obtain ⟨m', m1, rfl⟩ := (wi_in0 (by omega)).mp h26
              refine sw_aloadn dX8_rooms_32 rfl ?_
              refine sw_iloadn dX8_rooms_33 rfl ?_
              refine sw_iloadn dX8_rooms_34 rfl ?_
              refine sw_iloadn dX8_rooms_35 rfl ?_
              refine sx_invI3 dX8_rooms_36 mk_X8_can vk_X8_can lk_X8_299 o46 (Nat.le_of_ble_eq_true rfl) (Nat.le_of_ble_eq_true rfl) ?_
              refine m_can (σ := th σ) (P := P) (nc := nc) (n := n) (hS (by omega)) (show c < 10 by omega) t1 (show m' ≤ n by omega) (fun τ hf => ?_)
              refine sw_goto (tgt := 43) dX8_rooms_39 (by decide) ?_
              refine sx_reti dX8_rooms_43 rfl ?_
              first
                | exact k1 c t' m' c1 t1 m1 rfl rfl rfl τ hf
                | exact k0 (fun q => h7 q.1)
                | exact k0 (fun q => h14 q.2.1)
                | exact k0 (fun q => h26 ((wi_in0 (by omega)).mpr q.2.2))
          · skip
            refine sw_if_eq (tgt := 42) dX8_rooms_29 (by decide) (fun h29 => ?_) (fun h29 => ?_)
            · skip
              refine sx_iconst (v := (-1)) dX8_rooms_42 (by decide) ?_
              refine sx_reti dX8_rooms_43 rfl ?_
              first
                | exact k1 c t' m' c1 t1 m1 rfl rfl rfl τ hf
                | exact k0 (fun q => h7 q.1)
                | exact k0 (fun q => h14 q.2.1)
                | exact k0 (fun q => h26 ((wi_in0 (by omega)).mpr q.2.2))
            · exact absurd h29 (by decide)
      · skip
        refine sw_if_eq (tgt := 42) dX8_rooms_17 (by decide) (fun h17 => ?_) (fun h17 => ?_)
        · skip
          refine sx_iconst (v := (-1)) dX8_rooms_42 (by decide) ?_
          refine sx_reti dX8_rooms_43 rfl ?_
          first
            | exact k1 c t' m' c1 t1 m1 rfl rfl rfl τ hf
            | exact k0 (fun q => h7 q.1)
            | exact k0 (fun q => h14 q.2.1)
            | exact k0 (fun q => h26 ((wi_in0 (by omega)).mpr q.2.2))
        · exact absurd h17 (by decide)
  · skip
    refine sw_if_eq (tgt := 42) dX8_rooms_10 (by decide) (fun h10 => ?_) (fun h10 => ?_)
    · skip
      refine sx_iconst (v := (-1)) dX8_rooms_42 (by decide) ?_
      refine sx_reti dX8_rooms_43 rfl ?_
      first
        | exact k1 c t' m' c1 t1 m1 rfl rfl rfl τ hf
        | exact k0 (fun q => h7 q.1)
        | exact k0 (fun q => h14 q.2.1)
        | exact k0 (fun q => h26 ((wi_in0 (by omega)).mpr q.2.2))
    · exact absurd h10 (by decide)
theorem m_broken {f : Int32 → Mem → Prop} {P : PL} {nc n : Nat} {x m : Int32} (hc : σ.1 46 24 = nI nc) (hcb : nc ≤ 10) (hn : σ.1 46 25 = nI n) (hnb : n ≤ 100) (hS : 0 < nc → StdM σ P nc n) (k1 : ∀ c m', c < nc → m' < n + 1 → x = nI c → m = nI m' → ∀ s, s < pcN (lgM σ) (nI c) m' → (∀ k, 0 < k → k ≤ s → wlk P (wkG P (lgM σ) (nI c) m' (fun _ _ => True)) k) → ¬ wlk P (wkG P (lgM σ) (nI c) m' (fun _ _ => True)) (s + 1) → ∀ τ, kfr (th σ) τ → f (nI (pfF (lgM σ) (nI c) m' s)) τ) (k2 : ∀ c m', c < nc → m' < n + 1 → x = nI c → m = nI m' → (∀ k, 0 < k → k ≤ pcN (lgM σ) (nI c) m' → wlk P (wkG P (lgM σ) (nI c) m' (fun _ _ => True)) k) → ∀ τ, kfr (th σ) τ → f (-1) τ) (k0 : ¬ (inR x nc ∧ inR m (n + 1)) → f (-1) (th σ)) : SW G (d + 3) M_X8_broken 0 [some (.ref 46), some (.int x), some (.int m), none] [] σ (RI f) := by
  have loop : ∀ c m', c < nc → m' < n + 1 → x = nI c → m = nI m' → ∀ (q k : Nat), q = pcN (lgM σ) (nI c) m' + 1 - k → 0 < k → k ≤ pcN (lgM σ) (nI c) m' + 1 → (∀ k', 0 < k' → k' < k → wlk P (wkG P (lgM σ) (nI c) m' (fun _ _ => True)) k') → ∀ τ, kfr (th σ) τ → WP τ P (wkG P (lgM σ) (nI c) m' (fun _ _ => True)) nc n (pfF (lgM σ) (nI c) m') → SW G (d + 3) M_X8_broken 36 [some (.ref 46), some (.int (nI c)), some (.int (nI m')), some (.int (nI k))] [] τ (RI f) := by
    intro c m' b1 b2 b3 b4 q
    have h12 : ∀ τ, WP τ P (wkG P (lgM σ) (nI c) m' (fun _ _ => True)) nc n (pfF (lgM σ) (nI c) m') → pcN (lgM σ) (nI c) m' ≤ 12 := fun τ hW => hW.1.2.2.1.1
    induction q with
    | zero =>
      intro k hq hk0 hk hw τ hf hW
      obtain rfl : k = pcN (lgM σ) (nI c) m' + 1 := by omega
      have hc12 := h12 τ hW
      refine sw_iloadn dX8_broken_36 rfl ?_
      refine sw_aloadn dX8_broken_37 rfl ?_
      refine sw_getI dX8_broken_38 fs_X8_235 o46 ?_
      rw [hW.2]
      refine sw_icmp_gt (tgt := 67) dX8_broken_41 (by decide) (fun h41 => ?_) (fun h41 => ?_)
      · skip
        refine sx_iconst (v := (-1)) dX8_broken_67 (by decide) ?_
        refine sx_reti dX8_broken_68 rfl ?_
        exact k2 c m' b1 b2 b3 b4 (fun k' x1 x2 => hw k' x1 (by omega)) τ hf
      · exact absurd ((nI_lt (show pcN (lgM σ) (nI c) m' < pcN (lgM σ) (nI c) m' + 1 by omega) (by omega))) h41
    | succ q ih =>
      intro k hq hk0 hk hw τ hf hW
      have hc12 := h12 τ hW
      have hst := (hW.1.2.2.2.2.2.1)
      obtain ⟨hP, hV, hR, -⟩ := hS (by omega)
      refine sw_iloadn dX8_broken_36 rfl ?_
      refine sw_aloadn dX8_broken_37 rfl ?_
      refine sw_getI dX8_broken_38 fs_X8_235 o46 ?_
      rw [hW.2]
      refine sw_icmp_gt (tgt := 67) dX8_broken_41 (by decide) (fun h41 => ?_) (fun h41 => ?_)
      · exact absurd h41 ((show ¬ nI (pcN (lgM σ) (nI c) m') < nI k by rw [nI_lt' (by omega) (by omega)]; omega))
      · skip
        refine sw_aloadn dX8_broken_44 rfl ?_
        refine sw_iloadn dX8_broken_45 rfl ?_
        refine sx_invI1 dX8_broken_46 mk_X8_isWalked vk_X8_isWalked lk_X8_306 o46 (Nat.le_of_ble_eq_true rfl) (Nat.le_of_ble_eq_true rfl) ?_
        refine m_isWalked hW hR (show k ≤ pcN (lgM σ) (nI c) m' by omega) (fun hwk τ' hf' => ?_) (fun hwk τ' hf' => ?_)
        · refine sw_if_ne (tgt := 61) dX8_broken_49 (by decide) (fun _ => ?_) (fun w => absurd w (by decide))
          refine sx_iinc (nI (k + 1)) dX8_broken_61 rfl (nI_inc _) ?_
          refine sw_goto (tgt := 36) dX8_broken_64 (by decide) ?_
          refine ih (k + 1) (by omega) (by omega) (by omega) (fun k' x1 x2 => ?_) τ' (kfr_tr hf (kfr_fr hf' (by omega) (by omega))) (WP_fr hW (fr_wide hf' (by omega) (by omega)))
          by_cases e : k' = k
          · subst e; exact hwk
          · exact hw k' x1 (by omega)
        · refine sw_if_ne (tgt := 61) dX8_broken_49 (by decide) (fun w => absurd rfl w) (fun _ => ?_)
          refine sw_aloadn dX8_broken_52 rfl ?_
          refine sw_getR dX8_broken_53 fs_X8_82 o46 r46_37 ?_
          refine sw_iloadn dX8_broken_56 rfl ?_
          refine sx_iconst (v := nI 1) dX8_broken_57 (by decide) ?_
          refine sw_isub dX8_broken_58 ?_
          refine sx_iald (k - 1) dX8_broken_59 a68 (nI_sub (by omega)) (by omega) (by decide) ?_
          rw [(hf' 68 (by omega)).1, (hst (k - 1) (show k - 1 < pcN (lgM σ) (nI c) m' by omega)).1]
          refine sx_reti dX8_broken_60 rfl ?_
          exact k1 c m' b1 b2 b3 b4 (k - 1) (by omega) (fun k' x1 x2 => hw k' x1 (by omega)) (by rw [Nat.sub_add_cancel hk0]; exact hwk) _ (kfr_tr hf (kfr_fr hf' (by omega) (by omega)))
  refine sw_aloadn dX8_broken_0 rfl ?_
  refine sx_iconst (v := nI 0) dX8_broken_1 (by decide) ?_
  refine sw_putI dX8_broken_2 fs_X8_1 o46 ?_
  refine sw_aloadn dX8_broken_5 rfl ?_
  refine sw_iloadn dX8_broken_6 rfl ?_
  refine sx_invI1 dX8_broken_7 mk_X8_isCard vk_X8_isCard lk_X8_213 o46 (Nat.le_of_ble_eq_true rfl) (Nat.le_of_ble_eq_true rfl) ?_
  refine m_isCard (σ := th σ) hc hcb (fun h7 => ?_) (fun h7 => ?_)
  · skip
    refine sw_if_eq (tgt := 25) dX8_broken_10 (by decide) (fun h10 => ?_) (fun h10 => ?_)
    · exact absurd h10 (by decide)
    · skip
      refine sw_iloadn dX8_broken_13 rfl ?_
      refine sx_iconst (v := nI 0) dX8_broken_14 (by decide) ?_
      refine sw_aloadn dX8_broken_15 rfl ?_
      refine sw_getI dX8_broken_16 fs_X8_207 o46 ?_
      rw [show (th σ).1 46 25 = nI n from hn]
      refine sx_insI3 dX8_broken_19 mk_X8_within sk_X8_within lk_X8_216 (Nat.le_of_ble_eq_true rfl) (Nat.le_of_ble_eq_true rfl) ?_
      refine m_within (fun h19 => ?_) (fun h19 => ?_)
      · skip
        refine sw_if_ne (tgt := 27) dX8_broken_22 (by decide) (fun h22 => ?_) (fun h22 => ?_)
        · skip
          obtain ⟨c, c1, rfl⟩ := h7
          obtain ⟨m', m1, rfl⟩ := (wi_in0 (by omega)).mp h19
          obtain ⟨hP, hV, hR, -, hL, h12⟩ := hS (by omega)
          refine sw_aloadn dX8_broken_27 rfl ?_
          refine sw_iloadn dX8_broken_28 rfl ?_
          refine sw_iloadn dX8_broken_29 rfl ?_
          refine sx_iconst (v := nI 0) dX8_broken_30 (by decide) ?_
          refine sx_invV3 dX8_broken_31 mk_X8_knows vk_X8_knows lk_X8_289 o46 (Nat.le_of_ble_eq_true rfl) (Nat.le_of_ble_eq_true rfl) ?_
          refine m_knows (σ := th σ) (P := P) (nc := nc) (n := n) (S := fun _ _ => True) hP hV hnb (show m' ≤ n by omega) hL (h12 c (by omega)) (nI_nm1 (by omega)) (Or.inl rfl) (fun t rm => ⟨fun _ w => absurd w (by decide), fun _ => trivial⟩) (fun τ1 f1 hW1 => ?_)
          refine sx_iconst (v := nI 1) dX8_broken_34 (by decide) ?_
          refine sw_istoren dX8_broken_35 (Nat.le_of_ble_eq_true rfl) ?_
          exact loop c m' c1 m1 rfl rfl (pcN (lgM σ) (nI c) m') 1 (by omega) (by omega) (by omega) (fun k' x1 x2 => absurd x1 (by omega)) τ1 f1 hW1
        · exact absurd h22 (by decide)
      · skip
        refine sw_if_ne (tgt := 27) dX8_broken_22 (by decide) (fun h22 => ?_) (fun h22 => ?_)
        · exact absurd h22 (by decide)
        · skip
          refine sx_iconst (v := (-1)) dX8_broken_25 (by decide) ?_
          refine sx_reti dX8_broken_26 rfl ?_
          first
            | exact k0 (fun q => h7 q.1)
            | exact k0 (fun q => h19 ((wi_in0 (by omega)).mpr q.2))
  · skip
    refine sw_if_eq (tgt := 25) dX8_broken_10 (by decide) (fun h10 => ?_) (fun h10 => ?_)
    · skip
      refine sx_iconst (v := (-1)) dX8_broken_25 (by decide) ?_
      refine sx_reti dX8_broken_26 rfl ?_
      first
        | exact k0 (fun q => h7 q.1)
        | exact k0 (fun q => h19 ((wi_in0 (by omega)).mpr q.2))
    · exact absurd h10 (by decide)
end MPUB
