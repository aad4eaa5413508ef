/-! ===== the class's TextReader: what it takes ===== -/
def CDr (T : Nat → Int32) (N : Nat) (D : DR) (τ : Mem) : Prop := τ.1 9 0 = nI (pR D.1) ∧ τ.1 9 1 = nI (pD D.1) ∧ (∀ k, k < pR D.1 → τ.2 10 k = vS T N (rn D k)) ∧ (∀ k, k < pR D.1 → τ.1 11 k = nI (pW D.1 k)) ∧ (∀ k, k < pD D.1 → τ.2 12 k = vS T N (dn D k)) ∧ (∀ k, k < pD D.1 → τ.1 13 k = nI (pF D.1 k)) ∧ (∀ k, k < pD D.1 → τ.1 14 k = nI (pS D.1 k)) ∧ (∀ k, k < pD D.1 → τ.1 15 k = nI (pE D.1 k))
theorem CDr_fr {T : Nat → Int32} {N : Nat} {D : DR} {σ τ : Mem} (hf : fr16 σ τ) (h : CDr T N D σ) : CDr T N D τ := by
  unfold CDr at h ⊢
  rw [hf.1 9 (by decide), hf.2 10 (by decide), hf.1 11 (by decide), hf.2 12 (by decide), hf.1 13 (by decide), hf.1 14 (by decide), hf.1 15 (by decide)]
  exact h
section CTAKE
variable {G : GG} {d : Nat} {σ : Mem} {T : Nat → Int32} {N s : Nat} {a : Nat × Nat} {D : DR}
theorem c_next {f : Mem → Prop} (hb : N ≤ 600) (hk : CTk T N s a σ) (h : ∀ τ, fr16 σ τ → CTk T N (nS T N s) a τ → f τ) : SW G (d + 2) M_X5_nextToken 0 [some (.ref 16)] [] σ (RV f) :=
  c_X5_nextToken hk.1 hk.2.1 hb (eS_N hk.2.2.1).1 hk.2.2.2.1 hk.2.2.2.2.2.2.2.2 h
theorem c_X5_faultHere {f : Mem → Prop} {c : Nat} (hc : c ≠ 0 ∧ c ≤ 6) (hk : CTk T N s a σ) (h : ∀ τ, fr16 σ τ → CTk T N s (fh a c s) τ → f τ) : SW G d M_X5_faultHere 0 [some (.ref 16), some (.int (nI c))] [] σ (RV f) := by
  obtain ⟨e1, e2, e3, e4, e5, e6, e7, e8, e9, e10, e11⟩ := hk
  refine sw_aloadn dX5_faultHere_0 rfl ?_
  refine sw_getI dX5_faultHere_1 fs_X5_33 o16 ?_
  rw [e9]
  refine sw_if_ne (tgt := 20) dX5_faultHere_4 (by decide) (fun h4 => ?_) (fun h4 => ?_)
  · skip
    refine sx_ret0 dX5_faultHere_20 rfl ?_
    first
      | (refine h _ fr16_rf ?_
         rw [fh_a (fun z => h4 (by rw [z]; rfl))]
         exact ⟨e1, e2, e3, e4, e5, e6, e7, e8, e9, e10, e11⟩)
      | (have ha : a.1 = 0 := nI_inj (by omega) (by omega) h4
         refine h _ ⟨fun c hc => by rw [setI_ne _ _ _ hc, setI_ne _ _ _ hc], fun _ _ => rfl⟩ ?_
         rw [fh_c ha hc.1]
         have k : ∀ j, j ≠ 7 → j ≠ 8 → (setI (setI σ 16 7 (nI c)) 16 8 (nI s)).1 16 j = σ.1 16 j := fun j j1 j2 => by rw [setI_at, upd_ne _ _ j2, setI_at, upd_ne _ _ j1]
         refine ⟨e1, (k 1 (by decide) (by decide)).trans e2, e3, (k 2 (by decide) (by decide)).trans e4, (k 3 (by decide) (by decide)).trans e5, (k 4 (by decide) (by decide)).trans e6, (k 5 (by decide) (by decide)).trans e7, e8, ?_, hc.2, fun _ => ?_⟩
         · rw [setI_at, upd_ne _ _ (by decide), setI_at, upd_same]
         · rw [setI_at, upd_same])
  · skip
    refine sw_aloadn dX5_faultHere_7 rfl ?_
    refine sw_iloadn dX5_faultHere_8 rfl ?_
    refine sw_putI dX5_faultHere_9 fs_X5_33 o16 ?_
    refine sw_aloadn dX5_faultHere_12 rfl ?_
    refine sw_aloadn dX5_faultHere_13 rfl ?_
    refine sw_getI dX5_faultHere_14 fs_X5_108 o16 ?_
    rw [show (setI σ 16 7 (nI c)).1 16 4 = nI s by rw [setI_at, upd_ne _ _ (by decide)]; exact e6]
    refine sw_putI dX5_faultHere_17 fs_X5_36 o16 ?_
    refine sx_ret0 dX5_faultHere_20 rfl ?_
    first
      | (refine h _ fr16_rf ?_
         rw [fh_a (fun z => h4 (by rw [z]; rfl))]
         exact ⟨e1, e2, e3, e4, e5, e6, e7, e8, e9, e10, e11⟩)
      | (have ha : a.1 = 0 := nI_inj (by omega) (by omega) h4
         refine h _ ⟨fun c hc => by rw [setI_ne _ _ _ hc, setI_ne _ _ _ hc], fun _ _ => rfl⟩ ?_
         rw [fh_c ha hc.1]
         have k : ∀ j, j ≠ 7 → j ≠ 8 → (setI (setI σ 16 7 (nI c)) 16 8 (nI s)).1 16 j = σ.1 16 j := fun j j1 j2 => by rw [setI_at, upd_ne _ _ j2, setI_at, upd_ne _ _ j1]
         refine ⟨e1, (k 1 (by decide) (by decide)).trans e2, e3, (k 2 (by decide) (by decide)).trans e4, (k 3 (by decide) (by decide)).trans e5, (k 4 (by decide) (by decide)).trans e6, (k 5 (by decide) (by decide)).trans e7, e8, ?_, hc.2, fun _ => ?_⟩
         · rw [setI_at, upd_ne _ _ (by decide), setI_at, upd_same]
         · rw [setI_at, upd_same])
theorem c_X5_isName {f : Int32 → Mem → Prop} (hk : CTk T N s a σ) (k1 : isNm T N s → f (nI 1) σ) (k0 : ¬ isNm T N s → f (nI 0) σ) : SW G d M_X5_isName 0 [some (.ref 16)] [] σ (RI f) := by
  obtain ⟨e1, e2, e3, e4, e5, e6, e7, e8, e9, e10, e11⟩ := hk
  have k4 := kdS_le (T := T) (N := N) (s := s)
  refine sw_aloadn dX5_isName_0 rfl ?_
  refine sw_getI dX5_isName_1 fs_X5_42 o16 ?_
  rw [e5]
  refine sx_iconst (v := nI 1) dX5_isName_4 (by decide) ?_
  refine sw_icmp_ne (tgt := 43) dX5_isName_5 (by decide) (fun h5 => ?_) (fun h5 => ?_)
  · skip
    refine sx_iconst (v := nI 0) dX5_isName_43 (by decide) ?_
    refine sx_retz dX5_isName_44 rfl (Or.inl rfl) ?_
    first
      | exact k0 (fun q => h5 (by rw [(isNm_v.mp q).1]))
      | exact k1 (isNm_v.mpr ⟨nI_inj (by omega) (by omega) h5, h13, h24, h35⟩)
      | exact k0 (fun q => (isNm_v.mp q).2.1 h13)
      | exact k0 (fun q => (isNm_v.mp q).2.2.1 h24)
      | exact k0 (fun q => (isNm_v.mp q).2.2.2 h35)
  · skip
    refine sw_aloadn dX5_isName_8 rfl ?_
    refine sw_getJ dX5_isName_9 fs_X5_45 o16 ?_
    rw [e8]
    refine sx_lconst (v := 0) dX5_isName_12 (by decide) ?_
    refine sw_lc_eq (tgt := 43) dX5_isName_13 dX5_isName_14 (by decide) (fun h13 => ?_) (fun h13 => ?_)
    · skip
      refine sx_iconst (v := nI 0) dX5_isName_43 (by decide) ?_
      refine sx_retz dX5_isName_44 rfl (Or.inl rfl) ?_
      first
        | exact k0 (fun q => h5 (by rw [(isNm_v.mp q).1]))
        | exact k1 (isNm_v.mpr ⟨nI_inj (by omega) (by omega) h5, h13, h24, h35⟩)
        | exact k0 (fun q => (isNm_v.mp q).2.1 h13)
        | exact k0 (fun q => (isNm_v.mp q).2.2.1 h24)
        | exact k0 (fun q => (isNm_v.mp q).2.2.2 h35)
    · skip
      refine sw_aloadn dX5_isName_17 rfl ?_
      refine sw_getJ dX5_isName_18 fs_X5_45 o16 ?_
      rw [e8]
      refine sw_ldc2 dX5_isName_21 kl_X5_49 ?_
      refine sw_lc_eq (tgt := 43) dX5_isName_24 dX5_isName_25 (by decide) (fun h24 => ?_) (fun h24 => ?_)
      · skip
        refine sx_iconst (v := nI 0) dX5_isName_43 (by decide) ?_
        refine sx_retz dX5_isName_44 rfl (Or.inl rfl) ?_
        first
          | exact k0 (fun q => h5 (by rw [(isNm_v.mp q).1]))
          | exact k1 (isNm_v.mpr ⟨nI_inj (by omega) (by omega) h5, h13, h24, h35⟩)
          | exact k0 (fun q => (isNm_v.mp q).2.1 h13)
          | exact k0 (fun q => (isNm_v.mp q).2.2.1 h24)
          | exact k0 (fun q => (isNm_v.mp q).2.2.2 h35)
      · skip
        refine sw_aloadn dX5_isName_28 rfl ?_
        refine sw_getJ dX5_isName_29 fs_X5_45 o16 ?_
        rw [e8]
        refine sw_ldc2 dX5_isName_32 kl_X5_55 ?_
        refine sw_lc_eq (tgt := 43) dX5_isName_35 dX5_isName_36 (by decide) (fun h35 => ?_) (fun h35 => ?_)
        · skip
          refine sx_iconst (v := nI 0) dX5_isName_43 (by decide) ?_
          refine sx_retz dX5_isName_44 rfl (Or.inl rfl) ?_
          first
            | exact k0 (fun q => h5 (by rw [(isNm_v.mp q).1]))
            | exact k1 (isNm_v.mpr ⟨nI_inj (by omega) (by omega) h5, h13, h24, h35⟩)
            | exact k0 (fun q => (isNm_v.mp q).2.1 h13)
            | exact k0 (fun q => (isNm_v.mp q).2.2.1 h24)
            | exact k0 (fun q => (isNm_v.mp q).2.2.2 h35)
        · skip
          refine sx_iconst (v := nI 1) dX5_isName_39 (by decide) ?_
          refine sw_goto (tgt := 44) dX5_isName_40 (by decide) ?_
          refine sx_retz dX5_isName_44 rfl (Or.inr rfl) ?_
          first
            | exact k0 (fun q => h5 (by rw [(isNm_v.mp q).1]))
            | exact k1 (isNm_v.mpr ⟨nI_inj (by omega) (by omega) h5, h13, h24, h35⟩)
            | exact k0 (fun q => (isNm_v.mp q).2.1 h13)
            | exact k0 (fun q => (isNm_v.mp q).2.2.1 h24)
            | exact k0 (fun q => (isNm_v.mp q).2.2.2 h35)
theorem c_X3_roomNamed {f : Int32 → Mem → Prop} {n : Nat} {v : Int64} (hn : σ.1 9 0 = nI n) (hb : n ≤ 8) (k1 : ∀ j, j < n → σ.2 10 j = v → (∀ i, i < j → σ.2 10 i ≠ v) → f (nI j) σ) (k0 : (∀ j, j < n → σ.2 10 j ≠ v) → f (-1) σ) : SW G d M_X3_roomNamed 0 [some (.ref 9), some (.long v), none, none] [] σ (RI f) := by
  have loop : ∀ (m k : Nat), m = n - k → k ≤ n → (∀ i, i < k → σ.2 10 i ≠ v) → SW G d M_X3_roomNamed 2 [some (.ref 9), some (.long v), none, some (.int (nI k))] [] σ (RI f) := by
    intro m
    induction m with
    | zero =>
      intro k hm hk hp
      refine sw_iloadn dX3_roomNamed_2 rfl ?_
      refine sw_aloadn dX3_roomNamed_3 rfl ?_
      refine sw_getI dX3_roomNamed_4 fs_X3_31 o9 ?_
      rw [hn]
      refine sw_icmp_ge (tgt := 29) dX3_roomNamed_7 (by decide) (fun h7 => ?_) (fun h7 => ?_)
      · skip
        refine sx_iconst (v := (-1)) dX3_roomNamed_29 (by decide) ?_
        refine sx_reti dX3_roomNamed_30 rfl ?_
        exact k0 (fun j hj => hp j (by omega))
      · exact absurd ((nI_le (by omega) (by omega))) h7
    | succ m ih =>
      intro k hm hk hp
      refine sw_iloadn dX3_roomNamed_2 rfl ?_
      refine sw_aloadn dX3_roomNamed_3 rfl ?_
      refine sw_getI dX3_roomNamed_4 fs_X3_31 o9 ?_
      rw [hn]
      refine sw_icmp_ge (tgt := 29) dX3_roomNamed_7 (by decide) (fun h7 => ?_) (fun h7 => ?_)
      · exact absurd h7 ((by rw [nI_le' (by omega) (by omega)]; omega))
      · skip
        refine sw_aloadn dX3_roomNamed_10 rfl ?_
        refine sw_getR dX3_roomNamed_11 fs_X3_9 o9 r9_2 ?_
        refine sw_iloadn dX3_roomNamed_14 rfl ?_
        refine sx_lald (k) dX3_roomNamed_15 a10 (rfl) (by omega) (by decide) ?_
        refine sw_lloadn dX3_roomNamed_16 rfl ?_
        refine sw_lc_ne (tgt := 23) dX3_roomNamed_17 dX3_roomNamed_18 (by decide) (fun h17 => ?_) (fun h17 => ?_)
        · skip
          refine sx_iinc (nI (k + 1)) dX3_roomNamed_23 rfl (nI_inc _) ?_
          refine sw_goto (tgt := 2) dX3_roomNamed_26 (by decide) ?_
          exact ih (k + 1) (by omega) (by omega) (fun i hi => by
            rcases Nat.lt_or_ge i k with z | z
            · exact hp i z
            · obtain rfl : i = k := by omega
              exact h17)
        · skip
          refine sw_iloadn dX3_roomNamed_21 rfl ?_
          refine sx_reti dX3_roomNamed_22 rfl ?_
          exact k1 k (by omega) h17 hp
  refine sx_iconst (v := nI 0) dX3_roomNamed_0 (by decide) ?_
  refine sw_istoren dX3_roomNamed_1 (Nat.le_of_ble_eq_true rfl) ?_
  exact loop n 0 (by omega) (by omega) (fun i hi => absurd hi (Nat.not_lt_zero _))
def rmI (σ : Mem) (n : Nat) (v : Int64) (r : Int32) : Prop := (∃ j, j < n ∧ r = nI j ∧ σ.2 10 j = v ∧ ∀ i, i < j → σ.2 10 i ≠ v) ∨ (r = -1 ∧ ∀ j, j < n → σ.2 10 j ≠ v)
theorem c_X3_roomNamed' {f : Int32 → Mem → Prop} {n : Nat} {v : Int64} (hn : σ.1 9 0 = nI n) (hb : n ≤ 8) (k : ∀ r, rmI σ n v r → f r σ) : SW G d M_X3_roomNamed 0 [some (.ref 9), some (.long v), none, none] [] σ (RI f) :=
  c_X3_roomNamed hn hb (fun j hj e hi => k _ (Or.inl ⟨j, hj, rfl, e, hi⟩)) (fun hq => k _ (Or.inr ⟨rfl, hq⟩))
theorem c_X3_hasName {f : Int32 → Mem → Prop} {n m' : Nat} {v : Int64} (hn : σ.1 9 0 = nI n) (hb : n ≤ 8) (hm' : σ.1 9 1 = nI m') (hb' : m' ≤ 10) (k1 : ((∃ j, j < n ∧ σ.2 10 j = v) ∨ (∃ j, j < m' ∧ σ.2 12 j = v)) → f (nI 1) σ) (k0 : ¬ ((∃ j, j < n ∧ σ.2 10 j = v) ∨ (∃ j, j < m' ∧ σ.2 12 j = v)) → f (nI 0) σ) : SW G (d + 1) M_X3_hasName 0 [some (.ref 9), some (.long v), none, none] [] σ (RI f) := by
  have loop : ∀ (m k : Nat), m = m' - k → k ≤ m' → (∀ i, i < k → σ.2 12 i ≠ v) → SW G (d + 1) M_X3_hasName 2 [some (.ref 9), some (.long v), none, some (.int (nI k))] [] σ (RI f) := by
    intro m
    induction m with
    | zero =>
      intro k hm hk hp
      refine sw_iloadn dX3_hasName_2 rfl ?_
      refine sw_aloadn dX3_hasName_3 rfl ?_
      refine sw_getI dX3_hasName_4 fs_X3_35 o9 ?_
      rw [hm']
      refine sw_icmp_ge (tgt := 29) dX3_hasName_7 (by decide) (fun h7 => ?_) (fun h7 => ?_)
      · skip
        refine sw_aloadn dX3_hasName_29 rfl ?_
        refine sw_lloadn dX3_hasName_30 rfl ?_
        refine sx_invI1 dX3_hasName_31 mk_X3_roomNamed vk_X3_roomNamed lk_X3_44 o9 (Nat.le_of_ble_eq_true rfl) (Nat.le_of_ble_eq_true rfl) ?_
        refine c_X3_roomNamed' hn hb (fun r hr => ?_)
        refine sx_iconst (v := (-1)) dX3_hasName_34 (by decide) ?_
        refine sw_icmp_eq (tgt := 42) dX3_hasName_35 (by decide) (fun h35 => ?_) (fun h35 => ?_)
        · skip
          refine sx_iconst (v := nI 0) dX3_hasName_42 (by decide) ?_
          refine sx_retz dX3_hasName_43 rfl (Or.inl rfl) ?_
          rcases hr with ⟨j, hj, e, e', hi⟩ | ⟨e, hq⟩
          · first
              | exact k1 (Or.inl ⟨j, hj, e'⟩)
              | (rw [h35] at e; exact absurd e.symm (nI_nm1 (by omega)))
          · first
              | exact absurd e h35
              | exact k0 (fun q => q.elim (fun ⟨j, hj, e⟩ => hq j hj e) (fun ⟨j, hj, e⟩ => hp j (by omega) e))
        · skip
          refine sx_iconst (v := nI 1) dX3_hasName_38 (by decide) ?_
          refine sw_goto (tgt := 43) dX3_hasName_39 (by decide) ?_
          refine sx_retz dX3_hasName_43 rfl (Or.inr rfl) ?_
          rcases hr with ⟨j, hj, e, e', hi⟩ | ⟨e, hq⟩
          · first
              | exact k1 (Or.inl ⟨j, hj, e'⟩)
              | (rw [h35] at e; exact absurd e.symm (nI_nm1 (by omega)))
          · first
              | exact absurd e h35
              | exact k0 (fun q => q.elim (fun ⟨j, hj, e⟩ => hq j hj e) (fun ⟨j, hj, e⟩ => hp j (by omega) e))
      · exact absurd ((nI_le (by omega) (by omega))) h7
    | succ m ih =>
      intro k hm hk hp
      refine sw_iloadn dX3_hasName_2 rfl ?_
      refine sw_aloadn dX3_hasName_3 rfl ?_
      refine sw_getI dX3_hasName_4 fs_X3_35 o9 ?_
      rw [hm']
      refine sw_icmp_ge (tgt := 29) dX3_hasName_7 (by decide) (fun h7 => ?_) (fun h7 => ?_)
      · exact absurd h7 ((by rw [nI_le' (by omega) (by omega)]; omega))
      · skip
        refine sw_aloadn dX3_hasName_10 rfl ?_
        refine sw_getR dX3_hasName_11 fs_X3_19 o9 r9_4 ?_
        refine sw_iloadn dX3_hasName_14 rfl ?_
        refine sx_lald (k) dX3_hasName_15 a12 (rfl) (by omega) (by decide) ?_
        refine sw_lloadn dX3_hasName_16 rfl ?_
        refine sw_lc_ne (tgt := 23) dX3_hasName_17 dX3_hasName_18 (by decide) (fun h17 => ?_) (fun h17 => ?_)
        · skip
          refine sx_iinc (nI (k + 1)) dX3_hasName_23 rfl (nI_inc _) ?_
          refine sw_goto (tgt := 2) dX3_hasName_26 (by decide) ?_
          exact ih (k + 1) (by omega) (by omega) (fun i hi => by
            rcases Nat.lt_or_ge i k with z | z
            · exact hp i z
            · obtain rfl : i = k := by omega
              exact h17)
        · skip
          refine sx_iconst (v := nI 1) dX3_hasName_21 (by decide) ?_
          refine sx_retz dX3_hasName_22 rfl (Or.inr rfl) ?_
          exact k1 (Or.inr ⟨k, by omega, h17⟩)
  refine sx_iconst (v := nI 0) dX3_hasName_0 (by decide) ?_
  refine sw_istoren dX3_hasName_1 (Nat.le_of_ble_eq_true rfl) ?_
  exact loop m' 0 (by omega) (by omega) (fun i hi => absurd hi (Nat.not_lt_zero _))
theorem rmI_X (hD : GD T N D) (hd : CDr T N D σ) (hs : isNm T N s) {r : Int32} (h : rmI σ (pR D.1) (vS T N s) r) : (rmX T N D s < pR D.1 ∧ r = nI (rmX T N D s)) ∨ (rmX T N D s = pR D.1 ∧ r = -1) := by
  have key : ∀ k, k < pR D.1 → (σ.2 10 k = vS T N s ↔ sam T N (rn D k) s) := fun k hk => by rw [hd.2.2.1 k hk]; exact vS_sam (hD.2.1 k hk) hs
  have kf : ∀ k, k < pR D.1 → σ.2 10 k ≠ vS T N s → dB (sam T N (rn D k) s) = false := fun k hk q => by
    cases e : dB (sam T N (rn D k) s) with
    | false => rfl
    | true => exact absurd ((key k hk).mpr (dB_t.mp e)) q
  rcases h with ⟨j, hj, e, e', hi⟩ | ⟨e, hq⟩
  · have : rmX T N D s = j := fnd_at hj (dB_t.mpr ((key j hj).mp e')) (fun i h' => kf i (by omega) (hi i h'))
    exact Or.inl ⟨by omega, by rw [this]; exact e⟩
  · exact Or.inr ⟨fnd_no (fun i h' => kf i h' (hq i h')), e⟩
theorem c_X5_takeNewName {f : Int64 → Mem → Prop} (hb : N ≤ 600) (hk : CTk T N s a σ) (hD : GD T N D) (hd : CDr T N D σ) (h : ∀ τ, fr16 σ τ → CTk T N (nS T N s) (fh a (ckN T N D s) s) τ → f (vS T N s) τ) : SW G (d + 3) M_X5_takeNewName 0 [some (.ref 16), some (.ref 9), none, none] [] σ (RJ f) := by
  have p1 := hD.1.1
  have p2 := hD.1.2.1
  have ev := hk.2.2.2.2.2.2.2.1
  have key : isNm T N s → (((∃ j, j < pR D.1 ∧ σ.2 10 j = vS T N s) ∨ (∃ j, j < pD D.1 ∧ σ.2 12 j = vS T N s)) ↔ ((∃ k, k < pR D.1 ∧ sam T N (rn D k) s) ∨ (∃ k, k < pD D.1 ∧ sam T N (dn D k) s))) := fun hs =>
    or_congr (exists_congr fun k => and_congr_right fun hk => by rw [hd.2.2.1 k hk]; exact vS_sam (hD.2.1 k hk) hs) (exists_congr fun k => and_congr_right fun hk => by rw [hd.2.2.2.2.1 k hk]; exact vS_sam (hD.2.2 k hk) hs)
  have fin : ∀ τ, fr16 σ τ → CTk T N s (fh a (ckN T N D s) s) τ → SW G (d + 3) M_X5_takeNewName 31 [some (.ref 16), some (.ref 9), none, none] [] τ (RJ f) := by
    intro τ hf hk'
    refine sw_aloadn dX5_takeNewName_31 rfl ?_
    refine sw_getJ dX5_takeNewName_32 fs_X5_45 o16 ?_
    rw [hk'.2.2.2.2.2.2.2.1]
    refine sw_lstoren dX5_takeNewName_35 (Nat.le_of_ble_eq_true rfl) ?_
    refine sw_aloadn dX5_takeNewName_36 rfl ?_
    refine sx_invV0 dX5_takeNewName_37 mk_X5_nextToken vk_X5_nextToken lk_X5_39 o16 (Nat.le_of_ble_eq_true rfl) (Nat.le_of_ble_eq_true rfl) ?_
    refine c_next hb hk' (fun ρ hg hr => ?_)
    refine sw_lloadn dX5_takeNewName_40 rfl ?_
    refine sx_retl dX5_takeNewName_41 rfl ?_
    exact h _ (fr16_tr hf hg) hr
  refine sw_aloadn dX5_takeNewName_0 rfl ?_
  refine sx_invI0 dX5_takeNewName_1 mk_X5_isName vk_X5_isName lk_X5_93 o16 (Nat.le_of_ble_eq_true rfl) (Nat.le_of_ble_eq_true rfl) ?_
  refine c_X5_isName hk (fun h1 => ?_) (fun h1 => ?_)
  · skip
    refine sw_if_ne (tgt := 15) dX5_takeNewName_4 (by decide) (fun h4 => ?_) (fun h4 => ?_)
    · skip
      refine sw_aloadn dX5_takeNewName_15 rfl ?_
      refine sw_aloadn dX5_takeNewName_16 rfl ?_
      refine sw_getJ dX5_takeNewName_17 fs_X5_45 o16 ?_
      rw [ev]
      refine sx_invI1 dX5_takeNewName_20 mk_X3_hasName vk_X3_hasName lk_X5_97 o9 (Nat.le_of_ble_eq_true rfl) (Nat.le_of_ble_eq_true rfl) ?_
      refine c_X3_hasName hd.1 p1 hd.2.1 p2 (fun h20 => ?_) (fun h20 => ?_)
      · skip
        refine sw_if_eq (tgt := 31) dX5_takeNewName_23 (by decide) (fun h23 => ?_) (fun h23 => ?_)
        · exact absurd h23 (by decide)
        · skip
          refine sw_aloadn dX5_takeNewName_26 rfl ?_
          refine sx_iconst (v := nI 3) dX5_takeNewName_27 (by decide) ?_
          refine sx_invV1 dX5_takeNewName_28 mk_X5_faultHere vk_X5_faultHere lk_X5_60 o16 (Nat.le_of_ble_eq_true rfl) (Nat.le_of_ble_eq_true rfl) ?_
          refine c_X5_faultHere (c := 3) (by omega) hk (fun τ hf hr => ?_)
          first
            | exact fin _ hf (by rw [ckN_1 h1]; exact hr)
            | exact fin _ hf (by rw [ckN_3 h1 ((key h1).mp h20)]; exact hr)
            | exact fin _ fr16_rf (by rw [ckN_0 h1 (fun q => h20 ((key h1).mpr q)), fh_c0]; exact hk)
      · skip
        refine sw_if_eq (tgt := 31) dX5_takeNewName_23 (by decide) (fun h23 => ?_) (fun h23 => ?_)
        · skip
          first
            | exact fin _ hf (by rw [ckN_1 h1]; exact hr)
            | exact fin _ hf (by rw [ckN_3 h1 ((key h1).mp h20)]; exact hr)
            | exact fin _ fr16_rf (by rw [ckN_0 h1 (fun q => h20 ((key h1).mpr q)), fh_c0]; exact hk)
        · exact absurd h23 (by decide)
    · exact absurd h4 (by decide)
  · skip
    refine sw_if_ne (tgt := 15) dX5_takeNewName_4 (by decide) (fun h4 => ?_) (fun h4 => ?_)
    · exact absurd h4 (by decide)
    · skip
      refine sw_aloadn dX5_takeNewName_7 rfl ?_
      refine sx_iconst (v := nI 1) dX5_takeNewName_8 (by decide) ?_
      refine sx_invV1 dX5_takeNewName_9 mk_X5_faultHere vk_X5_faultHere lk_X5_60 o16 (Nat.le_of_ble_eq_true rfl) (Nat.le_of_ble_eq_true rfl) ?_
      refine c_X5_faultHere (c := 1) (by omega) hk (fun τ hf hr => ?_)
      refine sw_goto (tgt := 31) dX5_takeNewName_12 (by decide) ?_
      first
        | exact fin _ hf (by rw [ckN_1 h1]; exact hr)
        | exact fin _ hf (by rw [ckN_3 h1 ((key h1).mp h20)]; exact hr)
        | exact fin _ fr16_rf (by rw [ckN_0 h1 (fun q => h20 ((key h1).mpr q)), fh_c0]; exact hk)
theorem c_X5_takeRoom {f : Int32 → Mem → Prop} {y : Int32} {o : Nat} (hb : N ≤ 600) (hk : CTk T N s a σ) (hD : GD T N D) (hd : CDr T N D σ) (hy : a.1 = 0 → ∀ j, j < 8 → (nI j = y ↔ j = o)) (h : ∀ τ r, fr16 σ τ → CTk T N (nS T N s) (fh a (ckR T N D s o) s) τ → ((fh a (ckR T N D s o) s).1 = 0 → r = nI (rmX T N D s)) → f r τ) : SW G (d + 3) M_X5_takeRoom 0 [some (.ref 16), some (.ref 9), some (.int y), none] [] σ (RI f) := by
  have p1 := hD.1.1
  have ev := hk.2.2.2.2.2.2.2.1
  have hx := rmX_le (T := T) (N := N) D s
  have fin : ∀ τ r, fr16 σ τ → CTk T N s (fh a (ckR T N D s o) s) τ → ((fh a (ckR T N D s o) s).1 = 0 → r = nI (rmX T N D s)) → SW G (d + 3) M_X5_takeRoom 39 [some (.ref 16), some (.ref 9), some (.int y), some (.int r)] [] τ (RI f) := by
    intro τ r hf hk' hr
    refine sw_aloadn dX5_takeRoom_39 rfl ?_
    refine sx_invV0 dX5_takeRoom_40 mk_X5_nextToken vk_X5_nextToken lk_X5_39 o16 (Nat.le_of_ble_eq_true rfl) (Nat.le_of_ble_eq_true rfl) ?_
    refine c_next hb hk' (fun ρ hg hr' => ?_)
    refine sw_iloadn dX5_takeRoom_43 rfl ?_
    refine sx_reti dX5_takeRoom_44 rfl ?_
    exact h _ _ (fr16_tr hf hg) hr' hr
  refine sw_aloadn dX5_takeRoom_0 rfl ?_
  refine sw_aloadn dX5_takeRoom_1 rfl ?_
  refine sw_getJ dX5_takeRoom_2 fs_X5_45 o16 ?_
  rw [ev]
  refine sx_invI1 dX5_takeRoom_5 mk_X3_roomNamed vk_X3_roomNamed lk_X5_101 o9 (Nat.le_of_ble_eq_true rfl) (Nat.le_of_ble_eq_true rfl) ?_
  refine c_X3_roomNamed' hd.1 p1 (fun r hr => ?_)
  refine sw_istoren dX5_takeRoom_8 (Nat.le_of_ble_eq_true rfl) ?_
  refine sw_aloadn dX5_takeRoom_9 rfl ?_
  refine sx_invI0 dX5_takeRoom_10 mk_X5_isName vk_X5_isName lk_X5_93 o16 (Nat.le_of_ble_eq_true rfl) (Nat.le_of_ble_eq_true rfl) ?_
  refine c_X5_isName hk (fun h10 => ?_) (fun h10 => ?_)
  · skip
    refine sw_if_ne (tgt := 24) dX5_takeRoom_13 (by decide) (fun h13 => ?_) (fun h13 => ?_)
    · skip
      refine sw_iloadn dX5_takeRoom_24 rfl ?_
      refine sx_iconst (v := (-1)) dX5_takeRoom_25 (by decide) ?_
      refine sw_icmp_eq (tgt := 34) dX5_takeRoom_26 (by decide) (fun h26 => ?_) (fun h26 => ?_)
      · skip
        refine sw_aloadn dX5_takeRoom_34 rfl ?_
        refine sx_iconst (v := nI 4) dX5_takeRoom_35 (by decide) ?_
        refine sx_invV1 dX5_takeRoom_36 mk_X5_faultHere vk_X5_faultHere lk_X5_60 o16 (Nat.le_of_ble_eq_true rfl) (Nat.le_of_ble_eq_true rfl) ?_
        refine c_X5_faultHere (c := 4) (by omega) hk (fun τ hf hr' => ?_)
        have hz : ∀ c, ¬ c = 0 → ¬ (fh a c s).1 = 0 := fun c hc q => hc (fh_0.mp q).2
        first
          | exact fin _ _ hf (by rw [ckR_1 h10]; exact hr') (by rw [ckR_1 h10]; exact fun q => absurd q (hz 1 (by omega)))
          | (have hX := rmI_X hD hd h10 hr
             rcases Classical.em (a.1 = 0) with a0 | a0
             · have hy := hy a0
               rcases hX with ⟨x1, x2⟩ | ⟨x1, x2⟩
               · first
                   | exact absurd (h26 ▸ x2).symm (nI_nm1 (by omega))
                   | (have e4 := ckR_4 (o := o) h10 (Or.inr ((hy _ (by omega)).mp (x2 ▸ h31)))
                      exact fin _ _ hf (by rw [e4]; exact hr') (by rw [e4]; exact fun q => absurd q (hz 4 (by omega))))
                   | (have e4 := ckR_0 (o := o) h10 (fun q => q.elim (fun z => by omega) (fun z => h31 (x2.trans ((hy _ (by omega)).mpr z))))
                      exact fin _ _ fr16_rf (by rw [e4, fh_c0]; exact hk) (fun _ => x2))
               · first
                   | (have e4 := ckR_4 (o := o) h10 (Or.inl x1)
                      exact fin _ _ hf (by rw [e4]; exact hr') (by rw [e4]; exact fun q => absurd q (hz 4 (by omega))))
                   | exact absurd x2 h26
             · first
                 | exact fin _ _ hf (by rw [fh_a a0]; rw [fh_a a0] at hr'; exact hr') (by rw [fh_a a0]; exact fun q => absurd q a0)
                 | exact fin _ _ fr16_rf (by rw [fh_a a0]; exact hk) (by rw [fh_a a0]; exact fun q => absurd q a0))
      · skip
        refine sw_iloadn dX5_takeRoom_29 rfl ?_
        refine sw_iloadn dX5_takeRoom_30 rfl ?_
        refine sw_icmp_ne (tgt := 39) dX5_takeRoom_31 (by decide) (fun h31 => ?_) (fun h31 => ?_)
        · skip
          have hz : ∀ c, ¬ c = 0 → ¬ (fh a c s).1 = 0 := fun c hc q => hc (fh_0.mp q).2
          first
            | exact fin _ _ hf (by rw [ckR_1 h10]; exact hr') (by rw [ckR_1 h10]; exact fun q => absurd q (hz 1 (by omega)))
            | (have hX := rmI_X hD hd h10 hr
               rcases Classical.em (a.1 = 0) with a0 | a0
               · have hy := hy a0
                 rcases hX with ⟨x1, x2⟩ | ⟨x1, x2⟩
                 · first
                     | exact absurd (h26 ▸ x2).symm (nI_nm1 (by omega))
                     | (have e4 := ckR_4 (o := o) h10 (Or.inr ((hy _ (by omega)).mp (x2 ▸ h31)))
                        exact fin _ _ hf (by rw [e4]; exact hr') (by rw [e4]; exact fun q => absurd q (hz 4 (by omega))))
                     | (have e4 := ckR_0 (o := o) h10 (fun q => q.elim (fun z => by omega) (fun z => h31 (x2.trans ((hy _ (by omega)).mpr z))))
                        exact fin _ _ fr16_rf (by rw [e4, fh_c0]; exact hk) (fun _ => x2))
                 · first
                     | (have e4 := ckR_4 (o := o) h10 (Or.inl x1)
                        exact fin _ _ hf (by rw [e4]; exact hr') (by rw [e4]; exact fun q => absurd q (hz 4 (by omega))))
                     | exact absurd x2 h26
               · first
                   | exact fin _ _ hf (by rw [fh_a a0]; rw [fh_a a0] at hr'; exact hr') (by rw [fh_a a0]; exact fun q => absurd q a0)
                   | exact fin _ _ fr16_rf (by rw [fh_a a0]; exact hk) (by rw [fh_a a0]; exact fun q => absurd q a0))
        · skip
          refine sw_aloadn dX5_takeRoom_34 rfl ?_
          refine sx_iconst (v := nI 4) dX5_takeRoom_35 (by decide) ?_
          refine sx_invV1 dX5_takeRoom_36 mk_X5_faultHere vk_X5_faultHere lk_X5_60 o16 (Nat.le_of_ble_eq_true rfl) (Nat.le_of_ble_eq_true rfl) ?_
          refine c_X5_faultHere (c := 4) (by omega) hk (fun τ hf hr' => ?_)
          have hz : ∀ c, ¬ c = 0 → ¬ (fh a c s).1 = 0 := fun c hc q => hc (fh_0.mp q).2
          first
            | exact fin _ _ hf (by rw [ckR_1 h10]; exact hr') (by rw [ckR_1 h10]; exact fun q => absurd q (hz 1 (by omega)))
            | (have hX := rmI_X hD hd h10 hr
               rcases Classical.em (a.1 = 0) with a0 | a0
               · have hy := hy a0
                 rcases hX with ⟨x1, x2⟩ | ⟨x1, x2⟩
                 · first
                     | exact absurd (h26 ▸ x2).symm (nI_nm1 (by omega))
                     | (have e4 := ckR_4 (o := o) h10 (Or.inr ((hy _ (by omega)).mp (x2 ▸ h31)))
                        exact fin _ _ hf (by rw [e4]; exact hr') (by rw [e4]; exact fun q => absurd q (hz 4 (by omega))))
                     | (have e4 := ckR_0 (o := o) h10 (fun q => q.elim (fun z => by omega) (fun z => h31 (x2.trans ((hy _ (by omega)).mpr z))))
                        exact fin _ _ fr16_rf (by rw [e4, fh_c0]; exact hk) (fun _ => x2))
                 · first
                     | (have e4 := ckR_4 (o := o) h10 (Or.inl x1)
                        exact fin _ _ hf (by rw [e4]; exact hr') (by rw [e4]; exact fun q => absurd q (hz 4 (by omega))))
                     | exact absurd x2 h26
               · first
                   | exact fin _ _ hf (by rw [fh_a a0]; rw [fh_a a0] at hr'; exact hr') (by rw [fh_a a0]; exact fun q => absurd q a0)
                   | exact fin _ _ fr16_rf (by rw [fh_a a0]; exact hk) (by rw [fh_a a0]; exact fun q => absurd q a0))
    · exact absurd h13 (by decide)
  · skip
    refine sw_if_ne (tgt := 24) dX5_takeRoom_13 (by decide) (fun h13 => ?_) (fun h13 => ?_)
    · exact absurd h13 (by decide)
    · skip
      refine sw_aloadn dX5_takeRoom_16 rfl ?_
      refine sx_iconst (v := nI 1) dX5_takeRoom_17 (by decide) ?_
      refine sx_invV1 dX5_takeRoom_18 mk_X5_faultHere vk_X5_faultHere lk_X5_60 o16 (Nat.le_of_ble_eq_true rfl) (Nat.le_of_ble_eq_true rfl) ?_
      refine c_X5_faultHere (c := 1) (by omega) hk (fun τ hf hr' => ?_)
      refine sw_goto (tgt := 39) dX5_takeRoom_21 (by decide) ?_
      have hz : ∀ c, ¬ c = 0 → ¬ (fh a c s).1 = 0 := fun c hc q => hc (fh_0.mp q).2
      first
        | exact fin _ _ hf (by rw [ckR_1 h10]; exact hr') (by rw [ckR_1 h10]; exact fun q => absurd q (hz 1 (by omega)))
        | (have hX := rmI_X hD hd h10 hr
           rcases Classical.em (a.1 = 0) with a0 | a0
           · have hy := hy a0
             rcases hX with ⟨x1, x2⟩ | ⟨x1, x2⟩
             · first
                 | exact absurd (h26 ▸ x2).symm (nI_nm1 (by omega))
                 | (have e4 := ckR_4 (o := o) h10 (Or.inr ((hy _ (by omega)).mp (x2 ▸ h31)))
                    exact fin _ _ hf (by rw [e4]; exact hr') (by rw [e4]; exact fun q => absurd q (hz 4 (by omega))))
                 | (have e4 := ckR_0 (o := o) h10 (fun q => q.elim (fun z => by omega) (fun z => h31 (x2.trans ((hy _ (by omega)).mpr z))))
                    exact fin _ _ fr16_rf (by rw [e4, fh_c0]; exact hk) (fun _ => x2))
             · first
                 | (have e4 := ckR_4 (o := o) h10 (Or.inl x1)
                    exact fin _ _ hf (by rw [e4]; exact hr') (by rw [e4]; exact fun q => absurd q (hz 4 (by omega))))
                 | exact absurd x2 h26
           · first
               | exact fin _ _ hf (by rw [fh_a a0]; rw [fh_a a0] at hr'; exact hr') (by rw [fh_a a0]; exact fun q => absurd q a0)
               | exact fin _ _ fr16_rf (by rw [fh_a a0]; exact hk) (by rw [fh_a a0]; exact fun q => absurd q a0))
theorem c_X5_takeNumber {f : Int32 → Mem → Prop} {m : Nat} (hm : m < 1000) (hb : N ≤ 600) (hk : CTk T N s a σ) (h : ∀ τ r, fr16 σ τ → CTk T N (nS T N s) (fh a (ckV T N m s) s) τ → ((fh a (ckV T N m s) s).1 = 0 → r = nI (nvS T N s)) → f r τ) : SW G (d + 3) M_X5_takeNumber 0 [some (.ref 16), some (.int (nI m)), none] [] σ (RI f) := by
  have e5 := hk.2.2.2.2.1
  have e7 := hk.2.2.2.2.2.2.1
  have ev := hk.2.2.2.2.2.2.2.1
  have k4 := kdS_le (T := T) (N := N) (s := s)
  have hl : lS T N s ≤ 600 := by have := (eS_N (T := T) hk.2.2.1).1; unfold lS; omega
  have fin : ∀ τ, fr16 σ τ → CTk T N s (fh a (ckV T N m s) s) τ → SW G (d + 3) M_X5_takeNumber 39 [some (.ref 16), some (.int (nI m)), none] [] τ (RI f) := by
    intro τ hf hk'
    refine sw_aloadn dX5_takeNumber_39 rfl ?_
    refine sw_getJ dX5_takeNumber_40 fs_X5_45 o16 ?_
    rw [hk'.2.2.2.2.2.2.2.1]
    refine sw_l2i dX5_takeNumber_43 ?_
    refine sw_istoren dX5_takeNumber_44 (Nat.le_of_ble_eq_true rfl) ?_
    refine sw_aloadn dX5_takeNumber_45 rfl ?_
    refine sx_invV0 dX5_takeNumber_46 mk_X5_nextToken vk_X5_nextToken lk_X5_39 o16 (Nat.le_of_ble_eq_true rfl) (Nat.le_of_ble_eq_true rfl) ?_
    refine c_next hb hk' (fun ρ hg hr' => ?_)
    refine sw_iloadn dX5_takeNumber_49 rfl ?_
    refine sx_reti dX5_takeNumber_50 rfl ?_
    refine h _ _ (fr16_tr hf hg) hr' (fun q => ?_)
    rw [vS_n (ckV_z (fh_0.mp q).2).1]
    exact to32
  have c1 : ¬ (kdS T N s = 2 ∧ lS T N s ≤ 4) → ckV T N m s = 1 := fun q => if_neg q
  refine sw_aloadn dX5_takeNumber_0 rfl ?_
  refine sw_getI dX5_takeNumber_1 fs_X5_42 o16 ?_
  rw [e5]
  refine sx_iconst (v := nI 2) dX5_takeNumber_4 (by decide) ?_
  refine sw_icmp_ne (tgt := 16) dX5_takeNumber_5 (by decide) (fun h5 => ?_) (fun h5 => ?_)
  · skip
    refine sw_aloadn dX5_takeNumber_16 rfl ?_
    refine sx_iconst (v := nI 1) dX5_takeNumber_17 (by decide) ?_
    refine sx_invV1 dX5_takeNumber_18 mk_X5_faultHere vk_X5_faultHere lk_X5_60 o16 (Nat.le_of_ble_eq_true rfl) (Nat.le_of_ble_eq_true rfl) ?_
    refine c_X5_faultHere (c := 1) (by omega) hk (fun τ hf hr => ?_)
    refine sw_goto (tgt := 39) dX5_takeNumber_21 (by decide) ?_
    first
      | exact fin _ hf (by rw [c1 (fun q => h5 (by rw [q.1]))]; exact hr)
      | exact fin _ hf (by rw [c1 (fun q => h13 ((nI_le' (by omega) (by omega)).mpr q.2))]; exact hr)
      | (have g1 : kdS T N s = 2 := nI_inj (by omega) (by omega) h5
         have g2 : lS T N s ≤ 4 := (nI_le' (by omega) (by omega)).mp h13
         rw [vS_n g1, le64 (kn_lt g1 g2) hm] at h30
         first
           | (have e : ckV T N m s = 5 := by unfold ckV; rw [if_pos ⟨g1, g2⟩, if_pos (by omega)]
              exact fin _ hf (by rw [e]; exact hr))
           | (have e : ckV T N m s = 0 := by unfold ckV; rw [if_pos ⟨g1, g2⟩, if_neg (by omega)]
              exact fin _ fr16_rf (by rw [e, fh_c0]; exact hk)))
  · skip
    refine sw_aloadn dX5_takeNumber_8 rfl ?_
    refine sw_getI dX5_takeNumber_9 fs_X5_105 o16 ?_
    rw [e7]
    refine sx_iconst (v := nI 4) dX5_takeNumber_12 (by decide) ?_
    refine sw_icmp_le (tgt := 24) dX5_takeNumber_13 (by decide) (fun h13 => ?_) (fun h13 => ?_)
    · skip
      refine sw_aloadn dX5_takeNumber_24 rfl ?_
      refine sw_getJ dX5_takeNumber_25 fs_X5_45 o16 ?_
      rw [ev]
      refine sw_iloadn dX5_takeNumber_28 rfl ?_
      refine sw_i2l dX5_takeNumber_29 ?_
      refine sw_lc_le (tgt := 39) dX5_takeNumber_30 dX5_takeNumber_31 (by decide) (fun h30 => ?_) (fun h30 => ?_)
      · skip
        first
          | exact fin _ hf (by rw [c1 (fun q => h5 (by rw [q.1]))]; exact hr)
          | exact fin _ hf (by rw [c1 (fun q => h13 ((nI_le' (by omega) (by omega)).mpr q.2))]; exact hr)
          | (have g1 : kdS T N s = 2 := nI_inj (by omega) (by omega) h5
             have g2 : lS T N s ≤ 4 := (nI_le' (by omega) (by omega)).mp h13
             rw [vS_n g1, le64 (kn_lt g1 g2) hm] at h30
             first
               | (have e : ckV T N m s = 5 := by unfold ckV; rw [if_pos ⟨g1, g2⟩, if_pos (by omega)]
                  exact fin _ hf (by rw [e]; exact hr))
               | (have e : ckV T N m s = 0 := by unfold ckV; rw [if_pos ⟨g1, g2⟩, if_neg (by omega)]
                  exact fin _ fr16_rf (by rw [e, fh_c0]; exact hk)))
      · skip
        refine sw_aloadn dX5_takeNumber_34 rfl ?_
        refine sx_iconst (v := nI 5) dX5_takeNumber_35 (by decide) ?_
        refine sx_invV1 dX5_takeNumber_36 mk_X5_faultHere vk_X5_faultHere lk_X5_60 o16 (Nat.le_of_ble_eq_true rfl) (Nat.le_of_ble_eq_true rfl) ?_
        refine c_X5_faultHere (c := 5) (by omega) hk (fun τ hf hr => ?_)
        first
          | exact fin _ hf (by rw [c1 (fun q => h5 (by rw [q.1]))]; exact hr)
          | exact fin _ hf (by rw [c1 (fun q => h13 ((nI_le' (by omega) (by omega)).mpr q.2))]; exact hr)
          | (have g1 : kdS T N s = 2 := nI_inj (by omega) (by omega) h5
             have g2 : lS T N s ≤ 4 := (nI_le' (by omega) (by omega)).mp h13
             rw [vS_n g1, le64 (kn_lt g1 g2) hm] at h30
             first
               | (have e : ckV T N m s = 5 := by unfold ckV; rw [if_pos ⟨g1, g2⟩, if_pos (by omega)]
                  exact fin _ hf (by rw [e]; exact hr))
               | (have e : ckV T N m s = 0 := by unfold ckV; rw [if_pos ⟨g1, g2⟩, if_neg (by omega)]
                  exact fin _ fr16_rf (by rw [e, fh_c0]; exact hk)))
    · skip
      refine sw_aloadn dX5_takeNumber_16 rfl ?_
      refine sx_iconst (v := nI 1) dX5_takeNumber_17 (by decide) ?_
      refine sx_invV1 dX5_takeNumber_18 mk_X5_faultHere vk_X5_faultHere lk_X5_60 o16 (Nat.le_of_ble_eq_true rfl) (Nat.le_of_ble_eq_true rfl) ?_
      refine c_X5_faultHere (c := 1) (by omega) hk (fun τ hf hr => ?_)
      refine sw_goto (tgt := 39) dX5_takeNumber_21 (by decide) ?_
      first
        | exact fin _ hf (by rw [c1 (fun q => h5 (by rw [q.1]))]; exact hr)
        | exact fin _ hf (by rw [c1 (fun q => h13 ((nI_le' (by omega) (by omega)).mpr q.2))]; exact hr)
        | (have g1 : kdS T N s = 2 := nI_inj (by omega) (by omega) h5
           have g2 : lS T N s ≤ 4 := (nI_le' (by omega) (by omega)).mp h13
           rw [vS_n g1, le64 (kn_lt g1 g2) hm] at h30
           first
             | (have e : ckV T N m s = 5 := by unfold ckV; rw [if_pos ⟨g1, g2⟩, if_pos (by omega)]
                exact fin _ hf (by rw [e]; exact hr))
             | (have e : ckV T N m s = 0 := by unfold ckV; rw [if_pos ⟨g1, g2⟩, if_neg (by omega)]
                exact fin _ fr16_rf (by rw [e, fh_c0]; exact hk)))
theorem c_X5_takeSign {f : Mem → Prop} (hb : N ≤ 600) (hk : CTk T N s a σ) (h : ∀ τ, fr16 σ τ → CTk T N (nS T N s) (fh a (ckS T N s) s) τ → f τ) : SW G (d + 3) M_X5_takeSign 0 [some (.ref 16)] [] σ (RV f) := by
  have e5 := hk.2.2.2.2.1
  have k4 := kdS_le (T := T) (N := N) (s := s)
  have fin : ∀ τ, fr16 σ τ → CTk T N s (fh a (ckS T N s) s) τ → SW G (d + 3) M_X5_takeSign 13 [some (.ref 16)] [] τ (RV f) := by
    intro τ hf hk'
    refine sw_aloadn dX5_takeSign_13 rfl ?_
    refine sx_invV0 dX5_takeSign_14 mk_X5_nextToken vk_X5_nextToken lk_X5_39 o16 (Nat.le_of_ble_eq_true rfl) (Nat.le_of_ble_eq_true rfl) ?_
    refine c_next hb hk' (fun ρ hg hr' => ?_)
    refine sx_ret0 dX5_takeSign_17 rfl ?_
    exact h _ (fr16_tr hf hg) hr'
  refine sw_aloadn dX5_takeSign_0 rfl ?_
  refine sw_getI dX5_takeSign_1 fs_X5_42 o16 ?_
  rw [e5]
  refine sx_iconst (v := nI 3) dX5_takeSign_4 (by decide) ?_
  refine sw_icmp_eq (tgt := 13) dX5_takeSign_5 (by decide) (fun h5 => ?_) (fun h5 => ?_)
  · skip
    first
      | (have e : ckS T N s = 0 := if_pos (nI_inj (by omega) (by omega) h5)
         exact fin _ fr16_rf (by rw [e, fh_c0]; exact hk))
      | (have e : ckS T N s = 1 := if_neg (fun q => h5 (by rw [q]))
         exact fin _ hf (by rw [e]; exact hr))
  · skip
    refine sw_aloadn dX5_takeSign_8 rfl ?_
    refine sx_iconst (v := nI 1) dX5_takeSign_9 (by decide) ?_
    refine sx_invV1 dX5_takeSign_10 mk_X5_faultHere vk_X5_faultHere lk_X5_60 o16 (Nat.le_of_ble_eq_true rfl) (Nat.le_of_ble_eq_true rfl) ?_
    refine c_X5_faultHere (c := 1) (by omega) hk (fun τ hf hr => ?_)
    first
      | (have e : ckS T N s = 0 := if_pos (nI_inj (by omega) (by omega) h5)
         exact fin _ fr16_rf (by rw [e, fh_c0]; exact hk))
      | (have e : ckS T N s = 1 := if_neg (fun q => h5 (by rw [q]))
         exact fin _ hf (by rw [e]; exact hr))
end CTAKE
