/-! ===== Walks.lookAt, forget; LogBook.tellingOf ===== -/
section LOOKAT
variable {G : GG} {d : Nat} {σ : Mem}
theorem ODm_at {τ τ' : Mem} {P : PL} {g : LG} {m : Nat} (h : ODm τ P g m) (e : τ'.1 41 = τ.1 41) : ODm τ' P g m := by
  unfold ODm
  rw [e]
  exact h
theorem c_lookAt {f : Mem → Prop} {P : PL} {nc n m : Nat} {y : Int32} (hP : PlC σ P) (hV : PV P) (hs : σ.1 17 0 = nI n) (hn : n ≤ 100) (hm : m ≤ n) (hL : LV P nc n (lgC σ)) (h12 : pcN (lgC σ) y n ≤ 12) (hE : EN σ P) (hc : σ.1 35 8 = nI m → ODm σ P (lgC σ) m)
    (h : ∀ τ, fr 35 42 σ τ → τ.1 35 8 = nI m → ODm τ P (lgC σ) m → WT τ P (wkG P (lgC σ) y m (fun _ _ => True)) → SNs τ (fun _ _ => True) → (∀ i, i < pcN (lgC σ) y m → τ.1 36 i = nI (pfF (lgC σ) y m i)) → f τ) : SW G (d + 3) M_X6_lookAt 0 [some (.ref 35), some (.int y), some (.int (nI m)), none] [] σ (RV f) := by
  have hKV := wkG_V hV hL hm h12 (fun _ _ => True)
  have hcm : pcN (lgC σ) y m ≤ 12 := hKV.1.1
  have cmono : ∀ a b, a ≤ b → pcN (lgC σ) y a ≤ pcN (lgC σ) y b := by
    intro a b hab
    induction b with
    | zero => rw [show a = 0 by omega]; exact Nat.le_refl _
    | succ b ih =>
      by_cases e : a = b + 1
      · rw [e]; exact Nat.le_refl _
      · refine Nat.le_trans (ih (by omega)) ?_
        show cnt _ b ≤ cnt _ (b + 1)
        simp only [cnt]
        omega
  -- the last stretch
  have fin : ∀ τ o, fr 35 41 σ τ → τ.1 35 8 = nI m → ODm τ P (lgC σ) m → τ.1 35 2 = nI (pcN (lgC σ) y m) → (∀ i, i < pcN (lgC σ) y m → τ.1 36 i = nI (pfF (lgC σ) y m i)) → (∀ i, i < pcN (lgC σ) y m → τ.1 37 i = nI (lft P (lgC σ) (pfF (lgC σ) y m i)) ∧ τ.1 38 i = nI (cmt P (lgC σ) (pfF (lgC σ) y m i)) ∧ τ.1 39 i = nI (nv (lTK (lgC σ)) (pfF (lgC σ) y m i)) - nI (pE P (nv (lTG (lgC σ)) (pfF (lgC σ) y m i))) ∧ τ.1 40 i = nI (nv (lTK (lgC σ)) (pfF (lgC σ) y m i)) + nI (pE P (nv (lTG (lgC σ)) (pfF (lgC σ) y m i)))) → SW G (d + 3) M_X6_lookAt 61 [some (.ref 35), some (.int y), some (.int (nI m)), o] [] τ (RV f) := by
    intro τ o hf h8 hod h2 h36 hrd
    refine sw_aloadn dX6_lookAt_61 rfl ?_
    refine sw_getR dX6_lookAt_62 fs_X6_34 o35 r35_10 ?_
    refine sw_ldc2 dX6_lookAt_65 kl_X6_82 ?_
    refine sx_insV2 dX6_lookAt_68 mk_J7_fill_d0a16 sk_J7_fill_d0a16 lk_X6_84 (Nat.le_of_ble_eq_true rfl) (Nat.le_of_ble_eq_true rfl) ?_
    refine c_fillJ a42 (by decide) ?_
    refine sx_ret0 dX6_lookAt_71 rfl ?_
    have hf' : fr 35 42 σ (setB τ 42 (filJ (τ.2 42) 200 1099511627775)) := fr_B (fr_wide hf (by omega) (by omega)) (by omega)
    have hsn : SNs (setB τ 42 (filJ (τ.2 42) 200 1099511627775)) (fun _ _ => True) := fun t ht => by
      rw [setB_at, filJ, if_pos ht]
      refine ⟨fun rm a hr ha => ?_, fun i hi => by rw [mb_40, decide_eq_false (by omega)]⟩
      rw [pb, mb_40, decide_eq_true_iff]
      exact ⟨fun _ => trivial, fun _ => by omega⟩
    refine h _ hf' h8 (ODm_at hod rfl) ?_ hsn h36
    refine ⟨PlC_fr hf' (by omega) hP, hV, hKV.1, h2, fun i hi => (hrd i hi).1, fun i hi => (hrd i hi).2.1, fun i t hi ht => ?_, fun t ht => hod t ht, hsn, ?_⟩
    · have q := pfF_in (lgC σ) y m i hi
      have hp := hL.pass (show pfF (lgC σ) y m i < n by omega) q.2.1
      have he := (hV.2.2.2.1 _ hp.2.1.2).2.2.2
      have t2 := hp.2.2.1.2
      show (τ.1 39 i ≤ nI t ∧ nI t ≤ τ.1 40 i) ↔ _
      rw [(hrd i hi).2.2.1, (hrd i hi).2.2.2]
      exact tm_I (by omega) (by omega) (by omega)
    · intro rm hrm i hi
      rw [(hf' 43 (by omega)).2]
      exact hE rm hrm i hi
  have loop2 : ∀ (q i : Nat), q = pcN (lgC σ) y m - i → i ≤ pcN (lgC σ) y m → ∀ τ, fr 35 41 σ τ → τ.1 35 8 = nI m → ODm τ P (lgC σ) m → τ.1 35 2 = nI (pcN (lgC σ) y m) → (∀ i, i < pcN (lgC σ) y m → τ.1 36 i = nI (pfF (lgC σ) y m i)) → (∀ j, j < i → τ.1 37 j = nI (lft P (lgC σ) (pfF (lgC σ) y m j)) ∧ τ.1 38 j = nI (cmt P (lgC σ) (pfF (lgC σ) y m j)) ∧ τ.1 39 j = nI (nv (lTK (lgC σ)) (pfF (lgC σ) y m j)) - nI (pE P (nv (lTG (lgC σ)) (pfF (lgC σ) y m j))) ∧ τ.1 40 j = nI (nv (lTK (lgC σ)) (pfF (lgC σ) y m j)) + nI (pE P (nv (lTG (lgC σ)) (pfF (lgC σ) y m j)))) → SW G (d + 3) M_X6_lookAt 42 [some (.ref 35), some (.int y), some (.int (nI m)), some (.int (nI i))] [] τ (RV f) := by
    intro q
    induction q with
    | zero =>
      intro i hq hi τ hf h8 hod h2 h36 hrd
      obtain rfl : i = pcN (lgC σ) y m := by omega
      refine sw_iloadn dX6_lookAt_42 rfl ?_
      refine sw_aloadn dX6_lookAt_43 rfl ?_
      refine sw_getI dX6_lookAt_44 fs_X6_67 o35 ?_
      rw [h2]
      refine sw_icmp_ge (tgt := 61) dX6_lookAt_47 (by decide) (fun h47 => ?_) (fun h47 => ?_)
      · skip
        exact fin τ _ hf h8 hod h2 h36 hrd
      · exact absurd ((nI_le (Nat.le_refl _) (by omega))) h47
    | succ q ih =>
      intro i hq hi τ hf h8 hod h2 h36 hrd
      have hlg : lgC τ = lgC σ := lgC_fr hf (by omega)
      have qi := pfF_in (lgC σ) y m i (by omega)
      have h0 : τ.1 18 (pfF (lgC σ) y m i) = 0 := by rw [(hf 18 (by omega)).1]; exact qi.2.1
      have ih := ih (i + 1) (by omega) (by omega)
      refine sw_iloadn dX6_lookAt_42 rfl ?_
      refine sw_aloadn dX6_lookAt_43 rfl ?_
      refine sw_getI dX6_lookAt_44 fs_X6_67 o35 ?_
      rw [h2]
      refine sw_icmp_ge (tgt := 61) dX6_lookAt_47 (by decide) (fun h47 => ?_) (fun h47 => ?_)
      · exact absurd h47 ((by rw [nI_le' (by omega) (by omega)]; omega))
      · skip
        refine sw_aloadn dX6_lookAt_50 rfl ?_
        refine sw_iloadn dX6_lookAt_51 rfl ?_
        refine sx_invV1 dX6_lookAt_52 mk_X6_readPass vk_X6_readPass lk_X6_79 o35 (Nat.le_of_ble_eq_true rfl) (Nat.le_of_ble_eq_true rfl) ?_
        refine c_readPass (σ := τ) (n := n) (k := pfF (lgC σ) y m i) (PlC_fr hf (by omega) hP) hV hn (by rw [hlg]; exact hL) (by omega) h0 (by omega) (h36 i (by omega)) ?_
        refine sx_iinc (nI (i + 1)) dX6_lookAt_55 rfl (nI_inc _) ?_
        refine sw_goto (tgt := 42) dX6_lookAt_58 (by decide) ?_
        rw [hlg]
        refine ih _ (fr_I (fr_I (fr_I (fr_I hf (by omega)) (by omega)) (by omega)) (by omega)) h8 (ODm_at hod rfl) h2 h36 (fun j hj => ?_)
        by_cases e : j = i
        · subst e
          refine ⟨?_, ?_, ?_, ?_⟩
          · rw [setI_ne _ _ _ (by decide), setI_ne _ _ _ (by decide), setI_ne _ _ _ (by decide), setI_at, upd_same]
          · rw [setI_ne _ _ _ (by decide), setI_ne _ _ _ (by decide), setI_at, upd_same]
          · rw [setI_ne _ _ _ (by decide), setI_at, upd_same]
          · rw [setI_at, upd_same]
        · obtain ⟨z1, z2, z3, z4⟩ := hrd j (by omega)
          refine ⟨?_, ?_, ?_, ?_⟩
          · rw [setI_ne _ _ _ (by decide), setI_ne _ _ _ (by decide), setI_ne _ _ _ (by decide), setI_at, upd_ne _ _ e]; exact z1
          · rw [setI_ne _ _ _ (by decide), setI_ne _ _ _ (by decide), setI_at, upd_ne _ _ e, setI_ne _ _ _ (by decide)]; exact z2
          · rw [setI_ne _ _ _ (by decide), setI_at, upd_ne _ _ e, setI_ne _ _ _ (by decide), setI_ne _ _ _ (by decide)]; exact z3
          · rw [setI_at, upd_ne _ _ e, setI_ne _ _ _ (by decide), setI_ne _ _ _ (by decide), setI_ne _ _ _ (by decide)]; exact z4
  have loop1 : ∀ (q k : Nat), q = m - k → k ≤ m → ∀ τ, fr 35 41 σ τ → τ.1 35 8 = nI m → ODm τ P (lgC σ) m → τ.1 35 2 = nI (pcN (lgC σ) y k) → (∀ i, i < pcN (lgC σ) y k → τ.1 36 i = nI (pfF (lgC σ) y k i)) → SW G (d + 3) M_X6_lookAt 12 [some (.ref 35), some (.int y), some (.int (nI m)), some (.int (nI k))] [] τ (RV f) := by
    intro q
    induction q with
    | zero =>
      intro k hq hk τ hf h8 hod h2 h36
      obtain rfl : k = m := by omega
      refine sw_iloadn dX6_lookAt_12 rfl ?_
      refine sw_iloadn dX6_lookAt_13 rfl ?_
      refine sw_icmp_ge (tgt := 40) dX6_lookAt_14 (by decide) (fun h14 => ?_) (fun h14 => ?_)
      · skip
        refine sx_iconst (v := nI 0) dX6_lookAt_40 (by decide) ?_
        refine sw_istoren dX6_lookAt_41 (Nat.le_of_ble_eq_true rfl) ?_
        exact loop2 _ 0 rfl (by omega) τ hf h8 hod h2 h36 (fun j hj => absurd hj (by omega))
      · exact absurd ((nI_le (Nat.le_refl _) (by omega))) h14
    | succ q ih =>
      intro k hq hk τ hf h8 hod h2 h36
      have hlg : lgC τ = lgC σ := lgC_fr hf (by omega)
      have e18 := (hf 18 (by omega)).1
      have e19 := (hf 19 (by omega)).1
      have hs' : τ.1 17 0 = nI n := by rw [(hf 17 (by omega)).1]; exact hs
      have ih := ih (k + 1) (by omega) (by omega)
      refine sw_iloadn dX6_lookAt_12 rfl ?_
      refine sw_iloadn dX6_lookAt_13 rfl ?_
      refine sw_icmp_ge (tgt := 40) dX6_lookAt_14 (by decide) (fun h14 => ?_) (fun h14 => ?_)
      · exact absurd h14 ((by rw [nI_le' (by omega) (by omega)]; omega))
      · skip
        refine sw_aloadn dX6_lookAt_17 rfl ?_
        refine sw_getR dX6_lookAt_18 fs_X6_51 o35 r35_1 ?_
        refine sw_iloadn dX6_lookAt_21 rfl ?_
        refine sw_iloadn dX6_lookAt_22 rfl ?_
        refine sx_invI2 dX6_lookAt_23 mk_X2_isPassOf vk_X2_isPassOf lk_X6_70 o17 (Nat.le_of_ble_eq_true rfl) (Nat.le_of_ble_eq_true rfl) ?_
        refine c_X2_isPassOf (σ := τ) hs' hn (show k < n by omega) (fun h23 => ?_) (fun h23 => ?_)
        · skip
          refine sw_if_eq (tgt := 34) dX6_lookAt_26 (by decide) (fun h26 => ?_) (fun h26 => ?_)
          · exact absurd h26 (by decide)
          · skip
            have hpk : pasB (lgC σ) y k = true := pasB_iff.mpr (by rw [e18, e19] at h23; exact h23)
            have hck : pcN (lgC σ) y (k + 1) = pcN (lgC σ) y k + 1 := by simp [pcN, cnt, hpk]
            have hle := cmono (k + 1) m (by omega)
            refine sw_aloadn dX6_lookAt_29 rfl ?_
            refine sw_iloadn dX6_lookAt_30 rfl ?_
            refine sx_invV1 dX6_lookAt_31 mk_X6_insertPass vk_X6_insertPass lk_X6_76 o35 (Nat.le_of_ble_eq_true rfl) (Nat.le_of_ble_eq_true rfl) ?_
            refine c_insertPass (σ := τ) (F := pfF (lgC σ) y k) h2 (by omega) (by omega) (fun i hi => by have := pfF_in (lgC σ) y k i hi; omega) h36 (fun τ' hf' g2 g8 g36 => ?_)
            refine sx_iinc (nI (k + 1)) dX6_lookAt_34 rfl (nI_inc _) ?_
            refine sw_goto (tgt := 12) dX6_lookAt_37 (by decide) ?_
            first
              | (have hno : ¬ pasB (lgC σ) y k = true := fun z => h23 (by rw [e18, e19]; exact pasB_iff.mp z)
                 have hck : pcN (lgC σ) y (k + 1) = pcN (lgC σ) y k := by simp [pcN, cnt, hno]
                 refine ih τ hf h8 hod (by rw [hck]; exact h2) ?_
                 rw [hck, show pfF (lgC σ) y (k + 1) = pfF (lgC σ) y k from if_neg hno]
                 exact h36)
              | (refine ih τ' (fun c hc => ⟨(hf' c (by omega) (by omega)).1.trans (hf c hc).1, (hf' c (by omega) (by omega)).2.trans (hf c hc).2⟩) (g8.trans h8) (ODm_at hod (hf' 41 (by decide) (by decide)).1) (by rw [hck]; exact g2) ?_
                 rw [hck, show pfF (lgC σ) y (k + 1) = inA (ltr (lgC σ) k) k (pcN (lgC σ) y k) (pfF (lgC σ) y k) from if_pos hpk, ← hlg]
                 rw [← hlg] at g36
                 exact g36)
        · skip
          refine sw_if_eq (tgt := 34) dX6_lookAt_26 (by decide) (fun h26 => ?_) (fun h26 => ?_)
          · skip
            refine sx_iinc (nI (k + 1)) dX6_lookAt_34 rfl (nI_inc _) ?_
            refine sw_goto (tgt := 12) dX6_lookAt_37 (by decide) ?_
            first
              | (have hno : ¬ pasB (lgC σ) y k = true := fun z => h23 (by rw [e18, e19]; exact pasB_iff.mp z)
                 have hck : pcN (lgC σ) y (k + 1) = pcN (lgC σ) y k := by simp [pcN, cnt, hno]
                 refine ih τ hf h8 hod (by rw [hck]; exact h2) ?_
                 rw [hck, show pfF (lgC σ) y (k + 1) = pfF (lgC σ) y k from if_neg hno]
                 exact h36)
              | (refine ih τ' (fun c hc => ⟨(hf' c (by omega) (by omega)).1.trans (hf c hc).1, (hf' c (by omega) (by omega)).2.trans (hf c hc).2⟩) (g8.trans h8) (ODm_at hod (hf' 41 (by decide) (by decide)).1) (by rw [hck]; exact g2) ?_
                 rw [hck, show pfF (lgC σ) y (k + 1) = inA (ltr (lgC σ) k) k (pcN (lgC σ) y k) (pfF (lgC σ) y k) from if_pos hpk, ← hlg]
                 rw [← hlg] at g36
                 exact g36)
          · exact absurd h26 (by decide)
  refine sw_aloadn dX6_lookAt_0 rfl ?_
  refine sw_iloadn dX6_lookAt_1 rfl ?_
  refine sx_invV1 dX6_lookAt_2 mk_X6_openGaps vk_X6_openGaps lk_X6_63 o35 (Nat.le_of_ble_eq_true rfl) (Nat.le_of_ble_eq_true rfl) ?_
  refine c_openGaps hP hV hm hn hL hc (fun τ hf hf' h8 hod => ?_)
  refine sw_aloadn dX6_lookAt_5 rfl ?_
  refine sx_iconst (v := nI 0) dX6_lookAt_6 (by decide) ?_
  refine sw_putI dX6_lookAt_7 fs_X6_67 o35 ?_
  refine sx_iconst (v := nI 0) dX6_lookAt_10 (by decide) ?_
  refine sw_istoren dX6_lookAt_11 (Nat.le_of_ble_eq_true rfl) ?_
  exact loop1 m 0 (by omega) (by omega) _ (fr_I hf (by omega)) (by rw [setI_at, upd_ne _ _ (by decide)]; exact h8) (ODm_at hod (by rw [setI_ne _ _ _ (by decide)])) (by rw [setI_at, upd_same]; rfl) (fun i hi => by simp [pcN, cnt] at hi)
/-- log k says something of card y -/
def rel (g : LG) (y : Int32) (k : Nat) : Prop := lCA g k = y ∨ lKD g k = nI 1
theorem c_tellingOf {f : Int32 → Mem → Prop} {n m : Nat} {y : Int32} (hs : σ.1 17 0 = nI n) (hn : n ≤ 100) (hm : m ≤ n) (h : ∀ k, k ≤ m → (∀ j, k ≤ j → j < m → ¬ rel (lgC σ) y j) → f (nI k) σ) : SW G (d + 1) M_X2_tellingOf 0 [some (.ref 17), some (.int y), some (.int (nI m)), none] [] σ (RI f) := by
  have loop : ∀ k, k ≤ m → (∀ j, k ≤ j → j < m → ¬ rel (lgC σ) y j) → SW G (d + 1) M_X2_tellingOf 11 [some (.ref 17), some (.int y), some (.int (nI m)), some (.int (nI k - nI 1))] [] σ (RI f) := by
    intro k
    induction k with
    | zero =>
      intro hk hno
      refine sw_iloadn dX2_tellingOf_11 rfl ?_
      refine sw_if_lt (tgt := 45) dX2_tellingOf_12 (by decide) (fun h12 => ?_) (fun h12 => ?_)
      · skip
        refine sx_iconst (v := nI 0) dX2_tellingOf_45 (by decide) ?_
        refine sx_reti dX2_tellingOf_46 rfl ?_
        exact h 0 hk hno
      · exact absurd ((by decide)) h12
    | succ k ih =>
      intro hk hno
      rw [show nI (k + 1) - nI 1 = nI k from nI_pred k]
      refine sw_iloadn dX2_tellingOf_11 rfl ?_
      refine sw_if_lt (tgt := 45) dX2_tellingOf_12 (by decide) (fun h12 => ?_) (fun h12 => ?_)
      · exact absurd h12 ((nI_pos (by omega)))
      · skip
        refine sw_aloadn dX2_tellingOf_15 rfl ?_
        refine sw_getR dX2_tellingOf_16 fs_X2_15 o17 r17_2 ?_
        refine sw_iloadn dX2_tellingOf_19 rfl ?_
        refine sx_iald (k) dX2_tellingOf_20 a19 (rfl) (by omega) (by decide) ?_
        refine sw_iloadn dX2_tellingOf_21 rfl ?_
        refine sw_icmp_eq (tgt := 35) dX2_tellingOf_22 (by decide) (fun h22 => ?_) (fun h22 => ?_)
        · skip
          refine sw_iloadn dX2_tellingOf_35 rfl ?_
          refine sx_iconst (v := nI 1) dX2_tellingOf_36 (by decide) ?_
          refine sw_iadd dX2_tellingOf_37 ?_
          refine sw_topI (y := nI (k + 1)) (nI_1 k) ?_
          refine sx_reti dX2_tellingOf_38 rfl ?_
          exact h (k + 1) hk hno
        · skip
          refine sw_aloadn dX2_tellingOf_25 rfl ?_
          refine sw_getR dX2_tellingOf_26 fs_X2_9 o17 r17_1 ?_
          refine sw_iloadn dX2_tellingOf_29 rfl ?_
          refine sx_iald (k) dX2_tellingOf_30 a18 (rfl) (by omega) (by decide) ?_
          refine sx_iconst (v := nI 1) dX2_tellingOf_31 (by decide) ?_
          refine sw_icmp_ne (tgt := 39) dX2_tellingOf_32 (by decide) (fun h32 => ?_) (fun h32 => ?_)
          · skip
            refine sx_iinc (nI k - nI 1) dX2_tellingOf_39 rfl (dec1 _) ?_
            refine sw_goto (tgt := 11) dX2_tellingOf_42 (by decide) ?_
            refine ih (by omega) (fun j h1 h2 => ?_)
            by_cases e : j = k
            · subst e; exact fun q => q.elim h22 h32
            · exact hno j (by omega) h2
          · skip
            refine sw_iloadn dX2_tellingOf_35 rfl ?_
            refine sx_iconst (v := nI 1) dX2_tellingOf_36 (by decide) ?_
            refine sw_iadd dX2_tellingOf_37 ?_
            refine sw_topI (y := nI (k + 1)) (nI_1 k) ?_
            refine sx_reti dX2_tellingOf_38 rfl ?_
            exact h (k + 1) hk hno
  refine sw_iloadn dX2_tellingOf_0 rfl ?_
  refine sw_aloadn dX2_tellingOf_1 rfl ?_
  refine sw_getI dX2_tellingOf_2 fs_X2_27 o17 ?_
  rw [hs]
  refine sw_min dX2_tellingOf_5 lm_X2_42 (Nat.le_of_ble_eq_true rfl) ?_
  refine sw_topI (y := nI m) (if_neg (by rw [nI_lt' (by omega) (by omega)]; omega)) ?_
  refine sx_iconst (v := nI 1) dX2_tellingOf_8 (by decide) ?_
  refine sw_isub dX2_tellingOf_9 ?_
  refine sw_istoren dX2_tellingOf_10 (Nat.le_of_ble_eq_true rfl) ?_
  exact loop m (Nat.le_refl _) (fun j h1 h2 => absurd h1 (by omega))
theorem c_X6_forget {f : Mem → Prop} {P : PL} (hP : PlC σ P) (hV : PV P) (h : ∀ τ, (∀ c, c ≠ 35 → c ≠ 43 → τ.1 c = σ.1 c ∧ τ.2 c = σ.2 c) → τ.1 35 8 = -1 → EN τ P → f τ) : SW G d M_X6_forget 0 [some (.ref 35), none] [] σ (RV f) := by
  have h8 := hV.1
  have loop : ∀ (q k : Nat), q = pR P - k → k ≤ pR P → ∀ τ, (∀ c, c ≠ 35 → c ≠ 43 → τ.1 c = σ.1 c ∧ τ.2 c = σ.2 c) → τ.1 35 8 = -1 → (∀ rm, rm < k → ∀ i, i < 64 → mb (τ.2 43 rm) i = decide (i = 8 * pW P rm + rm)) → SW G d M_X6_forget 7 [some (.ref 35), some (.int (nI k))] [] τ (RV f) := by
    intro q
    induction q with
    | zero =>
      intro k hq hk τ hf he hen
      obtain rfl : k = pR P := by omega
      have e2 : τ.1 2 0 = nI (pR P) := by rw [(hf 2 (by decide) (by decide)).1]; exact hP.1
      refine sw_iloadn dX6_forget_7 rfl ?_
      refine sw_aloadn dX6_forget_8 rfl ?_
      refine sw_getR dX6_forget_9 fs_X6_47 o35 r35_0 ?_
      refine sw_getI dX6_forget_12 fs_X6_55 o2 ?_
      rw [e2]
      refine sw_icmp_ge (tgt := 46) dX6_forget_15 (by decide) (fun h15 => ?_) (fun h15 => ?_)
      · skip
        refine sx_ret0 dX6_forget_46 rfl ?_
        exact h τ hf he hen
      · exact absurd ((nI_le (Nat.le_refl _) (by omega))) h15
    | succ q ih =>
      intro k hq hk τ hf he hen
      have e2 : τ.1 2 0 = nI (pR P) := by rw [(hf 2 (by decide) (by decide)).1]; exact hP.1
      have e4 : τ.1 4 k = nI (pW P k) := by rw [(hf 4 (by decide) (by decide)).1]; exact hP.2.2.1 k (by omega)
      have hw := hV.2.2.1 k (by omega)
      refine sw_iloadn dX6_forget_7 rfl ?_
      refine sw_aloadn dX6_forget_8 rfl ?_
      refine sw_getR dX6_forget_9 fs_X6_47 o35 r35_0 ?_
      refine sw_getI dX6_forget_12 fs_X6_55 o2 ?_
      rw [e2]
      refine sw_icmp_ge (tgt := 46) dX6_forget_15 (by decide) (fun h15 => ?_) (fun h15 => ?_)
      · exact absurd h15 ((by rw [nI_le' (by omega) (by omega)]; omega))
      · skip
        refine sw_aloadn dX6_forget_18 rfl ?_
        refine sw_getR dX6_forget_19 fs_X6_38 o35 r35_11 ?_
        refine sw_iloadn dX6_forget_22 rfl ?_
        refine sx_lconst (v := 1) dX6_forget_23 (by decide) ?_
        refine sx_bipush (v := nI 8) dX6_forget_24 (by decide) ?_
        refine sw_aloadn dX6_forget_26 rfl ?_
        refine sw_getR dX6_forget_27 fs_X6_47 o35 r35_0 ?_
        refine sw_getR dX6_forget_30 fs_X6_60 o2 r2_3 ?_
        refine sw_iloadn dX6_forget_33 rfl ?_
        refine sx_iald (k) dX6_forget_34 a4 (rfl) (by omega) (by decide) ?_
        rw [e4]
        refine sw_imul dX6_forget_35 ?_
        refine sw_iloadn dX6_forget_36 rfl ?_
        refine sw_iadd dX6_forget_37 ?_
        refine sw_topI (y := nI (8 * pW P k + k)) (by rw [nI_mul, nI_add]) ?_
        refine sw_lshl dX6_forget_38 ?_
        refine sx_last (k) dX6_forget_39 a43 (rfl) (by omega) (by decide) ?_
        refine sx_iinc (nI (k + 1)) dX6_forget_40 rfl (nI_inc _) ?_
        refine sw_goto (tgt := 7) dX6_forget_43 (by decide) ?_
        refine ih (k + 1) (by omega) (by omega) _ (fun c c1 c2 => ⟨(hf c c1 c2).1, by rw [setJ_ne _ _ _ c2]; exact (hf c c1 c2).2⟩) he (fun rm hrm i hi => ?_)
        rw [setJ_at]
        by_cases e : rm = k
        · subst e; rw [updL_same]; exact mb_bit (by omega) i
        · rw [updL_ne _ _ e]; exact hen rm (by omega) i hi
  refine sw_aloadn dX6_forget_0 rfl ?_
  refine sx_iconst (v := (-1)) dX6_forget_1 (by decide) ?_
  refine sw_putI dX6_forget_2 fs_X6_27 o35 ?_
  refine sx_iconst (v := nI 0) dX6_forget_5 (by decide) ?_
  refine sw_istoren dX6_forget_6 (Nat.le_of_ble_eq_true rfl) ?_
  exact loop (pR P) 0 (by omega) (by omega) _ (fun c c1 _ => ⟨setI_ne _ _ _ c1, rfl⟩) (by rw [setI_at, upd_same]) (fun rm hrm => absurd hrm (by omega))
theorem c_X1_forget {f : Mem → Prop} {P : PL} (hP : PlC σ P) (hV : PV P) (h : ∀ τ, (∀ c, c ≠ 31 → c ≠ 32 → c ≠ 35 → c ≠ 43 → τ.1 c = σ.1 c ∧ τ.2 c = σ.2 c) → τ.1 35 8 = -1 → EN τ P → (∀ c, c < 10 → τ.1 32 c = -1) → τ.1 31 4 = -1 → f τ) : SW G (d + 1) M_X1_forget 0 [some (.ref 31)] [] σ (RV f) := by
  refine sw_aloadn dX1_forget_0 rfl ?_
  refine sw_getR dX1_forget_1 fs_X1_29 o31 r31_1 ?_
  refine sx_invV0 dX1_forget_4 mk_X6_forget vk_X6_forget lk_X1_33 o35 (Nat.le_of_ble_eq_true rfl) (Nat.le_of_ble_eq_true rfl) ?_
  refine c_X6_forget hP hV (fun τ hf he hen => ?_)
  refine sw_aloadn dX1_forget_7 rfl ?_
  refine sw_getR dX1_forget_8 fs_X1_9 o31 r31_2 ?_
  refine sx_iconst (v := (-1)) dX1_forget_11 (by decide) ?_
  refine sx_insV2 dX1_forget_12 mk_J7_fill_53178 sk_J7_fill_53178 lk_X1_38 (Nat.le_of_ble_eq_true rfl) (Nat.le_of_ble_eq_true rfl) ?_
  refine c_fillI a32 (by decide) ?_
  refine sw_aloadn dX1_forget_15 rfl ?_
  refine sx_iconst (v := (-1)) dX1_forget_16 (by decide) ?_
  refine sw_putI dX1_forget_17 fs_X1_18 o31 ?_
  refine sx_ret0 dX1_forget_20 rfl ?_
  refine h _ (fun c c1 c2 c3 c4 => ⟨?_, (hf c c3 c4).2⟩) ?_ ?_ (fun c hc => ?_) ?_
  · rw [setI_ne _ _ _ c1, setA_ne _ _ c2]; exact (hf c c3 c4).1
  · rw [setI_ne _ _ _ (by decide), setA_ne _ _ (by decide)]; exact he
  · exact hen
  · rw [setI_ne _ _ _ (by decide), setA_at, filI, if_pos hc]
  · rw [setI_at, upd_same]
end LOOKAT
