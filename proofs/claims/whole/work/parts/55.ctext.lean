/-! ===== the class's TextReader: tokens ===== -/
theorem isLt_t {v : Int32} (h1 : ¬ v < nI 97) (h2 : ¬ nI 122 < v) : isLt v = true := decide_eq_true ⟨Int32.not_lt.mp h1, Int32.not_lt.mp h2⟩
theorem isLt_f1 {v : Int32} (h1 : v < nI 97) : isLt v = false := decide_eq_false (fun q => absurd q.1 (Int32.not_le.mpr h1))
theorem isLt_f2 {v : Int32} (h1 : nI 122 < v) : isLt v = false := decide_eq_false (fun q => absurd q.2 (Int32.not_le.mpr h1))
theorem isDg_t {v : Int32} (h1 : ¬ v < nI 48) (h2 : ¬ nI 57 < v) : isDg v = true := decide_eq_true ⟨Int32.not_lt.mp h1, Int32.not_lt.mp h2⟩
theorem isDg_f1 {v : Int32} (h1 : v < nI 48) : isDg v = false := decide_eq_false (fun q => absurd q.1 (Int32.not_le.mpr h1))
theorem isDg_f2 {v : Int32} (h1 : nI 57 < v) : isDg v = false := decide_eq_false (fun q => absurd q.2 (Int32.not_le.mpr h1))
/-- only the reader's own fields (at, token, start, size, value) have changed -/
def Kp (σ τ : Mem) : Prop := (∀ c, c ≠ 16 → τ.1 c = σ.1 c) ∧ (∀ c, c ≠ 16 → τ.2 c = σ.2 c) ∧ τ.1 16 1 = σ.1 16 1 ∧ τ.1 16 7 = σ.1 16 7 ∧ τ.1 16 8 = σ.1 16 8
theorem Kp_rf {σ : Mem} : Kp σ σ := ⟨fun _ _ => rfl, fun _ _ => rfl, rfl, rfl, rfl⟩
theorem Kp_tr {σ τ ρ : Mem} (h : Kp σ τ) (g : Kp τ ρ) : Kp σ ρ := ⟨fun c hc => (g.1 c hc).trans (h.1 c hc), fun c hc => (g.2.1 c hc).trans (h.2.1 c hc), g.2.2.1.trans h.2.2.1, g.2.2.2.1.trans h.2.2.2.1, g.2.2.2.2.trans h.2.2.2.2⟩
theorem Kp_I {σ τ : Mem} (h : Kp σ τ) {k : Nat} {v : Int32} (hk : 2 ≤ k ∧ k ≤ 6) : Kp σ (setI τ 16 k v) := by
  refine Kp_tr h ⟨fun c hc => setI_ne _ _ _ hc, fun _ _ => rfl, ?_, ?_, ?_⟩ <;> (rw [setI_at, upd_ne _ _ (by omega)])
theorem Kp_J {σ τ : Mem} (h : Kp σ τ) {v : Int64} : Kp σ (setJ τ 16 6 v) := Kp_tr h ⟨fun _ _ => rfl, fun c hc => setJ_ne _ _ _ hc, rfl, rfl, rfl⟩
section CTEXT
variable {G : GG} {d : Nat} {σ : Mem}
theorem c_X5_isBlank {f : Int32 → Mem → Prop} {v : Int32} (k1 : isBl v = true → f (nI 1) σ) (k0 : isBl v = false → f (nI 0) σ) : SW G d M_X5_isBlank 0 [some (.int v)] [] σ (RI f) := by
  refine sw_iloadn dX5_isBlank_0 rfl ?_
  refine sx_bipush (v := nI 32) dX5_isBlank_1 (by decide) ?_
  refine sw_icmp_eq (tgt := 12) dX5_isBlank_3 (by decide) (fun h3 => ?_) (fun h3 => ?_)
  · skip
    refine sx_iconst (v := nI 1) dX5_isBlank_12 (by decide) ?_
    refine sw_goto (tgt := 17) dX5_isBlank_13 (by decide) ?_
    refine sx_retz dX5_isBlank_17 rfl (Or.inr rfl) ?_
    first
      | exact k1 (decide_eq_true (Or.inl h3))
      | exact k1 (decide_eq_true (Or.inr h9))
      | exact k0 (decide_eq_false (fun q => q.elim h3 h9))
  · skip
    refine sw_iloadn dX5_isBlank_6 rfl ?_
    refine sx_bipush (v := nI 10) dX5_isBlank_7 (by decide) ?_
    refine sw_icmp_ne (tgt := 16) dX5_isBlank_9 (by decide) (fun h9 => ?_) (fun h9 => ?_)
    · skip
      refine sx_iconst (v := nI 0) dX5_isBlank_16 (by decide) ?_
      refine sx_retz dX5_isBlank_17 rfl (Or.inl rfl) ?_
      first
        | exact k1 (decide_eq_true (Or.inl h3))
        | exact k1 (decide_eq_true (Or.inr h9))
        | exact k0 (decide_eq_false (fun q => q.elim h3 h9))
    · skip
      refine sx_iconst (v := nI 1) dX5_isBlank_12 (by decide) ?_
      refine sw_goto (tgt := 17) dX5_isBlank_13 (by decide) ?_
      refine sx_retz dX5_isBlank_17 rfl (Or.inr rfl) ?_
      first
        | exact k1 (decide_eq_true (Or.inl h3))
        | exact k1 (decide_eq_true (Or.inr h9))
        | exact k0 (decide_eq_false (fun q => q.elim h3 h9))
theorem c_X5_isLetter {f : Int32 → Mem → Prop} {v : Int32} (k1 : isLt v = true → f (nI 1) σ) (k0 : isLt v = false → f (nI 0) σ) : SW G d M_X5_isLetter 0 [some (.int v)] [] σ (RI f) := by
  refine sw_iloadn dX5_isLetter_0 rfl ?_
  refine sx_bipush (v := nI 97) dX5_isLetter_1 (by decide) ?_
  refine sw_icmp_lt (tgt := 16) dX5_isLetter_3 (by decide) (fun h3 => ?_) (fun h3 => ?_)
  · skip
    refine sx_iconst (v := nI 0) dX5_isLetter_16 (by decide) ?_
    refine sx_retz dX5_isLetter_17 rfl (Or.inl rfl) ?_
    first
      | exact k1 (isLt_t h3 h9)
      | exact k0 (isLt_f1 h3)
      | exact k0 (isLt_f2 h9)
  · skip
    refine sw_iloadn dX5_isLetter_6 rfl ?_
    refine sx_bipush (v := nI 122) dX5_isLetter_7 (by decide) ?_
    refine sw_icmp_gt (tgt := 16) dX5_isLetter_9 (by decide) (fun h9 => ?_) (fun h9 => ?_)
    · skip
      refine sx_iconst (v := nI 0) dX5_isLetter_16 (by decide) ?_
      refine sx_retz dX5_isLetter_17 rfl (Or.inl rfl) ?_
      first
        | exact k1 (isLt_t h3 h9)
        | exact k0 (isLt_f1 h3)
        | exact k0 (isLt_f2 h9)
    · skip
      refine sx_iconst (v := nI 1) dX5_isLetter_12 (by decide) ?_
      refine sw_goto (tgt := 17) dX5_isLetter_13 (by decide) ?_
      refine sx_retz dX5_isLetter_17 rfl (Or.inr rfl) ?_
      first
        | exact k1 (isLt_t h3 h9)
        | exact k0 (isLt_f1 h3)
        | exact k0 (isLt_f2 h9)
theorem c_X5_isDigit {f : Int32 → Mem → Prop} {v : Int32} (k1 : isDg v = true → f (nI 1) σ) (k0 : isDg v = false → f (nI 0) σ) : SW G d M_X5_isDigit 0 [some (.int v)] [] σ (RI f) := by
  refine sw_iloadn dX5_isDigit_0 rfl ?_
  refine sx_bipush (v := nI 48) dX5_isDigit_1 (by decide) ?_
  refine sw_icmp_lt (tgt := 16) dX5_isDigit_3 (by decide) (fun h3 => ?_) (fun h3 => ?_)
  · skip
    refine sx_iconst (v := nI 0) dX5_isDigit_16 (by decide) ?_
    refine sx_retz dX5_isDigit_17 rfl (Or.inl rfl) ?_
    first
      | exact k1 (isDg_t h3 h9)
      | exact k0 (isDg_f1 h3)
      | exact k0 (isDg_f2 h9)
  · skip
    refine sw_iloadn dX5_isDigit_6 rfl ?_
    refine sx_bipush (v := nI 57) dX5_isDigit_7 (by decide) ?_
    refine sw_icmp_gt (tgt := 16) dX5_isDigit_9 (by decide) (fun h9 => ?_) (fun h9 => ?_)
    · skip
      refine sx_iconst (v := nI 0) dX5_isDigit_16 (by decide) ?_
      refine sx_retz dX5_isDigit_17 rfl (Or.inl rfl) ?_
      first
        | exact k1 (isDg_t h3 h9)
        | exact k0 (isDg_f1 h3)
        | exact k0 (isDg_f2 h9)
    · skip
      refine sx_iconst (v := nI 1) dX5_isDigit_12 (by decide) ?_
      refine sw_goto (tgt := 17) dX5_isDigit_13 (by decide) ?_
      refine sx_retz dX5_isDigit_17 rfl (Or.inr rfl) ?_
      first
        | exact k1 (isDg_t h3 h9)
        | exact k0 (isDg_f1 h3)
        | exact k0 (isDg_f2 h9)
theorem c_X5_readWord {f : Mem → Prop} {T : Nat → Int32} {N s : Nat} (hT : σ.1 1 = T) (hN : σ.1 16 1 = nI N) (hb : N ≤ 600) (hs : σ.1 16 2 = nI s) (hst : σ.1 16 4 = nI s) (hv : σ.2 16 6 = 0) (hk : kdS T N s = 1)
    (h : ∀ τ, Kp σ τ → τ.1 16 2 = nI (eS T N s) → τ.1 16 3 = nI 1 → τ.1 16 4 = nI s → τ.2 16 6 = vS T N s → f τ) : SW G (d + 1) M_X5_readWord 0 [some (.ref 16)] [] σ (RV f) := by
  have hsN := (kdS_1.mp hk).1
  have he := eS_1 hk
  have fin : ∀ (k : Nat) (τ : Mem), s + k ≤ N → rE isLt T N (s + k) = rE isLt T N s → rE isLt T N (s + k) = s + k → Kp σ τ → τ.1 16 2 = nI (s + k) → τ.1 16 3 = nI 1 → τ.1 16 4 = nI s → τ.2 16 6 = cdJ T s k → SW G (d + 1) M_X5_readWord 70 [some (.ref 16)] [] τ (RV f) := by
    intro k τ hk' e1 e2 hf h2 h3 h4 h6
    have hE : eS T N s = s + k := by rw [he, ← e1, e2]
    have hl : lS T N s = k := by unfold lS; omega
    refine sw_aloadn dX5_readWord_70 rfl ?_
    refine sw_getI dX5_readWord_71 fs_X5_30 o16 ?_
    rw [h2]
    refine sw_aloadn dX5_readWord_74 rfl ?_
    refine sw_getI dX5_readWord_75 fs_X5_108 o16 ?_
    rw [h4]
    refine sw_isub dX5_readWord_78 ?_
    refine sw_topI (y := nI k) (by rw [nI_sub (by omega)]; congr 1; omega) ?_
    refine sx_bipush (v := nI 8) dX5_readWord_79 (by decide) ?_
    refine sw_icmp_le (tgt := 89) dX5_readWord_81 (by decide) (fun h81 => ?_) (fun h81 => ?_)
    · skip
      refine sx_ret0 dX5_readWord_89 rfl ?_
      first
        | (refine h _ hf (by rw [h2, hE]) h3 h4 ?_
           rw [h6]
           unfold vS
           rw [if_pos hk, hl, if_neg (by have := (nI_le' (by omega) (by omega)).mp h81; omega)])
        | (refine h _ (Kp_J hf) (by rw [setJ_1, h2, hE]) h3 h4 ?_
           rw [setJ_at, updL_same]
           unfold vS
           rw [if_pos hk, hl, if_pos (by have := mt (nI_le' (by omega) (by omega)).mpr h81; omega)])
    · skip
      refine sw_aloadn dX5_readWord_84 rfl ?_
      refine sx_lconst (v := 0) dX5_readWord_85 (by decide) ?_
      refine sw_putJ dX5_readWord_86 fs_X5_45 o16 ?_
      refine sx_ret0 dX5_readWord_89 rfl ?_
      first
        | (refine h _ hf (by rw [h2, hE]) h3 h4 ?_
           rw [h6]
           unfold vS
           rw [if_pos hk, hl, if_neg (by have := (nI_le' (by omega) (by omega)).mp h81; omega)])
        | (refine h _ (Kp_J hf) (by rw [setJ_1, h2, hE]) h3 h4 ?_
           rw [setJ_at, updL_same]
           unfold vS
           rw [if_pos hk, hl, if_pos (by have := mt (nI_le' (by omega) (by omega)).mpr h81; omega)])
  have loop : ∀ (m k : Nat) (τ : Mem), m = N - (s + k) → s + k ≤ N → rE isLt T N (s + k) = rE isLt T N s → Kp σ τ → τ.1 16 2 = nI (s + k) → τ.1 16 3 = nI 1 → τ.1 16 4 = nI s → τ.2 16 6 = cdJ T s k → SW G (d + 1) M_X5_readWord 5 [some (.ref 16)] [] τ (RV f) := by
    intro m
    induction m with
    | zero =>
      intro k τ hm hk' e1 hf h2 h3 h4 h6
      have hN' : τ.1 16 1 = nI N := hf.2.2.1.trans hN
      refine sw_aloadn dX5_readWord_5 rfl ?_
      refine sw_getI dX5_readWord_6 fs_X5_30 o16 ?_
      rw [h2]
      refine sw_aloadn dX5_readWord_9 rfl ?_
      refine sw_getI dX5_readWord_10 fs_X5_26 o16 ?_
      rw [hN']
      refine sw_icmp_ge (tgt := 70) dX5_readWord_13 (by decide) (fun h13 => ?_) (fun h13 => ?_)
      · skip
        exact fin k τ hk' e1 (rE_no (by omega)) hf h2 h3 h4 h6
      · exact absurd ((nI_le (by omega) (by omega))) h13
    | succ m ih =>
      intro k τ hm hk' e1 hf h2 h3 h4 h6
      have hN' : τ.1 16 1 = nI N := hf.2.2.1.trans hN
      have hT' : τ.1 1 = T := (hf.1 1 (by decide)).trans hT
      refine sw_aloadn dX5_readWord_5 rfl ?_
      refine sw_getI dX5_readWord_6 fs_X5_30 o16 ?_
      rw [h2]
      refine sw_aloadn dX5_readWord_9 rfl ?_
      refine sw_getI dX5_readWord_10 fs_X5_26 o16 ?_
      rw [hN']
      refine sw_icmp_ge (tgt := 70) dX5_readWord_13 (by decide) (fun h13 => ?_) (fun h13 => ?_)
      · exact absurd h13 ((by rw [nI_le' (by omega) (by omega)]; omega))
      · skip
        refine sw_aloadn dX5_readWord_16 rfl ?_
        refine sw_getR dX5_readWord_17 fs_X5_9 o16 r16_0 ?_
        refine sw_aloadn dX5_readWord_20 rfl ?_
        refine sw_getI dX5_readWord_21 fs_X5_30 o16 ?_
        rw [h2]
        refine sx_bald (s + k) dX5_readWord_24 a1 (rfl) (by omega) (by decide) ?_
        rw [hT']
        refine sx_insI1 dX5_readWord_25 mk_X5_isLetter sk_X5_isLetter lk_X5_115 (Nat.le_of_ble_eq_true rfl) (Nat.le_of_ble_eq_true rfl) ?_
        refine c_X5_isLetter (fun h25 => ?_) (fun h25 => ?_)
        · skip
          refine sw_if_eq (tgt := 70) dX5_readWord_28 (by decide) (fun h28 => ?_) (fun h28 => ?_)
          · exact absurd h28 (by decide)
          · skip
            refine sw_aloadn dX5_readWord_31 rfl ?_
            refine sw_aloadn dX5_readWord_32 rfl ?_
            refine sw_getJ dX5_readWord_33 fs_X5_45 o16 ?_
            rw [h6]
            refine sx_iconst (v := nI 5) dX5_readWord_36 (by decide) ?_
            refine sw_lshl dX5_readWord_37 ?_
            refine sw_aloadn dX5_readWord_38 rfl ?_
            refine sw_getR dX5_readWord_39 fs_X5_9 o16 r16_0 ?_
            refine sw_aloadn dX5_readWord_42 rfl ?_
            refine sw_getI dX5_readWord_43 fs_X5_30 o16 ?_
            rw [h2]
            refine sx_bald (s + k) dX5_readWord_46 a1 (rfl) (by omega) (by decide) ?_
            rw [hT']
            refine sx_bipush (v := nI 97) dX5_readWord_47 (by decide) ?_
            refine sw_isub dX5_readWord_49 ?_
            refine sx_iconst (v := nI 1) dX5_readWord_50 (by decide) ?_
            refine sw_iadd dX5_readWord_51 ?_
            refine sw_i2l dX5_readWord_52 ?_
            refine sw_lor dX5_readWord_53 ?_
            refine sw_putJ dX5_readWord_54 fs_X5_45 o16 ?_
            refine sw_aloadn dX5_readWord_57 rfl ?_
            refine sw_dup dX5_readWord_58 rfl ?_
            refine sw_getI dX5_readWord_59 fs_X5_30 o16 ?_
            rw [show (setJ τ 16 6 _).1 16 2 = nI (s + k) from h2]
            refine sx_iconst (v := nI 1) dX5_readWord_62 (by decide) ?_
            refine sw_iadd dX5_readWord_63 ?_
            refine sw_topI (y := nI (s + (k + 1))) (nI_inc _) ?_
            refine sw_putI dX5_readWord_64 fs_X5_30 o16 ?_
            refine sw_goto (tgt := 5) dX5_readWord_67 (by decide) ?_
            exact ih (k + 1) _ (by omega) (by omega) (by rw [← e1]; exact (rE_go (by omega) h25).symm) (Kp_I (Kp_J hf) (by omega)) (by rw [setI_at, upd_same]) (by rw [setI_at, upd_ne _ _ (by decide)]; exact h3) (by rw [setI_at, upd_ne _ _ (by decide)]; exact h4) (by rw [setI_2, setJ_at, updL_same]; rfl)
        · skip
          refine sw_if_eq (tgt := 70) dX5_readWord_28 (by decide) (fun h28 => ?_) (fun h28 => ?_)
          · skip
            exact fin k τ hk' e1 (rE_no (fun q => by rw [q.2] at h25; cases h25)) hf h2 h3 h4 h6
          · exact absurd h28 (by decide)
  refine sw_aloadn dX5_readWord_0 rfl ?_
  refine sx_iconst (v := nI 1) dX5_readWord_1 (by decide) ?_
  refine sw_putI dX5_readWord_2 fs_X5_42 o16 ?_
  exact loop (N - s) 0 _ rfl (by omega) rfl (Kp_I Kp_rf (by omega)) (by rw [setI_at, upd_ne _ _ (by decide)]; exact hs) (by rw [setI_at, upd_same]) (by rw [setI_at, upd_ne _ _ (by decide)]; exact hst) hv
end CTEXT
