section CTEXT2
variable {G : GG} {d : Nat} {σ : Mem}
theorem c_X5_readNumber {f : Mem → Prop} {T : Nat → Int32} {N s : Nat} (hT : σ.1 1 = T) (hN : σ.1 16 1 = nI N) (hb : N ≤ 600) (hs : σ.1 16 2 = nI s) (hst : σ.1 16 4 = nI s) (hv : σ.2 16 6 = 0) (hk : kdS T N s = 2)
    (h : ∀ τ, Kp σ τ → τ.1 16 2 = nI (eS T N s) → τ.1 16 3 = nI 2 → τ.1 16 4 = nI s → τ.2 16 6 = vS T N s → f τ) : SW G (d + 1) M_X5_readNumber 0 [some (.ref 16)] [] σ (RV f) := by
  have hsN := (kdS_2.mp hk).1
  have he := eS_2 hk
  have fin : ∀ (k : Nat) (τ : Mem), s + k ≤ N → rE isDg T N (s + k) = rE isDg T N s → rE isDg T N (s + k) = s + k → Kp σ τ → τ.1 16 2 = nI (s + k) → τ.1 16 3 = nI 2 → τ.1 16 4 = nI s → τ.2 16 6 = ndJ T s k → SW G (d + 1) M_X5_readNumber 70 [some (.ref 16)] [] τ (RV f) := by
    intro k τ hk' e1 e2 hf h2 h3 h4 h6
    have hE : eS T N s = s + k := by rw [he, ← e1, e2]
    have hl : lS T N s = k := by unfold lS; omega
    refine sx_ret0 dX5_readNumber_70 rfl ?_
    refine h _ hf (by rw [h2, hE]) h3 h4 ?_
    rw [h6]
    unfold vS
    rw [if_neg (by omega), if_pos hk, hl]
  have loop : ∀ (m k : Nat) (τ : Mem), m = N - (s + k) → s + k ≤ N → rE isDg T N (s + k) = rE isDg T N s → Kp σ τ → τ.1 16 2 = nI (s + k) → τ.1 16 3 = nI 2 → τ.1 16 4 = nI s → τ.2 16 6 = ndJ T s k → SW G (d + 1) M_X5_readNumber 5 [some (.ref 16)] [] τ (RV f) := by
    intro m
    induction m with
    | zero =>
      intro k τ hm hk' e1 hf h2 h3 h4 h6
      have hN' : τ.1 16 1 = nI N := hf.2.2.1.trans hN
      refine sw_aloadn dX5_readNumber_5 rfl ?_
      refine sw_getI dX5_readNumber_6 fs_X5_30 o16 ?_
      rw [h2]
      refine sw_aloadn dX5_readNumber_9 rfl ?_
      refine sw_getI dX5_readNumber_10 fs_X5_26 o16 ?_
      rw [hN']
      refine sw_icmp_ge (tgt := 70) dX5_readNumber_13 (by decide) (fun h13 => ?_) (fun h13 => ?_)
      · skip
        exact fin k τ hk' e1 (rE_no (by omega)) hf h2 h3 h4 h6
      · exact absurd ((nI_le (by omega) (by omega))) h13
    | succ m ih =>
      intro k τ hm hk' e1 hf h2 h3 h4 h6
      have hN' : τ.1 16 1 = nI N := hf.2.2.1.trans hN
      have hT' : τ.1 1 = T := (hf.1 1 (by decide)).trans hT
      refine sw_aloadn dX5_readNumber_5 rfl ?_
      refine sw_getI dX5_readNumber_6 fs_X5_30 o16 ?_
      rw [h2]
      refine sw_aloadn dX5_readNumber_9 rfl ?_
      refine sw_getI dX5_readNumber_10 fs_X5_26 o16 ?_
      rw [hN']
      refine sw_icmp_ge (tgt := 70) dX5_readNumber_13 (by decide) (fun h13 => ?_) (fun h13 => ?_)
      · exact absurd h13 ((by rw [nI_le' (by omega) (by omega)]; omega))
      · skip
        refine sw_aloadn dX5_readNumber_16 rfl ?_
        refine sw_getR dX5_readNumber_17 fs_X5_9 o16 r16_0 ?_
        refine sw_aloadn dX5_readNumber_20 rfl ?_
        refine sw_getI dX5_readNumber_21 fs_X5_30 o16 ?_
        rw [h2]
        refine sx_bald (s + k) dX5_readNumber_24 a1 (rfl) (by omega) (by decide) ?_
        rw [hT']
        refine sx_insI1 dX5_readNumber_25 mk_X5_isDigit sk_X5_isDigit lk_X5_121 (Nat.le_of_ble_eq_true rfl) (Nat.le_of_ble_eq_true rfl) ?_
        refine c_X5_isDigit (fun h25 => ?_) (fun h25 => ?_)
        · skip
          refine sw_if_eq (tgt := 70) dX5_readNumber_28 (by decide) (fun h28 => ?_) (fun h28 => ?_)
          · exact absurd h28 (by decide)
          · skip
            refine sw_aloadn dX5_readNumber_31 rfl ?_
            refine sw_aloadn dX5_readNumber_32 rfl ?_
            refine sw_getJ dX5_readNumber_33 fs_X5_45 o16 ?_
            rw [h6]
            refine sw_ldc2 dX5_readNumber_36 kl_X5_127 ?_
            refine sw_lmul dX5_readNumber_39 ?_
            refine sw_aloadn dX5_readNumber_40 rfl ?_
            refine sw_getR dX5_readNumber_41 fs_X5_9 o16 r16_0 ?_
            refine sw_aloadn dX5_readNumber_44 rfl ?_
            refine sw_getI dX5_readNumber_45 fs_X5_30 o16 ?_
            rw [h2]
            refine sx_bald (s + k) dX5_readNumber_48 a1 (rfl) (by omega) (by decide) ?_
            rw [hT']
            refine sx_bipush (v := nI 48) dX5_readNumber_49 (by decide) ?_
            refine sw_isub dX5_readNumber_51 ?_
            refine sw_i2l dX5_readNumber_52 ?_
            refine sw_ladd dX5_readNumber_53 ?_
            refine sw_putJ dX5_readNumber_54 fs_X5_45 o16 ?_
            refine sw_aloadn dX5_readNumber_57 rfl ?_
            refine sw_dup dX5_readNumber_58 rfl ?_
            refine sw_getI dX5_readNumber_59 fs_X5_30 o16 ?_
            rw [show (setJ τ 16 6 _).1 16 2 = nI (s + k) from h2]
            refine sx_iconst (v := nI 1) dX5_readNumber_62 (by decide) ?_
            refine sw_iadd dX5_readNumber_63 ?_
            refine sw_topI (y := nI (s + (k + 1))) (nI_inc _) ?_
            refine sw_putI dX5_readNumber_64 fs_X5_30 o16 ?_
            refine sw_goto (tgt := 5) dX5_readNumber_67 (by decide) ?_
            exact ih (k + 1) _ (by omega) (by omega) (by rw [← e1]; exact (rE_go (by omega) h25).symm) (Kp_I (Kp_J hf) (by omega)) (by rw [setI_at, upd_same]) (by rw [setI_at, upd_ne _ _ (by decide)]; exact h3) (by rw [setI_at, upd_ne _ _ (by decide)]; exact h4) (by rw [setI_2, setJ_at, updL_same]; rfl)
        · skip
          refine sw_if_eq (tgt := 70) dX5_readNumber_28 (by decide) (fun h28 => ?_) (fun h28 => ?_)
          · skip
            exact fin k τ hk' e1 (rE_no (fun q => by rw [q.2] at h25; cases h25)) hf h2 h3 h4 h6
          · exact absurd h28 (by decide)
  refine sw_aloadn dX5_readNumber_0 rfl ?_
  refine sx_iconst (v := nI 2) dX5_readNumber_1 (by decide) ?_
  refine sw_putI dX5_readNumber_2 fs_X5_42 o16 ?_
  exact loop (N - s) 0 _ rfl (by omega) rfl (Kp_I Kp_rf (by omega)) (by rw [setI_at, upd_ne _ _ (by decide)]; exact hs) (by rw [setI_at, upd_same]) (by rw [setI_at, upd_ne _ _ (by decide)]; exact hst) hv
/-- the reader stands at the token that begins at s, with the fault a told so far -/
def FC (τ : Mem) (a : Nat × Nat) : Prop := τ.1 16 7 = nI a.1 ∧ a.1 ≤ 6 ∧ (a.1 ≠ 0 → τ.1 16 8 = nI a.2)
def CTk (T : Nat → Int32) (N s : Nat) (a : Nat × Nat) (τ : Mem) : Prop := τ.1 1 = T ∧ τ.1 16 1 = nI N ∧ s ≤ N ∧ τ.1 16 2 = nI (eS T N s) ∧ τ.1 16 3 = nI (kdS T N s) ∧ τ.1 16 4 = nI s ∧ τ.1 16 5 = nI (lS T N s) ∧ τ.2 16 6 = vS T N s ∧ FC τ a
def fr16 (σ τ : Mem) : Prop := (∀ c, c ≠ 16 → τ.1 c = σ.1 c) ∧ (∀ c, c ≠ 16 → τ.2 c = σ.2 c)
theorem fr16_tr {σ τ ρ : Mem} (h : fr16 σ τ) (g : fr16 τ ρ) : fr16 σ ρ := ⟨fun c hc => (g.1 c hc).trans (h.1 c hc), fun c hc => (g.2 c hc).trans (h.2 c hc)⟩
theorem fr16_rf {σ : Mem} : fr16 σ σ := ⟨fun _ _ => rfl, fun _ _ => rfl⟩
theorem fr16_Kp {σ τ : Mem} (h : Kp σ τ) : fr16 σ τ := ⟨h.1, h.2.1⟩
theorem c_X5_nextToken {f : Mem → Prop} {T : Nat → Int32} {N p : Nat} {a : Nat × Nat} (hT : σ.1 1 = T) (hN : σ.1 16 1 = nI N) (hb : N ≤ 600) (hp : p ≤ N) (hs : σ.1 16 2 = nI p) (hF : FC σ a)
    (h : ∀ τ, fr16 σ τ → CTk T N (rE isBl T N p) a τ → f τ) : SW G (d + 2) M_X5_nextToken 0 [some (.ref 16)] [] σ (RV f) := by
  have hsN : rE isBl T N p ≤ N := rE_N hp
  have fin : ∀ (τ : Mem) (s : Nat), s = rE isBl T N p → Kp σ τ → τ.1 16 2 = nI (eS T N s) → τ.1 16 3 = nI (kdS T N s) → τ.1 16 4 = nI s → τ.2 16 6 = vS T N s → SW G (d + 2) M_X5_nextToken 148 [some (.ref 16)] [] τ (RV f) := by
    intro τ s es hf h2 h3 h4 h6
    have hse := (eS_N (T := T) (N := N) (s := s) (by omega))
    refine sw_aloadn dX5_nextToken_148 rfl ?_
    refine sw_aloadn dX5_nextToken_149 rfl ?_
    refine sw_getI dX5_nextToken_150 fs_X5_30 o16 ?_
    rw [h2]
    refine sw_aloadn dX5_nextToken_153 rfl ?_
    refine sw_getI dX5_nextToken_154 fs_X5_108 o16 ?_
    rw [h4]
    refine sw_isub dX5_nextToken_157 ?_
    refine sw_topI (y := nI (lS T N s)) (nI_sub hse.2) ?_
    refine sw_putI dX5_nextToken_158 fs_X5_105 o16 ?_
    refine sx_ret0 dX5_nextToken_161 rfl ?_
    refine h _ (fr16_Kp (Kp_I hf (by omega))) ?_
    rw [← es]
    have hg : Kp σ (setI τ 16 5 (nI (lS T N s))) := Kp_I hf (by omega)
    exact ⟨(hg.1 1 (by decide)).trans hT, hg.2.2.1.trans hN, by omega, by rw [setI_at, upd_ne _ _ (by decide)]; exact h2, by rw [setI_at, upd_ne _ _ (by decide)]; exact h3, by rw [setI_at, upd_ne _ _ (by decide)]; exact h4, by rw [setI_at, upd_same], h6, hg.2.2.2.1.trans hF.1, hF.2.1, fun q => hg.2.2.2.2.trans (hF.2.2 q)⟩
  have mid : ∀ (τ : Mem) (s : Nat), s = rE isBl T N p → Kp σ τ → τ.1 16 2 = nI s → SW G (d + 2) M_X5_nextToken 39 [some (.ref 16)] [] τ (RV f) := by
    intro τ s es hf h2
    have hN' : τ.1 16 1 = nI N := hf.2.2.1.trans hN
    have hT' : τ.1 1 = T := (hf.1 1 (by decide)).trans hT
    have hsN' : s ≤ N := by omega
    have q2 : (setJ (setI τ 16 4 (nI s)) 16 6 0).1 16 2 = nI s := by rw [setJ_1, setI_at, upd_ne _ _ (by decide)]; exact h2
    have q1 : (setJ (setI τ 16 4 (nI s)) 16 6 0).1 16 1 = nI N := by rw [setJ_1, setI_at, upd_ne _ _ (by decide)]; exact hN'
    have q4 : (setJ (setI τ 16 4 (nI s)) 16 6 0).1 16 4 = nI s := by rw [setJ_1, setI_at, upd_same]
    have qT : (setJ (setI τ 16 4 (nI s)) 16 6 0).1 1 = T := hT'
    have q6 : (setJ (setI τ 16 4 (nI s)) 16 6 0).2 16 6 = 0 := by rw [setJ_at, updL_same]
    have qK : Kp σ (setJ (setI τ 16 4 (nI s)) 16 6 0) := Kp_J (Kp_I hf (by omega))
    refine sw_aloadn dX5_nextToken_39 rfl ?_
    refine sw_aloadn dX5_nextToken_40 rfl ?_
    refine sw_getI dX5_nextToken_41 fs_X5_30 o16 ?_
    rw [h2]
    refine sw_putI dX5_nextToken_44 fs_X5_108 o16 ?_
    refine sw_aloadn dX5_nextToken_47 rfl ?_
    refine sx_lconst (v := 0) dX5_nextToken_48 (by decide) ?_
    refine sw_putJ dX5_nextToken_49 fs_X5_45 o16 ?_
    generalize (setJ (setI τ 16 4 (nI s)) 16 6 0) = ρ at *
    refine sw_aloadn dX5_nextToken_52 rfl ?_
    refine sw_getI dX5_nextToken_53 fs_X5_30 o16 ?_
    rw [q2]
    refine sw_aloadn dX5_nextToken_56 rfl ?_
    refine sw_getI dX5_nextToken_57 fs_X5_26 o16 ?_
    rw [q1]
    refine sw_icmp_lt (tgt := 71) dX5_nextToken_60 (by decide) (fun h60 => ?_) (fun h60 => ?_)
    · skip
      have hz : s < N := (nI_lt' (by omega) (by omega)).mp h60
      refine sw_aloadn dX5_nextToken_71 rfl ?_
      refine sw_getR dX5_nextToken_72 fs_X5_9 o16 r16_0 ?_
      refine sw_aloadn dX5_nextToken_75 rfl ?_
      refine sw_getI dX5_nextToken_76 fs_X5_30 o16 ?_
      rw [q2]
      refine sx_bald (s) dX5_nextToken_79 a1 (rfl) (by omega) (by decide) ?_
      rw [qT]
      refine sx_insI1 dX5_nextToken_80 mk_X5_isLetter sk_X5_isLetter lk_X5_115 (Nat.le_of_ble_eq_true rfl) (Nat.le_of_ble_eq_true rfl) ?_
      refine c_X5_isLetter (fun h80 => ?_) (fun h80 => ?_)
      · skip
        refine sw_if_eq (tgt := 93) dX5_nextToken_83 (by decide) (fun h83 => ?_) (fun h83 => ?_)
        · exact absurd h83 (by decide)
        · skip
          refine sw_aloadn dX5_nextToken_86 rfl ?_
          refine sx_invV0 dX5_nextToken_87 mk_X5_readWord vk_X5_readWord lk_X5_118 o16 (Nat.le_of_ble_eq_true rfl) (Nat.le_of_ble_eq_true rfl) ?_
          refine c_X5_readWord (s := s) qT q1 hb q2 q4 q6 (kdS_1.mpr ⟨hz, h80⟩) (fun ρ' hg g2 g3 g4 g6 => ?_)
          refine sw_goto (tgt := 148) dX5_nextToken_90 (by decide) ?_
          first
            | exact fin _ s es (Kp_tr qK hg) g2 (by rw [g3, kdS_1.mpr ⟨hz, h80⟩]) g4 g6
            | exact fin _ s es (Kp_tr qK hg) g2 (by rw [g3, kdS_2.mpr ⟨hz, h80, h102⟩]) g4 g6
            | exact fin _ s es (Kp_I qK (by omega)) (by rw [setI_at, upd_ne _ _ (by decide), he0]; exact q2) (by rw [setI_at, upd_same, hk0]) (by rw [setI_at, upd_ne _ _ (by decide)]; exact q4) (by rw [setI_2, q6]; unfold vS; rw [if_neg (by omega), if_neg (by omega)])
            | (have e3 : eS T N s = s + 1 := by unfold eS; rw [if_neg (by omega), if_neg (by rw [h80]; simp), if_neg (by rw [h102]; simp)]
               have k3 : kdS T N s = 3 ∨ kdS T N s = 4 := by unfold kdS; rw [if_neg (by omega), if_neg (by rw [h80]; simp), if_neg (by rw [h102]; simp)]; split <;> simp
               refine fin _ s es (Kp_I (Kp_I qK (by omega)) (by omega)) (by rw [setI_at, upd_same, e3]) ?_ (by rw [setI_at, upd_ne _ _ (by decide), setI_at, upd_ne _ _ (by decide)]; exact q4) (by rw [setI_2, setI_2, q6]; unfold vS; rw [if_neg (by omega), if_neg (by omega)])
               rw [setI_at, upd_ne _ _ (by decide), setI_at, upd_same]
               unfold kdS
               first
                 | rw [if_neg (by omega), if_neg (by rw [h80]; simp), if_neg (by rw [h102]; simp), if_pos h127]
                 | rw [if_neg (by omega), if_neg (by rw [h80]; simp), if_neg (by rw [h102]; simp), if_neg h127])
      · skip
        refine sw_if_eq (tgt := 93) dX5_nextToken_83 (by decide) (fun h83 => ?_) (fun h83 => ?_)
        · skip
          refine sw_aloadn dX5_nextToken_93 rfl ?_
          refine sw_getR dX5_nextToken_94 fs_X5_9 o16 r16_0 ?_
          refine sw_aloadn dX5_nextToken_97 rfl ?_
          refine sw_getI dX5_nextToken_98 fs_X5_30 o16 ?_
          rw [q2]
          refine sx_bald (s) dX5_nextToken_101 a1 (rfl) (by omega) (by decide) ?_
          rw [qT]
          refine sx_insI1 dX5_nextToken_102 mk_X5_isDigit sk_X5_isDigit lk_X5_121 (Nat.le_of_ble_eq_true rfl) (Nat.le_of_ble_eq_true rfl) ?_
          refine c_X5_isDigit (fun h102 => ?_) (fun h102 => ?_)
          · skip
            refine sw_if_eq (tgt := 115) dX5_nextToken_105 (by decide) (fun h105 => ?_) (fun h105 => ?_)
            · exact absurd h105 (by decide)
            · skip
              refine sw_aloadn dX5_nextToken_108 rfl ?_
              refine sx_invV0 dX5_nextToken_109 mk_X5_readNumber vk_X5_readNumber lk_X5_124 o16 (Nat.le_of_ble_eq_true rfl) (Nat.le_of_ble_eq_true rfl) ?_
              refine c_X5_readNumber (s := s) qT q1 hb q2 q4 q6 (kdS_2.mpr ⟨hz, h80, h102⟩) (fun ρ' hg g2 g3 g4 g6 => ?_)
              refine sw_goto (tgt := 148) dX5_nextToken_112 (by decide) ?_
              first
                | exact fin _ s es (Kp_tr qK hg) g2 (by rw [g3, kdS_1.mpr ⟨hz, h80⟩]) g4 g6
                | exact fin _ s es (Kp_tr qK hg) g2 (by rw [g3, kdS_2.mpr ⟨hz, h80, h102⟩]) g4 g6
                | exact fin _ s es (Kp_I qK (by omega)) (by rw [setI_at, upd_ne _ _ (by decide), he0]; exact q2) (by rw [setI_at, upd_same, hk0]) (by rw [setI_at, upd_ne _ _ (by decide)]; exact q4) (by rw [setI_2, q6]; unfold vS; rw [if_neg (by omega), if_neg (by omega)])
                | (have e3 : eS T N s = s + 1 := by unfold eS; rw [if_neg (by omega), if_neg (by rw [h80]; simp), if_neg (by rw [h102]; simp)]
                   have k3 : kdS T N s = 3 ∨ kdS T N s = 4 := by unfold kdS; rw [if_neg (by omega), if_neg (by rw [h80]; simp), if_neg (by rw [h102]; simp)]; split <;> simp
                   refine fin _ s es (Kp_I (Kp_I qK (by omega)) (by omega)) (by rw [setI_at, upd_same, e3]) ?_ (by rw [setI_at, upd_ne _ _ (by decide), setI_at, upd_ne _ _ (by decide)]; exact q4) (by rw [setI_2, setI_2, q6]; unfold vS; rw [if_neg (by omega), if_neg (by omega)])
                   rw [setI_at, upd_ne _ _ (by decide), setI_at, upd_same]
                   unfold kdS
                   first
                     | rw [if_neg (by omega), if_neg (by rw [h80]; simp), if_neg (by rw [h102]; simp), if_pos h127]
                     | rw [if_neg (by omega), if_neg (by rw [h80]; simp), if_neg (by rw [h102]; simp), if_neg h127])
          · skip
            refine sw_if_eq (tgt := 115) dX5_nextToken_105 (by decide) (fun h105 => ?_) (fun h105 => ?_)
            · skip
              refine sw_aloadn dX5_nextToken_115 rfl ?_
              refine sw_aloadn dX5_nextToken_116 rfl ?_
              refine sw_getR dX5_nextToken_117 fs_X5_9 o16 r16_0 ?_
              refine sw_aloadn dX5_nextToken_120 rfl ?_
              refine sw_getI dX5_nextToken_121 fs_X5_30 o16 ?_
              rw [q2]
              refine sx_bald (s) dX5_nextToken_124 a1 (rfl) (by omega) (by decide) ?_
              rw [qT]
              refine sx_bipush (v := nI 59) dX5_nextToken_125 (by decide) ?_
              refine sw_icmp_ne (tgt := 134) dX5_nextToken_127 (by decide) (fun h127 => ?_) (fun h127 => ?_)
              · skip
                refine sx_iconst (v := nI 4) dX5_nextToken_134 (by decide) ?_
                refine sw_putI dX5_nextToken_135 fs_X5_42 o16 ?_
                refine sw_aloadn dX5_nextToken_138 rfl ?_
                refine sw_dup dX5_nextToken_139 rfl ?_
                refine sw_getI dX5_nextToken_140 fs_X5_30 o16 ?_
                rw [show (setI ρ 16 3 _).1 16 2 = nI s by rw [setI_at, upd_ne _ _ (by decide)]; exact q2]
                refine sx_iconst (v := nI 1) dX5_nextToken_143 (by decide) ?_
                refine sw_iadd dX5_nextToken_144 ?_
                refine sw_topI (y := nI (s + 1)) (nI_inc _) ?_
                refine sw_putI dX5_nextToken_145 fs_X5_30 o16 ?_
                first
                  | exact fin _ s es (Kp_tr qK hg) g2 (by rw [g3, kdS_1.mpr ⟨hz, h80⟩]) g4 g6
                  | exact fin _ s es (Kp_tr qK hg) g2 (by rw [g3, kdS_2.mpr ⟨hz, h80, h102⟩]) g4 g6
                  | exact fin _ s es (Kp_I qK (by omega)) (by rw [setI_at, upd_ne _ _ (by decide), he0]; exact q2) (by rw [setI_at, upd_same, hk0]) (by rw [setI_at, upd_ne _ _ (by decide)]; exact q4) (by rw [setI_2, q6]; unfold vS; rw [if_neg (by omega), if_neg (by omega)])
                  | (have e3 : eS T N s = s + 1 := by unfold eS; rw [if_neg (by omega), if_neg (by rw [h80]; simp), if_neg (by rw [h102]; simp)]
                     have k3 : kdS T N s = 3 ∨ kdS T N s = 4 := by unfold kdS; rw [if_neg (by omega), if_neg (by rw [h80]; simp), if_neg (by rw [h102]; simp)]; split <;> simp
                     refine fin _ s es (Kp_I (Kp_I qK (by omega)) (by omega)) (by rw [setI_at, upd_same, e3]) ?_ (by rw [setI_at, upd_ne _ _ (by decide), setI_at, upd_ne _ _ (by decide)]; exact q4) (by rw [setI_2, setI_2, q6]; unfold vS; rw [if_neg (by omega), if_neg (by omega)])
                     rw [setI_at, upd_ne _ _ (by decide), setI_at, upd_same]
                     unfold kdS
                     first
                       | rw [if_neg (by omega), if_neg (by rw [h80]; simp), if_neg (by rw [h102]; simp), if_pos h127]
                       | rw [if_neg (by omega), if_neg (by rw [h80]; simp), if_neg (by rw [h102]; simp), if_neg h127])
              · skip
                refine sx_iconst (v := nI 3) dX5_nextToken_130 (by decide) ?_
                refine sw_goto (tgt := 135) dX5_nextToken_131 (by decide) ?_
                refine sw_putI dX5_nextToken_135 fs_X5_42 o16 ?_
                refine sw_aloadn dX5_nextToken_138 rfl ?_
                refine sw_dup dX5_nextToken_139 rfl ?_
                refine sw_getI dX5_nextToken_140 fs_X5_30 o16 ?_
                rw [show (setI ρ 16 3 _).1 16 2 = nI s by rw [setI_at, upd_ne _ _ (by decide)]; exact q2]
                refine sx_iconst (v := nI 1) dX5_nextToken_143 (by decide) ?_
                refine sw_iadd dX5_nextToken_144 ?_
                refine sw_topI (y := nI (s + 1)) (nI_inc _) ?_
                refine sw_putI dX5_nextToken_145 fs_X5_30 o16 ?_
                first
                  | exact fin _ s es (Kp_tr qK hg) g2 (by rw [g3, kdS_1.mpr ⟨hz, h80⟩]) g4 g6
                  | exact fin _ s es (Kp_tr qK hg) g2 (by rw [g3, kdS_2.mpr ⟨hz, h80, h102⟩]) g4 g6
                  | exact fin _ s es (Kp_I qK (by omega)) (by rw [setI_at, upd_ne _ _ (by decide), he0]; exact q2) (by rw [setI_at, upd_same, hk0]) (by rw [setI_at, upd_ne _ _ (by decide)]; exact q4) (by rw [setI_2, q6]; unfold vS; rw [if_neg (by omega), if_neg (by omega)])
                  | (have e3 : eS T N s = s + 1 := by unfold eS; rw [if_neg (by omega), if_neg (by rw [h80]; simp), if_neg (by rw [h102]; simp)]
                     have k3 : kdS T N s = 3 ∨ kdS T N s = 4 := by unfold kdS; rw [if_neg (by omega), if_neg (by rw [h80]; simp), if_neg (by rw [h102]; simp)]; split <;> simp
                     refine fin _ s es (Kp_I (Kp_I qK (by omega)) (by omega)) (by rw [setI_at, upd_same, e3]) ?_ (by rw [setI_at, upd_ne _ _ (by decide), setI_at, upd_ne _ _ (by decide)]; exact q4) (by rw [setI_2, setI_2, q6]; unfold vS; rw [if_neg (by omega), if_neg (by omega)])
                     rw [setI_at, upd_ne _ _ (by decide), setI_at, upd_same]
                     unfold kdS
                     first
                       | rw [if_neg (by omega), if_neg (by rw [h80]; simp), if_neg (by rw [h102]; simp), if_pos h127]
                       | rw [if_neg (by omega), if_neg (by rw [h80]; simp), if_neg (by rw [h102]; simp), if_neg h127])
            · exact absurd h105 (by decide)
        · exact absurd h83 (by decide)
    · skip
      have hz : N ≤ s := by have := mt (nI_lt' (by omega) (by omega)).mpr h60; omega
      have hk0 := kdS_0 (T := T) (N := N) (s := s) |>.mpr hz
      have he0 : eS T N s = s := by unfold eS; rw [if_pos hz]
      refine sw_aloadn dX5_nextToken_63 rfl ?_
      refine sx_iconst (v := nI 0) dX5_nextToken_64 (by decide) ?_
      refine sw_putI dX5_nextToken_65 fs_X5_42 o16 ?_
      refine sw_goto (tgt := 148) dX5_nextToken_68 (by decide) ?_
      first
        | exact fin _ s es (Kp_tr qK hg) g2 (by rw [g3, kdS_1.mpr ⟨hz, h80⟩]) g4 g6
        | exact fin _ s es (Kp_tr qK hg) g2 (by rw [g3, kdS_2.mpr ⟨hz, h80, h102⟩]) g4 g6
        | exact fin _ s es (Kp_I qK (by omega)) (by rw [setI_at, upd_ne _ _ (by decide), he0]; exact q2) (by rw [setI_at, upd_same, hk0]) (by rw [setI_at, upd_ne _ _ (by decide)]; exact q4) (by rw [setI_2, q6]; unfold vS; rw [if_neg (by omega), if_neg (by omega)])
        | (have e3 : eS T N s = s + 1 := by unfold eS; rw [if_neg (by omega), if_neg (by rw [h80]; simp), if_neg (by rw [h102]; simp)]
           have k3 : kdS T N s = 3 ∨ kdS T N s = 4 := by unfold kdS; rw [if_neg (by omega), if_neg (by rw [h80]; simp), if_neg (by rw [h102]; simp)]; split <;> simp
           refine fin _ s es (Kp_I (Kp_I qK (by omega)) (by omega)) (by rw [setI_at, upd_same, e3]) ?_ (by rw [setI_at, upd_ne _ _ (by decide), setI_at, upd_ne _ _ (by decide)]; exact q4) (by rw [setI_2, setI_2, q6]; unfold vS; rw [if_neg (by omega), if_neg (by omega)])
           rw [setI_at, upd_ne _ _ (by decide), setI_at, upd_same]
           unfold kdS
           first
             | rw [if_neg (by omega), if_neg (by rw [h80]; simp), if_neg (by rw [h102]; simp), if_pos h127]
             | rw [if_neg (by omega), if_neg (by rw [h80]; simp), if_neg (by rw [h102]; simp), if_neg h127])
  have loop : ∀ (m k : Nat) (τ : Mem), m = N - k → k ≤ N → rE isBl T N k = rE isBl T N p → Kp σ τ → τ.1 16 2 = nI k → SW G (d + 2) M_X5_nextToken 0 [some (.ref 16)] [] τ (RV f) := by
    intro m
    induction m with
    | zero =>
      intro k τ hm hk' e1 hf h2
      have hN' : τ.1 16 1 = nI N := hf.2.2.1.trans hN
      refine sw_aloadn dX5_nextToken_0 rfl ?_
      refine sw_getI dX5_nextToken_1 fs_X5_30 o16 ?_
      rw [h2]
      refine sw_aloadn dX5_nextToken_4 rfl ?_
      refine sw_getI dX5_nextToken_5 fs_X5_26 o16 ?_
      rw [hN']
      refine sw_icmp_ge (tgt := 39) dX5_nextToken_8 (by decide) (fun h8 => ?_) (fun h8 => ?_)
      · skip
        exact mid τ k (by rw [← e1]; exact (rE_no (by omega)).symm) hf h2
      · exact absurd ((nI_le (by omega) (by omega))) h8
    | succ m ih =>
      intro k τ hm hk' e1 hf h2
      have hN' : τ.1 16 1 = nI N := hf.2.2.1.trans hN
      have hT' : τ.1 1 = T := (hf.1 1 (by decide)).trans hT
      refine sw_aloadn dX5_nextToken_0 rfl ?_
      refine sw_getI dX5_nextToken_1 fs_X5_30 o16 ?_
      rw [h2]
      refine sw_aloadn dX5_nextToken_4 rfl ?_
      refine sw_getI dX5_nextToken_5 fs_X5_26 o16 ?_
      rw [hN']
      refine sw_icmp_ge (tgt := 39) dX5_nextToken_8 (by decide) (fun h8 => ?_) (fun h8 => ?_)
      · exact absurd h8 ((by rw [nI_le' (by omega) (by omega)]; omega))
      · skip
        refine sw_aloadn dX5_nextToken_11 rfl ?_
        refine sw_getR dX5_nextToken_12 fs_X5_9 o16 r16_0 ?_
        refine sw_aloadn dX5_nextToken_15 rfl ?_
        refine sw_getI dX5_nextToken_16 fs_X5_30 o16 ?_
        rw [h2]
        refine sx_bald (k) dX5_nextToken_19 a1 (rfl) (by omega) (by decide) ?_
        rw [hT']
        refine sx_insI1 dX5_nextToken_20 mk_X5_isBlank sk_X5_isBlank lk_X5_111 (Nat.le_of_ble_eq_true rfl) (Nat.le_of_ble_eq_true rfl) ?_
        refine c_X5_isBlank (fun h20 => ?_) (fun h20 => ?_)
        · skip
          refine sw_if_eq (tgt := 39) dX5_nextToken_23 (by decide) (fun h23 => ?_) (fun h23 => ?_)
          · exact absurd h23 (by decide)
          · skip
            refine sw_aloadn dX5_nextToken_26 rfl ?_
            refine sw_dup dX5_nextToken_27 rfl ?_
            refine sw_getI dX5_nextToken_28 fs_X5_30 o16 ?_
            rw [h2]
            refine sx_iconst (v := nI 1) dX5_nextToken_31 (by decide) ?_
            refine sw_iadd dX5_nextToken_32 ?_
            refine sw_topI (y := nI (k + 1)) (nI_inc _) ?_
            refine sw_putI dX5_nextToken_33 fs_X5_30 o16 ?_
            refine sw_goto (tgt := 0) dX5_nextToken_36 (by decide) ?_
            exact ih (k + 1) _ (by omega) (by omega) (by rw [← e1]; exact (rE_go (by omega) h20).symm) (Kp_I hf (by omega)) (by rw [setI_at, upd_same])
        · skip
          refine sw_if_eq (tgt := 39) dX5_nextToken_23 (by decide) (fun h23 => ?_) (fun h23 => ?_)
          · skip
            exact mid τ k (by rw [← e1]; exact (rE_no (fun q => by rw [q.2] at h20; cases h20)).symm) hf h2
          · exact absurd h23 (by decide)
  exact loop (N - p) p σ rfl hp rfl Kp_rf hs
end CTEXT2
