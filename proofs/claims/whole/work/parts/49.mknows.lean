/-! ===== the model: knows ===== -/
theorem mx_I2 {a er : Nat} (h1 : a < 1000) (h2 : er < 100) : (if nI 0 < nI a - nI er then nI a - nI er else nI 0) = nI (a - er) := by
  by_cases h : er ≤ a
  · rw [nI_sub h]
    by_cases e : a - er = 0
    · rw [e, if_neg (by decide)]
    · rw [if_pos (nI_lt (by omega) (by omega))]
  · have := pk_sneg (a := a) (b := er) (by omega) (by omega)
    rw [if_neg (show ¬ nI 0 < nI a - nI er from Int32.not_lt.mpr (Int32.le_of_lt this)), show a - er = 0 by omega]
theorem mn_I2 {b er : Nat} (h1 : b < 1000) (h2 : er < 100) : (if nI b + nI er < nI 199 then nI b + nI er else nI 199) = nI (min (b + er) 199) := by
  rw [nI_add]
  by_cases h : b + er < 199
  · rw [if_pos ((nI_lt' (by omega) (by omega)).mpr h), show min (b + er) 199 = b + er by omega]
  · rw [if_neg (fun q => h ((nI_lt' (by omega) (by omega)).mp q)), show min (b + er) 199 = 199 by omega]
/-- what the walks of the model change -/
def kfr (σ τ : Mem) : Prop := (∀ c, c ≠ 46 → (c < 68 ∨ 74 < c) → τ.1 c = σ.1 c ∧ τ.2 c = σ.2 c) ∧ (∀ k, k ≠ 38 → τ.1 46 k = σ.1 46 k) ∧ τ.2 46 = σ.2 46
theorem kfr_rf {σ : Mem} : kfr σ σ := ⟨fun _ _ _ => ⟨rfl, rfl⟩, fun _ _ => rfl, rfl⟩
theorem kfr_tr {σ τ υ : Mem} (h : kfr σ τ) (h' : kfr τ υ) : kfr σ υ := ⟨fun c a b => ⟨(h'.1 c a b).1.trans (h.1 c a b).1, (h'.1 c a b).2.trans (h.1 c a b).2⟩, fun k a => (h'.2.1 k a).trans (h.2.1 k a), h'.2.2.trans h.2.2⟩
theorem kfr_fr {σ τ : Mem} {lo hi : Nat} (h : fr lo hi σ τ) (h1 : 68 ≤ lo) (h2 : hi ≤ 74) : kfr σ τ := ⟨fun c a b => h c (by omega), fun k _ => by rw [(h 46 (by omega)).1], (h 46 (by omega)).2⟩
theorem kfr_I {σ τ : Mem} {c k : Nat} {v : Int32} (h : kfr σ τ) (h1 : 68 ≤ c ∧ c ≤ 74) : kfr σ (setI τ c k v) := kfr_tr h (kfr_fr (fr_I fr_rf ⟨Nat.le_refl c, Nat.le_refl c⟩) h1.1 h1.2)
theorem kfr_J {σ τ : Mem} {c k : Nat} {v : Int64} (h : kfr σ τ) (h1 : 68 ≤ c ∧ c ≤ 74) : kfr σ (setJ τ c k v) := kfr_tr h (kfr_fr (fr_J fr_rf ⟨Nat.le_refl c, Nat.le_refl c⟩) h1.1 h1.2)
theorem kfr_38 {σ τ : Mem} {v : Int32} (h : kfr σ τ) : kfr σ (setI τ 46 38 v) := kfr_tr h ⟨fun c a b => ⟨setI_ne _ _ _ a, rfl⟩, fun k a => by rw [setI_at, upd_ne _ _ a], rfl⟩
theorem kfr_lg {σ τ : Mem} (h : kfr σ τ) : lgM τ = lgM σ := by
  unfold lgM
  rw [(h.1 58 (by decide) (by omega)).1, (h.1 59 (by decide) (by omega)).1, (h.1 60 (by decide) (by omega)).1, (h.1 61 (by decide) (by omega)).1, (h.1 62 (by decide) (by omega)).1]
theorem kfr_Pl {σ τ : Mem} {P : PL} (h : kfr σ τ) (hP : PlM σ P) : PlM τ P := by
  unfold PlM at *
  rw [h.2.1 18 (by decide), h.2.1 19 (by decide), (h.1 54 (by decide) (by omega)).1, (h.1 55 (by decide) (by omega)).1, (h.1 56 (by decide) (by omega)).1, (h.1 57 (by decide) (by omega)).1]
  exact hP
section MKNOWS
variable {G : GG} {d : Nat} {σ : Mem}
theorem m_kins {Q : Option Value → Mem → Prop} {n k m : Nat} {F : Nat → Nat} {y b : Int32} {o6 : Option Value} (hp : σ.1 46 38 = nI n) (hn : n < 12) (hk : k < 100) (hF : ∀ i, i < n → F i < 100) (ha : ∀ i, i < n → σ.1 68 i = nI (F i)) (h : ∀ τ o5, kfr σ τ → τ.2 = σ.2 → τ.1 70 = σ.1 70 → τ.1 46 38 = nI (n + 1) → (∀ i, i < n + 1 → τ.1 68 i = nI (inA (ltr (lgM σ) k) k n F i)) → SW G (d + 1) M_X8_knows 297 [some (.ref 46), some (.int y), some (.int (nI m)), some (.int b), some (.int (nI k)), o5, o6] [] τ Q) : SW G (d + 1) M_X8_knows 227 [some (.ref 46), some (.int y), some (.int (nI m)), some (.int b), some (.int (nI k)), some (.int (nI n)), o6] [] σ Q := by
  have loop : ∀ (a : Nat) (τ : Mem) (E : Nat → Nat), a ≤ n → (∀ c, c ≠ 68 → τ.1 c = σ.1 c) → τ.2 = σ.2 → (∀ i, i < n + 1 → i ≠ a → E i < 100) → (∀ i, i < n + 1 → i ≠ a → τ.1 68 i = nI (E i)) → (∀ i, i < n + 1 → inA (ltr (lgM σ) k) k a E i = inA (ltr (lgM σ) k) k n F i) → SW G (d + 1) M_X8_knows 227 [some (.ref 46), some (.int y), some (.int (nI m)), some (.int b), some (.int (nI k)), some (.int (nI a)), o6] [] τ Q := by
    intro a
    have c278 : ∀ (a : Nat) (τ : Mem) (E : Nat → Nat), a ≤ n → (∀ c, c ≠ 68 → τ.1 c = σ.1 c) → τ.2 = σ.2 → (∀ i, i < n + 1 → i ≠ a → τ.1 68 i = nI (E i)) → (∀ i, i < n + 1 → (if i = a then k else E i) = inA (ltr (lgM σ) k) k n F i) → SW G (d + 1) M_X8_knows 278 [some (.ref 46), some (.int y), some (.int (nI m)), some (.int b), some (.int (nI k)), some (.int (nI a)), o6] [] τ Q := by
      intro a τ E han hf hf2 hE hin
      refine sw_aloadn dX8_knows_278 rfl ?_
      refine sw_getR dX8_knows_279 fs_X8_82 o46 r46_37 ?_
      refine sw_iload dX8_knows_282 rfl ?_
      refine sw_iload dX8_knows_284 rfl ?_
      refine sx_iast (a) dX8_knows_286 a68 (rfl) (by omega) (by decide) ?_
      refine sw_aloadn dX8_knows_287 rfl ?_
      refine sw_dup dX8_knows_288 rfl ?_
      refine sw_getI dX8_knows_289 fs_X8_235 o46 ?_
      rw [show (setI τ 68 a (nI k)).1 46 38 = nI n from by rw [setI_ne _ _ _ (by decide), hf 46 (by decide)]; exact hp]
      refine sx_iconst (v := nI 1) dX8_knows_292 (by decide) ?_
      refine sw_iadd dX8_knows_293 ?_
      refine sw_topI (y := nI (n + 1)) (nI_1 n) ?_
      refine sw_putI dX8_knows_294 fs_X8_235 o46 ?_
      refine h _ _ ⟨fun c c1 c2 => ?_, fun j hj => ?_, ?_⟩ hf2 ?_ ?_ (fun i hi => ?_)
      · exact ⟨by rw [setI_ne _ _ _ c1, setI_ne _ _ _ (by omega)]; exact hf c (by omega), by rw [setI_2, setI_2, hf2]⟩
      · rw [setI_at, upd_ne _ _ hj, setI_ne _ _ _ (by decide), hf 46 (by decide)]
      · rw [setI_2, setI_2, hf2]
      · rw [setI_ne _ _ _ (by decide), setI_ne _ _ _ (by decide)]; exact hf 70 (by decide)
      · rw [setI_at, upd_same]
      · rw [setI_ne _ _ _ (by decide), setI_at, ← hin i hi]
        by_cases e : i = a
        · subst e; rw [upd_same, if_pos rfl]
        · rw [upd_ne _ _ e, if_neg e]; exact hE i hi e
    induction a with
    | zero =>
      intro τ E han hf hf2 hEb hE hin
      refine sw_iload dX8_knows_227 rfl ?_
      refine sw_if_le (tgt := 278) dX8_knows_229 (by decide) (fun h229 => ?_) (fun h229 => ?_)
      · skip
        exact c278 0 τ E han hf hf2 hE (fun i hi => by rw [← hin i hi]; rfl)
      · exact absurd ((by decide)) h229
    | succ a ih =>
      intro τ E han hf hf2 hEb hE hin
      have hEa := hE a (by omega) (by omega)
      have hba := hEb a (by omega) (by omega)
      have e21 := hf 61 (by decide)
      refine sw_iload dX8_knows_227 rfl ?_
      refine sw_if_le (tgt := 278) dX8_knows_229 (by decide) (fun h229 => ?_) (fun h229 => ?_)
      · exact absurd h229 ((nI_nle (by omega) (by omega)))
      · skip
        refine sw_aloadn dX8_knows_232 rfl ?_
        refine sw_getR dX8_knows_233 fs_X8_60 o46 r46_30 ?_
        refine sw_aloadn dX8_knows_236 rfl ?_
        refine sw_getR dX8_knows_237 fs_X8_82 o46 r46_37 ?_
        refine sw_iload dX8_knows_240 rfl ?_
        refine sx_iconst (v := nI 1) dX8_knows_242 (by decide) ?_
        refine sw_isub dX8_knows_243 ?_
        refine sw_topI (y := nI a) (nI_pred a) ?_
        refine sx_iald (a) dX8_knows_244 a68 (rfl) (by omega) (by decide) ?_
        rw [hEa]
        refine sx_iald (E a) dX8_knows_245 a61 (rfl) (by omega) (by decide) ?_
        refine sw_aloadn dX8_knows_246 rfl ?_
        refine sw_getR dX8_knows_247 fs_X8_60 o46 r46_30 ?_
        refine sw_iload dX8_knows_250 rfl ?_
        refine sx_iald (k) dX8_knows_252 a61 (rfl) (by omega) (by decide) ?_
        rw [e21]
        refine sw_icmp_le (tgt := 278) dX8_knows_253 (by decide) (fun h253 => ?_) (fun h253 => ?_)
        · skip
          refine c278 (a + 1) τ E han hf hf2 hE (fun i hi => ?_)
          have hc : ltr (lgM σ) k (E a) = false := decide_eq_false (Int32.not_lt.mpr h253)
          rw [← hin i hi]
          simp only [inA, hc, Bool.false_eq_true, if_false]
        · skip
          refine sw_aloadn dX8_knows_256 rfl ?_
          refine sw_getR dX8_knows_257 fs_X8_82 o46 r46_37 ?_
          refine sw_iload dX8_knows_260 rfl ?_
          refine sw_aloadn dX8_knows_262 rfl ?_
          refine sw_getR dX8_knows_263 fs_X8_82 o46 r46_37 ?_
          refine sw_iload dX8_knows_266 rfl ?_
          refine sx_iconst (v := nI 1) dX8_knows_268 (by decide) ?_
          refine sw_isub dX8_knows_269 ?_
          refine sw_topI (y := nI a) (nI_pred a) ?_
          refine sx_iald (a) dX8_knows_270 a68 (rfl) (by omega) (by decide) ?_
          rw [hEa]
          refine sx_iast (a + 1) dX8_knows_271 a68 (rfl) (by omega) (by decide) ?_
          refine sx_iinc (nI a) dX8_knows_272 rfl (pk_m1 a) ?_
          refine sw_goto (tgt := 227) dX8_knows_275 (by decide) ?_
          refine ih _ (fun i => if i = a + 1 then E a else E i) (by omega) (fun c c1 => ?_) (by rw [setI_2]; exact hf2) (fun i hi hne => ?_) (fun i hi hne => ?_) (fun i hi => ?_)
          · rw [setI_ne _ _ _ c1]; exact hf c c1
          · by_cases e : i = a + 1
            · simp only [e, if_true]; exact hba
            · simp only [e, if_false]; exact hEb i hi e
          · rw [setI_at]
            by_cases e : i = a + 1
            · subst e; rw [upd_same, if_pos rfl]
            · rw [upd_ne _ _ e, if_neg e]; exact hE i hi e
          · have hc : ltr (lgM σ) k (E a) = true := decide_eq_true (Int32.not_le.mp h253)
            rw [← hin i hi]
            simp only [inA, hc, if_true]
  exact loop n σ F (Nat.le_refl _) (fun _ _ => rfl) rfl (fun i hi hne => hF i (by omega)) (fun i hi hne => ha i (by omega)) (fun _ _ => rfl)
def frI (τ : Mem) (O : Nat → Nat → Prop) : Prop := ∀ t dd, t < 200 → dd < 10 → isV (τ.1 70 (10 * t + dd)) (O t dd)
def snI (τ : Mem) (S : Nat → Nat → Prop) : Prop := ∀ t, t < 200 → ∀ rm g, rm < 8 → g < 6 → (qb (τ.2 69 t) rm g = true ↔ S t rm)
theorem m_kgap {Q : Option Value → Mem → Prop} {P : PL} {k m dd a b : Nat} {O : Nat → Nat → Prop} {y s : Int32} (hP : PlM σ P) (hV : PV P) (hk : k < 100) (hdd : dd < pD P) (ha : a < 200) (hb : b < 200) (hab : a ≤ b) (r0 : σ.1 60 k = nI dd) (r1 : σ.1 61 k = nI a) (r2 : σ.1 62 k = nI b) (hO : frI σ O) {o5 o6 : Option Value} (h : ∀ τ o5 o6, fr 70 70 σ τ → frI τ (fun t d' => O t d' ∨ (d' = dd ∧ a ≤ t + pE P dd ∧ t ≤ b + pE P dd)) → SW G (d + 1) M_X8_knows 297 [some (.ref 46), some (.int y), some (.int (nI m)), some (.int s), some (.int (nI k)), o5, o6] [] τ Q) : SW G (d + 1) M_X8_knows 77 [some (.ref 46), some (.int y), some (.int (nI m)), some (.int s), some (.int (nI k)), o5, o6] [] σ Q := by
  obtain ⟨-, -, -, he⟩ := hV.2.2.2.1 dd hdd
  have hD := hV.2.1
  have hPe := hP.2.2.2.2.2 dd hdd
  have loop : ∀ (q t : Nat), q = 200 - t → a - pE P dd ≤ t → t ≤ min (b + pE P dd) 199 + 1 → ∀ τ, fr 70 70 σ τ → frI τ (fun t' d' => O t' d' ∨ (d' = dd ∧ a ≤ t' + pE P dd ∧ t' < t)) → SW G (d + 1) M_X8_knows 107 [some (.ref 46), some (.int y), some (.int (nI m)), some (.int s), some (.int (nI k)), some (.int (nI dd)), some (.int (nI t))] [] τ Q := by
    intro q
    induction q with
    | zero =>
      intro t hq h1 h2 τ hf hv
      obtain rfl : t = 200 := by omega
      have e62 : τ.1 62 k = nI b := by rw [(hf 62 (by omega)).1]; exact r2
      have e57 : τ.1 57 dd = nI (pE P dd) := by rw [(hf 57 (by omega)).1]; exact hPe
      refine sw_iload dX8_knows_107 rfl ?_
      refine sx_sipush (v := nI 199) dX8_knows_109 (by decide) ?_
      refine sw_aloadn dX8_knows_112 rfl ?_
      refine sw_getR dX8_knows_113 fs_X8_63 o46 r46_31 ?_
      refine sw_iload dX8_knows_116 rfl ?_
      refine sx_iald (k) dX8_knows_118 a62 (rfl) (by omega) (by decide) ?_
      rw [e62]
      refine sw_aloadn dX8_knows_119 rfl ?_
      refine sw_getR dX8_knows_120 fs_X8_48 o46 r46_23 ?_
      refine sw_iload dX8_knows_123 rfl ?_
      refine sx_iald (dd) dX8_knows_125 a57 (rfl) (by omega) (by decide) ?_
      rw [e57]
      refine sw_iadd dX8_knows_126 ?_
      refine sw_min dX8_knows_127 lm_X8_246 (Nat.le_of_ble_eq_true rfl) ?_
      refine sw_topI (y := nI (min (b + pE P dd) 199)) (mn_I2 (by omega) (by omega)) ?_
      refine sw_icmp_gt (tgt := 153) dX8_knows_130 (by decide) (fun h130 => ?_) (fun h130 => ?_)
      · skip
        refine sw_goto (tgt := 297) dX8_knows_153 (by decide) ?_
        exact h τ _ _ hf (fun t' d' x1 x2 => isV_iff (hv t' d' x1 x2) (or_congr Iff.rfl (and_congr Iff.rfl (and_congr Iff.rfl (by omega)))))
      · exact absurd ((nI_lt (by omega) (by omega))) h130
    | succ q ih =>
      intro t hq h1 h2 τ hf hv
      have e62 : τ.1 62 k = nI b := by rw [(hf 62 (by omega)).1]; exact r2
      have e57 : τ.1 57 dd = nI (pE P dd) := by rw [(hf 57 (by omega)).1]; exact hPe
      by_cases hc : t ≤ min (b + pE P dd) 199
      · skip
        refine sw_iload dX8_knows_107 rfl ?_
        refine sx_sipush (v := nI 199) dX8_knows_109 (by decide) ?_
        refine sw_aloadn dX8_knows_112 rfl ?_
        refine sw_getR dX8_knows_113 fs_X8_63 o46 r46_31 ?_
        refine sw_iload dX8_knows_116 rfl ?_
        refine sx_iald (k) dX8_knows_118 a62 (rfl) (by omega) (by decide) ?_
        rw [e62]
        refine sw_aloadn dX8_knows_119 rfl ?_
        refine sw_getR dX8_knows_120 fs_X8_48 o46 r46_23 ?_
        refine sw_iload dX8_knows_123 rfl ?_
        refine sx_iald (dd) dX8_knows_125 a57 (rfl) (by omega) (by decide) ?_
        rw [e57]
        refine sw_iadd dX8_knows_126 ?_
        refine sw_min dX8_knows_127 lm_X8_246 (Nat.le_of_ble_eq_true rfl) ?_
        refine sw_topI (y := nI (min (b + pE P dd) 199)) (mn_I2 (by omega) (by omega)) ?_
        refine sw_icmp_gt (tgt := 153) dX8_knows_130 (by decide) (fun h130 => ?_) (fun h130 => ?_)
        · exact absurd h130 ((by rw [nI_lt' (by omega) (by omega)]; omega))
        · skip
          refine sw_aloadn dX8_knows_133 rfl ?_
          refine sw_getR dX8_knows_134 fs_X8_89 o46 r46_40 ?_
          refine sx_bipush (v := nI 10) dX8_knows_137 (by decide) ?_
          refine sw_iload dX8_knows_139 rfl ?_
          refine sw_imul dX8_knows_141 ?_
          refine sw_iload dX8_knows_142 rfl ?_
          refine sw_iadd dX8_knows_144 ?_
          refine sw_topI (y := nI (10 * t + dd)) (by rw [nI_mul, nI_add]) ?_
          refine sx_iconst (v := nI 1) dX8_knows_145 (by decide) ?_
          refine sx_zast (10 * t + dd) dX8_knows_146 a70 (rfl) (by omega) (by decide) ?_
          rw [nar_bool (Or.inr rfl)]
          refine sx_iinc (nI (t + 1)) dX8_knows_147 rfl (nI_inc _) ?_
          refine sw_goto (tgt := 107) dX8_knows_150 (by decide) ?_
          refine ih (t + 1) (by omega) (by omega) (by omega) _ (fr_I hf (by omega)) (fun t' d' x1 x2 => ?_)
          rw [setI_at]
          by_cases e : 10 * t' + d' = 10 * t + dd
          · rw [e, upd_same]
            exact Or.inl ⟨rfl, Or.inr ⟨by omega, by omega, by omega⟩⟩
          · rw [upd_ne _ _ e]
            refine isV_iff (hv t' d' x1 x2) (or_congr Iff.rfl ⟨fun w => ⟨w.1, w.2.1, by omega⟩, fun w => ⟨w.1, w.2.1, ?_⟩⟩)
            have w1 := w.1
            have w3 := w.2.2
            omega
      · skip
        refine sw_iload dX8_knows_107 rfl ?_
        refine sx_sipush (v := nI 199) dX8_knows_109 (by decide) ?_
        refine sw_aloadn dX8_knows_112 rfl ?_
        refine sw_getR dX8_knows_113 fs_X8_63 o46 r46_31 ?_
        refine sw_iload dX8_knows_116 rfl ?_
        refine sx_iald (k) dX8_knows_118 a62 (rfl) (by omega) (by decide) ?_
        rw [e62]
        refine sw_aloadn dX8_knows_119 rfl ?_
        refine sw_getR dX8_knows_120 fs_X8_48 o46 r46_23 ?_
        refine sw_iload dX8_knows_123 rfl ?_
        refine sx_iald (dd) dX8_knows_125 a57 (rfl) (by omega) (by decide) ?_
        rw [e57]
        refine sw_iadd dX8_knows_126 ?_
        refine sw_min dX8_knows_127 lm_X8_246 (Nat.le_of_ble_eq_true rfl) ?_
        refine sw_topI (y := nI (min (b + pE P dd) 199)) (mn_I2 (by omega) (by omega)) ?_
        refine sw_icmp_gt (tgt := 153) dX8_knows_130 (by decide) (fun h130 => ?_) (fun h130 => ?_)
        · skip
          refine sw_goto (tgt := 297) dX8_knows_153 (by decide) ?_
          exact h τ _ _ hf (fun t' d' x1 x2 => isV_iff (hv t' d' x1 x2) (or_congr Iff.rfl (and_congr Iff.rfl (and_congr Iff.rfl (by omega)))))
        · exact absurd ((nI_lt (by omega) (by omega))) h130
  refine sw_aloadn dX8_knows_77 rfl ?_
  refine sw_getR dX8_knows_78 fs_X8_57 o46 r46_29 ?_
  refine sw_iload dX8_knows_81 rfl ?_
  refine sx_iald (k) dX8_knows_83 a60 (rfl) (by omega) (by decide) ?_
  rw [r0]
  refine sw_istore dX8_knows_84 (Nat.le_of_ble_eq_true rfl) ?_
  refine sx_iconst (v := nI 0) dX8_knows_86 (by decide) ?_
  refine sw_aloadn dX8_knows_87 rfl ?_
  refine sw_getR dX8_knows_88 fs_X8_60 o46 r46_30 ?_
  refine sw_iload dX8_knows_91 rfl ?_
  refine sx_iald (k) dX8_knows_93 a61 (rfl) (by omega) (by decide) ?_
  rw [r1]
  refine sw_aloadn dX8_knows_94 rfl ?_
  refine sw_getR dX8_knows_95 fs_X8_48 o46 r46_23 ?_
  refine sw_iload dX8_knows_98 rfl ?_
  refine sx_iald (dd) dX8_knows_100 a57 (rfl) (by omega) (by decide) ?_
  rw [hPe]
  refine sw_isub dX8_knows_101 ?_
  refine sw_max dX8_knows_102 lm_X8_240 (Nat.le_of_ble_eq_true rfl) ?_
  refine sw_topI (y := nI (a - pE P dd)) (mx_I2 (by omega) (by omega)) ?_
  refine sw_istore dX8_knows_105 (Nat.le_of_ble_eq_true rfl) ?_
  exact loop (200 - (a - pE P dd)) (a - pE P dd) rfl (Nat.le_refl _) (by omega) σ fr_rf (fun t' d' x1 x2 => isV_iff (hO t' d' x1 x2) ⟨Or.inl, fun w => w.elim id (fun w => absurd w.2.2 (by omega))⟩)
theorem m_knows {f : Mem → Prop} {P : PL} {nc n m : Nat} {y b : Int32} {S : Nat → Nat → Prop} (hP : PlM σ P) (hV : PV P) (hn : n ≤ 100) (hm : m ≤ n) (hL : LV P nc n (lgM σ)) (h12 : pcN (lgM σ) y n ≤ 12) (hy : ¬ y = -1) (hb : b = nI 0 ∨ b = nI 1) (hS : ∀ t rm, S t rm ↔ (b = nI 1 → skn (lgM σ) y m t rm)) (h : ∀ τ, kfr σ τ → WP τ P (wkG P (lgM σ) y m S) nc n (pfF (lgM σ) y m) → f τ) : SW G (d + 1) M_X8_knows 0 [some (.ref 46), some (.int y), some (.int (nI m)), some (.int b), none, none, none] [] σ (RV f) := by
  have hKV := wkG_V hV hL hm h12 S
  have hcm : pcN (lgM σ) y m ≤ 12 := hKV.1.1
  have h8 := hV.1
  have hD := hV.2.1
  have cmono : ∀ a b, a ≤ b → pcN (lgM σ) y a ≤ pcN (lgM σ) y b := by
    intro a b hab
    induction b with
    | zero => rw [show a = 0 by omega]; exact Nat.le_refl _
    | succ b ih =>
      by_cases e : a = b + 1
      · rw [e]; exact Nat.le_refl _
      · refine Nat.le_trans (ih (by omega)) ?_
        show cnt _ b ≤ cnt _ (b + 1)
        simp only [cnt]
        omega
  have loop : ∀ (q k : Nat), q = m - k → k ≤ m → ∀ τ o5 o6, kfr σ τ → τ.1 46 38 = nI (pcN (lgM σ) y k) → (∀ i, i < pcN (lgM σ) y k → τ.1 68 i = nI (pfF (lgM σ) y k i)) → frI τ (opn P (lgM σ) k) → snI τ (fun t rm => b = nI 1 → skn (lgM σ) y k t rm) → SW G (d + 1) M_X8_knows 60 [some (.ref 46), some (.int y), some (.int (nI m)), some (.int b), some (.int (nI k)), o5, o6] [] τ (RV f) := by
    intro q
    induction q with
    | zero =>
      intro k hq hk τ o5 o6 hf h38 h68 hfr hsn
      obtain rfl : k = m := by omega
      refine sw_iload dX8_knows_60 rfl ?_
      refine sw_iloadn dX8_knows_62 rfl ?_
      refine sw_icmp_ge (tgt := 303) dX8_knows_63 (by decide) (fun h63 => ?_) (fun h63 => ?_)
      · skip
        refine sx_ret0 dX8_knows_303 rfl ?_
        have hlg := kfr_lg hf
        refine h τ hf ⟨⟨kfr_Pl hf hP, hV, hKV.1, hn, by rw [hlg]; exact hL, fun i hi => ?_, hfr, fun t ht rm g b1 b2 => (hsn t ht rm g b1 b2).trans (hS t rm).symm⟩, h38⟩
        have w := pfF_in (lgM σ) y k i hi
        rw [hlg]
        exact ⟨h68 i hi, by omega, w.2.1, rfl, rfl, fun _ _ => Iff.rfl⟩
      · exact absurd ((nI_le (Nat.le_refl _) (by omega))) h63
    | succ q ih =>
      intro k hq hk τ o5 o6 hf h38 h68 hfr hsn
      have e58 : τ.1 58 = σ.1 58 := (hf.1 58 (by decide) (by omega)).1
      have e59 : τ.1 59 = σ.1 59 := (hf.1 59 (by decide) (by omega)).1
      have e60 : τ.1 60 = σ.1 60 := (hf.1 60 (by decide) (by omega)).1
      have e61 : τ.1 61 = σ.1 61 := (hf.1 61 (by decide) (by omega)).1
      have e62 : τ.1 62 = σ.1 62 := (hf.1 62 (by decide) (by omega)).1
      have hlg := kfr_lg hf
      have ih := ih (k + 1) (by omega) (by omega)
      -- the next log, once done
      have nxt : ∀ τ' o5 o6, kfr σ τ' → τ'.1 46 38 = nI (pcN (lgM σ) y (k + 1)) → (∀ i, i < pcN (lgM σ) y (k + 1) → τ'.1 68 i = nI (pfF (lgM σ) y (k + 1) i)) → frI τ' (opn P (lgM σ) (k + 1)) → snI τ' (fun t rm => b = nI 1 → skn (lgM σ) y (k + 1) t rm) → SW G (d + 1) M_X8_knows 297 [some (.ref 46), some (.int y), some (.int (nI m)), some (.int b), some (.int (nI k)), o5, o6] [] τ' (RV f) := by
        intro τ' o5 o6 a1 a2 a3 a4 a5
        refine sx_iinc (nI (k + 1)) dX8_knows_297 rfl (nI_inc _) ?_
        refine sw_goto (tgt := 60) dX8_knows_300 (by decide) ?_
        exact ih τ' _ _ a1 a2 a3 a4 a5
      have pcs : ¬ pas (lgM σ) y k → pcN (lgM σ) y (k + 1) = pcN (lgM σ) y k ∧ pfF (lgM σ) y (k + 1) = pfF (lgM σ) y k := fun hno => by
        have h1 : ¬ pasB (lgM σ) y k = true := fun w => hno (pasB_iff.mp w)
        exact ⟨by simp [pcN, cnt, h1], if_neg h1⟩
      have ops : ¬ lKD (lgM σ) k = nI 1 → ∀ t dd, opn P (lgM σ) k t dd ↔ opn P (lgM σ) (k + 1) t dd := fun hno t dd => ⟨fun ⟨k', a1, a2⟩ => ⟨k', by omega, a2⟩, fun ⟨k', a1, a2, a3⟩ => by
        rcases Nat.lt_succ_iff_lt_or_eq.mp a1 with e | rfl
        · exact ⟨k', e, a2, a3⟩
        · exact absurd a2 hno⟩
      have sks : ¬ (lKD (lgM σ) k = nI 2 ∧ lCA (lgM σ) k = y) → ∀ t rm, skn (lgM σ) y k t rm ↔ skn (lgM σ) y (k + 1) t rm := fun hno t rm => ⟨fun w k' hk' b1 b2 b3 => by
        rcases Nat.lt_succ_iff_lt_or_eq.mp hk' with e | rfl
        · exact w k' e b1 b2 b3
        · exact absurd ⟨b1, b2⟩ hno, fun w k' hk' => w k' (by omega)⟩
      have hkn : k < n := by omega
      have skip : ¬ lKD (lgM σ) k = nI 1 → ¬ pas (lgM σ) y k → ¬ (b = nI 1 ∧ lKD (lgM σ) k = nI 2 ∧ lCA (lgM σ) k = y) → ∀ o5 o6, SW G (d + 1) M_X8_knows 297 [some (.ref 46), some (.int y), some (.int (nI m)), some (.int b), some (.int (nI k)), o5, o6] [] τ (RV f) := fun n1 n2 n3 o5 o6 => nxt τ o5 o6 hf (by rw [(pcs n2).1]; exact h38) (by rw [(pcs n2).1, (pcs n2).2]; exact h68) (fun t dd x1 x2 => isV_iff (hfr t dd x1 x2) (ops n1 t dd)) (fun t ht rm g x1 x2 => (hsn t ht rm g x1 x2).trans ⟨fun w e => (sks (fun z => n3 ⟨e, z⟩) t rm).mp (w e), fun w e => (sks (fun z => n3 ⟨e, z⟩) t rm).mpr (w e)⟩)
      refine sw_iload dX8_knows_60 rfl ?_
      refine sw_iloadn dX8_knows_62 rfl ?_
      refine sw_icmp_ge (tgt := 303) dX8_knows_63 (by decide) (fun h63 => ?_) (fun h63 => ?_)
      · exact absurd h63 ((by rw [nI_le' (by omega) (by omega)]; omega))
      · skip
        refine sw_aloadn dX8_knows_66 rfl ?_
        refine sw_getR dX8_knows_67 fs_X8_51 o46 r46_27 ?_
        refine sw_iload dX8_knows_70 rfl ?_
        refine sx_iald (k) dX8_knows_72 a58 (rfl) (by omega) (by decide) ?_
        rw [e58]
        refine sx_iconst (v := nI 1) dX8_knows_73 (by decide) ?_
        refine sw_icmp_ne (tgt := 156) dX8_knows_74 (by decide) (fun h74 => ?_) (fun h74 => ?_)
        · skip
          have n1 : ¬ lKD (lgM σ) k = nI 1 := h74
          refine sw_aloadn dX8_knows_156 rfl ?_
          refine sw_getR dX8_knows_157 fs_X8_54 o46 r46_28 ?_
          refine sw_iload dX8_knows_160 rfl ?_
          refine sx_iald (k) dX8_knows_162 a59 (rfl) (by omega) (by decide) ?_
          rw [e59]
          refine sw_iloadn dX8_knows_163 rfl ?_
          refine sw_icmp_ne (tgt := 210) dX8_knows_164 (by decide) (fun h164 => ?_) (fun h164 => ?_)
          · skip
            refine sw_aloadn dX8_knows_210 rfl ?_
            refine sw_getR dX8_knows_211 fs_X8_54 o46 r46_28 ?_
            refine sw_iload dX8_knows_214 rfl ?_
            refine sx_iald (k) dX8_knows_216 a59 (rfl) (by omega) (by decide) ?_
            rw [e59]
            refine sw_iloadn dX8_knows_217 rfl ?_
            refine sw_icmp_ne (tgt := 297) dX8_knows_218 (by decide) (fun h218 => ?_) (fun h218 => ?_)
            · skip
              first
                | (have n2 : ¬ pas (lgM σ) y k := fun w => h218 w.2
                   exact skip n1 n2 (fun w => h218 w.2.2) _ _)
                | (have n2 : ¬ pas (lgM σ) y k := fun w => absurd (w.1.symm.trans h175) (by decide)
                   exact skip n1 n2 (fun w => absurd (h179.symm.trans w.1) (by decide)) _ _)
                | (have hb1 : b = nI 1 := hb.elim (fun w => absurd w h179) id
                   have n2 : ¬ pas (lgM σ) y k := fun w => absurd (w.1.symm.trans hgk) (by decide)
                   refine nxt _ _ _ (kfr_J hf (by omega)) (by rw [(pcs n2).1]; exact h38) (by rw [(pcs n2).1, (pcs n2).2]; exact h68) (fun t dd x1 x2 => isV_iff (hfr t dd x1 x2) (ops n1 t dd)) (fun t ht rm g x1 x2 => ?_)
                   rw [setJ_at]
                   by_cases e : t = nv (lTK (lgM σ)) k
                   · subst e
                     rw [updL_same]
                     have e2 : qb (τ.2 69 (nv (lTK (lgM σ)) k) &&& z) rm g = (qb (τ.2 69 (nv (lTK (lgM σ)) k)) rm g && qb z rm g) := mb_and _ _ _
                     rw [e2, Bool.and_eq_true, hsn _ r4 rm g x1 x2, hz.1 rm g x1 x2]
                     constructor
                     · rintro ⟨w1, w2⟩ eb k' hk' b1 b2 b3
                       rcases Nat.lt_succ_iff_lt_or_eq.mp hk' with e | rfl
                       · exact w1 eb k' e b1 b2 b3
                       · exact w2.symm
                     · intro w
                       exact ⟨fun eb k' hk' => w eb k' (by omega), (w hb1 k (by omega) hgk h164 rfl).symm⟩
                   · rw [updL_ne _ _ e]
                     refine (hsn t ht rm g x1 x2).trans ⟨fun w eb k' hk' b1 b2 b3 => ?_, fun w eb k' hk' => w eb k' (by omega)⟩
                     rcases Nat.lt_succ_iff_lt_or_eq.mp hk' with e' | rfl
                     · exact w eb k' e' b1 b2 b3
                     · exact absurd b3.symm e)
            · skip
              have hca : lCA (lgM σ) k = y := h218
              have hgk : lKD (lgM σ) k = 0 := by
                rcases hL k hkn with z | z | z
                · exact z.1
                · exact absurd z.1 n1
                · first
                  | exact absurd z.1 h175
                  | exact absurd hca h164
              have hpas : pas (lgM σ) y k := ⟨hgk, hca⟩
              have hpb := pasB_iff.mpr hpas
              have hc1 : pcN (lgM σ) y (k + 1) = pcN (lgM σ) y k + 1 := by simp [pcN, cnt, hpb]
              have hc2 := cmono (k + 1) m (by omega)
              refine sw_aloadn dX8_knows_221 rfl ?_
              refine sw_getI dX8_knows_222 fs_X8_235 o46 ?_
              rw [h38]
              refine sw_istore dX8_knows_225 (Nat.le_of_ble_eq_true rfl) ?_
              refine m_kins h38 (by omega) (by omega) (fun i hi => by have := (pfF_in (lgM σ) y k i hi).1; omega) h68 (fun τ' o5 a1 a2 a3 a4 a5 => ?_)
              refine nxt τ' o5 _ (kfr_tr hf a1) (by rw [hc1]; exact a4) (by
                rw [hc1]
                intro i hi
                rw [a5 i hi, hlg]
                show _ = nI ((if pasB (lgM σ) y k then inA (ltr (lgM σ) k) k (pcN (lgM σ) y k) (pfF (lgM σ) y k) else pfF (lgM σ) y k) i)
                rw [if_pos hpb]) (fun t dd x1 x2 => ?_) (fun t ht rm g x1 x2 => ?_)
              · rw [a3]; exact isV_iff (hfr t dd x1 x2) (ops n1 t dd)
              · rw [a2]
                have n3 : ¬ (lKD (lgM σ) k = nI 2 ∧ lCA (lgM σ) k = y) := fun w => absurd (hgk.symm.trans w.1) (by decide)
                exact (hsn t ht rm g x1 x2).trans ⟨fun w e => (sks n3 t rm).mp (w e), fun w e => (sks n3 t rm).mpr (w e)⟩
          · skip
            refine sw_aloadn dX8_knows_167 rfl ?_
            refine sw_getR dX8_knows_168 fs_X8_51 o46 r46_27 ?_
            refine sw_iload dX8_knows_171 rfl ?_
            refine sx_iald (k) dX8_knows_173 a58 (rfl) (by omega) (by decide) ?_
            rw [e58]
            refine sx_iconst (v := nI 2) dX8_knows_174 (by decide) ?_
            refine sw_icmp_ne (tgt := 210) dX8_knows_175 (by decide) (fun h175 => ?_) (fun h175 => ?_)
            · skip
              refine sw_aloadn dX8_knows_210 rfl ?_
              refine sw_getR dX8_knows_211 fs_X8_54 o46 r46_28 ?_
              refine sw_iload dX8_knows_214 rfl ?_
              refine sx_iald (k) dX8_knows_216 a59 (rfl) (by omega) (by decide) ?_
              rw [e59]
              refine sw_iloadn dX8_knows_217 rfl ?_
              refine sw_icmp_ne (tgt := 297) dX8_knows_218 (by decide) (fun h218 => ?_) (fun h218 => ?_)
              · skip
                first
                  | (have n2 : ¬ pas (lgM σ) y k := fun w => h218 w.2
                     exact skip n1 n2 (fun w => h218 w.2.2) _ _)
                  | (have n2 : ¬ pas (lgM σ) y k := fun w => absurd (w.1.symm.trans h175) (by decide)
                     exact skip n1 n2 (fun w => absurd (h179.symm.trans w.1) (by decide)) _ _)
                  | (have hb1 : b = nI 1 := hb.elim (fun w => absurd w h179) id
                     have n2 : ¬ pas (lgM σ) y k := fun w => absurd (w.1.symm.trans hgk) (by decide)
                     refine nxt _ _ _ (kfr_J hf (by omega)) (by rw [(pcs n2).1]; exact h38) (by rw [(pcs n2).1, (pcs n2).2]; exact h68) (fun t dd x1 x2 => isV_iff (hfr t dd x1 x2) (ops n1 t dd)) (fun t ht rm g x1 x2 => ?_)
                     rw [setJ_at]
                     by_cases e : t = nv (lTK (lgM σ)) k
                     · subst e
                       rw [updL_same]
                       have e2 : qb (τ.2 69 (nv (lTK (lgM σ)) k) &&& z) rm g = (qb (τ.2 69 (nv (lTK (lgM σ)) k)) rm g && qb z rm g) := mb_and _ _ _
                       rw [e2, Bool.and_eq_true, hsn _ r4 rm g x1 x2, hz.1 rm g x1 x2]
                       constructor
                       · rintro ⟨w1, w2⟩ eb k' hk' b1 b2 b3
                         rcases Nat.lt_succ_iff_lt_or_eq.mp hk' with e | rfl
                         · exact w1 eb k' e b1 b2 b3
                         · exact w2.symm
                       · intro w
                         exact ⟨fun eb k' hk' => w eb k' (by omega), (w hb1 k (by omega) hgk h164 rfl).symm⟩
                     · rw [updL_ne _ _ e]
                       refine (hsn t ht rm g x1 x2).trans ⟨fun w eb k' hk' b1 b2 b3 => ?_, fun w eb k' hk' => w eb k' (by omega)⟩
                       rcases Nat.lt_succ_iff_lt_or_eq.mp hk' with e' | rfl
                       · exact w eb k' e' b1 b2 b3
                       · exact absurd b3.symm e)
              · skip
                have hca : lCA (lgM σ) k = y := h218
                have hgk : lKD (lgM σ) k = 0 := by
                  rcases hL k hkn with z | z | z
                  · exact z.1
                  · exact absurd z.1 n1
                  · first
                    | exact absurd z.1 h175
                    | exact absurd hca h164
                have hpas : pas (lgM σ) y k := ⟨hgk, hca⟩
                have hpb := pasB_iff.mpr hpas
                have hc1 : pcN (lgM σ) y (k + 1) = pcN (lgM σ) y k + 1 := by simp [pcN, cnt, hpb]
                have hc2 := cmono (k + 1) m (by omega)
                refine sw_aloadn dX8_knows_221 rfl ?_
                refine sw_getI dX8_knows_222 fs_X8_235 o46 ?_
                rw [h38]
                refine sw_istore dX8_knows_225 (Nat.le_of_ble_eq_true rfl) ?_
                refine m_kins h38 (by omega) (by omega) (fun i hi => by have := (pfF_in (lgM σ) y k i hi).1; omega) h68 (fun τ' o5 a1 a2 a3 a4 a5 => ?_)
                refine nxt τ' o5 _ (kfr_tr hf a1) (by rw [hc1]; exact a4) (by
                  rw [hc1]
                  intro i hi
                  rw [a5 i hi, hlg]
                  show _ = nI ((if pasB (lgM σ) y k then inA (ltr (lgM σ) k) k (pcN (lgM σ) y k) (pfF (lgM σ) y k) else pfF (lgM σ) y k) i)
                  rw [if_pos hpb]) (fun t dd x1 x2 => ?_) (fun t ht rm g x1 x2 => ?_)
                · rw [a3]; exact isV_iff (hfr t dd x1 x2) (ops n1 t dd)
                · rw [a2]
                  have n3 : ¬ (lKD (lgM σ) k = nI 2 ∧ lCA (lgM σ) k = y) := fun w => absurd (hgk.symm.trans w.1) (by decide)
                  exact (hsn t ht rm g x1 x2).trans ⟨fun w e => (sks n3 t rm).mp (w e), fun w e => (sks n3 t rm).mpr (w e)⟩
            · skip
              refine sw_iloadn dX8_knows_178 rfl ?_
              refine sw_if_eq (tgt := 297) dX8_knows_179 (by decide) (fun h179 => ?_) (fun h179 => ?_)
              · skip
                first
                  | (have n2 : ¬ pas (lgM σ) y k := fun w => h218 w.2
                     exact skip n1 n2 (fun w => h218 w.2.2) _ _)
                  | (have n2 : ¬ pas (lgM σ) y k := fun w => absurd (w.1.symm.trans h175) (by decide)
                     exact skip n1 n2 (fun w => absurd (h179.symm.trans w.1) (by decide)) _ _)
                  | (have hb1 : b = nI 1 := hb.elim (fun w => absurd w h179) id
                     have n2 : ¬ pas (lgM σ) y k := fun w => absurd (w.1.symm.trans hgk) (by decide)
                     refine nxt _ _ _ (kfr_J hf (by omega)) (by rw [(pcs n2).1]; exact h38) (by rw [(pcs n2).1, (pcs n2).2]; exact h68) (fun t dd x1 x2 => isV_iff (hfr t dd x1 x2) (ops n1 t dd)) (fun t ht rm g x1 x2 => ?_)
                     rw [setJ_at]
                     by_cases e : t = nv (lTK (lgM σ)) k
                     · subst e
                       rw [updL_same]
                       have e2 : qb (τ.2 69 (nv (lTK (lgM σ)) k) &&& z) rm g = (qb (τ.2 69 (nv (lTK (lgM σ)) k)) rm g && qb z rm g) := mb_and _ _ _
                       rw [e2, Bool.and_eq_true, hsn _ r4 rm g x1 x2, hz.1 rm g x1 x2]
                       constructor
                       · rintro ⟨w1, w2⟩ eb k' hk' b1 b2 b3
                         rcases Nat.lt_succ_iff_lt_or_eq.mp hk' with e | rfl
                         · exact w1 eb k' e b1 b2 b3
                         · exact w2.symm
                       · intro w
                         exact ⟨fun eb k' hk' => w eb k' (by omega), (w hb1 k (by omega) hgk h164 rfl).symm⟩
                     · rw [updL_ne _ _ e]
                       refine (hsn t ht rm g x1 x2).trans ⟨fun w eb k' hk' b1 b2 b3 => ?_, fun w eb k' hk' => w eb k' (by omega)⟩
                       rcases Nat.lt_succ_iff_lt_or_eq.mp hk' with e' | rfl
                       · exact w eb k' e' b1 b2 b3
                       · exact absurd b3.symm e)
              · skip
                have hgk : lKD (lgM σ) k = nI 2 := h175
                have hrow : okv (lTG (lgM σ)) (pR P) k ∧ okv (lTK (lgM σ)) 200 k := by
                  rcases hL k hkn with z | z | z
                  · rw [z.1] at hgk; exact absurd hgk (by decide)
                  · rw [z.1] at hgk; exact absurd hgk (by decide)
                  · exact ⟨z.2.2.1, z.2.2.2.1⟩
                obtain ⟨⟨r1, r2⟩, ⟨r3, r4⟩⟩ := hrow
                have r1 : σ.1 60 k = nI (nv (lTG (lgM σ)) k) := r1
                have r3 : σ.1 61 k = nI (nv (lTK (lgM σ)) k) := r3
                refine sw_aloadn dX8_knows_182 rfl ?_
                refine sw_getR dX8_knows_183 fs_X8_85 o46 r46_39 ?_
                refine sw_aloadn dX8_knows_186 rfl ?_
                refine sw_getR dX8_knows_187 fs_X8_60 o46 r46_30 ?_
                refine sw_iload dX8_knows_190 rfl ?_
                refine sx_iald (k) dX8_knows_192 a61 (rfl) (by omega) (by decide) ?_
                rw [e61, r3]
                refine sw_dup2 dX8_knows_193 rfl rfl ?_
                refine sx_lald (nv (lTK (lgM σ)) k) dX8_knows_194 a69 (rfl) (by omega) (by decide) ?_
                refine sw_aloadn dX8_knows_195 rfl ?_
                refine sw_getR dX8_knows_196 fs_X8_57 o46 r46_29 ?_
                refine sw_iload dX8_knows_199 rfl ?_
                refine sx_iald (k) dX8_knows_201 a60 (rfl) (by omega) (by decide) ?_
                rw [e60, r1]
                refine sx_insJ1 dX8_knows_202 mk_X8_states sk_X8_states lk_X8_249 (Nat.le_of_ble_eq_true rfl) (Nat.le_of_ble_eq_true rfl) ?_
                refine m_states (show nv (lTG (lgM σ)) k < 8 by omega) (fun z hz => ?_)
                refine sw_land dX8_knows_205 ?_
                refine sx_last (nv (lTK (lgM σ)) k) dX8_knows_206 a69 (rfl) (by omega) (by decide) ?_
                refine sw_goto (tgt := 297) dX8_knows_207 (by decide) ?_
                first
                  | (have n2 : ¬ pas (lgM σ) y k := fun w => h218 w.2
                     exact skip n1 n2 (fun w => h218 w.2.2) _ _)
                  | (have n2 : ¬ pas (lgM σ) y k := fun w => absurd (w.1.symm.trans h175) (by decide)
                     exact skip n1 n2 (fun w => absurd (h179.symm.trans w.1) (by decide)) _ _)
                  | (have hb1 : b = nI 1 := hb.elim (fun w => absurd w h179) id
                     have n2 : ¬ pas (lgM σ) y k := fun w => absurd (w.1.symm.trans hgk) (by decide)
                     refine nxt _ _ _ (kfr_J hf (by omega)) (by rw [(pcs n2).1]; exact h38) (by rw [(pcs n2).1, (pcs n2).2]; exact h68) (fun t dd x1 x2 => isV_iff (hfr t dd x1 x2) (ops n1 t dd)) (fun t ht rm g x1 x2 => ?_)
                     rw [setJ_at]
                     by_cases e : t = nv (lTK (lgM σ)) k
                     · subst e
                       rw [updL_same]
                       have e2 : qb (τ.2 69 (nv (lTK (lgM σ)) k) &&& z) rm g = (qb (τ.2 69 (nv (lTK (lgM σ)) k)) rm g && qb z rm g) := mb_and _ _ _
                       rw [e2, Bool.and_eq_true, hsn _ r4 rm g x1 x2, hz.1 rm g x1 x2]
                       constructor
                       · rintro ⟨w1, w2⟩ eb k' hk' b1 b2 b3
                         rcases Nat.lt_succ_iff_lt_or_eq.mp hk' with e | rfl
                         · exact w1 eb k' e b1 b2 b3
                         · exact w2.symm
                       · intro w
                         exact ⟨fun eb k' hk' => w eb k' (by omega), (w hb1 k (by omega) hgk h164 rfl).symm⟩
                     · rw [updL_ne _ _ e]
                       refine (hsn t ht rm g x1 x2).trans ⟨fun w eb k' hk' b1 b2 b3 => ?_, fun w eb k' hk' => w eb k' (by omega)⟩
                       rcases Nat.lt_succ_iff_lt_or_eq.mp hk' with e' | rfl
                       · exact w eb k' e' b1 b2 b3
                       · exact absurd b3.symm e)
        · skip
          have hgk : lKD (lgM σ) k = nI 1 := h74
          have hrow : lCA (lgM σ) k = -1 ∧ okv (lTG (lgM σ)) (pD P) k ∧ okv (lTK (lgM σ)) 200 k ∧ okv (lMO (lgM σ)) 200 k ∧ nv (lTK (lgM σ)) k ≤ nv (lMO (lgM σ)) k := by
            rcases hL k hkn with z | z | z
            · rw [z.1] at hgk; exact absurd hgk (by decide)
            · exact z.2
            · rw [z.1] at hgk; exact absurd hgk (by decide)
          obtain ⟨r0, ⟨r1, r2⟩, ⟨r3, r4⟩, ⟨r5, r6⟩, r7⟩ := hrow
          refine m_kgap (kfr_Pl hf hP) hV (by omega) r2 r4 r6 r7 (by rw [e60]; exact r1) (by rw [e61]; exact r3) (by rw [e62]; exact r5) hfr (fun τ' o5 o6 hf' hfr' => ?_)
          have n2 : ¬ pas (lgM σ) y k := fun w => hy (w.2.symm.trans r0)
          refine nxt τ' o5 o6 (kfr_tr hf (kfr_fr hf' (by omega) (by omega))) (by rw [(pcs n2).1, (hf' 46 (by omega)).1]; exact h38) (by rw [(pcs n2).1, (pcs n2).2, (hf' 68 (by omega)).1]; exact h68) (fun t dd x1 x2 => isV_iff (hfr' t dd x1 x2) ?_) (fun t ht rm g x1 x2 => ?_)
          · constructor
            · rintro (⟨k', a1, a2⟩ | ⟨rfl, a2, a3⟩)
              · exact ⟨k', by omega, a2⟩
              · exact ⟨k, by omega, hgk, rfl, a2, a3⟩
            · rintro ⟨k', a1, a2, a3, a4⟩
              rcases Nat.lt_succ_iff_lt_or_eq.mp a1 with e | rfl
              · exact Or.inl ⟨k', e, a2, a3, a4⟩
              · subst a3; exact Or.inr ⟨rfl, a4⟩
          · rw [(hf' 69 (by omega)).2]
            have n3 : ¬ (lKD (lgM σ) k = nI 2 ∧ lCA (lgM σ) k = y) := fun w => hy (w.2.symm.trans r0)
            exact (hsn t ht rm g x1 x2).trans ⟨fun w e => (sks n3 t rm).mp (w e), fun w e => (sks n3 t rm).mpr (w e)⟩
  have free : ∀ (q k : Nat), q = 2000 - k → k ≤ 2000 → ∀ τ, kfr σ τ → τ.1 46 38 = nI 0 → snI τ (fun _ _ => True) → (∀ i, i < k → τ.1 70 i = nI 0) → SW G (d + 1) M_X8_knows 35 [some (.ref 46), some (.int y), some (.int (nI m)), some (.int b), some (.int (nI k)), none, none] [] τ (RV f) := by
    intro q
    induction q with
    | zero =>
      intro k hq hk τ hf h38 hsn hz
      obtain rfl : k = 2000 := by omega
      refine sw_iload dX8_knows_35 rfl ?_
      refine sx_sipush (v := nI 2000) dX8_knows_37 (by decide) ?_
      refine sw_icmp_ge (tgt := 57) dX8_knows_40 (by decide) (fun h40 => ?_) (fun h40 => ?_)
      · skip
        refine sx_iconst (v := nI 0) dX8_knows_57 (by decide) ?_
        refine sw_istore dX8_knows_58 (Nat.le_of_ble_eq_true rfl) ?_
        refine loop m 0 (by omega) (by omega) τ _ _ hf h38 (fun i hi => absurd hi (by simp [pcN, cnt])) (fun t dd x1 x2 => Or.inr ⟨hz _ (by omega), fun ⟨k, w, _⟩ => absurd w (by omega)⟩) (fun t ht rm g x1 x2 => (hsn t ht rm g x1 x2).trans ⟨fun _ _ k hk => absurd hk (by omega), fun _ => trivial⟩)
      · exact absurd ((by decide)) h40
    | succ q ih =>
      intro k hq hk τ hf h38 hsn hz
      refine sw_iload dX8_knows_35 rfl ?_
      refine sx_sipush (v := nI 2000) dX8_knows_37 (by decide) ?_
      refine sw_icmp_ge (tgt := 57) dX8_knows_40 (by decide) (fun h40 => ?_) (fun h40 => ?_)
      · exact absurd h40 ((by rw [nI_le' (by omega) (by omega)]; omega))
      · skip
        refine sw_aloadn dX8_knows_43 rfl ?_
        refine sw_getR dX8_knows_44 fs_X8_89 o46 r46_40 ?_
        refine sw_iload dX8_knows_47 rfl ?_
        refine sx_iconst (v := nI 0) dX8_knows_49 (by decide) ?_
        refine sx_zast (k) dX8_knows_50 a70 (rfl) (by omega) (by decide) ?_
        rw [nar_bool (Or.inl rfl)]
        refine sx_iinc (nI (k + 1)) dX8_knows_51 rfl (nI_inc _) ?_
        refine sw_goto (tgt := 35) dX8_knows_54 (by decide) ?_
        refine ih (k + 1) (by omega) (by omega) _ (kfr_I hf (by omega)) (by rw [setI_ne _ _ _ (by decide)]; exact h38) hsn (fun i hi => ?_)
        rw [setI_at]
        by_cases e : i = k
        · subst e; rw [upd_same]
        · rw [upd_ne _ _ e]; exact hz i (by omega)
  have seenL : ∀ (q k : Nat), q = 200 - k → k ≤ 200 → ∀ τ, kfr σ τ → τ.1 46 38 = nI 0 → (∀ i, i < k → τ.2 69 i = -1) → SW G (d + 1) M_X8_knows 8 [some (.ref 46), some (.int y), some (.int (nI m)), some (.int b), some (.int (nI k)), none, none] [] τ (RV f) := by
    intro q
    induction q with
    | zero =>
      intro k hq hk τ hf h38 hz
      obtain rfl : k = 200 := by omega
      refine sw_iload dX8_knows_8 rfl ?_
      refine sx_sipush (v := nI 200) dX8_knows_10 (by decide) ?_
      refine sw_icmp_ge (tgt := 32) dX8_knows_13 (by decide) (fun h13 => ?_) (fun h13 => ?_)
      · skip
        refine sx_iconst (v := nI 0) dX8_knows_32 (by decide) ?_
        refine sw_istore dX8_knows_33 (Nat.le_of_ble_eq_true rfl) ?_
        exact free 2000 0 (by omega) (by omega) τ hf h38 (fun t ht rm g x1 x2 => ⟨fun _ => trivial, fun _ => by rw [hz t ht]; exact mb_m1 (by omega)⟩) (fun i hi => absurd hi (by omega))
      · exact absurd ((by decide)) h13
    | succ q ih =>
      intro k hq hk τ hf h38 hz
      refine sw_iload dX8_knows_8 rfl ?_
      refine sx_sipush (v := nI 200) dX8_knows_10 (by decide) ?_
      refine sw_icmp_ge (tgt := 32) dX8_knows_13 (by decide) (fun h13 => ?_) (fun h13 => ?_)
      · exact absurd h13 ((by rw [nI_le' (by omega) (by omega)]; omega))
      · skip
        refine sw_aloadn dX8_knows_16 rfl ?_
        refine sw_getR dX8_knows_17 fs_X8_85 o46 r46_39 ?_
        refine sw_iload dX8_knows_20 rfl ?_
        refine sw_ldc2 dX8_knows_22 kl_X8_238 ?_
        refine sx_last (k) dX8_knows_25 a69 (rfl) (by omega) (by decide) ?_
        refine sx_iinc (nI (k + 1)) dX8_knows_26 rfl (nI_inc _) ?_
        refine sw_goto (tgt := 8) dX8_knows_29 (by decide) ?_
        refine ih (k + 1) (by omega) (by omega) _ (kfr_J hf (by omega)) h38 (fun i hi => ?_)
        rw [setJ_at]
        by_cases e : i = k
        · subst e; rw [updL_same]
        · rw [updL_ne _ _ e]; exact hz i (by omega)
  refine sw_aloadn dX8_knows_0 rfl ?_
  refine sx_iconst (v := nI 0) dX8_knows_1 (by decide) ?_
  refine sw_putI dX8_knows_2 fs_X8_235 o46 ?_
  refine sx_iconst (v := nI 0) dX8_knows_5 (by decide) ?_
  refine sw_istore dX8_knows_6 (Nat.le_of_ble_eq_true rfl) ?_
  exact seenL 200 0 (by omega) (by omega) _ (kfr_38 kfr_rf) (by rw [setI_at, upd_same]) (fun i hi => absurd hi (by omega))
end MKNOWS
