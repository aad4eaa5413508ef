/-! ===== Known: what is kept, and what it is worth ===== -/
theorem wkG_step {P : PL} {g : LG} {y : Int32} {m : Nat} (h : ¬ rel g y m) : wkG P g y (m + 1) (skn g y (m + 1)) = wkG P g y m (skn g y m) := by
  have h1 : ¬ pasB g y m = true := fun q => h (Or.inl (pasB_iff.mp q).2)
  have hc : pcN g y (m + 1) = pcN g y m := by simp [pcN, cnt, h1]
  have hf : pfF g y (m + 1) = pfF g y m := if_neg h1
  have ho : opn P g (m + 1) = opn P g m := by
    funext t dd
    apply propext
    constructor
    · rintro ⟨k, a1, a2⟩
      by_cases e : k = m
      · subst e; exact absurd (Or.inr a2.1) h
      · exact ⟨k, by omega, a2⟩
    · rintro ⟨k, a1, a2⟩
      exact ⟨k, by omega, a2⟩
  have hs : skn g y (m + 1) = skn g y m := by
    funext t rm
    apply propext
    constructor
    · exact fun q k hk => q k (by omega)
    · intro q k hk b1 b2
      by_cases e : k = m
      · subst e; exact absurd (Or.inl b2) h
      · exact q k (by omega) b1 b2
  unfold wkG
  rw [hc, hf, ho, hs]
theorem wkG_irr {P : PL} {g : LG} {y : Int32} {k : Nat} : ∀ {m : Nat}, k ≤ m → (∀ j, k ≤ j → j < m → ¬ rel g y j) → wkG P g y m (skn g y m) = wkG P g y k (skn g y k)
  | 0, hk, _ => by rw [show k = 0 by omega]
  | m + 1, hk, h => by
    by_cases e : k = m + 1
    · rw [e]
    · rw [wkG_step (h m (by omega) (by omega)), wkG_irr (by omega) (fun j h1 h2 => h j h1 (by omega))]
noncomputable def roomsV (P : PL) (g : LG) (y : Int32) (m t : Nat) : Nat := rmN (can P (wkG P g y m (skn g y m)) t)
def skw (g : LG) (y : Int32) (m t0 r0 t rm : Nat) : Prop := skn g y m t rm ∧ (t = t0 → rm = r0)
abbrev wkW (P : PL) (g : LG) (y : Int32) (m t0 r0 : Nat) : WK := wkG P g y m (skw g y m t0 r0)
def OCI (σ : Mem) (P : PL) (g : LG) (n : Nat) : Prop := σ.1 35 8 = -1 ∨ ∃ k, k ≤ n ∧ σ.1 35 8 = nI k ∧ ODm σ P g k
def RCI (σ : Mem) (P : PL) (g : LG) (n : Nat) : Prop := ∀ c, c < 10 → (σ.1 32 c = -1 ∨ ∃ k, k ≤ n ∧ σ.1 32 c = nI k ∧ ∀ t, t < 200 → σ.1 33 (c * 200 + t) = nI (roomsV P g (nI c) k t))
def wayV (σ : Mem) (P : PL) (K : WK) : Prop := (σ.1 31 8 = nI 1 ∧ ∃ ρ : Nat → Nat, (∀ t, t < 200 → σ.1 34 t = nI (ρ t)) ∧ ∀ t, t < 200 → leastAt P K ρ t ∧ ρ t < pR P) ∨ (σ.1 31 8 = nI 0 ∧ ¬ hop0 P K)
def WCI (σ : Mem) (P : PL) (g : LG) (n : Nat) : Prop := σ.1 31 4 = -1 ∨ ∃ k c t0 r0, k ≤ n ∧ c < 10 ∧ t0 < 200 ∧ r0 < 8 ∧ σ.1 31 4 = nI k ∧ σ.1 31 5 = nI c ∧ σ.1 31 6 = nI t0 ∧ σ.1 31 7 = nI r0 ∧ wayV σ P (wkW P g (nI c) k t0 r0)
def CI (σ : Mem) (P : PL) (g : LG) (n : Nat) : Prop := OCI σ P g n ∧ EN σ P ∧ RCI σ P g n ∧ WCI σ P g n
theorem OCI_hit {σ : Mem} {P : PL} {g : LG} {n m : Nat} (hn : n ≤ 100) (hm : m ≤ n) (h : OCI σ P g n) (e : σ.1 35 8 = nI m) : ODm σ P g m := by
  rcases h with h | ⟨k, h1, h2, h3⟩
  · rw [h] at e
    exact absurd e.symm (fun q => by
      have := congrArg Int32.toInt q
      rw [nI_toInt (by omega)] at this
      simp at this)
  · rw [h2] at e
    rw [← nI_inj (by omega) (by omega) e]
    exact h3
theorem nI_m1 {k : Nat} (hk : k < 100000) : ¬ (-1 : Int32) = nI k := fun q => by
  have := congrArg Int32.toInt q
  rw [nI_toInt (by omega)] at this
  simp at this
section KNOWN
variable {G : GG} {d : Nat} {σ : Mem}
theorem WT_seen {τ τ' : Mem} {P : PL} {g : LG} {y : Int32} {m lo hi : Nat} {s s' : Nat → Nat → Prop} (hW : WT τ P (wkG P g y m s)) (hf : fr lo hi τ τ') (hl : lo = 42 ∧ hi = 42) (hs : SNs τ' s') : WT τ' P (wkG P g y m s') := by
  obtain ⟨rfl, rfl⟩ := hl
  obtain ⟨h1, h2, h3, h4, h5, h6, h7, h8, h9, h10⟩ := hW
  refine ⟨PlC_fr hf (by omega) h1, h2, h3, ?_, ?_, ?_, ?_, ?_, hs, ?_⟩
  · rw [(hf 35 (by omega)).1]; exact h4
  · rw [(hf 37 (by omega)).1]; exact h5
  · rw [(hf 38 (by omega)).1]; exact h6
  · rw [(hf 39 (by omega)).1, (hf 40 (by omega)).1]; exact h7
  · unfold OD; rw [(hf 41 (by omega)).1]; exact h8
  · unfold EN; rw [(hf 43 (by omega)).2]; exact h10
/-- what holds while the building stands and there are cards -/
def Std (σ : Mem) (P : PL) (nc n : Nat) : Prop := PlC σ P ∧ PV P ∧ 0 < pR P ∧ σ.1 17 0 = nI n ∧ n ≤ 100 ∧ LV P nc n (lgC σ) ∧ (∀ c, c < 10 → pcN (lgC σ) (nI c) n ≤ 12) ∧ CI σ P (lgC σ) n
theorem c_roomsOf {f : Int32 → Mem → Prop} {P : PL} {nc n m c t : Nat} (hS : Std σ P nc n) (hc : c < 10) (ht : t < 200) (hm : m ≤ n) (h : ∀ τ, fr 31 45 σ τ → Std τ P nc n → f (nI (roomsV P (lgC σ) (nI c) m t)) τ) : SW G (d + 4) M_X1_roomsOf 0 [some (.ref 31), some (.int (nI c)), some (.int (nI t)), some (.int (nI m)), none] [] σ (RI f) := by
  have hS0 := hS
  obtain ⟨hP, hV, hR0, hs, hn, hL, h12, hO, hE, hR, hWc⟩ := hS
  refine sw_aloadn dX1_roomsOf_0 rfl ?_
  refine sw_getR dX1_roomsOf_1 fs_X1_25 o31 r31_0 ?_
  refine sw_iloadn dX1_roomsOf_4 rfl ?_
  refine sw_iloadn dX1_roomsOf_5 rfl ?_
  refine sx_invI2 dX1_roomsOf_6 mk_X2_tellingOf vk_X2_tellingOf lk_X1_44 o17 (Nat.le_of_ble_eq_true rfl) (Nat.le_of_ble_eq_true rfl) ?_
  refine c_tellingOf hs hn hm (fun k hk hno => ?_)
  refine sw_istore dX1_roomsOf_9 (Nat.le_of_ble_eq_true rfl) ?_
  refine sw_aloadn dX1_roomsOf_11 rfl ?_
  refine sw_getR dX1_roomsOf_12 fs_X1_9 o31 r31_2 ?_
  refine sw_iloadn dX1_roomsOf_15 rfl ?_
  refine sx_iald (c) dX1_roomsOf_16 a32 (rfl) (by omega) (by decide) ?_
  refine sw_iload dX1_roomsOf_17 rfl ?_
  refine sw_icmp_eq (tgt := 64) dX1_roomsOf_19 (by decide) (fun h19 => ?_) (fun h19 => ?_)
  · skip
    refine sw_aloadn dX1_roomsOf_64 rfl ?_
    refine sw_getR dX1_roomsOf_65 fs_X1_15 o31 r31_3 ?_
    refine sw_iloadn dX1_roomsOf_68 rfl ?_
    refine sx_sipush (v := nI 200) dX1_roomsOf_69 (by decide) ?_
    refine sw_imul dX1_roomsOf_72 ?_
    refine sw_topI (y := nI (c * 200)) (nI_mul _ _) ?_
    refine sw_iloadn dX1_roomsOf_73 rfl ?_
    refine sw_iadd dX1_roomsOf_74 ?_
    refine sx_iald (c * 200 + t) dX1_roomsOf_75 a33 (nI_add _ _) (by omega) (by decide) ?_
    refine sx_reti dX1_roomsOf_76 rfl ?_
    first
      | (have h19 : σ.1 32 c = nI k := h19
         rcases hR c hc with z | ⟨k', a1, a2, a3⟩
         · rw [z] at h19; exact absurd h19 (nI_m1 (by omega))
         · rw [a2] at h19
           have ek := nI_inj (by omega) (by omega) h19
           subst ek
           rw [a3 t ht]
           have e : roomsV P (lgC σ) (nI c) k' t = roomsV P (lgC σ) (nI c) m t := by unfold roomsV; rw [wkG_irr hk hno]
           rw [e]
           exact h σ fr_rf hS0)
      | (have hlg : lgC τ1 = lgC σ := lgC_fr f1 (by omega)
         rw [hlg] at grow g2
         have sm' : ∀ x, x ≠ 33 → x ≠ 34 → x ≠ 44 → x ≠ 45 → (x < 35 ∨ 42 < x) → τ3.1 x = σ.1 x ∧ τ3.2 x = σ.2 x := fun x b1 b2 b3 b4 b5 => ⟨(s3 x b1 b2 b3 b4).1.trans ((f2 x (by omega)).1.trans (f1 x b5).1), (s3 x b1 b2 b3 b4).2.trans ((f2 x (by omega)).2.trans (f1 x b5).2)⟩
         have ffr : fr 31 45 σ (setI τ3 32 c (nI k)) := fun x hx => ⟨by rw [setI_ne _ _ _ (by omega)]; exact (sm' x (by omega) (by omega) (by omega) (by omega) (by omega)).1, (sm' x (by omega) (by omega) (by omega) (by omega) (by omega)).2⟩
         have e33 : ∀ x, (x < c * 200 ∨ c * 200 + 200 ≤ x) → τ3.1 33 x = σ.1 33 x := fun x hx => by rw [gk x hx, (f2 33 (by omega)).1, (f1 33 (by omega)).1]
         have e34 : τ3.1 34 = σ.1 34 := by rw [g34, (f2 34 (by omega)).1, (f1 34 (by omega)).1]
         have e31 : τ3.1 31 = σ.1 31 := (sm' 31 (by decide) (by decide) (by decide) (by decide) (by omega)).1
         have e32 : τ3.1 32 = σ.1 32 := (sm' 32 (by decide) (by decide) (by decide) (by decide) (by omega)).1
         have e43 : τ3.2 43 = σ.2 43 := (sm' 43 (by decide) (by decide) (by decide) (by decide) (by omega)).2
         have e35 : τ3.1 35 = τ1.1 35 := by rw [(s3 35 (by decide) (by decide) (by decide) (by decide)).1, (f2 35 (by omega)).1]
         have e41 : τ3.1 41 = τ1.1 41 := by rw [(s3 41 (by decide) (by decide) (by decide) (by decide)).1, (f2 41 (by omega)).1]
         have hlg3 : lgC (setI τ3 32 c (nI k)) = lgC σ := lgC_fr ffr (by omega)
         have eroom : roomsV P (lgC σ) (nI c) m = roomsV P (lgC σ) (nI c) k := by unfold roomsV; rw [wkG_irr hk hno]
         rw [setI_ne _ _ _ (by decide), grow t ht]
         refine h _ ffr ⟨PlC_fr ffr (by omega) hP, hV, hR0, ?_, hn, by rw [hlg3]; exact hL, by rw [hlg3]; exact h12, ?_⟩
         · rw [(ffr 17 (by omega)).1]; exact hs
         · rw [hlg3]
           refine ⟨Or.inr ⟨m, hm, ?_, ?_⟩, ?_, fun c' hc' => ?_, ?_⟩
           · rw [setI_ne _ _ _ (by decide), e35]; exact g8
           · exact ODm_at god (by rw [setI_ne _ _ _ (by decide), e41])
           · intro rm hrm i hi
             rw [setI_2, e43]; exact hE rm hrm i hi
           · by_cases e : c' = c
             · subst e
               refine Or.inr ⟨k, by omega, by rw [setI_at, upd_same], fun t' ht' => ?_⟩
               rw [setI_ne _ _ _ (by decide), grow t' ht', ← eroom]
               rfl
             · rcases hR c' hc' with z | ⟨k', a1, a2, a3⟩
               · exact Or.inl (by rw [setI_at, upd_ne _ _ e, e32]; exact z)
               · refine Or.inr ⟨k', a1, by rw [setI_at, upd_ne _ _ e, e32]; exact a2, fun t' ht' => ?_⟩
                 rw [setI_ne _ _ _ (by decide), e33 _ (by omega)]
                 exact a3 t' ht'
           · unfold WCI wayV at *
             rw [setI_ne _ _ _ (by decide), setI_ne _ _ _ (by decide), e31, e34]
             exact hWc)
  · skip
    refine sw_aloadn dX1_roomsOf_22 rfl ?_
    refine sw_getR dX1_roomsOf_23 fs_X1_29 o31 r31_1 ?_
    refine sw_iloadn dX1_roomsOf_26 rfl ?_
    refine sw_iloadn dX1_roomsOf_27 rfl ?_
    refine sx_invV2 dX1_roomsOf_28 mk_X6_lookAt vk_X6_lookAt lk_X1_50 o35 (Nat.le_of_ble_eq_true rfl) (Nat.le_of_ble_eq_true rfl) ?_
    refine c_lookAt hP hV hs hn hm hL (h12 c hc) hE (fun e => OCI_hit hn hm hO e) (fun τ1 f1 g8 god gW gS _ => ?_)
    refine sw_aloadn dX1_roomsOf_31 rfl ?_
    refine sw_getR dX1_roomsOf_32 fs_X1_29 o31 r31_1 ?_
    refine sw_iloadn dX1_roomsOf_35 rfl ?_
    refine sw_iloadn dX1_roomsOf_36 rfl ?_
    refine sx_invV2 dX1_roomsOf_37 mk_X6_addSights vk_X6_addSights lk_X1_54 o35 (Nat.le_of_ble_eq_true rfl) (Nat.le_of_ble_eq_true rfl) ?_
    refine c_addSights (σ := τ1) (n := n) hV hm hn (by rw [lgC_fr f1 (by omega)]; exact hL) gS (fun τ2 f2 g2 => ?_)
    refine sw_aloadn dX1_roomsOf_40 rfl ?_
    refine sw_getR dX1_roomsOf_41 fs_X1_29 o31 r31_1 ?_
    refine sw_aloadn dX1_roomsOf_44 rfl ?_
    refine sw_getR dX1_roomsOf_45 fs_X1_15 o31 r31_3 ?_
    refine sw_iloadn dX1_roomsOf_48 rfl ?_
    refine sx_sipush (v := nI 200) dX1_roomsOf_49 (by decide) ?_
    refine sw_imul dX1_roomsOf_52 ?_
    refine sw_topI (y := nI (c * 200)) (nI_mul _ _) ?_
    refine sx_invV2 dX1_roomsOf_53 mk_X6_findRooms vk_X6_findRooms lk_X1_57 o35 (Nat.le_of_ble_eq_true rfl) (Nat.le_of_ble_eq_true rfl) ?_
    refine c_findRooms (σ := τ2) (b := c * 200) (WT_seen gW f2 ⟨rfl, rfl⟩ g2) hR0 (by omega) (fun τ3 s3 g34 gk grow => ?_)
    refine sw_aloadn dX1_roomsOf_56 rfl ?_
    refine sw_getR dX1_roomsOf_57 fs_X1_9 o31 r31_2 ?_
    refine sw_iloadn dX1_roomsOf_60 rfl ?_
    refine sw_iload dX1_roomsOf_61 rfl ?_
    refine sx_iast (c) dX1_roomsOf_63 a32 (rfl) (by omega) (by decide) ?_
    refine sw_aloadn dX1_roomsOf_64 rfl ?_
    refine sw_getR dX1_roomsOf_65 fs_X1_15 o31 r31_3 ?_
    refine sw_iloadn dX1_roomsOf_68 rfl ?_
    refine sx_sipush (v := nI 200) dX1_roomsOf_69 (by decide) ?_
    refine sw_imul dX1_roomsOf_72 ?_
    refine sw_topI (y := nI (c * 200)) (nI_mul _ _) ?_
    refine sw_iloadn dX1_roomsOf_73 rfl ?_
    refine sw_iadd dX1_roomsOf_74 ?_
    refine sx_iald (c * 200 + t) dX1_roomsOf_75 a33 (nI_add _ _) (by omega) (by decide) ?_
    refine sx_reti dX1_roomsOf_76 rfl ?_
    first
      | (have h19 : σ.1 32 c = nI k := h19
         rcases hR c hc with z | ⟨k', a1, a2, a3⟩
         · rw [z] at h19; exact absurd h19 (nI_m1 (by omega))
         · rw [a2] at h19
           have ek := nI_inj (by omega) (by omega) h19
           subst ek
           rw [a3 t ht]
           have e : roomsV P (lgC σ) (nI c) k' t = roomsV P (lgC σ) (nI c) m t := by unfold roomsV; rw [wkG_irr hk hno]
           rw [e]
           exact h σ fr_rf hS0)
      | (have hlg : lgC τ1 = lgC σ := lgC_fr f1 (by omega)
         rw [hlg] at grow g2
         have sm' : ∀ x, x ≠ 33 → x ≠ 34 → x ≠ 44 → x ≠ 45 → (x < 35 ∨ 42 < x) → τ3.1 x = σ.1 x ∧ τ3.2 x = σ.2 x := fun x b1 b2 b3 b4 b5 => ⟨(s3 x b1 b2 b3 b4).1.trans ((f2 x (by omega)).1.trans (f1 x b5).1), (s3 x b1 b2 b3 b4).2.trans ((f2 x (by omega)).2.trans (f1 x b5).2)⟩
         have ffr : fr 31 45 σ (setI τ3 32 c (nI k)) := fun x hx => ⟨by rw [setI_ne _ _ _ (by omega)]; exact (sm' x (by omega) (by omega) (by omega) (by omega) (by omega)).1, (sm' x (by omega) (by omega) (by omega) (by omega) (by omega)).2⟩
         have e33 : ∀ x, (x < c * 200 ∨ c * 200 + 200 ≤ x) → τ3.1 33 x = σ.1 33 x := fun x hx => by rw [gk x hx, (f2 33 (by omega)).1, (f1 33 (by omega)).1]
         have e34 : τ3.1 34 = σ.1 34 := by rw [g34, (f2 34 (by omega)).1, (f1 34 (by omega)).1]
         have e31 : τ3.1 31 = σ.1 31 := (sm' 31 (by decide) (by decide) (by decide) (by decide) (by omega)).1
         have e32 : τ3.1 32 = σ.1 32 := (sm' 32 (by decide) (by decide) (by decide) (by decide) (by omega)).1
         have e43 : τ3.2 43 = σ.2 43 := (sm' 43 (by decide) (by decide) (by decide) (by decide) (by omega)).2
         have e35 : τ3.1 35 = τ1.1 35 := by rw [(s3 35 (by decide) (by decide) (by decide) (by decide)).1, (f2 35 (by omega)).1]
         have e41 : τ3.1 41 = τ1.1 41 := by rw [(s3 41 (by decide) (by decide) (by decide) (by decide)).1, (f2 41 (by omega)).1]
         have hlg3 : lgC (setI τ3 32 c (nI k)) = lgC σ := lgC_fr ffr (by omega)
         have eroom : roomsV P (lgC σ) (nI c) m = roomsV P (lgC σ) (nI c) k := by unfold roomsV; rw [wkG_irr hk hno]
         rw [setI_ne _ _ _ (by decide), grow t ht]
         refine h _ ffr ⟨PlC_fr ffr (by omega) hP, hV, hR0, ?_, hn, by rw [hlg3]; exact hL, by rw [hlg3]; exact h12, ?_⟩
         · rw [(ffr 17 (by omega)).1]; exact hs
         · rw [hlg3]
           refine ⟨Or.inr ⟨m, hm, ?_, ?_⟩, ?_, fun c' hc' => ?_, ?_⟩
           · rw [setI_ne _ _ _ (by decide), e35]; exact g8
           · exact ODm_at god (by rw [setI_ne _ _ _ (by decide), e41])
           · intro rm hrm i hi
             rw [setI_2, e43]; exact hE rm hrm i hi
           · by_cases e : c' = c
             · subst e
               refine Or.inr ⟨k, by omega, by rw [setI_at, upd_same], fun t' ht' => ?_⟩
               rw [setI_ne _ _ _ (by decide), grow t' ht', ← eroom]
               rfl
             · rcases hR c' hc' with z | ⟨k', a1, a2, a3⟩
               · exact Or.inl (by rw [setI_at, upd_ne _ _ e, e32]; exact z)
               · refine Or.inr ⟨k', a1, by rw [setI_at, upd_ne _ _ e, e32]; exact a2, fun t' ht' => ?_⟩
                 rw [setI_ne _ _ _ (by decide), e33 _ (by omega)]
                 exact a3 t' ht'
           · unfold WCI wayV at *
             rw [setI_ne _ _ _ (by decide), setI_ne _ _ _ (by decide), e31, e34]
             exact hWc)
theorem c_breakOf {f : Int32 → Mem → Prop} {P : PL} {nc n m c : Nat} (hS : Std σ P nc n) (hc : c < 10) (hm : m ≤ n) (k1 : ∀ s, s < pcN (lgC σ) (nI c) m → wlk P (wkG P (lgC σ) (nI c) m (fun _ _ => True)) s → ¬ wlk P (wkG P (lgC σ) (nI c) m (fun _ _ => True)) (s + 1) → ∀ τ, fr 31 45 σ τ → Std τ P nc n → f (nI (pfF (lgC σ) (nI c) m s)) τ) (k0 : wlk P (wkG P (lgC σ) (nI c) m (fun _ _ => True)) (pcN (lgC σ) (nI c) m) → ∀ τ, fr 31 45 σ τ → Std τ P nc n → f (-1) τ) : SW G (d + 4) M_X1_breakOf 0 [some (.ref 31), some (.int (nI c)), some (.int (nI m))] [] σ (RI f) := by
  obtain ⟨hP, hV, hR0, hs, hn, hL, h12, hO, hE, hR, hWc⟩ := hS
  have std : ∀ τ1 τ, fr 35 42 σ τ1 → τ1.1 35 8 = nI m → ODm τ1 P (lgC σ) m → fr 45 45 τ1 τ → fr 31 45 σ τ ∧ Std τ P nc n := by
    intro τ1 τ f1 g8 god f2
    have ff : fr 35 45 σ τ := fr_tr (fr_wide f1 (Nat.le_refl _) (by omega)) (fr_wide f2 (by omega) (Nat.le_refl _))
    have e43 : τ.2 43 = σ.2 43 := by rw [(f2 43 (by omega)).2, (f1 43 (by omega)).2]
    have hlg : lgC τ = lgC σ := lgC_fr ff (by omega)
    refine ⟨fr_wide ff (by omega) (Nat.le_refl _), PlC_fr ff (by omega) hP, hV, hR0, ?_, hn, by rw [hlg]; exact hL, by rw [hlg]; exact h12, ?_⟩
    · rw [(ff 17 (by omega)).1]; exact hs
    · rw [hlg]
      refine ⟨Or.inr ⟨m, hm, by rw [(f2 35 (by omega)).1]; exact g8, ODm_at god (f2 41 (by omega)).1⟩, ?_, ?_, ?_⟩
      · intro rm hrm i hi
        rw [e43]; exact hE rm hrm i hi
      · unfold RCI
        rw [(ff 32 (by omega)).1, (ff 33 (by omega)).1]
        exact hR
      · unfold WCI wayV at *
        rw [(ff 31 (by omega)).1, (ff 34 (by omega)).1]
        exact hWc
  refine sw_aloadn dX1_breakOf_0 rfl ?_
  refine sw_getR dX1_breakOf_1 fs_X1_29 o31 r31_1 ?_
  refine sw_iloadn dX1_breakOf_4 rfl ?_
  refine sw_iloadn dX1_breakOf_5 rfl ?_
  refine sx_invV2 dX1_breakOf_6 mk_X6_lookAt vk_X6_lookAt lk_X1_50 o35 (Nat.le_of_ble_eq_true rfl) (Nat.le_of_ble_eq_true rfl) ?_
  refine c_lookAt hP hV hs hn hm hL (h12 c hc) hE (fun e => OCI_hit hn hm hO e) (fun τ1 f1 g8 god gW gS g36 => ?_)
  refine sw_aloadn dX1_breakOf_9 rfl ?_
  refine sw_getR dX1_breakOf_10 fs_X1_29 o31 r31_1 ?_
  refine sx_invI0 dX1_breakOf_13 mk_X6_findBreak vk_X6_findBreak lk_X1_60 o35 (Nat.le_of_ble_eq_true rfl) (Nat.le_of_ble_eq_true rfl) ?_
  refine c_findBreak (σ := τ1) gW hR0 (fun _ _ => trivial) (fun s hsb hw1 hw2 τ hfb => ?_) (fun hw1 τ hfb => ?_)
  · refine sx_reti dX1_breakOf_16 rfl ?_
    rw [g36 s hsb]
    have := std τ1 _ f1 g8 god hfb
    exact k1 s hsb hw1 hw2 _ this.1 this.2
  · refine sx_reti dX1_breakOf_16 rfl ?_
    have := std τ1 _ f1 g8 god hfb
    exact k0 hw1 _ this.1 this.2
theorem c_roomOnFirstWay {f : Int32 → Mem → Prop} {P : PL} {nc n c t0 r0 u : Nat} (hS : Std σ P nc n) (hc : c < 10) (ht : t0 < 200) (hr : r0 < pR P) (hu : u < 200) (k1 : ∀ ρ : Nat → Nat, (∀ t, t < 200 → leastAt P (wkW P (lgC σ) (nI c) n t0 r0) ρ t ∧ ρ t < pR P) → ∀ τ, fr 31 45 σ τ → Std τ P nc n → f (nI (ρ u)) τ) (k0 : ¬ hop0 P (wkW P (lgC σ) (nI c) n t0 r0) → ∀ τ, fr 31 45 σ τ → Std τ P nc n → f (-1) τ) : SW G (d + 4) M_X1_roomOnFirstWay 0 [some (.ref 31), some (.int (nI c)), some (.int (nI t0)), some (.int (nI r0)), some (.int (nI u)), none] [] σ (RI f) := by
  have hS0 := hS
  obtain ⟨hP, hV, hR0, hs, hn, hL, h12, hO, hE, hR, hWc⟩ := hS
  have h8 := hV.1
  have fin : ∀ τ o, fr 31 45 σ τ → Std τ P nc n → wayV τ P (wkW P (lgC σ) (nI c) n t0 r0) → SW G (d + 4) M_X1_roomOnFirstWay 130 [some (.ref 31), some (.int (nI c)), some (.int (nI t0)), some (.int (nI r0)), some (.int (nI u)), o] [] τ (RI f) := by
    intro τ o hf hst hw
    rcases hw with ⟨w1, ρ, w2, w3⟩ | ⟨w1, w2⟩
    · skip
      refine sw_aloadn dX1_roomOnFirstWay_130 rfl ?_
      refine sw_getZ dX1_roomOnFirstWay_131 fs_X1_83 o31 ?_
      refine sw_if_eq (tgt := 147) dX1_roomOnFirstWay_134 (by decide) (fun h134 => ?_) (fun h134 => ?_)
      · exact absurd h134 ((by rw [w1]; decide))
      · skip
        refine sw_aloadn dX1_roomOnFirstWay_137 rfl ?_
        refine sw_getR dX1_roomOnFirstWay_138 fs_X1_22 o31 r31_9 ?_
        refine sw_iload dX1_roomOnFirstWay_141 rfl ?_
        refine sx_iald (u) dX1_roomOnFirstWay_143 a34 (rfl) (by omega) (by decide) ?_
        refine sw_goto (tgt := 148) dX1_roomOnFirstWay_144 (by decide) ?_
        refine sx_reti dX1_roomOnFirstWay_148 rfl ?_
        rw [w2 u hu]
        exact k1 ρ w3 τ hf hst
    · skip
      refine sw_aloadn dX1_roomOnFirstWay_130 rfl ?_
      refine sw_getZ dX1_roomOnFirstWay_131 fs_X1_83 o31 ?_
      refine sw_if_eq (tgt := 147) dX1_roomOnFirstWay_134 (by decide) (fun h134 => ?_) (fun h134 => ?_)
      · skip
        refine sx_iconst (v := (-1)) dX1_roomOnFirstWay_147 (by decide) ?_
        refine sx_reti dX1_roomOnFirstWay_148 rfl ?_
        exact k0 w2 τ hf hst
      · exact absurd (w1) h134
  have comp : ∀ o, SW G (d + 4) M_X1_roomOnFirstWay 50 [some (.ref 31), some (.int (nI c)), some (.int (nI t0)), some (.int (nI r0)), some (.int (nI u)), o] [] σ (RI f) := by
    intro o
    have tail : ∀ τ1 τ3 v, fr 35 42 σ τ1 → τ1.1 35 8 = nI n → ODm τ1 P (lgC σ) n → (∀ x, x ≠ 34 → x ≠ 42 → x ≠ 44 → x ≠ 45 → τ3.1 x = τ1.1 x) → (∀ x, x ≠ 33 → x ≠ 34 → x ≠ 42 → x ≠ 44 → x ≠ 45 → τ3.2 x = τ1.2 x) → (v = nI 0 ∨ v = nI 1) → ((v = nI 1 ∧ ∃ ρ : Nat → Nat, (∀ t, t < 200 → τ3.1 34 t = nI (ρ t)) ∧ ∀ t, t < 200 → leastAt P (wkW P (lgC σ) (nI c) n t0 r0) ρ t ∧ ρ t < pR P) ∨ (v = nI 0 ∧ ¬ hop0 P (wkW P (lgC σ) (nI c) n t0 r0))) → SW G (d + 4) M_X1_roomOnFirstWay 101 [some (.ref 31), some (.int (nI c)), some (.int (nI t0)), some (.int (nI r0)), some (.int (nI u)), o] [.int v, .ref 31] τ3 (RI f) := by
      intro τ1 τ3 v f1 g8 god e1 e2 hv hw
      have ex : ∀ x, x ≠ 34 → (x < 35 ∨ 45 < x) → τ3.1 x = σ.1 x := fun x b1 b2 => by rw [e1 x b1 (by omega) (by omega) (by omega)]; exact (f1 x (by omega)).1
      have ey : ∀ x, (x < 33 ∨ x = 43 ∨ 45 < x) → τ3.2 x = σ.2 x := fun x b2 => by rw [e2 x (by omega) (by omega) (by omega) (by omega) (by omega)]; exact (f1 x (by omega)).2
      have hs3 : τ3.1 17 0 = nI n := by rw [ex 17 (by decide) (by omega)]; exact hs
      refine sw_putZ dX1_roomOnFirstWay_101 fs_X1_83 o31 (hv) ?_
      refine sw_aloadn dX1_roomOnFirstWay_104 rfl ?_
      refine sw_aloadn dX1_roomOnFirstWay_105 rfl ?_
      refine sw_getR dX1_roomOnFirstWay_106 fs_X1_25 o31 r31_0 ?_
      refine sw_getI dX1_roomOnFirstWay_109 fs_X1_64 o17 ?_
      rw [show (setI τ3 31 8 v).1 17 0 = nI n from hs3]
      refine sw_putI dX1_roomOnFirstWay_112 fs_X1_18 o31 ?_
      refine sw_aloadn dX1_roomOnFirstWay_115 rfl ?_
      refine sw_iloadn dX1_roomOnFirstWay_116 rfl ?_
      refine sw_putI dX1_roomOnFirstWay_117 fs_X1_67 o31 ?_
      refine sw_aloadn dX1_roomOnFirstWay_120 rfl ?_
      refine sw_iloadn dX1_roomOnFirstWay_121 rfl ?_
      refine sw_putI dX1_roomOnFirstWay_122 fs_X1_70 o31 ?_
      refine sw_aloadn dX1_roomOnFirstWay_125 rfl ?_
      refine sw_iloadn dX1_roomOnFirstWay_126 rfl ?_
      refine sw_putI dX1_roomOnFirstWay_127 fs_X1_73 o31 ?_
      have ffr : fr 31 45 σ (setI (setI (setI (setI (setI τ3 31 8 v) 31 4 (nI n)) 31 5 (nI c)) 31 6 (nI t0)) 31 7 (nI r0)) := fun x hx => ⟨by
          rw [setI_ne _ _ _ (by omega), setI_ne _ _ _ (by omega), setI_ne _ _ _ (by omega), setI_ne _ _ _ (by omega), setI_ne _ _ _ (by omega)]
          exact ex x (by omega) (by omega), ey x (by omega)⟩
      have hlg : lgC (setI (setI (setI (setI (setI τ3 31 8 v) 31 4 (nI n)) 31 5 (nI c)) 31 6 (nI t0)) 31 7 (nI r0)) = lgC σ := lgC_fr ffr (by omega)
      have hway : wayV (setI (setI (setI (setI (setI τ3 31 8 v) 31 4 (nI n)) 31 5 (nI c)) 31 6 (nI t0)) 31 7 (nI r0)) P (wkW P (lgC σ) (nI c) n t0 r0) := by
        rcases hw with ⟨w1, w2⟩ | ⟨w1, w2⟩
        · exact Or.inl ⟨w1, w2⟩
        · exact Or.inr ⟨w1, w2⟩
      refine fin _ _ ffr ⟨PlC_fr ffr (by omega) hP, hV, hR0, ?_, hn, by rw [hlg]; exact hL, by rw [hlg]; exact h12, ?_⟩ hway
      · rw [(ffr 17 (by omega)).1]; exact hs
      · rw [hlg]
        refine ⟨Or.inr ⟨n, Nat.le_refl _, ?_, ?_⟩, ?_, ?_, Or.inr ⟨n, c, t0, r0, Nat.le_refl _, hc, ht, by omega, rfl, rfl, rfl, rfl, hway⟩⟩
        · show τ3.1 35 8 = nI n
          rw [e1 35 (by decide) (by decide) (by decide) (by decide)]; exact g8
        · exact ODm_at god (e1 41 (by decide) (by decide) (by decide) (by decide))
        · intro rm hrm i hi
          show mb (τ3.2 43 rm) i = _
          rw [ey 43 (by omega)]; exact hE rm hrm i hi
        · intro c' hc'
          show (τ3.1 32 c' = -1 ∨ ∃ k, k ≤ n ∧ τ3.1 32 c' = nI k ∧ ∀ t, t < 200 → τ3.1 33 (c' * 200 + t) = nI (roomsV P (lgC σ) (nI c') k t))
          rw [ex 32 (by decide) (by omega), ex 33 (by decide) (by omega)]
          exact hR c' hc'
    refine sw_aloadn dX1_roomOnFirstWay_50 rfl ?_
    refine sw_getR dX1_roomOnFirstWay_51 fs_X1_29 o31 r31_1 ?_
    refine sw_iloadn dX1_roomOnFirstWay_54 rfl ?_
    refine sw_aloadn dX1_roomOnFirstWay_55 rfl ?_
    refine sw_getR dX1_roomOnFirstWay_56 fs_X1_25 o31 r31_0 ?_
    refine sw_getI dX1_roomOnFirstWay_59 fs_X1_64 o17 ?_
    rw [hs]
    refine sx_invV2 dX1_roomOnFirstWay_62 mk_X6_lookAt vk_X6_lookAt lk_X1_50 o35 (Nat.le_of_ble_eq_true rfl) (Nat.le_of_ble_eq_true rfl) ?_
    refine c_lookAt hP hV hs hn (Nat.le_refl n) hL (h12 c hc) hE (fun e => OCI_hit hn (Nat.le_refl n) hO e) (fun τ1 f1 g8 god gW gS _ => ?_)
    refine sw_aloadn dX1_roomOnFirstWay_65 rfl ?_
    refine sw_getR dX1_roomOnFirstWay_66 fs_X1_29 o31 r31_1 ?_
    refine sw_iloadn dX1_roomOnFirstWay_69 rfl ?_
    refine sw_aloadn dX1_roomOnFirstWay_70 rfl ?_
    refine sw_getR dX1_roomOnFirstWay_71 fs_X1_25 o31 r31_0 ?_
    refine sw_getI dX1_roomOnFirstWay_74 fs_X1_64 o17 ?_
    rw [show τ1.1 17 0 = nI n from by rw [(f1 17 (by omega)).1]; exact hs]
    refine sx_invV2 dX1_roomOnFirstWay_77 mk_X6_addSights vk_X6_addSights lk_X1_54 o35 (Nat.le_of_ble_eq_true rfl) (Nat.le_of_ble_eq_true rfl) ?_
    refine c_addSights (σ := τ1) (n := n) hV (Nat.le_refl n) hn (by rw [lgC_fr f1 (by omega)]; exact hL) gS (fun τ2 f2 g2 => ?_)
    refine sw_aloadn dX1_roomOnFirstWay_80 rfl ?_
    refine sw_getR dX1_roomOnFirstWay_81 fs_X1_29 o31 r31_1 ?_
    refine sw_iloadn dX1_roomOnFirstWay_84 rfl ?_
    refine sw_iloadn dX1_roomOnFirstWay_85 rfl ?_
    refine sx_invV2 dX1_roomOnFirstWay_86 mk_X6_demand vk_X6_demand lk_X1_76 o35 (Nat.le_of_ble_eq_true rfl) (Nat.le_of_ble_eq_true rfl) ?_
    refine c_demand (σ := τ2) ht (by omega) (g2 t0 ht) (fun z hz => ?_)
    refine sw_aloadn dX1_roomOnFirstWay_89 rfl ?_
    refine sw_aloadn dX1_roomOnFirstWay_90 rfl ?_
    refine sw_getR dX1_roomOnFirstWay_91 fs_X1_29 o31 r31_1 ?_
    refine sw_aloadn dX1_roomOnFirstWay_94 rfl ?_
    refine sw_getR dX1_roomOnFirstWay_95 fs_X1_22 o31 r31_9 ?_
    have hlg : lgC τ1 = lgC σ := lgC_fr f1 (by omega)
    rw [hlg] at g2 hz
    have f2' : fr 42 42 τ1 (setJ τ2 42 t0 z) := fr_J f2 (by omega)
    have gS2 : SNs (setJ τ2 42 t0 z) (skw (lgC σ) (nI c) n t0 r0) := fun t ht' => by
      rw [setJ_at]
      by_cases e : t = t0
      · subst e
        rw [updL_same]
        exact celH_congr hz (fun rm a _ _ => ⟨fun b => ⟨b.1, fun _ => b.2⟩, fun b => ⟨b.1, b.2 rfl⟩⟩)
      · rw [updL_ne _ _ e]
        exact celH_congr (g2 t ht') (fun rm a _ _ => ⟨fun b => ⟨b, fun e' => absurd e' e⟩, fun b => b.1⟩)
    have fr1 : ∀ τ, sm (setJ τ2 42 t0 z) τ → τ.1 33 = (setJ τ2 42 t0 z).1 33 → ∀ x, x ≠ 34 → x ≠ 42 → x ≠ 44 → x ≠ 45 → τ.1 x = τ1.1 x := fun τ s3 h33 x a1 a2 a3 a4 => by
      by_cases e : x = 33
      · subst e; rw [h33]; exact (f2' 33 (by omega)).1
      · rw [(s3 x e a1 a3 a4).1]; exact (f2' x (by omega)).1
    have fr2 : ∀ τ, sm (setJ τ2 42 t0 z) τ → τ.1 33 = (setJ τ2 42 t0 z).1 33 → ∀ x, x ≠ 33 → x ≠ 34 → x ≠ 42 → x ≠ 44 → x ≠ 45 → τ.2 x = τ1.2 x := fun τ s3 h33 x b1 b2 a2 a3 a4 => by
      rw [(s3 x b1 b2 a3 a4).2]; exact (f2' x (by omega)).2
    refine sx_invI1 dX1_roomOnFirstWay_98 mk_X6_findFirstWay vk_X6_findFirstWay lk_X1_79 o35 (Nat.le_of_ble_eq_true rfl) (Nat.le_of_ble_eq_true rfl) ?_
    refine c_findFirstWay (WT_seen gW f2' ⟨rfl, rfl⟩ gS2) hR0 (wkG_V hV hL (Nat.le_refl n) (h12 c hc) _).2 (fun τ ρ s3 h33 w2 w3 => ?_) (fun w0 τ s3 h33 => ?_)
    · exact tail τ1 τ _ f1 g8 god (fr1 τ s3 h33) (fr2 τ s3 h33) (Or.inr rfl) (Or.inl ⟨rfl, ρ, w2, w3⟩)
    · exact tail τ1 τ _ f1 g8 god (fr1 τ s3 h33) (fr2 τ s3 h33) (Or.inl rfl) (Or.inr ⟨rfl, w0⟩)
  refine sw_aloadn dX1_roomOnFirstWay_0 rfl ?_
  refine sw_getI dX1_roomOnFirstWay_1 fs_X1_18 o31 ?_
  refine sw_aloadn dX1_roomOnFirstWay_4 rfl ?_
  refine sw_getR dX1_roomOnFirstWay_5 fs_X1_25 o31 r31_0 ?_
  refine sw_getI dX1_roomOnFirstWay_8 fs_X1_64 o17 ?_
  rw [hs]
  refine sw_icmp_ne (tgt := 42) dX1_roomOnFirstWay_11 (by decide) (fun h11 => ?_) (fun h11 => ?_)
  · skip
    refine sx_iconst (v := nI 0) dX1_roomOnFirstWay_42 (by decide) ?_
    refine sw_istore dX1_roomOnFirstWay_43 (Nat.le_of_ble_eq_true rfl) ?_
    refine sw_iload dX1_roomOnFirstWay_45 rfl ?_
    refine sw_if_ne (tgt := 130) dX1_roomOnFirstWay_47 (by decide) (fun h47 => ?_) (fun h47 => ?_)
    · exact absurd h47 (by decide)
    · skip
      exact comp _
  · skip
    refine sw_aloadn dX1_roomOnFirstWay_14 rfl ?_
    refine sw_getI dX1_roomOnFirstWay_15 fs_X1_67 o31 ?_
    refine sw_iloadn dX1_roomOnFirstWay_18 rfl ?_
    refine sw_icmp_ne (tgt := 42) dX1_roomOnFirstWay_19 (by decide) (fun h19 => ?_) (fun h19 => ?_)
    · skip
      refine sx_iconst (v := nI 0) dX1_roomOnFirstWay_42 (by decide) ?_
      refine sw_istore dX1_roomOnFirstWay_43 (Nat.le_of_ble_eq_true rfl) ?_
      refine sw_iload dX1_roomOnFirstWay_45 rfl ?_
      refine sw_if_ne (tgt := 130) dX1_roomOnFirstWay_47 (by decide) (fun h47 => ?_) (fun h47 => ?_)
      · exact absurd h47 (by decide)
      · skip
        exact comp _
    · skip
      refine sw_aloadn dX1_roomOnFirstWay_22 rfl ?_
      refine sw_getI dX1_roomOnFirstWay_23 fs_X1_70 o31 ?_
      refine sw_iloadn dX1_roomOnFirstWay_26 rfl ?_
      refine sw_icmp_ne (tgt := 42) dX1_roomOnFirstWay_27 (by decide) (fun h27 => ?_) (fun h27 => ?_)
      · skip
        refine sx_iconst (v := nI 0) dX1_roomOnFirstWay_42 (by decide) ?_
        refine sw_istore dX1_roomOnFirstWay_43 (Nat.le_of_ble_eq_true rfl) ?_
        refine sw_iload dX1_roomOnFirstWay_45 rfl ?_
        refine sw_if_ne (tgt := 130) dX1_roomOnFirstWay_47 (by decide) (fun h47 => ?_) (fun h47 => ?_)
        · exact absurd h47 (by decide)
        · skip
          exact comp _
      · skip
        refine sw_aloadn dX1_roomOnFirstWay_30 rfl ?_
        refine sw_getI dX1_roomOnFirstWay_31 fs_X1_73 o31 ?_
        refine sw_iloadn dX1_roomOnFirstWay_34 rfl ?_
        refine sw_icmp_ne (tgt := 42) dX1_roomOnFirstWay_35 (by decide) (fun h35 => ?_) (fun h35 => ?_)
        · skip
          refine sx_iconst (v := nI 0) dX1_roomOnFirstWay_42 (by decide) ?_
          refine sw_istore dX1_roomOnFirstWay_43 (Nat.le_of_ble_eq_true rfl) ?_
          refine sw_iload dX1_roomOnFirstWay_45 rfl ?_
          refine sw_if_ne (tgt := 130) dX1_roomOnFirstWay_47 (by decide) (fun h47 => ?_) (fun h47 => ?_)
          · exact absurd h47 (by decide)
          · skip
            exact comp _
        · skip
          refine sx_iconst (v := nI 1) dX1_roomOnFirstWay_38 (by decide) ?_
          refine sw_goto (tgt := 43) dX1_roomOnFirstWay_39 (by decide) ?_
          refine sw_istore dX1_roomOnFirstWay_43 (Nat.le_of_ble_eq_true rfl) ?_
          refine sw_iload dX1_roomOnFirstWay_45 rfl ?_
          refine sw_if_ne (tgt := 130) dX1_roomOnFirstWay_47 (by decide) (fun h47 => ?_) (fun h47 => ?_)
          · skip
            refine fin σ _ fr_rf hS0 ?_
            rcases hWc with z | ⟨k, c', t', r', z1, z2, z3, z4, z5, z6, z7, z8, z9⟩
            · rw [z] at h11; exact absurd h11 (nI_m1 (by omega))
            · rw [z5] at h11; rw [z6] at h19; rw [z7] at h27; rw [z8] at h35
              have q1 := nI_inj (by omega) (by omega) h11
              have q2 := nI_inj (by omega) (by omega) h19
              have q3 := nI_inj (by omega) (by omega) h27
              have q4 := nI_inj (by omega) (by omega) h35
              subst q1; subst q2; subst q3; subst q4
              exact z9
          · exact absurd h47 (by decide)
end KNOWN
