/-! ===== the calls that look at ways; those that add ===== -/
section OPS2
variable {G : GG} {d : Nat} {σ : Mem} {f : Int32 → Mem → Prop}
theorem op_rooms {x t m : Int32} (hI : Inv σ) (h : ∀ a τ, MR G M_X8_rooms [some (.ref 46), some (.int x), some (.int t), some (.int m)] a τ → f a τ) : SW G 11 M_X7_rooms 0 [some (.ref 0), some (.int x), some (.int t), some (.int m)] [] σ (RI f) := by
  obtain ⟨P, nc, n, N, k, h5⟩ := hI
  obtain ⟨hT, hP, hD, hF, hL, hR, hC⟩ := id h5
  have hn := hL.2.2.1
  have hc := hD.2.2
  refine c_X7_rooms (P := P) hD.1 hc hL.1 hn (fun z => I5_Std h5 (hC.1 z)) (fun c t' m' b1 b2 b3 b4 b5 b6 τ hf hS => h _ _ (fun g hg => ?_)) (fun q => h _ _ (fun g hg => ?_))
  · have h6 : I5 τ P nc n N k := I5_look h5 hf (fun _ => hS)
    have eL : lgM τ = lgC σ := (h6.2.2.2.2.1.2.2.2).trans (lgC_fr hf (by omega))
    refine m_rooms (P := P) (nc := nc) (n := n) h6.2.2.1.2.1 hc h6.2.2.2.2.1.2.1 hn (fun z => I5_StdM h6 (hC.1 z)) (fun c' t'' m'' d1 d2 d3 d4 d5 d6 ρ hk => ?_) (fun z => absurd ⟨⟨c, b1, b4⟩, ⟨t', b2, b5⟩, ⟨m', b3, b6⟩⟩ z)
    obtain rfl : c = c' := nI_inj (by omega) (by omega) (b4.symm.trans d4)
    obtain rfl : t' = t'' := nI_inj (by omega) (by omega) (b5.symm.trans d5)
    obtain rfl : m' = m'' := nI_inj (by omega) (by omega) (b6.symm.trans d6)
    rw [eL]
    exact hg _ ⟨P, nc, n, N, k, I5_kfr h6 hk⟩
  · refine m_rooms (P := P) (nc := nc) (n := n) hD.2.1 hc hL.2.1 hn (fun z => I5_StdM h5 (hC.1 z)) (fun c' t'' m'' d1 d2 d3 d4 d5 d6 ρ hk => absurd ⟨⟨c', d1, d4⟩, ⟨t'', d2, d5⟩, ⟨m'', d3, d6⟩⟩ q) (fun _ => hg _ ⟨P, nc, n, N, k, I5_th h5⟩)
theorem op_broken {x m : Int32} (hI : Inv σ) (h : ∀ a τ, MR G M_X8_broken [some (.ref 46), some (.int x), some (.int m), none] a τ → f a τ) : SW G 11 M_X7_broken 0 [some (.ref 0), some (.int x), some (.int m)] [] σ (RI f) := by
  obtain ⟨P, nc, n, N, k, h5⟩ := hI
  obtain ⟨hT, hP, hD, hF, hL, hR, hC⟩ := id h5
  have hn := hL.2.2.1
  have hc := hD.2.2
  have tr : ∀ (g : LG) (y : Int32) (m' : Nat) t rm, kS (wkG P g y m' (fun _ _ => True)) t rm := fun g y m' t rm => trivial
  refine c_X7_broken (P := P) hD.1 hc hL.1 hn (fun z => I5_Std h5 (hC.1 z)) (fun c m' b1 b3 b4 b6 s s1 w1 w2 τ hf hS => h _ _ (fun g hg => ?_)) (fun c m' b1 b3 b4 b6 w1 τ hf hS => h _ _ (fun g hg => ?_)) (fun q => h _ _ (fun g hg => ?_))
  · have h6 : I5 τ P nc n N k := I5_look h5 hf (fun _ => hS)
    have eL : lgM τ = lgC σ := (h6.2.2.2.2.1.2.2.2).trans (lgC_fr hf (by omega))
    refine m_broken (P := P) (nc := nc) (n := n) h6.2.2.1.2.1 hc h6.2.2.2.2.1.2.1 hn (fun z => I5_StdM h6 (hC.1 z)) ?_ ?_ (fun z => absurd ⟨⟨c, b1, b4⟩, ⟨m', b3, b6⟩⟩ z)
    · rw [eL]
      intro c' m'' d1 d3 d4 d6 s' s1' v1 v2 ρ hk
      obtain rfl : c = c' := nI_inj (by omega) (by omega) (b4.symm.trans d4)
      obtain rfl : m' = m'' := nI_inj (by omega) (by omega) (b6.symm.trans d6)
      have es : s = s' := by
        rcases Nat.lt_trichotomy s s' with z | z | z
        · exact absurd (v1 (s + 1) (by omega) (by omega)) w2
        · exact z
        · exact absurd (wlk_le (tr _ _ _) (show s' + 1 ≤ s by omega) w1) v2
      rw [← es]
      exact hg _ ⟨P, nc, n, N, k, I5_kfr h6 hk⟩
    · rw [eL]
      intro c' m'' d1 d3 d4 d6 v1 ρ hk
      obtain rfl : c = c' := nI_inj (by omega) (by omega) (b4.symm.trans d4)
      obtain rfl : m' = m'' := nI_inj (by omega) (by omega) (b6.symm.trans d6)
      exact absurd (v1 (s + 1) (by omega) (by omega)) w2
  · have h6 : I5 τ P nc n N k := I5_look h5 hf (fun _ => hS)
    have eL : lgM τ = lgC σ := (h6.2.2.2.2.1.2.2.2).trans (lgC_fr hf (by omega))
    refine m_broken (P := P) (nc := nc) (n := n) h6.2.2.1.2.1 hc h6.2.2.2.2.1.2.1 hn (fun z => I5_StdM h6 (hC.1 z)) ?_ ?_ (fun z => absurd ⟨⟨c, b1, b4⟩, ⟨m', b3, b6⟩⟩ z)
    · rw [eL]
      intro c' m'' d1 d3 d4 d6 s' s1' v1 v2 ρ hk
      obtain rfl : c = c' := nI_inj (by omega) (by omega) (b4.symm.trans d4)
      obtain rfl : m' = m'' := nI_inj (by omega) (by omega) (b6.symm.trans d6)
      exact absurd (wlk_le (tr _ _ _) (show s' + 1 ≤ pcN (lgC σ) (nI c) m' by omega) w1) v2
    · rw [eL]
      intro c' m'' d1 d3 d4 d6 v1 ρ hk
      exact hg _ ⟨P, nc, n, N, k, I5_kfr h6 hk⟩
  · refine m_broken (P := P) (nc := nc) (n := n) hD.2.1 hc hL.2.1 hn (fun z => I5_StdM h5 (hC.1 z)) (fun c' m'' d1 d3 d4 d6 s' s1' v1 v2 ρ hk => absurd ⟨⟨c', d1, d4⟩, ⟨m'', d3, d6⟩⟩ q) (fun c' m'' d1 d3 d4 d6 v1 ρ hk => absurd ⟨⟨c', d1, d4⟩, ⟨m'', d3, d6⟩⟩ q) (fun _ => hg _ ⟨P, nc, n, N, k, I5_th h5⟩)
theorem op_many {x t m w : Int32} (hI : Inv σ) (h : ∀ a τ, MR G M_X8_many [some (.ref 46), some (.int x), some (.int t), some (.int m), some (.int w), none, none, none] a τ → f a τ) : SW G 11 M_X7_many 0 [some (.ref 0), some (.int x), some (.int t), some (.int m), some (.int w), none, none, none, none] [] σ (RI f) := by
  obtain ⟨P, nc, n, N, k, h5⟩ := hI
  obtain ⟨hT, hP, hD, hF, hL, hR, hC⟩ := id h5
  have hn := hL.2.2.1
  have hc := hD.2.2
  have p8 := hP.2.2.1
  have good : ∀ τ, I5 τ P nc n N k → lgM τ = lgC σ → ∀ r t' m', r < pR P → t' < 200 → m' < n + 1 → x = nI r → t = nI t' → m = nI m' → inR w 2 → MR G M_X8_many [some (.ref 46), some (.int x), some (.int t), some (.int m), some (.int w), none, none, none] (nI (cnt (manyB P (lgC σ) r t' m' w) nc)) τ := by
    intro τ h6 eL r t' m' b1 b2 b3 b4 b5 b6 b7 g hg
    refine m_many (P := P) (nc := nc) (n := n) (nr := pR P) h6.2.2.1.2.1 hc h6.2.1.2.1.1 p8 h6.2.2.2.2.1.2.1 hn (fun z => I5_StdM h6 (hC.1 z)) (fun r' t'' m'' d1 d2 d3 d4 d5 d6 d7 ρ hk => ?_) (fun z => absurd ⟨⟨r, b1, b4⟩, ⟨t', b2, b5⟩, ⟨m', b3, b6⟩, b7⟩ z)
    obtain rfl : r = r' := nI_inj (by omega) (by omega) (b4.symm.trans d4)
    obtain rfl : t' = t'' := nI_inj (by omega) (by omega) (b5.symm.trans d5)
    obtain rfl : m' = m'' := nI_inj (by omega) (by omega) (b6.symm.trans d6)
    rw [eL]
    exact hg _ ⟨P, nc, n, N, k, I5_kfr h6 hk⟩
  have bad : ¬ (inR x (pR P) ∧ inR t 200 ∧ inR m (n + 1) ∧ inR w 2) → MR G M_X8_many [some (.ref 46), some (.int x), some (.int t), some (.int m), some (.int w), none, none, none] (-1) σ := fun q g hg =>
    m_many (P := P) (nc := nc) (n := n) (nr := pR P) hD.2.1 hc hP.2.1.1 p8 hL.2.1 hn (fun z => I5_StdM h5 (hC.1 z)) (fun r' t'' m'' d1 d2 d3 d4 d5 d6 d7 ρ hk => absurd ⟨⟨r', d1, d4⟩, ⟨t'', d2, d5⟩, ⟨m'', d3, d6⟩, d7⟩ q) (fun _ => hg _ ⟨P, nc, n, N, k, I5_th h5⟩)
  rcases Nat.eq_zero_or_pos nc with z | z
  · subst z
    refine c_many0 hD.1 hP.1.1 p8 hL.1 hn (fun q => ?_) (fun q => h _ _ (bad q))
    obtain ⟨⟨r, b1, b4⟩, ⟨t', b2, b5⟩, ⟨m', b3, b6⟩, b7⟩ := q
    exact h _ _ (good σ h5 hL.2.2.2 r t' m' b1 b2 b3 b4 b5 b6 b7)
  · refine c_X7_many (P := P) (nr := pR P) hD.1 hc hP.1.1 p8 hL.1 hn (fun z => I5_Std h5 (hC.1 z)) (fun r t' m' b1 b2 b3 b4 b5 b6 b7 τ hf hS => ?_) (fun q => h _ _ (bad q))
    have h6 : I5 τ P nc n N k := I5_look h5 hf (fun _ => hS z)
    exact h _ _ (good τ h6 ((h6.2.2.2.2.1.2.2.2).trans (lgC_fr hf (by omega))) r t' m' b1 b2 b3 b4 b5 b6 b7)
theorem op_inside {t m w : Int32} (hI : Inv σ) (h : ∀ a τ, MR G M_X8_inside [some (.ref 46), some (.int t), some (.int m), some (.int w), none, none, none, none, none] a τ → f a τ) : SW G 11 M_X7_inside 0 [some (.ref 0), some (.int t), some (.int m), some (.int w), none, none, none, none, none] [] σ (RI f) := by
  obtain ⟨P, nc, n, N, k, h5⟩ := hI
  obtain ⟨hT, hP, hD, hF, hL, hR, hC⟩ := id h5
  have hn := hL.2.2.1
  have hc := hD.2.2
  have good : ∀ τ, I5 τ P nc n N k → lgM τ = lgC σ → ∀ t' m', t' < 200 → m' < n + 1 → t = nI t' → m = nI m' → inR w 3 → MR G M_X8_inside [some (.ref 46), some (.int t), some (.int m), some (.int w), none, none, none, none, none] (if w = nI 0 then nI (cnt (sureB P (lgC σ) t' m') nc) else if w = nI 1 then nI (cnt (insB P (lgC σ) t' m') nc) else nI (bts (insB P (lgC σ) t' m') id nc)) τ := by
    intro τ h6 eL t' m' b2 b3 b5 b6 b7 g hg
    refine m_inside (P := P) (nc := nc) (n := n) h6.2.2.1.2.1 hc h6.2.2.2.2.1.2.1 hn (fun z => I5_StdM h6 (hC.1 z)) (fun t'' m'' d2 d3 d5 d6 d7 ρ hk => ?_) (fun z => absurd ⟨⟨t', b2, b5⟩, ⟨m', b3, b6⟩, b7⟩ z)
    obtain rfl : t' = t'' := nI_inj (by omega) (by omega) (b5.symm.trans d5)
    obtain rfl : m' = m'' := nI_inj (by omega) (by omega) (b6.symm.trans d6)
    rw [eL]
    exact hg _ ⟨P, nc, n, N, k, I5_kfr h6 hk⟩
  have bad : ¬ (inR t 200 ∧ inR m (n + 1) ∧ inR w 3) → MR G M_X8_inside [some (.ref 46), some (.int t), some (.int m), some (.int w), none, none, none, none, none] (-1) σ := fun q g hg =>
    m_inside (P := P) (nc := nc) (n := n) hD.2.1 hc hL.2.1 hn (fun z => I5_StdM h5 (hC.1 z)) (fun t'' m'' d2 d3 d5 d6 d7 ρ hk => absurd ⟨⟨t'', d2, d5⟩, ⟨m'', d3, d6⟩, d7⟩ q) (fun _ => hg _ ⟨P, nc, n, N, k, I5_th h5⟩)
  rcases Nat.eq_zero_or_pos nc with z | z
  · subst z
    refine c_inside0 hD.1 hL.1 hn (fun q => ?_) (fun q => h _ _ (bad q))
    obtain ⟨⟨t', b2, b5⟩, ⟨m', b3, b6⟩, b7⟩ := q
    have g0 := good σ h5 hL.2.2.2 t' m' b2 b3 b5 b6 b7
    have e0 : (if w = nI 0 then nI (cnt (sureB P (lgC σ) t' m') 0) else if w = nI 1 then nI (cnt (insB P (lgC σ) t' m') 0) else nI (bts (insB P (lgC σ) t' m') id 0)) = nI 0 := by
      split
      · rfl
      · split <;> rfl
    rw [e0] at g0
    exact h _ _ g0
  · refine c_X7_inside (P := P) hD.1 hc hL.1 hn (fun z => I5_Std h5 (hC.1 z)) (fun t' m' b2 b3 b5 b6 b7 τ hf hS => ?_) (fun q => h _ _ (bad q))
    have h6 : I5 τ P nc n N k := I5_look h5 hf (fun _ => hS z)
    exact h _ _ (good τ h6 ((h6.2.2.2.2.1.2.2.2).trans (lgC_fr hf (by omega))) t' m' b2 b3 b5 b6 b7)
/-- a log that may be added -/
def newL (P : PL) (nc : Nat) (a b c t e : Int32) : Prop := (a = nI 0 ∧ inR b nc ∧ inR c (pD P) ∧ inR t 200 ∧ (e = nI 0 ∨ e = nI 1)) ∨ (a = nI 1 ∧ b = -1 ∧ inR c (pD P) ∧ inR t 200 ∧ inR e 200 ∧ t ≤ e) ∨ (a = nI 2 ∧ inR b nc ∧ inR c (pR P) ∧ inR t 200 ∧ e = -1)
theorem okv_in {F : Nat → Int32} {b k : Nat} {v : Int32} (hv : F k = v) (h : inR v b) (hb : b < 100000) : okv F b k := by
  obtain ⟨j, hj, rfl⟩ := h
  exact okv_of hv hj hb
theorem I5_add {P : PL} {nc n N k : Nat} {a b c t e : Int32} (h5 : I5 σ P nc n N k) (hn : n < 100) (hw : newL P nc a b c t e) (hp : ∀ cc, cc < 10 → a = nI 0 → b = nI cc → pcN (lgC σ) (nI cc) n < 12) : I5 (addM (th (addC σ n a b c t e)) n a b c t e) P nc (n + 1) N k := by
  obtain ⟨hT, hP, hD, hF, hL, hR, hC⟩ := id h5
  have p8 := hP.2.2.1
  have pd := hP.2.2.2.1
  have hc := hD.2.2
  obtain ⟨e1, e2, e3, e4, e5⟩ := I5_e h5
  obtain ⟨g', hg'⟩ : ∃ g', g' = ((upd (σ.1 18) n a, upd (σ.1 19) n b, upd (σ.1 20) n c, upd (σ.1 21) n t, upd (σ.1 22) n e) : LG) := ⟨_, rfl⟩
  have eC : lgC (addM (th (addC σ n a b c t e)) n a b c t e) = g' := by rw [hg']; rfl
  have eM : lgM (addM (th (addC σ n a b c t e)) n a b c t e) = g' := by
    rw [hg', ← e1, ← e2, ← e3, ← e4, ← e5]; rfl
  have hA : gA n (lgC σ) g' := fun j hj => by
    rw [hg']
    refine ⟨?_, ?_, ?_, ?_, ?_⟩ <;> exact (upd_ne _ _ (by omega)).symm
  have at1 : lKD g' n = a := by rw [hg']; exact upd_same _ _ _
  have at2 : lCA g' n = b := by rw [hg']; exact upd_same _ _ _
  have at3 : lTG g' n = c := by rw [hg']; exact upd_same _ _ _
  have at4 : lTK g' n = t := by rw [hg']; exact upd_same _ _ _
  have at5 : lMO g' n = e := by rw [hg']; exact upd_same _ _ _
  have okA : ∀ {bd j : Nat}, j < n → (okv (lCA (lgC σ)) bd j → okv (lCA g') bd j) ∧ (okv (lTG (lgC σ)) bd j → okv (lTG g') bd j) ∧ (okv (lTK (lgC σ)) bd j → okv (lTK g') bd j) ∧ (okv (lMO (lgC σ)) bd j → okv (lMO g') bd j) := by
    intro bd j hj
    obtain ⟨q1, q2, q3, q4, q5⟩ := hA j hj
    unfold okv nv
    rw [← q2, ← q3, ← q4, ← q5]
    exact ⟨id, id, id, id⟩
  refine ⟨IT_fr hT rfl rfl rfl rfl, IP_fr hP rfl rfl rfl rfl rfl rfl rfl rfl rfl rfl rfl, ID_fr hD rfl rfl, hF, ⟨rfl, rfl, by omega, eM.trans eC.symm⟩, IR_fr hR rfl rfl rfl rfl rfl rfl rfl rfl rfl rfl rfl rfl, ?_⟩
  unfold IC
  rw [eC]
  refine ⟨hC.1, fun j hj => ?_, fun cc hcc => ?_, fun h0 => ?_⟩
  · rcases Nat.lt_or_ge j n with z | z
    · obtain ⟨q1, q2, q3, q4, q5⟩ := hA j z
      rcases hC.2.1 j z with ⟨u1, u2, u3, u4, u5⟩ | ⟨u1, u2, u3, u4, u5, u6⟩ | ⟨u1, u2, u3, u4, u5⟩
      · exact Or.inl ⟨q1 ▸ u1, (okA z).1 u2, (okA z).2.1 u3, (okA z).2.2.1 u4, by rw [← q5]; exact u5⟩
      · refine Or.inr (Or.inl ⟨q1 ▸ u1, q2 ▸ u2, (okA z).2.1 u3, (okA z).2.2.1 u4, (okA z).2.2.2 u5, ?_⟩)
        unfold nv at u6 ⊢
        rw [← q4, ← q5]; exact u6
      · exact Or.inr (Or.inr ⟨q1 ▸ u1, (okA z).1 u2, (okA z).2.1 u3, (okA z).2.2.1 u4, q5 ▸ u5⟩)
    · obtain rfl : j = n := by omega
      rcases hw with ⟨w1, w2, w3, w4, w5⟩ | ⟨w1, w2, w3, w4, w5, w6⟩ | ⟨w1, w2, w3, w4, w5⟩
      · exact Or.inl ⟨at1.trans w1, okv_in at2 w2 (by omega), okv_in at3 w3 (by omega), okv_in at4 w4 (by omega), by rw [at5]; exact w5⟩
      · refine Or.inr (Or.inl ⟨at1.trans w1, at2.trans w2, okv_in at3 w3 (by omega), okv_in at4 w4 (by omega), okv_in at5 w5 (by omega), ?_⟩)
        obtain ⟨j1, l1, r1⟩ := w4
        obtain ⟨j2, l2, r2⟩ := w5
        unfold nv
        rw [at4, at5, r1, r2, nI_clamp (by omega), nI_clamp (by omega)]
        rw [r1, r2] at w6
        exact (nI_le' (by omega) (by omega)).mp w6
      · exact Or.inr (Or.inr ⟨at1.trans w1, okv_in at2 w2 (by omega), okv_in at3 w3 (by omega), okv_in at4 w4 (by omega), at5.trans w5⟩)
  · have e0 : pcN g' (nI cc) n = pcN (lgC σ) (nI cc) n := (pcN_A hA).symm
    have := hC.2.2.1 cc hcc
    show cnt (pasB g' (nI cc)) (n + 1) ≤ 12
    unfold cnt
    have e0' : cnt (pasB g' (nI cc)) n = pcN (lgC σ) (nI cc) n := e0
    split
    · next q =>
      obtain ⟨q1, q2⟩ := pasB_iff.mp q
      rw [at1] at q1
      rw [at2] at q2
      have := hp cc hcc q1 q2
      omega
    · omega
  · refine CI_A (Nat.le_succ n) hA (CI_cg (fun x h1 h2 => ⟨?_, rfl⟩) (hC.2.2.2 h0))
    unfold addM addC
    rw [setI_ne _ _ _ (by omega), setI_ne _ _ _ (by omega), setI_ne _ _ _ (by omega), setI_ne _ _ _ (by omega), setI_ne _ _ _ (by omega), setI_ne _ _ _ (by omega), setI_ne _ _ _ (by omega), setI_ne _ _ _ (by omega), setI_ne _ _ _ (by omega), setI_ne _ _ _ (by omega), setI_ne _ _ _ (by omega), setI_ne _ _ _ (by omega), setI_ne _ _ _ (by omega)]
end OPS2
