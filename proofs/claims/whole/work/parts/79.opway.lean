/-! ===== way: class and model, with what is thrown ===== -/
def WR (G : GG) (x t r u : Int32) (kk : Int32) (τ : Mem) : Prop := ∀ g : Int32 → Mem → Prop, (∀ b ρ, Inv ρ → ρ.1 46 0 = kk → (kk = nI 0 → ρ.2 75 0 = b.toInt64) → g b ρ) → SW G 11 M_X8_way 0 [some (.ref 46), some (.int x), some (.int t), some (.int r), some (.int u), none, none, none] [] τ (RI g)
theorem I5_75 {σ : Mem} {P : PL} {nc n N k : Nat} {v : Int64} (h : I5 σ P nc n N k) : I5 (setJ σ 75 0 v) P nc n N k := I5_fr h (fun _ _ => rfl) (fun _ _ _ => rfl) (fun h0 => CI_cg (σ := σ) (fun c h1 h2 => ⟨rfl, setJ_ne σ 0 v (show c ≠ 75 by omega)⟩) (h.2.2.2.2.2.2.2.2.2 h0))
theorem op_way {G : GG} {σ : Mem} {x t r u : Int32} {fL : Int32 → Mem → Prop} (hI : Inv σ) (h : ∀ kk τ, WR G x t r u kk τ → fL kk τ) : SZ G 10 M_X7_way 0 [some (.ref 0), some (.int x), some (.int t), some (.int r), some (.int u)] [] σ (WayS G (fun y σ' => fL (nI 0) (setJ σ' 75 0 y.toInt64)) (fun σ' => fL (nI 1) σ')) := by
  obtain ⟨P, nc, n, N, k, h5⟩ := hI
  obtain ⟨hT, hP, hD, hF, hL, hR, hC⟩ := id h5
  have hn := hL.2.2.1
  have hc := hD.2.2
  have p8 := hP.2.2.1
  have end0 : ∀ (μ ρ : Mem) (y : Int32), kfr (th μ) ρ → μ.2 75 0 = y.toInt64 → ρ.1 46 0 = nI 0 ∧ (nI 0 = nI 0 → ρ.2 75 0 = y.toInt64) := by
    intro μ ρ y hk e
    refine ⟨?_, fun _ => ?_⟩
    · rw [hk.2.1 0 (by omega), setI_at, upd_same]
    · rw [(hk.1 75 (by omega) (by omega)).2]; exact e
  refine z_way (P := P) (nr := pR P) (n := n) hD.1 hc hP.1.1 p8 (fun z => I5_Std h5 (hC.1 z)) ?_ ?_ ?_
  · intro c t0 r0 u0 b1 b2 b3 b4 b5 b6 b7 b8 ρ hρ τ hf hS
    refine h _ _ (fun g hg => ?_)
    have h6 : I5 (setJ τ 75 0 (nI (ρ u0)).toInt64) P nc n N k := I5_75 (I5_look h5 hf (fun _ => hS))
    have eL : lgM (setJ τ 75 0 (nI (ρ u0)).toInt64) = lgC σ := (h6.2.2.2.2.1.2.2.2).trans (show lgC τ = lgC σ from lgC_fr (lo := 31) (hi := 45) hf (by omega))
    have e75 : (setJ τ 75 0 (nI (ρ u0)).toInt64).2 75 0 = (nI (ρ u0)).toInt64 := by rw [setJ_at, updL_same]
    generalize setJ τ 75 0 (nI (ρ u0)).toInt64 = μ at h6 eL e75 ⊢
    refine m_way (P := P) (nc := nc) (nr := pR P) (n := n) h6.2.2.1.2.1 hc h6.2.1.2.1.1 p8 h6.2.2.2.2.1.2.1 hn (fun z => I5_StdM h6 (hC.1 z)) ?_ ?_ (fun z => absurd ⟨⟨c, b1, b5⟩, ⟨t0, b2, b6⟩, ⟨r0, b3, b7⟩, ⟨u0, b4, b8⟩⟩ z)
    · rw [eL]
      intro c' t0' r0' u0' d1 d2 d3 d4 d5 d6 d7 d8 ρ' hρ' υ hk
      obtain rfl : c = c' := nI_inj (by omega) (by omega) (b5.symm.trans d5)
      obtain rfl : t0 = t0' := nI_inj (by omega) (by omega) (b6.symm.trans d6)
      obtain rfl : r0 = r0' := nI_inj (by omega) (by omega) (b7.symm.trans d7)
      obtain rfl : u0 = u0' := nI_inj (by omega) (by omega) (b8.symm.trans d8)
      have eq : ρ u0 = ρ' u0 := least_one (u0 + 1) (fun j hj => (hρ j (by omega)).1) (fun j hj => (hρ' j hj).1) u0 (Nat.lt_succ_self _)
      rw [← eq]
      obtain ⟨q1, q2⟩ := end0 μ υ _ hk e75
      exact hg _ υ ⟨P, nc, n, N, k, I5_kfr h6 hk⟩ q1 q2
    · rw [eL]
      intro c' t0' r0' u0' d1 d2 d3 d4 d5 d6 d7 d8 hh υ hk
      obtain rfl : c = c' := nI_inj (by omega) (by omega) (b5.symm.trans d5)
      obtain rfl : t0 = t0' := nI_inj (by omega) (by omega) (b6.symm.trans d6)
      obtain rfl : r0 = r0' := nI_inj (by omega) (by omega) (b7.symm.trans d7)
      exact absurd (cand_0.mp ⟨_, (hρ 0 (by omega)).1.1⟩) hh
  · intro c t0 r0 u0 b1 b2 b3 b4 b5 b6 b7 b8 hh τ hf hS
    refine h _ _ (fun g hg => ?_)
    have h6 : I5 (setJ τ 75 0 (-1 : Int32).toInt64) P nc n N k := I5_75 (I5_look h5 hf (fun _ => hS))
    have eL : lgM (setJ τ 75 0 (-1 : Int32).toInt64) = lgC σ := (h6.2.2.2.2.1.2.2.2).trans (show lgC τ = lgC σ from lgC_fr (lo := 31) (hi := 45) hf (by omega))
    have e75 : (setJ τ 75 0 (-1 : Int32).toInt64).2 75 0 = (-1 : Int32).toInt64 := by rw [setJ_at, updL_same]
    generalize setJ τ 75 0 (-1 : Int32).toInt64 = μ at h6 eL e75 ⊢
    refine m_way (P := P) (nc := nc) (nr := pR P) (n := n) h6.2.2.1.2.1 hc h6.2.1.2.1.1 p8 h6.2.2.2.2.1.2.1 hn (fun z => I5_StdM h6 (hC.1 z)) ?_ ?_ (fun z => absurd ⟨⟨c, b1, b5⟩, ⟨t0, b2, b6⟩, ⟨r0, b3, b7⟩, ⟨u0, b4, b8⟩⟩ z)
    · rw [eL]
      intro c' t0' r0' u0' d1 d2 d3 d4 d5 d6 d7 d8 ρ' hρ' υ hk
      obtain rfl : c = c' := nI_inj (by omega) (by omega) (b5.symm.trans d5)
      obtain rfl : t0 = t0' := nI_inj (by omega) (by omega) (b6.symm.trans d6)
      obtain rfl : r0 = r0' := nI_inj (by omega) (by omega) (b7.symm.trans d7)
      exact absurd (cand_0.mp ⟨_, (hρ' 0 (by omega)).1.1⟩) hh
    · intro c' t0' r0' u0' d1 d2 d3 d4 d5 d6 d7 d8 hh' υ hk
      obtain ⟨q1, q2⟩ := end0 μ υ _ hk e75
      exact hg _ υ ⟨P, nc, n, N, k, I5_kfr h6 hk⟩ q1 q2
  · intro q
    refine h _ _ (fun g hg => ?_)
    refine m_way (P := P) (nc := nc) (nr := pR P) (n := n) hD.2.1 hc hP.2.1.1 p8 hL.2.1 hn (fun z => I5_StdM h5 (hC.1 z)) (fun c' t0' r0' u0' d1 d2 d3 d4 d5 d6 d7 d8 ρ' hρ' υ hk => absurd ⟨⟨c', d1, d5⟩, ⟨t0', d2, d6⟩, ⟨r0', d3, d7⟩, ⟨u0', d4, d8⟩⟩ q) (fun c' t0' r0' u0' d1 d2 d3 d4 d5 d6 d7 d8 hh' υ hk => absurd ⟨⟨c', d1, d5⟩, ⟨t0', d2, d6⟩, ⟨r0', d3, d7⟩, ⟨u0', d4, d8⟩⟩ q) (fun _ => hg _ _ ⟨P, nc, n, N, k, ?_⟩ ?_ (fun e => absurd e (by decide)))
    · have h6 := I5_th h5
      exact I5_fr h6 (fun c hc => setI_ne _ _ _ (by omega)) (fun j h1 h2 => by rw [setI_at, upd_ne _ _ (by omega)]) (fun h0 => CI_cg (fun c h1 h2 => ⟨setI_ne _ _ _ (by omega), rfl⟩) (h6.2.2.2.2.2.2.2.2.2 h0))
    · rw [setI_at, upd_same]
