section OPS5
variable {G : GG} {σ : Mem} {f : Int32 → Mem → Prop}
theorem op_building (hG : Str G) (hI : Inv σ) (h : ∀ v τ, MR G M_X8_building [some (.ref 46), none] v τ → f v τ) : SW G 11 M_X7_building 0 [some (.ref 0), none] [] σ (RI f) := by
  obtain ⟨P, nc, n, N, k, h5⟩ := hI
  obtain ⟨hT, hP, hD, hF, hL, hR, hC⟩ := id h5
  obtain ⟨pg, p6⟩ := PRS_ok (T := σ.1 1) hT.2.2.2
  refine c_X7_building (T := σ.1 1) (N := N) rfl hT.2.1 hT.2.2.2 (fun q τ u1 u2 u3 u4 => h _ _ (fun g hg => ?_)) (fun q τ u1 u2 u3 u4 u5 u6 u7 u8 => h _ _ (fun g hg => ?_))
  · have t47 : τ.1 47 = σ.1 1 := ((u1 47 (by omega) (by omega)).1).trans hT.1
    have t46 := (u1 46 (by omega) (by omega)).1
    refine m_building (T := σ.1 1) (N := N) hG t47 (by rw [t46]; exact hT.2.2.1) hT.2.2.2 (fun _ ρ v1 v2 v3 v4 v5 v6 => hg _ ?_) (fun z => absurd z q)
    have k1 : ∀ c, c ≠ 0 → (c < 9 ∨ 16 < c) → (c < 46 ∨ c = 47 ∨ 53 < c) → ρ.1 c = σ.1 c := fun c h0 h1 h2 => (v1 c h2).trans (u1 c (fun z => h0 z) h1).1
    have k0 : ρ.1 0 = τ.1 0 := v1 0 (by omega)
    have k46 : ∀ j, 13 < j → ρ.1 46 j = σ.1 46 j := fun j hj => (v3 j hj).trans (by rw [t46])
    have eC : lgC ρ = lgC σ := by unfold lgC; rw [k1 18 (by omega) (by omega) (by omega), k1 19 (by omega) (by omega) (by omega), k1 20 (by omega) (by omega) (by omega), k1 21 (by omega) (by omega) (by omega), k1 22 (by omega) (by omega) (by omega)]
    have eM : lgM ρ = lgM σ := by unfold lgM; rw [k1 58 (by omega) (by omega) (by omega), k1 59 (by omega) (by omega) (by omega), k1 60 (by omega) (by omega) (by omega), k1 61 (by omega) (by omega) (by omega), k1 62 (by omega) (by omega) (by omega)]
    refine ⟨P, nc, n, 0, k, ⟨?_, ?_, v5, by omega⟩, IP_fr hP (k1 2 (by omega) (by omega) (by omega)) (k1 4 (by omega) (by omega) (by omega)) (k1 6 (by omega) (by omega) (by omega)) (k1 7 (by omega) (by omega) (by omega)) (k1 8 (by omega) (by omega) (by omega)) (k46 18 (by omega)) (k46 19 (by omega)) (k1 54 (by omega) (by omega) (by omega)) (k1 55 (by omega) (by omega) (by omega)) (k1 56 (by omega) (by omega) (by omega)) (k1 57 (by omega) (by omega) (by omega)), ID_fr hD (by rw [k0]; exact u2 3 (by omega) (by omega)) (k46 24 (by omega)), ?_, IL_fr hL (by rw [k1 17 (by omega) (by omega) (by omega)]) (k46 25 (by omega)) eC eM, IR_fr hR (by rw [k1 23 (by omega) (by omega) (by omega)]) (k46 26 (by omega)) (k1 24 (by omega) (by omega) (by omega)) (k1 25 (by omega) (by omega) (by omega)) (k1 26 (by omega) (by omega) (by omega)) (k1 27 (by omega) (by omega) (by omega)) (k1 28 (by omega) (by omega) (by omega)) (k1 63 (by omega) (by omega) (by omega)) (k1 64 (by omega) (by omega) (by omega)) (k1 65 (by omega) (by omega) (by omega)) (k1 66 (by omega) (by omega) (by omega)) (k1 67 (by omega) (by omega) (by omega)), IC_fr hC eC (fun h0 => CI_cg (fun z h1 h2 => ⟨k1 z (by omega) (by omega) (by omega), ?_⟩) (hC.2.2.2 h0))⟩
    · rw [k1 47 (by omega) (by omega) (by omega), k1 1 (by omega) (by omega) (by omega)]; exact hT.1
    · rw [k0]; exact u3
    · rw [k0, u4, v6]
    · rw [v2]; exact (u1 z (by omega) (by omega)).2
  · have t47 : τ.1 47 = σ.1 1 := ((u1 47 (by omega)).1).trans hT.1
    have t46 := (u1 46 (by omega)).1
    have hg2 := pg q
    refine m_building (T := σ.1 1) (N := N) hG t47 (by rw [t46]; exact hT.2.2.1) hT.2.2.2 (fun z => absurd q z) (fun _ ρ v1 v2 v3 v4 v5 v6 v7 v8 v9 => hg _ ?_)
    have kτ : ∀ c, (c < 46 ∨ c = 47 ∨ 57 < c) → ρ.1 c = τ.1 c := v1
    have eC : lgC ρ = lgC σ := by unfold lgC; rw [kτ 18 (by omega), kτ 19 (by omega), kτ 20 (by omega), kτ 21 (by omega), kτ 22 (by omega), (u1 18 (by omega)).1, (u1 19 (by omega)).1, (u1 20 (by omega)).1, (u1 21 (by omega)).1, (u1 22 (by omega)).1]
    have eM : lgM ρ = lgM σ := by unfold lgM; rw [kτ 58 (by omega), kτ 59 (by omega), kτ 60 (by omega), kτ 61 (by omega), kτ 62 (by omega), (u1 58 (by omega)).1, (u1 59 (by omega)).1, (u1 60 (by omega)).1, (u1 61 (by omega)).1, (u1 62 (by omega)).1]
    refine ⟨(PRS (σ.1 1) N).2.1, 0, 0, 0, 0, ⟨?_, ?_, v4, by omega⟩, ⟨?_, v9, hg2.1.1⟩, ⟨?_, v6, by omega⟩, ?_, ⟨?_, v7, by omega, ?_⟩, ⟨?_, v8, by omega, ?_, fun j hj => absurd hj (Nat.not_lt_zero _)⟩, ⟨fun z => absurd z (Nat.lt_irrefl 0), fun j hj => absurd hj (Nat.not_lt_zero _), fun c _ => Nat.zero_le _, fun _ => CI_cg (fun z h1 h2 => ⟨kτ z (by omega), by rw [v2]⟩) (u8 _)⟩⟩
    · rw [kτ 47 (by omega), kτ 1 (by omega), t47]; exact (u1 1 (by omega)).1.symm
    · rw [kτ 0 (by omega)]; exact u2
    · unfold PlC
      rw [kτ 2 (by omega), kτ 4 (by omega), kτ 6 (by omega), kτ 7 (by omega), kτ 8 (by omega)]
      exact u7
    · rw [kτ 0 (by omega)]; exact u4
    · rw [kτ 0 (by omega), u3, v5]
    · rw [kτ 17 (by omega)]; exact u5
    · rw [eC, eM]; exact hL.2.2.2
    · rw [kτ 23 (by omega)]; exact u6
    · obtain ⟨e1, e2, e3, e4, e5⟩ := hR.2.2.2.1
      refine ⟨?_, ?_, ?_, ?_, ?_⟩
      · rw [kτ 63 (by omega), kτ 24 (by omega), (u1 63 (by omega)).1, (u1 24 (by omega)).1]; exact e1
      · rw [kτ 64 (by omega), kτ 25 (by omega), (u1 64 (by omega)).1, (u1 25 (by omega)).1]; exact e2
      · rw [kτ 65 (by omega), kτ 26 (by omega), (u1 65 (by omega)).1, (u1 26 (by omega)).1]; exact e3
      · rw [kτ 66 (by omega), kτ 27 (by omega), (u1 66 (by omega)).1, (u1 27 (by omega)).1]; exact e4
      · rw [kτ 67 (by omega), kτ 28 (by omega), (u1 67 (by omega)).1, (u1 28 (by omega)).1]; exact e5
end OPS5
