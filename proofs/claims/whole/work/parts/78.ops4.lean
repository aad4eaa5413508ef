section OPS4
variable {G : GG} {σ : Mem} {f : Int32 → Mem → Prop}
def fdT (F : Nat → Int32) (b : Nat) : List Int32 → (Nat → Int32)
  | [] => F
  | v :: vs => fdT (upd F b v) (b + 1) vs
theorem feedC_all : ∀ (l : List Int32) (σ : Mem) (b : Nat), σ.1 0 1 = nI b → (feedC σ b l).1 1 = fdT (σ.1 1) b l ∧ (∀ c, c ≠ 0 → c ≠ 1 → (feedC σ b l).1 c = σ.1 c) ∧ (feedC σ b l).2 = σ.2 ∧ (∀ j, j ≠ 1 → (feedC σ b l).1 0 j = σ.1 0 j) ∧ (feedC σ b l).1 0 1 = nI (b + l.length)
  | [], σ, b, h => ⟨rfl, fun _ _ _ => rfl, rfl, fun _ _ => rfl, h⟩
  | v :: vs, σ, b, h => by
    obtain ⟨a1, a2, a3, a4, a5⟩ := feedC_all vs (stC σ b v) (b + 1) (by rw [stC, setI_at, upd_same])
    refine ⟨a1.trans ?_, fun c h0 h1 => (a2 c h0 h1).trans ?_, a3, fun j hj => (a4 j hj).trans ?_, a5.trans ?_⟩
    · rfl
    · unfold stC; rw [setI_ne _ _ _ h0, setI_ne _ _ _ h1]
    · unfold stC; rw [setI_at, upd_ne _ _ hj]; rfl
    · congr 1; simp only [List.length_cons]; omega
theorem feedM_all : ∀ (l : List Int32) (σ : Mem) (b : Nat), σ.1 46 2 = nI b → (feedM σ b l).1 47 = fdT (σ.1 47) b l ∧ (∀ c, c ≠ 46 → c ≠ 47 → (feedM σ b l).1 c = σ.1 c) ∧ (feedM σ b l).2 = σ.2 ∧ (∀ j, j ≠ 2 → (feedM σ b l).1 46 j = σ.1 46 j) ∧ (feedM σ b l).1 46 2 = nI (b + l.length)
  | [], σ, b, h => ⟨rfl, fun _ _ _ => rfl, rfl, fun _ _ => rfl, h⟩
  | v :: vs, σ, b, h => by
    obtain ⟨a1, a2, a3, a4, a5⟩ := feedM_all vs (stM σ b v) (b + 1) (by rw [stM, setI_at, upd_same])
    refine ⟨a1.trans ?_, fun c h0 h1 => (a2 c h0 h1).trans ?_, a3, fun j hj => (a4 j hj).trans ?_, a5.trans ?_⟩
    · rfl
    · unfold stM; rw [setI_ne _ _ _ h0, setI_ne _ _ _ h1]
    · unfold stM; rw [setI_at, upd_ne _ _ hj]; rfl
    · congr 1; simp only [List.length_cons]; omega
theorem by20_eq (a b c x e : Int32) : by20 byC a b c x e = by20 byM a b c x e := by
  unfold by20 by4
  simp only [by_eq _ (show 24 + 8 ≤ 32 by omega), by_eq _ (show 16 + 8 ≤ 32 by omega), by_eq _ (show 8 + 8 ≤ 32 by omega), by_eq _ (show 0 + 8 ≤ 32 by omega)]
theorem by20_len (g : Int32 → Nat → Int32) (a b c x e : Int32) : (by20 g a b c x e).length = 20 := rfl
theorem I5_feed {P : PL} {nc n N k : Nat} {L : List Int32} (h5 : I5 σ P nc n N k) (hl : L.length = 20) (q : N + 20 ≤ 600) : I5 (feedM (th (feedC σ N L)) N L) P nc n (N + 20) k := by
  obtain ⟨hT, hP, hD, hF, hL, hR, hC⟩ := id h5
  obtain ⟨a1, a2, a3, a4, a5⟩ := feedC_all L σ N hT.2.1
  have t46 := a2 46 (by omega) (by omega)
  obtain ⟨b1, b2, b3, b4, b5⟩ := feedM_all L (th (feedC σ N L)) N (by show (feedC σ N L).1 46 2 = nI N; rw [t46]; exact hT.2.2.1)
  generalize feedM (th (feedC σ N L)) N L = ρ at b1 b2 b3 b4 b5 ⊢
  generalize feedC σ N L = τ at a1 a2 a3 a4 a5 t46 b1 b2 b3 b4 b5
  have k1 : ∀ c', c' ≠ 0 → c' ≠ 1 → c' ≠ 46 → c' ≠ 47 → ρ.1 c' = σ.1 c' := fun c' h0 h1 h2 h3 => (b2 c' h2 h3).trans ((setI_ne _ _ _ h2).trans (a2 c' h0 h1))
  have k0 : ρ.1 0 = τ.1 0 := (b2 0 (by omega) (by omega)).trans (setI_ne _ _ _ (by omega))
  have k46 : ∀ j, j ≠ 0 → j ≠ 2 → ρ.1 46 j = σ.1 46 j := fun j h0 h2 => (b4 j h2).trans (by rw [setI_at, upd_ne _ _ h0, t46])
  have eC : lgC ρ = lgC σ := by unfold lgC; rw [k1 18 (by omega) (by omega) (by omega) (by omega), k1 19 (by omega) (by omega) (by omega) (by omega), k1 20 (by omega) (by omega) (by omega) (by omega), k1 21 (by omega) (by omega) (by omega) (by omega), k1 22 (by omega) (by omega) (by omega) (by omega)]
  have eM : lgM ρ = lgM σ := by unfold lgM; rw [k1 58 (by omega) (by omega) (by omega) (by omega), k1 59 (by omega) (by omega) (by omega) (by omega), k1 60 (by omega) (by omega) (by omega) (by omega), k1 61 (by omega) (by omega) (by omega) (by omega), k1 62 (by omega) (by omega) (by omega) (by omega)]
  have e47 : (th τ).1 47 = σ.1 1 := (setI_ne _ _ _ (by omega)).trans ((a2 47 (by omega) (by omega)).trans hT.1)
  have e1 : ρ.1 1 = τ.1 1 := (b2 1 (by omega) (by omega)).trans (setI_ne _ _ _ (by omega))
  refine ⟨⟨?_, ?_, ?_, q⟩, IP_fr hP (k1 2 (by omega) (by omega) (by omega) (by omega)) (k1 4 (by omega) (by omega) (by omega) (by omega)) (k1 6 (by omega) (by omega) (by omega) (by omega)) (k1 7 (by omega) (by omega) (by omega) (by omega)) (k1 8 (by omega) (by omega) (by omega) (by omega)) (k46 18 (by omega) (by omega)) (k46 19 (by omega) (by omega)) (k1 54 (by omega) (by omega) (by omega) (by omega)) (k1 55 (by omega) (by omega) (by omega) (by omega)) (k1 56 (by omega) (by omega) (by omega) (by omega)) (k1 57 (by omega) (by omega) (by omega) (by omega)), ID_fr hD (by rw [k0]; exact a4 3 (by omega)) (k46 24 (by omega) (by omega)), ?_, IL_fr hL (by rw [k1 17 (by omega) (by omega) (by omega) (by omega)]) (k46 25 (by omega) (by omega)) eC eM, IR_fr hR (by rw [k1 23 (by omega) (by omega) (by omega) (by omega)]) (k46 26 (by omega) (by omega)) (k1 24 (by omega) (by omega) (by omega) (by omega)) (k1 25 (by omega) (by omega) (by omega) (by omega)) (k1 26 (by omega) (by omega) (by omega) (by omega)) (k1 27 (by omega) (by omega) (by omega) (by omega)) (k1 28 (by omega) (by omega) (by omega) (by omega)) (k1 63 (by omega) (by omega) (by omega) (by omega)) (k1 64 (by omega) (by omega) (by omega) (by omega)) (k1 65 (by omega) (by omega) (by omega) (by omega)) (k1 66 (by omega) (by omega) (by omega) (by omega)) (k1 67 (by omega) (by omega) (by omega) (by omega)), ?_⟩
  · rw [b1, e1, a1, e47]
  · rw [k0, a5, hl]
  · rw [b5, hl]
  · rw [k0, a4 2 (by omega), k46 9 (by omega) (by omega)]; exact hF
  · refine IC_fr hC eC (fun h0 => CI_cg (fun z h1 h2 => ⟨k1 z (by omega) (by omega) (by omega) (by omega), ?_⟩) (hC.2.2.2 h0))
    rw [b3]
    show τ.2 z = σ.2 z
    rw [a3]
theorem op_feed {a b c x e : Int32} (hI : Inv σ) (h : ∀ v τ, MR G M_X8_feed [some (.ref 46), some (.int a), some (.int b), some (.int c), some (.int x), some (.int e), none, none] v τ → f v τ) : SW G 11 M_X7_feed 0 [some (.ref 0), some (.int a), some (.int b), some (.int c), some (.int x), some (.int e)] [] σ (RI f) := by
  obtain ⟨P, nc, n, N, k, h5⟩ := hI
  have hT := h5.1
  have good : N + 20 ≤ 600 → ∀ L, L = by20 byC a b c x e → L.length = 20 → MR G M_X8_feed [some (.ref 46), some (.int a), some (.int b), some (.int c), some (.int x), some (.int e), none, none] (nI (N + 20)) (feedC σ N L) := by
    intro q L eL hl g hg
    have hN : (feedC σ N L).1 46 2 = nI N := by rw [(feedC_all L σ N hT.2.1).2.1 46 (by omega) (by omega)]; exact hT.2.2.1
    refine m_feed (n := N) hN hT.2.2.2 (fun _ => ?_) (fun z => absurd q z)
    rw [← by20_eq, ← eL]
    exact hg _ ⟨P, nc, n, N + 20, k, I5_feed h5 hl q⟩
  exact c_X7_feed hT.2.1 hT.2.2.2 (fun q => h _ _ (good q _ rfl (by20_len _ _ _ _ _ _))) (fun q => h _ _ (fun g hg => m_feed hT.2.2.1 hT.2.2.2 (fun z => absurd z q) (fun _ => hg _ ⟨P, nc, n, N, k, I5_th h5⟩)))
end OPS4
