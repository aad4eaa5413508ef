/-! ===== what holds between class and model, between two calls ===== -/
def IT (σ : Mem) (N : Nat) : Prop := σ.1 47 = σ.1 1 ∧ σ.1 0 1 = nI N ∧ σ.1 46 2 = nI N ∧ N ≤ 600
def IP (σ : Mem) (P : PL) : Prop := PlC σ P ∧ PlM σ P ∧ PV P
def ID (σ : Mem) (nc : Nat) : Prop := σ.1 0 3 = nI nc ∧ σ.1 46 24 = nI nc ∧ nc ≤ 10
def IL (σ : Mem) (n : Nat) : Prop := σ.1 17 0 = nI n ∧ σ.1 46 25 = nI n ∧ n ≤ 100 ∧ lgM σ = lgC σ
def IR (σ : Mem) (k : Nat) : Prop := σ.1 23 0 = nI k ∧ σ.1 46 26 = nI k ∧ k ≤ 100 ∧ (σ.1 63 = σ.1 24 ∧ σ.1 64 = σ.1 25 ∧ σ.1 65 = σ.1 26 ∧ σ.1 66 = σ.1 27 ∧ σ.1 67 = σ.1 28) ∧ ∀ j, j < k → σ.1 28 j = nI 0 ∨ σ.1 28 j = nI 1
def IC (σ : Mem) (P : PL) (nc n : Nat) : Prop := (0 < nc → 0 < pR P) ∧ LV P nc n (lgC σ) ∧ (∀ c, c < 10 → pcN (lgC σ) (nI c) n ≤ 12) ∧ (0 < pR P → CI σ P (lgC σ) n)
def I5 (σ : Mem) (P : PL) (nc n N k : Nat) : Prop := IT σ N ∧ IP σ P ∧ ID σ nc ∧ σ.1 0 2 = σ.1 46 9 ∧ IL σ n ∧ IR σ k ∧ IC σ P nc n
def Inv (σ : Mem) : Prop := ∃ P nc n N k, I5 σ P nc n N k
section INV
variable {σ τ : Mem} {P : PL} {nc n N k : Nat}
theorem IT_fr (h : IT σ N) (a1 : τ.1 1 = σ.1 1) (a47 : τ.1 47 = σ.1 47) (b1 : τ.1 0 1 = σ.1 0 1) (b2 : τ.1 46 2 = σ.1 46 2) : IT τ N := by
  unfold IT at h ⊢
  rw [a1, a47, b1, b2]; exact h
theorem IP_fr (h : IP σ P) (a2 : τ.1 2 = σ.1 2) (a4 : τ.1 4 = σ.1 4) (a6 : τ.1 6 = σ.1 6) (a7 : τ.1 7 = σ.1 7) (a8 : τ.1 8 = σ.1 8) (b18 : τ.1 46 18 = σ.1 46 18) (b19 : τ.1 46 19 = σ.1 46 19) (a54 : τ.1 54 = σ.1 54) (a55 : τ.1 55 = σ.1 55) (a56 : τ.1 56 = σ.1 56) (a57 : τ.1 57 = σ.1 57) : IP τ P := by
  unfold IP PlC PlM at h ⊢
  rw [a2, a4, a6, a7, a8, b18, b19, a54, a55, a56, a57]; exact h
theorem ID_fr (h : ID σ nc) (a : τ.1 0 3 = σ.1 0 3) (b : τ.1 46 24 = σ.1 46 24) : ID τ nc := by
  unfold ID at h ⊢
  rw [a, b]; exact h
theorem IL_fr (h : IL σ n) (a : τ.1 17 0 = σ.1 17 0) (b : τ.1 46 25 = σ.1 46 25) (c : lgC τ = lgC σ) (c' : lgM τ = lgM σ) : IL τ n := by
  unfold IL at h ⊢
  rw [a, b, c, c']; exact h
theorem IR_fr (h : IR σ k) (a : τ.1 23 0 = σ.1 23 0) (b : τ.1 46 26 = σ.1 46 26) (a24 : τ.1 24 = σ.1 24) (a25 : τ.1 25 = σ.1 25) (a26 : τ.1 26 = σ.1 26) (a27 : τ.1 27 = σ.1 27) (a28 : τ.1 28 = σ.1 28) (a63 : τ.1 63 = σ.1 63) (a64 : τ.1 64 = σ.1 64) (a65 : τ.1 65 = σ.1 65) (a66 : τ.1 66 = σ.1 66) (a67 : τ.1 67 = σ.1 67) : IR τ k := by
  unfold IR at h ⊢
  rw [a, b, a24, a25, a26, a27, a28, a63, a64, a65, a66, a67]; exact h
theorem IC_fr (h : IC σ P nc n) (c : lgC τ = lgC σ) (q : 0 < pR P → CI τ P (lgC σ) n) : IC τ P nc n := by
  unfold IC at h ⊢
  rw [c]; exact ⟨h.1, h.2.1, h.2.2.1, q⟩
/-- the class's cells but its caches, and the model's but its scratch, are as they were -/
theorem I5_fr (h : I5 σ P nc n N k) (hc : ∀ c, (c < 30 ∨ (46 < c ∧ c < 68)) → τ.1 c = σ.1 c) (h46 : ∀ j, 0 < j → j ≠ 38 → τ.1 46 j = σ.1 46 j) (hCI : 0 < pR P → CI τ P (lgC σ) n) : I5 τ P nc n N k := by
  obtain ⟨hT, hP, hD, hF, hL, hR, hC⟩ := h
  have eC : lgC τ = lgC σ := by unfold lgC; rw [hc 18 (by omega), hc 19 (by omega), hc 20 (by omega), hc 21 (by omega), hc 22 (by omega)]
  have eM : lgM τ = lgM σ := by unfold lgM; rw [hc 58 (by omega), hc 59 (by omega), hc 60 (by omega), hc 61 (by omega), hc 62 (by omega)]
  have e0 := hc 0 (by omega)
  refine ⟨IT_fr hT (hc 1 (by omega)) (hc 47 (by omega)) (by rw [e0]) (h46 2 (by omega) (by omega)), IP_fr hP (hc 2 (by omega)) (hc 4 (by omega)) (hc 6 (by omega)) (hc 7 (by omega)) (hc 8 (by omega)) (h46 18 (by omega) (by omega)) (h46 19 (by omega) (by omega)) (hc 54 (by omega)) (hc 55 (by omega)) (hc 56 (by omega)) (hc 57 (by omega)), ID_fr hD (by rw [e0]) (h46 24 (by omega) (by omega)), ?_, IL_fr hL (by rw [hc 17 (by omega)]) (h46 25 (by omega) (by omega)) eC eM, IR_fr hR (by rw [hc 23 (by omega)]) (h46 26 (by omega) (by omega)) (hc 24 (by omega)) (hc 25 (by omega)) (hc 26 (by omega)) (hc 27 (by omega)) (hc 28 (by omega)) (hc 63 (by omega)) (hc 64 (by omega)) (hc 65 (by omega)) (hc 66 (by omega)) (hc 67 (by omega)), IC_fr hC eC hCI⟩
  rw [e0, h46 9 (by omega) (by omega)]
  exact hF
theorem I5_Std (h : I5 σ P nc n N k) (h0 : 0 < pR P) : Std σ P nc n := ⟨h.2.1.1, h.2.1.2.2, h0, h.2.2.2.2.1.1, h.2.2.2.2.1.2.2.1, h.2.2.2.2.2.2.2.1, h.2.2.2.2.2.2.2.2.1, h.2.2.2.2.2.2.2.2.2 h0⟩
theorem I5_StdM (h : I5 σ P nc n N k) (h0 : 0 < pR P) : StdM σ P nc n := by
  refine ⟨h.2.1.2.1, h.2.1.2.2, h0, h.2.2.2.2.1.2.2.1, ?_, ?_⟩
  · rw [h.2.2.2.2.1.2.2.2]; exact h.2.2.2.2.2.2.2.1
  · rw [h.2.2.2.2.1.2.2.2]; exact h.2.2.2.2.2.2.2.2.1
/-- behind a call of the class that only looks, and a call of the model that only looks -/
theorem I5_th (h : I5 σ P nc n N k) : I5 (th σ) P nc n N k := I5_fr h (fun c hc => setI_ne _ _ _ (by omega)) (fun j h1 h2 => by rw [setI_at, upd_ne _ _ (by omega)]) (fun h0 => CI_cg (fun c h1 h2 => ⟨setI_ne _ _ _ (by omega), rfl⟩) (h.2.2.2.2.2.2.2.2.2 h0))
theorem I5_kfr (h : I5 σ P nc n N k) (hk : kfr (th σ) τ) : I5 τ P nc n N k := by
  have h' := I5_th h
  refine I5_fr h' (fun c hc => (hk.1 c (by omega) (by omega)).1) (fun j h1 h2 => hk.2.1 j h2) (fun h0 => CI_cg (fun c h1 h2 => hk.1 c (by omega) (by omega)) (h'.2.2.2.2.2.2.2.2.2 h0))
theorem I5_look (h : I5 σ P nc n N k) (hf : fr 31 45 σ τ) (hS : 0 < pR P → Std τ P nc n) : I5 τ P nc n N k := by
  have eC : lgC τ = lgC σ := lgC_fr hf (by omega)
  refine I5_fr h (fun c hc => (hf c (by omega)).1) (fun j h1 h2 => by rw [(hf 46 (by omega)).1]) (fun h0 => ?_)
  have := (hS h0).2.2.2.2.2.2.2
  rw [eC] at this
  exact this
theorem I5_e (h : I5 σ P nc n N k) : σ.1 58 = σ.1 18 ∧ σ.1 59 = σ.1 19 ∧ σ.1 60 = σ.1 20 ∧ σ.1 61 = σ.1 21 ∧ σ.1 62 = σ.1 22 := by
  have e := h.2.2.2.2.1.2.2.2
  unfold lgM lgC at e
  exact ⟨congrArg (fun g => g.1) e, congrArg (fun g => g.2.1) e, congrArg (fun g => g.2.2.1) e, congrArg (fun g => g.2.2.2.1) e, congrArg (fun g => g.2.2.2.2) e⟩
theorem LV_nc {nc' : Nat} {g : LG} (h : LV P nc n g) (hn : nc ≤ nc') : LV P nc' n g := by
  intro k hk
  rcases h k hk with ⟨a, b, c⟩ | q | ⟨a, b, c⟩
  · exact Or.inl ⟨a, ⟨b.1, by have := b.2; omega⟩, c⟩
  · exact Or.inr (Or.inl q)
  · exact Or.inr (Or.inr ⟨a, ⟨b.1, by have := b.2; omega⟩, c⟩)
theorem wlk_dn {K : WK} (hS : ∀ t rm, kS K t rm) {j : Nat} (h : wlk P K (j + 1)) : wlk P K j := by
  have key : ∀ (t rm a : Nat), rch P K t (j + 1) rm a → ∃ T, T ≤ t ∧ ∃ rm a, rch P K T j rm a := by
    intro t
    induction t with
    | zero => intro rm a q; have := q.1; omega
    | succ t ih =>
      intro rm' a' ⟨q0, j0, rm, a, q1, q2⟩
      rcases q2 with ⟨e, -, -⟩ | ⟨-, -, e, -⟩ | ⟨-, -, -, e, -⟩
      · obtain ⟨T, h1, h2⟩ := ih rm a (by rw [e]; exact q1)
        exact ⟨T, by omega, h2⟩
      · obtain ⟨T, h1, h2⟩ := ih rm a (by rw [e]; exact q1)
        exact ⟨T, by omega, h2⟩
      · obtain rfl : j0 = j := by omega
        exact ⟨t, by omega, rm, a, q1⟩
  obtain ⟨rm, a, q⟩ := h
  obtain ⟨T, hT, rm1, a1, q1⟩ := key 200 rm a q
  have := rch_on hS (200 - T) T rm1 a1 q1
  rw [show T + (200 - T) = 200 by omega] at this
  exact this
theorem wlk_le {K : WK} (hS : ∀ t rm, kS K t rm) {i j : Nat} (hij : i ≤ j) (h : wlk P K j) : wlk P K i := by
  induction j with
  | zero => rw [show i = 0 by omega]; exact h
  | succ j ih =>
    rcases Nat.eq_or_lt_of_le hij with e | e
    · rw [e]; exact h
    · exact ih (by omega) (wlk_dn hS h)
end INV
