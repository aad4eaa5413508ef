/-! ===== ways, as mathematics ===== -/
/-- how many passes; rooms left and come to; in time; open doors; sights -/
abbrev WK : Type := Nat × (Nat → Nat) × (Nat → Nat) × (Nat → Nat → Prop) × (Nat → Nat → Prop) × (Nat → Nat → Prop)
abbrev kN (K : WK) : Nat := K.1
abbrev kL (K : WK) : Nat → Nat := K.2.1
abbrev kC (K : WK) : Nat → Nat := K.2.2.1
abbrev kT (K : WK) : Nat → Nat → Prop := K.2.2.2.1
abbrev kO (K : WK) : Nat → Nat → Prop := K.2.2.2.2.1
abbrev kS (K : WK) : Nat → Nat → Prop := K.2.2.2.2.2
/-- through an open door -/
def fre (P : PL) (K : WK) (t rm rm' : Nat) : Prop := ∃ dd, dd < pD P ∧ kO K t dd ∧ ((pF P dd = rm ∧ pS P dd = rm') ∨ (pS P dd = rm ∧ pF P dd = rm'))
/-- a tick: stage, room, how long one must wait -/
def stp (P : PL) (K : WK) (t j rm a j' rm' a' : Nat) : Prop :=
  (j' = j ∧ rm' = rm ∧ a' = a - 1) ∨
  (a = 0 ∧ a' = pW P rm' ∧ j' = j ∧ fre P K t rm rm') ∨
  (a = 0 ∧ a' = pW P rm' ∧ j < kN K ∧ j' = j + 1 ∧ kT K j t ∧ kL K j = rm ∧ kC K j = rm')
def rch (P : PL) (K : WK) : Nat → Nat → Nat → Nat → Prop
  | 0, j, rm, a => j = 0 ∧ rm = 0 ∧ a = 0
  | t + 1, j', rm', a' => kS K t rm' ∧ ∃ j rm a, rch P K t j rm a ∧ stp P K t j rm a j' rm' a'
/-- from here, with r ticks still to come, a way can be ended -/
def hop (P : PL) (K : WK) : Nat → Nat → Nat → Nat → Prop
  | 0, j, rm, _ => kS K 199 rm ∧ j = kN K
  | r + 1, j, rm, a => kS K (198 - r) rm ∧ ∃ j' rm' a', stp P K (199 - r) j rm a j' rm' a' ∧ hop P K r j' rm' a'
/-- the tables are of rooms that there are -/
def KV (P : PL) (K : WK) : Prop := kN K ≤ 12 ∧ (∀ i, i < kN K → kL K i < pR P ∧ kC K i < pR P)
theorem fre_lt {P : PL} (hV : PV P) {K : WK} {t rm rm' : Nat} (h : fre P K t rm rm') : rm < pR P ∧ rm' < pR P := by
  obtain ⟨dd, h1, h2, h3⟩ := h
  obtain ⟨q1, q2, -, -⟩ := hV.2.2.2.1 dd h1
  rcases h3 with ⟨e1, e2⟩ | ⟨e1, e2⟩
  · rw [← e1, ← e2]; exact ⟨q1, q2⟩
  · rw [← e1, ← e2]; exact ⟨q2, q1⟩
theorem fre_ne {P : PL} (hV : PV P) {K : WK} {t rm rm' : Nat} (h : fre P K t rm rm') : rm ≠ rm' := by
  obtain ⟨dd, h1, h2, h3⟩ := h
  obtain ⟨-, -, q, -⟩ := hV.2.2.2.1 dd h1
  rcases h3 with ⟨e1, e2⟩ | ⟨e1, e2⟩
  · rw [← e1, ← e2]; exact q
  · rw [← e1, ← e2]; exact q.symm
theorem rch_in {P : PL} (hV : PV P) {K : WK} (hK : KV P K) (hR : 0 < pR P) : ∀ (t j rm a : Nat), rch P K t j rm a → j ≤ kN K ∧ rm < pR P ∧ a ≤ 4
  | 0, j, rm, a, h => by obtain ⟨rfl, rfl, rfl⟩ := h; exact ⟨Nat.zero_le _, hR, Nat.zero_le _⟩
  | t + 1, j', rm', a', h => by
    obtain ⟨-, j, rm, a, h1, h2⟩ := h
    obtain ⟨i1, i2, i3⟩ := rch_in hV hK hR t j rm a h1
    rcases h2 with ⟨rfl, rfl, rfl⟩ | ⟨-, rfl, rfl, h3⟩ | ⟨-, rfl, h3, rfl, -, -, rfl⟩
    · exact ⟨i1, i2, by omega⟩
    · exact ⟨i1, (fre_lt hV h3).2, hV.2.2.1 _ (fre_lt hV h3).2⟩
    · exact ⟨h3, (hK.2 j h3).2, hV.2.2.1 _ (hK.2 j h3).2⟩
theorem hop_stage {P : PL} {K : WK} : ∀ (r j rm a : Nat), hop P K r j rm a → j ≤ kN K
  | 0, j, rm, a, h => by rw [h.2]; exact Nat.le_refl _
  | r + 1, j, rm, a, h => by
    obtain ⟨-, j', rm', a', h1, h2⟩ := h
    have := hop_stage r j' rm' a' h2
    rcases h1 with ⟨rfl, -, -⟩ | ⟨-, -, rfl, -⟩ | ⟨-, -, h3, -, -⟩ <;> omega
/-- the rooms in which one can be as tick t ends -/
def can (P : PL) (K : WK) (t rm : Nat) : Prop := ∃ j a, rch P K (t + 1) j rm a ∧ hop P K (199 - t) j rm a
/-- reached, and with hope: that is what is kept as one goes -/
theorem keep {P : PL} {K : WK} {t : Nat} (ht : t < 199) {j' rm' a' : Nat} : (kS K (t + 1) rm' ∧ ∃ j rm a, (rch P K (t + 1) j rm a ∧ hop P K (199 - t) j rm a) ∧ stp P K (t + 1) j rm a j' rm' a') ∧ hop P K (199 - (t + 1)) j' rm' a' ↔ rch P K (t + 2) j' rm' a' ∧ hop P K (199 - (t + 1)) j' rm' a' := by
  constructor
  · rintro ⟨⟨h1, j, rm, a, ⟨h2, -⟩, h3⟩, h4⟩
    exact ⟨⟨h1, j, rm, a, h2, h3⟩, h4⟩
  · rintro ⟨⟨h1, j, rm, a, h2, h3⟩, h4⟩
    refine ⟨⟨h1, j, rm, a, ⟨h2, ?_⟩, h3⟩, h4⟩
    obtain ⟨r, hr⟩ : ∃ r, 199 - t = r + 1 := ⟨198 - t, by omega⟩
    rw [hr]
    refine ⟨?_, j', rm', a', ?_, ?_⟩
    · have := h2.1
      rw [show 198 - r = t by omega]; exact this
    · rw [show 199 - r = t + 1 by omega]; exact h3
    · rw [show r = 199 - (t + 1) by omega]; exact h4
/-! ===== how the class holds them ===== -/
def fr (lo hi : Nat) (σ σ' : Mem) : Prop := ∀ c, (c < lo ∨ hi < c) → σ'.1 c = σ.1 c ∧ σ'.2 c = σ.2 c
theorem fr_rf {lo hi : Nat} {σ : Mem} : fr lo hi σ σ := fun _ _ => ⟨rfl, rfl⟩
theorem fr_tr {lo hi : Nat} {σ σ' σ'' : Mem} (h : fr lo hi σ σ') (h' : fr lo hi σ' σ'') : fr lo hi σ σ'' := fun c hc => ⟨(h' c hc).1.trans (h c hc).1, (h' c hc).2.trans (h c hc).2⟩
theorem fr_wide {lo hi lo' hi' : Nat} {σ σ' : Mem} (h : fr lo hi σ σ') (h1 : lo' ≤ lo) (h2 : hi ≤ hi') : fr lo' hi' σ σ' := fun c hc => h c (by omega)
theorem fr_I {lo hi c k : Nat} {v : Int32} {σ σ' : Mem} (h : fr lo hi σ σ') (hc : lo ≤ c ∧ c ≤ hi) : fr lo hi σ (setI σ' c k v) := fun x hx => ⟨by rw [setI_ne _ _ _ (by omega)]; exact (h x hx).1, (h x hx).2⟩
theorem fr_J {lo hi c k : Nat} {v : Int64} {σ σ' : Mem} (h : fr lo hi σ σ') (hc : lo ≤ c ∧ c ≤ hi) : fr lo hi σ (setJ σ' c k v) := fun x hx => ⟨(h x hx).1, by rw [setJ_ne _ _ _ (by omega)]; exact (h x hx).2⟩
theorem fr_A {lo hi c : Nat} {f : Nat → Int32} {σ σ' : Mem} (h : fr lo hi σ σ') (hc : lo ≤ c ∧ c ≤ hi) : fr lo hi σ (setA σ' c f) := fun x hx => ⟨by rw [setA_ne _ _ (by omega)]; exact (h x hx).1, (h x hx).2⟩
theorem fr_B {lo hi c : Nat} {f : Nat → Int64} {σ σ' : Mem} (h : fr lo hi σ σ') (hc : lo ≤ c ∧ c ≤ hi) : fr lo hi σ (setB σ' c f) := fun x hx => ⟨(h x hx).1, by rw [setB_ne _ _ (by omega)]; exact (h x hx).2⟩
theorem PlC_fr {lo hi : Nat} {σ σ' : Mem} {P : PL} (h : fr lo hi σ σ') (hl : 8 < lo) (hP : PlC σ P) : PlC σ' P := by
  unfold PlC at *
  rw [(h 2 (by omega)).1, (h 4 (by omega)).1, (h 6 (by omega)).1, (h 7 (by omega)).1, (h 8 (by omega)).1]
  exact hP
theorem lgC_fr {lo hi : Nat} {σ σ' : Mem} (h : fr lo hi σ σ') (hl : 22 < lo) : lgC σ' = lgC σ := by
  unfold lgC
  rw [(h 18 (by omega)).1, (h 19 (by omega)).1, (h 20 (by omega)).1, (h 21 (by omega)).1, (h 22 (by omega)).1]
/-- bit of room rm with wait a -/
def pb (x : Int64) (rm a : Nat) : Bool := mb x (8 * a + rm)
/-- entry: one bit a room -/
def EN (τ : Mem) (P : PL) : Prop := ∀ rm, rm < pR P → ∀ i, i < 64 → mb (τ.2 43 rm) i = decide (i = 8 * pW P rm + rm)
def OD (τ : Mem) (K : WK) : Prop := ∀ t, t < 200 → ∃ o, o < 1024 ∧ τ.1 41 t = nI o ∧ ∀ dd, dd < 10 → (o.testBit dd = true ↔ kO K t dd)
def SN (τ : Mem) (K : WK) : Prop := ∀ t, t < 200 → (∀ rm a, rm < 8 → a ≤ 4 → (pb (τ.2 42 t) rm a = true ↔ kS K t rm)) ∧ ∀ i, 40 ≤ i → mb (τ.2 42 t) i = false
/-- the rows that lookAt fills -/
def WT (τ : Mem) (P : PL) (K : WK) : Prop := PlC τ P ∧ PV P ∧ KV P K ∧ τ.1 35 2 = nI (kN K) ∧ (∀ i, i < kN K → τ.1 37 i = nI (kL K i)) ∧ (∀ i, i < kN K → τ.1 38 i = nI (kC K i)) ∧ (∀ i t, i < kN K → t < 200 → ((τ.1 39 i ≤ nI t ∧ nI t ≤ τ.1 40 i) ↔ kT K i t)) ∧ OD τ K ∧ SN τ K ∧ EN τ P
theorem WT_fr {lo : Nat} {σ σ' : Mem} {P : PL} {K : WK} (h : fr lo 45 σ σ') (hl : 44 ≤ lo) (hW : WT σ P K) : WT σ' P K := by
  obtain ⟨h1, h2, h3, h4, h5, h6, h7, h8, h9, h10⟩ := hW
  refine ⟨PlC_fr h (by omega) h1, h2, h3, ?_, ?_, ?_, ?_, ?_, ?_, ?_⟩
  · rw [(h 35 (by omega)).1]; exact h4
  · rw [(h 37 (by omega)).1]; exact h5
  · rw [(h 38 (by omega)).1]; exact h6
  · rw [(h 39 (by omega)).1, (h 40 (by omega)).1]; exact h7
  · unfold OD; rw [(h 41 (by omega)).1]; exact h8
  · unfold SN; rw [(h 42 (by omega)).2]; exact h9
  · unfold EN; rw [(h 43 (by omega)).2]; exact h10
