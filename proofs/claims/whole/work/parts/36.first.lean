/-! ===== the first way, as mathematics ===== -/
/-- the room ahead of tick t -/
def preR (ρ : Nat → Nat) : Nat → Nat
  | 0 => 0
  | t + 1 => ρ t
/-- stage j with wait a fits the rooms ρ ahead of tick t, with hope -/
def fit (P : PL) (K : WK) (ρ : Nat → Nat) : Nat → Nat → Nat → Prop
  | 0, j, a => j = 0 ∧ a = 0
  | t + 1, j', a' => (∃ j a, fit P K ρ t j a ∧ stp P K t j (preR ρ t) a j' (ρ t) a') ∧ hop P K (199 - t) j' (ρ t) a'
/-- room r can be the next one -/
def cand (P : PL) (K : WK) (ρ : Nat → Nat) (t r : Nat) : Prop := ∃ j' a', (∃ j a, fit P K ρ t j a ∧ stp P K t j (preR ρ t) a j' r a') ∧ hop P K (199 - t) j' r a'
def leastAt (P : PL) (K : WK) (ρ : Nat → Nat) (t : Nat) : Prop := cand P K ρ t (ρ t) ∧ ∀ r, r < ρ t → ¬ cand P K ρ t r
theorem preR_congr {ρ ρ' : Nat → Nat} {t : Nat} (h : ∀ k, k < t → ρ k = ρ' k) : preR ρ t = preR ρ' t := by
  cases t with
  | zero => rfl
  | succ t => exact h t (by omega)
theorem fit_congr {P : PL} {K : WK} {ρ ρ' : Nat → Nat} : ∀ {t : Nat}, (∀ k, k < t → ρ k = ρ' k) → ∀ j a, fit P K ρ t j a ↔ fit P K ρ' t j a
  | 0, _, _, _ => Iff.rfl
  | t + 1, h, j', a' => by
    have ih := fit_congr (P := P) (K := K) (t := t) (fun k hk => h k (by omega))
    unfold fit
    rw [preR_congr (t := t) (fun k hk => h k (by omega)), h t (by omega)]
    exact and_congr ⟨fun ⟨j, a, q1, q2⟩ => ⟨j, a, (ih j a).mp q1, q2⟩, fun ⟨j, a, q1, q2⟩ => ⟨j, a, (ih j a).mpr q1, q2⟩⟩ Iff.rfl
theorem cand_congr {P : PL} {K : WK} {ρ ρ' : Nat → Nat} {t : Nat} (h : ∀ k, k < t → ρ k = ρ' k) (r : Nat) : cand P K ρ t r ↔ cand P K ρ' t r := by
  unfold cand
  rw [preR_congr h]
  exact ⟨fun ⟨j', a', ⟨j, a, q1, q2⟩, q3⟩ => ⟨j', a', ⟨j, a, (fit_congr h j a).mp q1, q2⟩, q3⟩, fun ⟨j', a', ⟨j, a, q1, q2⟩, q3⟩ => ⟨j', a', ⟨j, a, (fit_congr h j a).mpr q1, q2⟩, q3⟩⟩
theorem least_one {P : PL} {K : WK} {ρ ρ' : Nat → Nat} : ∀ (t : Nat), (∀ k, k < t → leastAt P K ρ k) → (∀ k, k < t → leastAt P K ρ' k) → ∀ k, k < t → ρ k = ρ' k
  | 0, _, _, k, hk => absurd hk (by omega)
  | t + 1, h, h', k, hk => by
    have ih := least_one t (fun k hk => h k (by omega)) (fun k hk => h' k (by omega))
    by_cases e : k = t
    · subst e
      obtain ⟨c1, l1⟩ := h k (by omega)
      obtain ⟨c2, l2⟩ := h' k (by omega)
      have c1' := (cand_congr ih (ρ k)).mp c1
      have c2' := (cand_congr ih (ρ' k)).mpr c2
      rcases Nat.lt_trichotomy (ρ k) (ρ' k) with q | q | q
      · exact absurd c1' (l2 _ q)
      · exact q
      · exact absurd c2' (l1 _ q)
    · exact ih k (by omega)
/-- hope at the start -/
def hop0 (P : PL) (K : WK) : Prop := ∃ j' rm' a', stp P K 0 0 0 0 j' rm' a' ∧ hop P K 199 j' rm' a'
theorem cand_0 {P : PL} {K : WK} {ρ : Nat → Nat} : (∃ r, cand P K ρ 0 r) ↔ hop0 P K := by
  constructor
  · rintro ⟨r, j', a', ⟨j, a, ⟨rfl, rfl⟩, q⟩, q2⟩
    exact ⟨j', r, a', q, q2⟩
  · rintro ⟨j', rm', a', q, q2⟩
    exact ⟨rm', j', a', ⟨0, 0, ⟨rfl, rfl⟩, q⟩, q2⟩
theorem cand_s {P : PL} {K : WK} {ρ : Nat → Nat} {t : Nat} (ht : t < 199) (h : cand P K ρ t (ρ t)) : ∃ r, cand P K ρ (t + 1) r := by
  obtain ⟨j', a', q1, q2⟩ := h
  obtain ⟨r, hr⟩ : ∃ r, 199 - t = r + 1 := ⟨198 - t, by omega⟩
  have q3 := q2
  rw [hr] at q3
  obtain ⟨-, j2, rm2, a2, s1, s2⟩ := q3
  refine ⟨rm2, j2, a2, ⟨j', a', ⟨q1, q2⟩, ?_⟩, ?_⟩
  · rw [show 199 - r = t + 1 by omega] at s1
    exact s1
  · rw [show 199 - (t + 1) = r by omega]
    exact s2
/-- passes lead into other rooms -/
def KD (K : WK) : Prop := ∀ i, i < kN K → kL K i ≠ kC K i
/-- the wait ahead of tick t -/
def wtR (P : PL) (ρ : Nat → Nat) : Nat → Nat
  | 0 => 0
  | t + 1 => if ρ t = preR ρ t then wtR P ρ t - 1 else pW P (ρ t)
theorem stp_wait {P : PL} (hV : PV P) {K : WK} (hD : KD K) {t j rm a j' rm' a' : Nat} (h : stp P K t j rm a j' rm' a') : a' = if rm' = rm then a - 1 else pW P rm' := by
  rcases h with ⟨-, rfl, rfl⟩ | ⟨rfl, rfl, -, q⟩ | ⟨rfl, rfl, q, -, -, q1, q2⟩
  · rw [if_pos rfl]
  · rw [if_neg (fre_ne hV q).symm]
  · rw [if_neg (fun e => hD j q (by rw [q1, q2, e]))]
theorem fit_wait {P : PL} (hV : PV P) {K : WK} (hD : KD K) {ρ : Nat → Nat} : ∀ (t j a : Nat), fit P K ρ t j a → a = wtR P ρ t
  | 0, j, a, h => h.2
  | t + 1, j', a', h => by
    obtain ⟨⟨j, a, q1, q2⟩, -⟩ := h
    have e := fit_wait hV hD t j a q1
    have e2 := stp_wait hV hD q2
    subst e
    exact e2
theorem wtR_le {P : PL} (hV : PV P) {ρ : Nat → Nat} : ∀ (t : Nat), (∀ k, k < t → ρ k < pR P) → wtR P ρ t ≤ 4
  | 0, _ => Nat.zero_le _
  | t + 1, h => by
    have ih := wtR_le hV t (fun k hk => h k (by omega))
    unfold wtR
    split
    · omega
    · exact hV.2.2.1 _ (h t (by omega))
theorem stay_S (P : PL) (K : WK) {t j rm a j' a' : Nat} (hV : PV P) (hD : KD K) : stp P K t j rm a j' rm a' ↔ (j' = j ∧ a' = a - 1) := by
  constructor
  · rintro (⟨rfl, -, rfl⟩ | ⟨rfl, rfl, -, q⟩ | ⟨rfl, rfl, q, -, -, q1, q2⟩)
    · exact ⟨rfl, rfl⟩
    · exact absurd rfl (fre_ne hV q)
    · exact absurd (q1.trans q2.symm) (hD j q)
  · rintro ⟨rfl, rfl⟩
    exact Or.inl ⟨rfl, rfl, rfl⟩
theorem go_S (P : PL) (K : WK) {t j rm a j' rm' a' : Nat} (hne : rm' ≠ rm) : stp P K t j rm a j' rm' a' ↔ (a = 0 ∧ a' = pW P rm' ∧ ((j' = j ∧ fre P K t rm rm') ∨ (j < kN K ∧ j' = j + 1 ∧ kT K j t ∧ kL K j = rm ∧ kC K j = rm'))) := by
  constructor
  · rintro (⟨-, e, -⟩ | ⟨rfl, rfl, e, q⟩ | ⟨rfl, rfl, q⟩)
    · exact absurd e hne
    · exact ⟨rfl, rfl, Or.inl ⟨e, q⟩⟩
    · exact ⟨rfl, rfl, Or.inr q⟩
  · rintro ⟨rfl, rfl, ⟨e, q⟩ | q⟩
    · exact Or.inr (Or.inl ⟨rfl, rfl, e, q⟩)
    · exact Or.inr (Or.inr ⟨rfl, rfl, q⟩)
/-! ===== small sets of stages, as ints ===== -/
theorem or_nI (a b : Nat) : nI a ||| nI b = nI (a ||| b) := by
  apply Int32.toBitVec_inj.mp
  simp only [nI, Int32.toBitVec_or]
  show BitVec.ofNat 32 a ||| BitVec.ofNat 32 b = BitVec.ofNat 32 (a ||| b)
  exact BitVec.ofNat_or.symm
theorem shl_nI : ∀ k, k < 31 → nI 1 <<< (nI k &&& 31) = nI (2 ^ k) := by decide +kernel
theorem or_st (m : Nat) {k : Nat} (hk : k < 31) : nI m ||| (nI 1 <<< (nI k &&& 31)) = nI (m ||| 2 ^ k) := by rw [shl_nI k hk, or_nI]
theorem sh_i : ∀ k, k < 32 → ((nI k).toUInt32 &&& Int32.toUInt32 31).toBitVec % 32 = BitVec.ofNat 32 k := by decide +kernel
theorem ib_ushr (x : Int32) {k : Nat} (hk : k < 32) (i : Nat) : ib (x.toUInt32 >>> ((nI k).toUInt32 &&& Int32.toUInt32 31)).toInt32 i = ib x (k + i) := by
  have e : (x.toUInt32 >>> ((nI k).toUInt32 &&& Int32.toUInt32 31)).toInt32.toBitVec = x.toBitVec >>> k := by
    show (x.toUInt32 >>> ((nI k).toUInt32 &&& Int32.toUInt32 31)).toBitVec = _
    rw [UInt32.toBitVec_shiftRight, sh_i k hk, BitVec.ushiftRight_eq', BitVec.toNat_ofNat]
    rw [Nat.mod_eq_of_lt (by omega)]
    rfl
  unfold ib
  rw [e, BitVec.getLsbD_ushiftRight]
theorem ib_0 (i : Nat) : ib 0 i = false := by simp [ib]
theorem iu_ask (m : Nat) {k : Nat} (hk : k < 32) : ((nI m).toUInt32 >>> ((nI k).toUInt32 &&& Int32.toUInt32 31)).toInt32 &&& nI 1 = 0 ↔ m.testBit k = false := by
  rw [← ib_nI m k hk]
  constructor
  · intro h
    have h1 : ib (((nI m).toUInt32 >>> ((nI k).toUInt32 &&& Int32.toUInt32 31)).toInt32 &&& nI 1) 0 = false := by rw [h, ib_0]
    rw [ib_and, ib_ushr _ hk, Nat.add_zero, show ib (nI 1) 0 = true from by decide, Bool.and_true] at h1
    exact h1
  · intro h
    apply ib_ext
    intro i hi
    rw [ib_and, ib_ushr _ hk, ib_nI 1 i hi, ib_0]
    by_cases e : i = 0
    · subst e; rw [Nat.add_zero, h]; rfl
    · rw [show (1 : Nat) = 2 ^ 0 from rfl, Nat.testBit_two_pow, decide_eq_false (by omega), Bool.and_false]
