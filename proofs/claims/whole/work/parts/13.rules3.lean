/-! ===== a switch of two; absolute differences; bits of days ===== -/
theorem sw_look01 {G : GG} {d : Nat} {M : MM} {pc : Nat} {L : List (Option Value)} {S : List Value} {σ : Mem} {Q : Option Value → Mem → Prop} {dflt a b : Int} {len : Nat} {x : Int32} {t0 t1 td : Nat} (hd : decode M.1 pc = .ok (.lookupswitch dflt #[(0, a), (1, b)], len)) (h0 : (pc : Int) + a = (t0 : Int)) (h1 : (pc : Int) + b = (t1 : Int)) (h2 : (pc : Int) + dflt = (td : Int)) (k0 : x = nI 0 → SW G d M t0 L S σ Q) (k1 : x = nI 1 → SW G d M t1 L S σ Q) (k2 : ¬ x = nI 0 → ¬ x = nI 1 → SW G d M td L S σ Q) : SW G d M pc L (.int x :: S) σ Q := by
  by_cases e0 : x = nI 0
  · refine sw_lookup hd (by rfl) (off := a) ?_ h0 (k0 e0)
    rw [e0]; rfl
  · by_cases e1 : x = nI 1
    · refine sw_lookup hd (by rfl) (off := b) ?_ h1 (k1 e1)
      rw [e1]; rfl
    · refine sw_lookup hd (by rfl) (off := dflt) ?_ h2 (k2 e0 e1)
      show Op.lookupswitch.offset [(0, a), (1, b)] dflt x.toInt = dflt
      rw [lv_osw (k := nI 0) e0 (by decide), lv_osw (k := nI 1) e1 (by decide)]
      rfl
def absD (a b : Nat) : Nat := if a < b then b - a else a - b
theorem absD_comm (a b : Nat) : absD a b = absD b a := by
  unfold absD
  split <;> split <;> omega
theorem abs_C {a b : Nat} (ha : a < 1000) (hb : b < 1000) : (if 0 ≤ nI a - nI b then nI a - nI b else 0 - (nI a - nI b)) = nI (absD a b) := by
  unfold absD
  by_cases h : a < b
  · have h1 := pk_sneg (a := a) (b := b) (by omega) h
    rw [if_neg (Int32.not_le.mpr h1), if_pos h, Int32.zero_sub, Int32.neg_sub, pk_sub (by omega)]
  · rw [if_neg h, pk_sub (by omega), if_pos (nI_pos' (by omega))]
theorem abs_M1 {a b : Nat} (ha : a < 1000) (hb : b < 1000) (h : 0 ≤ nI a - nI b) : nI a - nI b = nI (absD a b) := by
  have := abs_C ha hb
  rw [if_pos h] at this
  exact this
theorem abs_M2 {a b : Nat} (ha : a < 1000) (hb : b < 1000) (h : ¬ 0 ≤ nI a - nI b) : -(nI a - nI b) = nI (absD a b) := by
  have := abs_C ha hb
  rw [if_neg h, Int32.zero_sub] at this
  exact this
/-- the bits q k of those k < n that p has -/
def bts (p : Nat → Bool) (q : Nat → Nat) : Nat → Nat
  | 0 => 0
  | k + 1 => if p k then bts p q k ||| 2 ^ q k else bts p q k
theorem bts_lt {p : Nat → Bool} {q : Nat → Nat} {b : Nat} : ∀ {n : Nat}, (∀ k, k < n → p k = true → q k < b) → bts p q n < 2 ^ b
  | 0, _ => Nat.two_pow_pos b
  | n + 1, h => by
    have ih := bts_lt (n := n) (fun k hk => h k (by omega))
    rw [bts]
    split
    · next e => exact Nat.or_lt_two_pow ih (Nat.pow_lt_pow_right (by omega) (h n (by omega) e))
    · exact ih
theorem bts_bit (p : Nat → Bool) (q : Nat → Nat) (j : Nat) : ∀ n, (bts p q n).testBit j = true ↔ ∃ k, k < n ∧ p k = true ∧ q k = j
  | 0 => by simp [bts]
  | n + 1 => by
    have ih := bts_bit p q j n
    rw [bts]
    by_cases e : p n = true
    · rw [if_pos e, Nat.testBit_or, Nat.testBit_two_pow, Bool.or_eq_true, ih]
      constructor
      · rintro (⟨k, h1, h2, h3⟩ | h)
        · exact ⟨k, by omega, h2, h3⟩
        · exact ⟨n, by omega, e, of_decide_eq_true h⟩
      · rintro ⟨k, h1, h2, h3⟩
        by_cases hk : k = n
        · subst hk; exact Or.inr (decide_eq_true h3)
        · exact Or.inl ⟨k, by omega, h2, h3⟩
    · rw [if_neg e, ih]
      constructor
      · rintro ⟨k, h1, h2, h3⟩; exact ⟨k, by omega, h2, h3⟩
      · rintro ⟨k, h1, h2, h3⟩
        by_cases hk : k = n
        · subst hk; exact absurd h2 e
        · exact ⟨k, by omega, h2, h3⟩
