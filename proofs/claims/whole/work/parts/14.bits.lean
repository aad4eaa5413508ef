/-! ===== bits of longs ===== -/
def mb (x : Int64) (i : Nat) : Bool := x.toBitVec.getLsbD i
theorem mb_or (x y : Int64) (i : Nat) : mb (x ||| y) i = (mb x i || mb y i) := by simp [mb]
theorem mb_and (x y : Int64) (i : Nat) : mb (x &&& y) i = (mb x i && mb y i) := by simp [mb]
theorem mb_out (x : Int64) {i : Nat} (h : 64 ≤ i) : mb x i = false := BitVec.getLsbD_of_ge _ _ h
theorem mb_ext {x y : Int64} (h : ∀ i, i < 64 → mb x i = mb y i) : x = y := Int64.toBitVec_inj.mp (BitVec.eq_of_getLsbD_eq h)
theorem mb_0 (i : Nat) : mb 0 i = false := by simp [mb]
theorem mb_zero {x : Int64} : x = 0 ↔ ∀ i, i < 64 → mb x i = false := by
  constructor
  · rintro rfl i _; exact mb_0 i
  · intro h; exact mb_ext (fun i hi => by rw [h i hi, mb_0])
theorem mb_ne0 {x : Int64} : ¬ x = 0 ↔ ∃ i, i < 64 ∧ mb x i = true := by
  rw [mb_zero]
  constructor
  · intro h
    exact Classical.byContradiction (fun q => h (fun i hi => by
      cases e : mb x i with
      | false => rfl
      | true => exact absurd ⟨i, hi, e⟩ q))
  · rintro ⟨i, hi, e⟩ h
    rw [h i hi] at e; cases e
theorem sh_l : ∀ k, k < 64 → ((nI k).toInt64 &&& 63).toBitVec.smod 64 = BitVec.ofNat 64 k := by decide +kernel
theorem sh_u : ∀ k, k < 64 → ((nI k).toInt64.toUInt64 &&& Int64.toUInt64 63).toBitVec % 64 = BitVec.ofNat 64 k := by decide +kernel
theorem mb_shl (x : Int64) {k : Nat} (hk : k < 64) (i : Nat) : mb (x <<< ((nI k).toInt64 &&& 63)) i = (decide (i < 64) && !decide (i < k) && mb x (i - k)) := by
  have e : (x <<< ((nI k).toInt64 &&& 63)).toBitVec = x.toBitVec <<< k := by
    rw [Int64.toBitVec_shiftLeft, sh_l k hk, BitVec.shiftLeft_eq', BitVec.toNat_ofNat]
    rw [Nat.mod_eq_of_lt (by omega)]
  unfold mb
  rw [e, BitVec.getLsbD_shiftLeft]
theorem mb_ushr (x : Int64) {k : Nat} (hk : k < 64) (i : Nat) : mb (x.toUInt64 >>> ((nI k).toInt64.toUInt64 &&& Int64.toUInt64 63)).toInt64 i = mb x (k + i) := by
  have e : (x.toUInt64 >>> ((nI k).toInt64.toUInt64 &&& Int64.toUInt64 63)).toInt64.toBitVec = x.toBitVec >>> k := by
    show (x.toUInt64 >>> ((nI k).toInt64.toUInt64 &&& Int64.toUInt64 63)).toBitVec = _
    rw [UInt64.toBitVec_shiftRight, sh_u k hk, BitVec.ushiftRight_eq', BitVec.toNat_ofNat]
    rw [Nat.mod_eq_of_lt (by omega)]
    rfl
  unfold mb
  rw [e, BitVec.getLsbD_ushiftRight]
theorem mb_one (i : Nat) : mb 1 i = decide (i = 0) := by
  have : ∀ i, i < 64 → mb 1 i = decide (i = 0) := by decide +kernel
  by_cases h : i < 64
  · exact this i h
  · rw [mb_out _ (by omega), decide_eq_false (by omega)]
theorem mb_255 (i : Nat) : mb 255 i = decide (i < 8) := by
  have : ∀ i, i < 64 → mb 255 i = decide (i < 8) := by decide +kernel
  by_cases h : i < 64
  · exact this i h
  · rw [mb_out _ (by omega), decide_eq_false (by omega)]
theorem mb_40 (i : Nat) : mb 1099511627775 i = decide (i < 40) := by
  have : ∀ i, i < 64 → mb 1099511627775 i = decide (i < 40) := by decide +kernel
  by_cases h : i < 64
  · exact this i h
  · rw [mb_out _ (by omega), decide_eq_false (by omega)]
theorem mb_row (i : Nat) : mb 4311810305 i = decide (i < 40 ∧ i % 8 = 0) := by
  have : ∀ i, i < 64 → mb 4311810305 i = decide (i < 40 ∧ i % 8 = 0) := by decide +kernel
  by_cases h : i < 64
  · exact this i h
  · rw [mb_out _ (by omega), decide_eq_false (by omega)]
theorem mb_63 (i : Nat) : mb 63 i = decide (i < 6) := by
  have : ∀ i, i < 64 → mb 63 i = decide (i < 6) := by decide +kernel
  by_cases h : i < 64
  · exact this i h
  · rw [mb_out _ (by omega), decide_eq_false (by omega)]
theorem mb_32 (i : Nat) : mb 32 i = decide (i = 5) := by
  have : ∀ i, i < 64 → mb 32 i = decide (i = 5) := by decide +kernel
  by_cases h : i < 64
  · exact this i h
  · rw [mb_out _ (by omega), decide_eq_false (by omega)]
theorem mb_m1 {i : Nat} (h : i < 64) : mb (-1) i = true := by
  have : ∀ i, i < 64 → mb (-1) i = true := by decide +kernel
  exact this i h
/-- one bit -/
theorem mb_bit {k : Nat} (hk : k < 64) (i : Nat) : mb (1 <<< ((nI k).toInt64 &&& 63)) i = decide (i = k) := by
  rw [mb_shl _ hk, mb_one]
  by_cases h : i = k
  · subst h; simp [hk]
  · by_cases h2 : i < k
    · simp [h, h2]
    · have : ¬ i - k = 0 := by omega
      simp [h, this]
/-- a bit is asked for by a shift -/
theorem mb_ask (x : Int64) {k : Nat} (hk : k < 64) : ¬ ((x.toUInt64 >>> ((nI k).toInt64.toUInt64 &&& Int64.toUInt64 63)).toInt64 &&& 1) = 0 ↔ mb x k = true := by
  rw [mb_ne0]
  constructor
  · rintro ⟨i, hi, h⟩
    rw [mb_and, mb_ushr _ hk, mb_one, Bool.and_eq_true, decide_eq_true_iff] at h
    rw [h.2] at h
    exact h.1
  · intro h
    exact ⟨0, by omega, by rw [mb_and, mb_ushr _ hk, mb_one]; simpa using h⟩
/-- by a mask of one bit -/
theorem mb_mask {x e : Int64} {k : Nat} (hk : k < 64) (he : ∀ i, i < 64 → mb e i = decide (i = k)) : ¬ (x &&& e) = 0 ↔ mb x k = true := by
  rw [mb_ne0]
  constructor
  · rintro ⟨i, hi, h⟩
    rw [mb_and, he i hi, Bool.and_eq_true, decide_eq_true_iff] at h
    rw [← h.2]; exact h.1
  · intro h
    exact ⟨k, hk, by rw [mb_and, he k hk]; simpa using h⟩
/-- bits of small ints -/
theorem ib_ask : ∀ m, m < 1024 → ∀ k, k < 10 → (((nI m).toUInt32 >>> ((nI k).toUInt32 &&& Int32.toUInt32 31)).toInt32 &&& nI 1 = 0 ↔ m.testBit k = false) := by decide +kernel
