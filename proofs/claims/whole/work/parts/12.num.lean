/-! ===== numbers ===== -/
def inR (x : Int32) (n : Nat) : Prop := ∃ k, k < n ∧ x = nI k
theorem inR_of {x : Int32} {n : Nat} (h0 : ¬ x < 0) (h1 : ¬ nI n ≤ x) (hn : n < 100000) : inR x n := by
  obtain ⟨j, hj, rfl⟩ := nI_of h0
  rw [nI_leI (by omega) hj] at h1
  exact ⟨j, by omega, rfl⟩
theorem inR_of' {x : Int32} {n : Nat} (h0 : ¬ x < 0) (h1 : x < nI n) (hn : n < 100000) : inR x n := by
  obtain ⟨j, hj, rfl⟩ := nI_of h0
  rw [nI_ltI hj (by omega)] at h1
  exact ⟨j, by omega, rfl⟩
theorem inR_lt {x : Int32} {n : Nat} (h : x < 0) (hn : n < 100000) : ¬ inR x n := by
  rintro ⟨k, hk, rfl⟩
  exact nI_pos (by omega) h
theorem inR_ge {x : Int32} {n : Nat} (h : nI n ≤ x) (hn : n < 100000) : ¬ inR x n := by
  rintro ⟨k, hk, rfl⟩
  rw [nI_leI (by omega) (by omega)] at h
  omega
theorem inR_ge' {x : Int32} {n : Nat} (h : ¬ x < nI n) (hn : n < 100000) : ¬ inR x n := by
  rintro ⟨k, hk, rfl⟩
  rw [nI_ltI (by omega) (by omega)] at h
  omega
theorem nI_inj {a b : Nat} (ha : a < 100000) (hb : b < 100000) (h : nI a = nI b) : a = b := (nI_eq (by omega) (by omega)).mp h
theorem nI_le' {a b : Nat} (ha : a < 100000) (hb : b < 100000) : nI a ≤ nI b ↔ a ≤ b := nI_leI (by omega) (by omega)
theorem nI_lt' {a b : Nat} (ha : a < 100000) (hb : b < 100000) : nI a < nI b ↔ a < b := nI_ltI (by omega) (by omega)
theorem nI_inc (a : Nat) : nI a + Int32.ofInt 1 = nI (a + 1) := nI_1 a
theorem nI_sub {a b : Nat} (h : b ≤ a) : nI a - nI b = nI (a - b) := pk_sub h
theorem nI_mul (a b : Nat) : nI a * nI b = nI (a * b) := pk_mul a b
theorem nI_dec {a : Nat} (h : 0 < a) : nI a + Int32.ofInt (-1) = nI (a - 1) := by
  obtain ⟨b, rfl⟩ : ∃ b, a = b + 1 := ⟨a - 1, by omega⟩
  exact pk_m1 b
/-- how many of the first n -/
def cnt (p : Nat → Bool) : Nat → Nat
  | 0 => 0
  | n + 1 => cnt p n + (if p n then 1 else 0)
theorem cnt_le (p : Nat → Bool) : ∀ n, cnt p n ≤ n
  | 0 => Nat.le_refl 0
  | n + 1 => by
    have := cnt_le p n
    simp only [cnt]
    split <;> omega
theorem cnt_cong {p q : Nat → Bool} : ∀ {n : Nat}, (∀ k, k < n → p k = q k) → cnt p n = cnt q n
  | 0, _ => rfl
  | n + 1, h => by simp only [cnt]; rw [cnt_cong (fun k hk => h k (by omega)), h n (by omega)]
theorem upd_same (f : Nat → Int32) (k : Nat) (v : Int32) : upd f k v k = v := if_pos rfl
theorem upd_ne (f : Nat → Int32) {k j : Nat} (v : Int32) (h : j ≠ k) : upd f k v j = f j := if_neg h
theorem updL_same (f : Nat → Int64) (k : Nat) (v : Int64) : vp_updL f k v k = v := if_pos rfl
theorem updL_ne (f : Nat → Int64) {k j : Nat} (v : Int64) (h : j ≠ k) : vp_updL f k v j = f j := if_neg h
theorem setI_at (σ : Mem) (c k : Nat) (v : Int32) : (setI σ c k v).1 c = upd (σ.1 c) k v := if_pos rfl
theorem setI_ne (σ : Mem) {c x : Nat} (k : Nat) (v : Int32) (h : x ≠ c) : (setI σ c k v).1 x = σ.1 x := if_neg h
theorem setI_2 (σ : Mem) (c k : Nat) (v : Int32) : (setI σ c k v).2 = σ.2 := rfl
theorem setJ_at (σ : Mem) (c k : Nat) (v : Int64) : (setJ σ c k v).2 c = vp_updL (σ.2 c) k v := if_pos rfl
theorem setJ_ne (σ : Mem) {c x : Nat} (k : Nat) (v : Int64) (h : x ≠ c) : (setJ σ c k v).2 x = σ.2 x := if_neg h
theorem setJ_1 (σ : Mem) (c k : Nat) (v : Int64) : (setJ σ c k v).1 = σ.1 := rfl
theorem setA_at (σ : Mem) (c : Nat) (f : Nat → Int32) : (setA σ c f).1 c = f := if_pos rfl
theorem setA_ne (σ : Mem) {c x : Nat} (f : Nat → Int32) (h : x ≠ c) : (setA σ c f).1 x = σ.1 x := if_neg h
theorem setA_2 (σ : Mem) (c : Nat) (f : Nat → Int32) : (setA σ c f).2 = σ.2 := rfl
theorem setB_at (σ : Mem) (c : Nat) (f : Nat → Int64) : (setB σ c f).2 c = f := if_pos rfl
theorem setB_ne (σ : Mem) {c x : Nat} (f : Nat → Int64) (h : x ≠ c) : (setB σ c f).2 x = σ.2 x := if_neg h
theorem setB_1 (σ : Mem) (c : Nat) (f : Nat → Int64) : (setB σ c f).1 = σ.1 := rfl
theorem setI_setA (σ : Mem) (c k : Nat) (v : Int32) : setI σ c k v = setA σ c (upd (σ.1 c) k v) := rfl
theorem setJ_setB (σ : Mem) (c k : Nat) (v : Int64) : setJ σ c k v = setB σ c (vp_updL (σ.2 c) k v) := rfl
theorem setA_setA (σ : Mem) (c : Nat) (f g : Nat → Int32) : setA (setA σ c f) c g = setA σ c g := by
  unfold setA
  congr 1
  funext x
  by_cases h : x = c <;> simp [h]
theorem setB_setB (σ : Mem) (c : Nat) (f g : Nat → Int64) : setB (setB σ c f) c g = setB σ c g := by
  unfold setB
  congr 1
  funext x
  by_cases h : x = c <;> simp [h]
theorem setA_self (σ : Mem) (c : Nat) : setA σ c (σ.1 c) = σ := by
  unfold setA
  refine Prod.ext ?_ rfl
  funext x
  by_cases h : x = c <;> simp [h]
theorem setB_self (σ : Mem) (c : Nat) : setB σ c (σ.2 c) = σ := by
  unfold setB
  refine Prod.ext rfl ?_
  funext x
  by_cases h : x = c <;> simp [h]
theorem dec1 (x : Int32) : x + Int32.ofInt (-1) = x - nI 1 := by
  rw [Int32.sub_eq_add_neg]
  congr 1
