/-! ===== the text: tokens by where they begin; names; numbers ===== -/
def isBl (v : Int32) : Bool := decide (v = nI 32 ∨ v = nI 10)
def isLt (v : Int32) : Bool := decide (nI 97 ≤ v ∧ v ≤ nI 122)
def isDg (v : Int32) : Bool := decide (nI 48 ≤ v ∧ v ≤ nI 57)
/-- the end of a run -/
def rEf (p : Int32 → Bool) (T : Nat → Int32) (N : Nat) : Nat → Nat → Nat
  | 0, k => k
  | m + 1, k => if k < N ∧ p (T k) = true then rEf p T N m (k + 1) else k
def rE (p : Int32 → Bool) (T : Nat → Int32) (N k : Nat) : Nat := rEf p T N (N - k) k
theorem rE_go {p : Int32 → Bool} {T : Nat → Int32} {N k : Nat} (h : k < N) (hp : p (T k) = true) : rE p T N k = rE p T N (k + 1) := by
  unfold rE
  rw [show N - k = (N - (k + 1)) + 1 by omega]
  exact if_pos ⟨h, hp⟩
theorem rE_no {p : Int32 → Bool} {T : Nat → Int32} {N k : Nat} (h : ¬ (k < N ∧ p (T k) = true)) : rE p T N k = k := by
  unfold rE
  cases N - k with
  | zero => rfl
  | succ m => exact if_neg h
theorem rE_all {p : Int32 → Bool} {T : Nat → Int32} {N : Nat} : ∀ (m k : Nat), m = N - k → k ≤ N → k ≤ rE p T N k ∧ rE p T N k ≤ N ∧ (∀ i, k ≤ i → i < rE p T N k → p (T i) = true) := by
  intro m
  induction m with
  | zero =>
    intro k hm hk
    rw [rE_no (by omega)]
    exact ⟨Nat.le_refl _, hk, fun i h1 h2 => by omega⟩
  | succ m ih =>
    intro k hm hk
    by_cases h : k < N ∧ p (T k) = true
    · rw [rE_go h.1 h.2]
      obtain ⟨a, b, c⟩ := ih (k + 1) (by omega) (by omega)
      refine ⟨by omega, b, fun i h1 h2 => ?_⟩
      rcases Nat.eq_or_lt_of_le h1 with e | e
      · rw [← e]; exact h.2
      · exact c i e h2
    · rw [rE_no h]
      exact ⟨Nat.le_refl _, hk, fun i h1 h2 => by omega⟩
theorem rE_le {p : Int32 → Bool} {T : Nat → Int32} {N k : Nat} (h : k ≤ N) : k ≤ rE p T N k := (rE_all _ k rfl h).1
theorem rE_N {p : Int32 → Bool} {T : Nat → Int32} {N k : Nat} (h : k ≤ N) : rE p T N k ≤ N := (rE_all _ k rfl h).2.1
theorem rE_in {p : Int32 → Bool} {T : Nat → Int32} {N k : Nat} (h : k ≤ N) {i : Nat} (h1 : k ≤ i) (h2 : i < rE p T N k) : p (T i) = true := (rE_all _ k rfl h).2.2 i h1 h2
/-- kind, end, next beginning of the token that begins at s -/
def kdS (T : Nat → Int32) (N s : Nat) : Nat := if N ≤ s then 0 else if isLt (T s) = true then 1 else if isDg (T s) = true then 2 else if T s = nI 59 then 3 else 4
def eS (T : Nat → Int32) (N s : Nat) : Nat := if N ≤ s then s else if isLt (T s) = true then rE isLt T N s else if isDg (T s) = true then rE isDg T N s else s + 1
def nS (T : Nat → Int32) (N s : Nat) : Nat := rE isBl T N (eS T N s)
def lS (T : Nat → Int32) (N s : Nat) : Nat := eS T N s - s
theorem eS_N {T : Nat → Int32} {N s : Nat} (h : s ≤ N) : eS T N s ≤ N ∧ s ≤ eS T N s := by
  unfold eS
  split
  · exact ⟨h, Nat.le_refl _⟩
  · split
    · exact ⟨rE_N h, rE_le h⟩
    · split
      · exact ⟨rE_N h, rE_le h⟩
      · omega
theorem nS_N {T : Nat → Int32} {N s : Nat} (h : s ≤ N) : nS T N s ≤ N ∧ s ≤ nS T N s := by
  have h1 := eS_N (T := T) h
  exact ⟨rE_N h1.1, Nat.le_trans h1.2 (rE_le h1.1)⟩
theorem kdS_0 {T : Nat → Int32} {N s : Nat} : kdS T N s = 0 ↔ N ≤ s := by
  unfold kdS
  split
  · simp [*]
  · split
    · simp [*]
    · split
      · simp [*]
      · split <;> simp [*]
theorem eS_lt {T : Nat → Int32} {N s : Nat} (h : s < N) : s < eS T N s := by
  unfold eS
  rw [if_neg (by omega)]
  split
  · next h1 => rw [rE_go h h1]; have := rE_le (p := isLt) (T := T) (N := N) (k := s + 1) (by omega); omega
  · split
    · next h1 => rw [rE_go h h1]; have := rE_le (p := isDg) (T := T) (N := N) (k := s + 1) (by omega); omega
    · omega
theorem nS_lt {T : Nat → Int32} {N s : Nat} (h : s < N) : s < nS T N s := by
  have h1 := eS_lt (T := T) h
  have h2 := rE_le (p := isBl) (T := T) (N := N) (eS_N (T := T) (Nat.le_of_lt h)).1
  unfold nS
  omega
theorem kdS_1 {T : Nat → Int32} {N s : Nat} : kdS T N s = 1 ↔ s < N ∧ isLt (T s) = true := by
  unfold kdS
  by_cases h1 : N ≤ s
  · rw [if_pos h1]; constructor <;> intro q <;> omega
  rw [if_neg h1]
  by_cases h2 : isLt (T s) = true
  · rw [if_pos h2]; exact ⟨fun _ => ⟨by omega, h2⟩, fun _ => rfl⟩
  rw [if_neg h2]
  refine ⟨fun q => ?_, fun q => absurd q.2 h2⟩
  repeat' split at q
  all_goals omega
theorem kdS_2 {T : Nat → Int32} {N s : Nat} : kdS T N s = 2 ↔ s < N ∧ isLt (T s) = false ∧ isDg (T s) = true := by
  unfold kdS
  by_cases h1 : N ≤ s
  · rw [if_pos h1]; constructor <;> intro q <;> omega
  rw [if_neg h1]
  by_cases h2 : isLt (T s) = true
  · rw [if_pos h2]; exact ⟨fun q => by omega, fun q => by rw [h2] at q; cases q.2.1⟩
  rw [if_neg h2]
  by_cases h3 : isDg (T s) = true
  · rw [if_pos h3]; exact ⟨fun _ => ⟨by omega, by simpa using h2, h3⟩, fun _ => rfl⟩
  rw [if_neg h3]
  refine ⟨fun q => ?_, fun q => absurd q.2.2 h3⟩
  repeat' split at q
  all_goals omega
theorem eS_1 {T : Nat → Int32} {N s : Nat} (h : kdS T N s = 1) : eS T N s = rE isLt T N s := by
  have h1 := kdS_1.mp h
  unfold eS
  rw [if_neg (by omega), if_pos h1.2]
theorem eS_2 {T : Nat → Int32} {N s : Nat} (h : kdS T N s = 2) : eS T N s = rE isDg T N s := by
  have h1 := kdS_2.mp h
  unfold eS
  rw [if_neg (by omega), if_neg (by rw [h1.2.1]; simp), if_pos h1.2.2]
theorem w_lt {T : Nat → Int32} {N s : Nat} (h : kdS T N s = 1) {i : Nat} (hi : i < lS T N s) : isLt (T (s + i)) = true := by
  have h1 := kdS_1.mp h
  unfold lS at hi
  rw [eS_1 h] at hi
  exact rE_in (N := N) (k := s) (by omega) (by omega) (by omega)
theorem w_dg {T : Nat → Int32} {N s : Nat} (h : kdS T N s = 2) {i : Nat} (hi : i < lS T N s) : isDg (T (s + i)) = true := by
  have h1 := kdS_2.mp h
  unfold lS at hi
  rw [eS_2 h] at hi
  exact rE_in (N := N) (k := s) (by omega) (by omega) (by omega)
theorem isLt_nI {v : Int32} (h : isLt v = true) : ∃ c, 97 ≤ c ∧ c ≤ 122 ∧ v = nI c := by
  obtain ⟨h1, h2⟩ := of_decide_eq_true h
  have h0 : ¬ v < 0 := by
    intro z
    have := Int32.le_iff_toInt_le.mp h1
    have z' := Int32.lt_iff_toInt_lt.mp z
    rw [nI_toInt (by omega)] at this
    simp at z'
    omega
  obtain ⟨j, hj, rfl⟩ := nI_of h0
  have h1 := Int32.le_iff_toInt_le.mp h1
  have h2 := Int32.le_iff_toInt_le.mp h2
  rw [nI_toInt (by omega), nI_toInt (by omega)] at h1 h2
  exact ⟨j, by omega, by omega, rfl⟩
theorem isDg_nI {v : Int32} (h : isDg v = true) : ∃ c, 48 ≤ c ∧ c ≤ 57 ∧ v = nI c := by
  obtain ⟨h1, h2⟩ := of_decide_eq_true h
  have h0 : ¬ v < 0 := by
    intro z
    have := Int32.le_iff_toInt_le.mp h1
    have z' := Int32.lt_iff_toInt_lt.mp z
    rw [nI_toInt (by omega)] at this
    simp at z'
    omega
  obtain ⟨j, hj, rfl⟩ := nI_of h0
  have h1 := Int32.le_iff_toInt_le.mp h1
  have h2 := Int32.le_iff_toInt_le.mp h2
  rw [nI_toInt (by omega), nI_toInt (by omega)] at h1 h2
  exact ⟨j, by omega, by omega, rfl⟩
/-! a word's code, a number's value -/
def cdJ (T : Nat → Int32) (s : Nat) : Nat → Int64
  | 0 => 0
  | n + 1 => (cdJ T s n <<< ((nI 5).toInt64 &&& 63)) ||| (T (s + n) - nI 97 + nI 1).toInt64
def cdN (T : Nat → Int32) (s : Nat) : Nat → Nat
  | 0 => 0
  | n + 1 => 2 ^ 5 * cdN T s n + ((T (s + n)).toInt.toNat - 96)
def ndJ (T : Nat → Int32) (s : Nat) : Nat → Int64
  | 0 => 0
  | n + 1 => ndJ T s n * 10 + (T (s + n) - nI 48).toInt64
def ndN (T : Nat → Int32) (s : Nat) : Nat → Nat
  | 0 => 0
  | n + 1 => ndN T s n * 10 + ((T (s + n)).toInt.toNat - 48)
theorem mb_nat (a i : Nat) (hi : i < 64) : mb (Int64.ofNat a) i = a.testBit i := by
  unfold mb
  rw [Int64.toBitVec_ofNat']
  rw [BitVec.getLsbD_ofNat]
  simp [hi]
theorem nI_64 : ∀ c, c < 32 → (nI c).toInt64 = Int64.ofNat c := by decide +kernel
theorem nI_64m : ∀ c, c < 1000 → (nI c).toInt64 = Int64.ofNat c := by decide +kernel
theorem cd_nat {T : Nat → Int32} {s : Nat} : ∀ {n : Nat}, (∀ i, i < n → isLt (T (s + i)) = true) → cdJ T s n = Int64.ofNat (cdN T s n) := by
  intro n
  induction n with
  | zero => intro _; rfl
  | succ n ih =>
    intro h
    have ih := ih (fun i hi => h i (by omega))
    obtain ⟨c, c1, c2, ec⟩ := isLt_nI (h n (by omega))
    rw [cdJ, cdN, ih, ec, nI_toInt (by omega), nI_sub (by omega), nI_add, nI_64 (c - 97 + 1) (by omega)]
    apply mb_ext
    intro i hi
    rw [mb_or, mb_shl _ (by omega), mb_nat _ i hi, mb_nat _ i hi, show ((c : Int).toNat - 96) = c - 96 by omega, show c - 97 + 1 = c - 96 by omega, Nat.testBit_two_pow_mul_add _ (by omega)]
    by_cases h5 : i < 5
    · simp [h5]
    · have hz : (c - 96).testBit i = false := Nat.testBit_lt_two_pow (Nat.lt_of_lt_of_le (show c - 96 < 2 ^ 5 by omega) (Nat.pow_le_pow_right (by omega) (by omega)))
      rw [mb_nat _ _ (by omega)]
      simp [h5, hi, hz]
theorem cd_lt {T : Nat → Int32} {s : Nat} : ∀ {n : Nat}, (∀ i, i < n → isLt (T (s + i)) = true) → cdN T s n < 32 ^ n := by
  intro n
  induction n with
  | zero => intro _; exact Nat.one_pos
  | succ n ih =>
    intro h
    have ih := ih (fun i hi => h i (by omega))
    obtain ⟨c, c1, c2, ec⟩ := isLt_nI (h n (by omega))
    rw [cdN, ec, nI_toInt (by omega), Nat.pow_succ]
    omega
theorem cd_inj {T U : Nat → Int32} {s u : Nat} : ∀ {n m : Nat}, (∀ i, i < n → isLt (T (s + i)) = true) → (∀ i, i < m → isLt (U (u + i)) = true) → cdN T s n = cdN U u m → n = m ∧ ∀ i, i < n → T (s + i) = U (u + i) := by
  intro n
  induction n with
  | zero =>
    intro m _ h e
    cases m with
    | zero => exact ⟨rfl, fun i hi => by omega⟩
    | succ m =>
      obtain ⟨c, c1, c2, ec⟩ := isLt_nI (h m (by omega))
      rw [cdN, cdN, ec, nI_toInt (by omega)] at e
      omega
  | succ n ih =>
    intro m h1 h2 e
    obtain ⟨c, c1, c2, ec⟩ := isLt_nI (h1 n (by omega))
    cases m with
    | zero =>
      rw [cdN, cdN, ec, nI_toInt (by omega)] at e
      omega
    | succ m =>
      obtain ⟨b, b1, b2, eb⟩ := isLt_nI (h2 m (by omega))
      rw [cdN, cdN, ec, eb, nI_toInt (by omega), nI_toInt (by omega)] at e
      obtain ⟨q1, q2⟩ := ih (m := m) (fun i hi => h1 i (by omega)) (fun i hi => h2 i (by omega)) (by omega)
      refine ⟨by omega, fun i hi => ?_⟩
      rcases Nat.lt_or_ge i n with z | z
      · exact q2 i z
      · obtain rfl : i = n := by omega
        subst q1
        rw [ec, eb, show c = b by omega]
theorem nd_nat {T : Nat → Int32} {s : Nat} : ∀ {n : Nat}, (∀ i, i < n → isDg (T (s + i)) = true) → ndJ T s n = Int64.ofNat (ndN T s n) := by
  intro n
  induction n with
  | zero => intro _; rfl
  | succ n ih =>
    intro h
    have ih := ih (fun i hi => h i (by omega))
    obtain ⟨c, c1, c2, ec⟩ := isDg_nI (h n (by omega))
    rw [ndJ, ndN, ih, ec, nI_toInt (by omega), nI_sub (by omega), nI_64 _ (by omega), Int64.ofNat_add, Int64.ofNat_mul, show ((c : Int).toNat - 48) = c - 48 by omega]
    rfl
theorem nd_lt {T : Nat → Int32} {s : Nat} : ∀ {n : Nat}, (∀ i, i < n → isDg (T (s + i)) = true) → ndN T s n < 10 ^ n := by
  intro n
  induction n with
  | zero => intro _; exact Nat.one_pos
  | succ n ih =>
    intro h
    have ih := ih (fun i hi => h i (by omega))
    obtain ⟨c, c1, c2, ec⟩ := isDg_nI (h n (by omega))
    rw [ndN, ec, nI_toInt (by omega), Nat.pow_succ]
    omega
/-- what the class holds of a token -/
def vS (T : Nat → Int32) (N s : Nat) : Int64 := if kdS T N s = 1 then (if 8 < lS T N s then 0 else cdJ T s (lS T N s)) else if kdS T N s = 2 then ndJ T s (lS T N s) else 0
def wR : Nat → Int32 := fun i => if i = 0 then nI 114 else if i = 3 then nI 109 else nI 111
def wD : Nat → Int32 := fun i => if i = 0 then nI 100 else if i = 3 then nI 114 else nI 111
def isWd (T : Nat → Int32) (N : Nat) (w : Nat → Int32) (s : Nat) : Prop := kdS T N s = 1 ∧ lS T N s = 4 ∧ ∀ i, i < 4 → T (s + i) = w i
def isNm (T : Nat → Int32) (N s : Nat) : Prop := kdS T N s = 1 ∧ lS T N s ≤ 8 ∧ ¬ isWd T N wR s ∧ ¬ isWd T N wD s
def sam (T : Nat → Int32) (N a b : Nat) : Prop := lS T N a = lS T N b ∧ ∀ i, i < lS T N a → T (a + i) = T (b + i)
theorem of64 {a b : Nat} (ha : a < 2 ^ 63) (hb : b < 2 ^ 63) (h : Int64.ofNat a = Int64.ofNat b) : a = b := by
  have := congrArg (fun x => x.toBitVec.toNat) h
  simp only [Int64.toBitVec_ofNat', BitVec.toNat_ofNat] at this
  rwa [Nat.mod_eq_of_lt (by omega), Nat.mod_eq_of_lt (by omega)] at this
theorem p40 {n : Nat} (h : n ≤ 8) : (32 : Nat) ^ n < 2 ^ 63 := Nat.lt_of_le_of_lt (Nat.pow_le_pow_right (by omega) h) (by decide)
theorem wR_lt : ∀ i, i < 4 → isLt (wR (0 + i)) = true := by decide +kernel
theorem wD_lt : ∀ i, i < 4 → isLt (wD (0 + i)) = true := by decide +kernel
theorem cd_R : cdN wR 0 4 = 605677 := by decide +kernel
theorem cd_D : cdN wD 0 4 = 146930 := by decide +kernel
theorem lS_pos {T : Nat → Int32} {N s : Nat} (h : kdS T N s = 1) : 0 < lS T N s := by
  have := eS_lt (T := T) (kdS_1.mp h).1
  unfold lS
  omega
theorem vS_w {T : Nat → Int32} {N s : Nat} (h : kdS T N s = 1) (h8 : lS T N s ≤ 8) : vS T N s = Int64.ofNat (cdN T s (lS T N s)) := by
  unfold vS
  rw [if_pos h, if_neg (by omega)]
  exact cd_nat (fun i hi => w_lt h hi)
theorem cd_sm {T : Nat → Int32} {N s : Nat} (h : kdS T N s = 1) (h8 : lS T N s ≤ 8) : cdN T s (lS T N s) < 2 ^ 63 := Nat.lt_trans (cd_lt (fun i hi => w_lt h hi)) (p40 h8)
theorem vS_wd {T : Nat → Int32} {N s : Nat} {w : Nat → Int32} {c : Nat} (hc : 0 < c) (hc' : c < 2 ^ 63) (hw : ∀ i, i < 4 → isLt (w (0 + i)) = true) (hv : cdN w 0 4 = c) (h : kdS T N s = 1) : vS T N s = Int64.ofNat c ↔ isWd T N w s := by
  rcases Nat.lt_or_ge 8 (lS T N s) with h8 | h8
  · unfold vS
    rw [if_pos h, if_pos h8]
    constructor
    · intro e
      have := of64 (a := 0) (by omega) hc' e
      omega
    · intro q
      have := q.2.1
      omega
  · rw [vS_w h h8]
    constructor
    · intro e
      have := of64 (cd_sm h h8) hc' e
      rw [← hv] at this
      obtain ⟨a, b⟩ := cd_inj (fun i hi => w_lt h hi) hw this
      refine ⟨h, a, fun i hi => ?_⟩
      have := b i (by omega)
      rwa [Nat.zero_add] at this
    · intro ⟨_, e, q⟩
      rw [e, ← hv]
      congr 1
      have key : ∀ n, n ≤ 4 → cdN T s n = cdN w 0 n := by
        intro n
        induction n with
        | zero => intro _; rfl
        | succ n ih => intro hn; rw [cdN, cdN, ih (by omega), q n (by omega), Nat.zero_add]
      exact key 4 (Nat.le_refl _)
theorem vS_room {T : Nat → Int32} {N s : Nat} (h : kdS T N s = 1) : vS T N s = 605677 ↔ isWd T N wR s := vS_wd (c := 605677) (by omega) (by omega) wR_lt cd_R h
theorem vS_door {T : Nat → Int32} {N s : Nat} (h : kdS T N s = 1) : vS T N s = 146930 ↔ isWd T N wD s := vS_wd (c := 146930) (by omega) (by omega) wD_lt cd_D h
theorem vS_zero {T : Nat → Int32} {N s : Nat} (h : kdS T N s = 1) : vS T N s = 0 ↔ 8 < lS T N s := by
  rcases Nat.lt_or_ge 8 (lS T N s) with h8 | h8
  · unfold vS
    rw [if_pos h, if_pos h8]
    simp [h8]
  · rw [vS_w h h8]
    constructor
    · intro e
      have e := of64 (b := 0) (cd_sm h h8) (by omega) e
      have hp := lS_pos h
      obtain ⟨a, b⟩ := cd_inj (T := T) (U := T) (s := s) (u := s) (n := lS T N s) (m := 0) (fun i hi => w_lt h hi) (fun i hi => by omega) e
      omega
    · omega
theorem isNm_v {T : Nat → Int32} {N s : Nat} : isNm T N s ↔ (kdS T N s = 1 ∧ ¬ vS T N s = 0 ∧ ¬ vS T N s = 605677 ∧ ¬ vS T N s = 146930) := by
  constructor
  · intro ⟨h, a, b, c⟩
    exact ⟨h, by rw [vS_zero h]; omega, by rw [vS_room h]; exact b, by rw [vS_door h]; exact c⟩
  · intro ⟨h, a, b, c⟩
    rw [vS_zero h] at a
    rw [vS_room h] at b
    rw [vS_door h] at c
    exact ⟨h, by omega, b, c⟩
theorem vS_sam {T : Nat → Int32} {N a b : Nat} (ha : isNm T N a) (hb : isNm T N b) : vS T N a = vS T N b ↔ sam T N a b := by
  rw [vS_w ha.1 ha.2.1, vS_w hb.1 hb.2.1]
  constructor
  · intro e
    exact cd_inj (fun i hi => w_lt ha.1 hi) (fun i hi => w_lt hb.1 hi) (of64 (cd_sm ha.1 ha.2.1) (cd_sm hb.1 hb.2.1) e)
  · intro ⟨e, q⟩
    rw [← e]
    congr 1
    have key : ∀ n, n ≤ lS T N a → cdN T a n = cdN T b n := by
      intro n
      induction n with
      | zero => intro _; rfl
      | succ n ih => intro hn; rw [cdN, cdN, ih (by omega), q n (by omega)]
    exact key _ (Nat.le_refl _)
/-- what the model holds of a token -/
def mS (T : Nat → Int32) (N s : Nat) : Nat := if kdS T N s = 0 then 0 else if kdS T N s = 1 then (if 8 < lS T N s then 1 else 3) else if kdS T N s = 2 then (if 4 < lS T N s then 1 else 2) else if kdS T N s = 3 then 4 else 1
theorem kdS_le {T : Nat → Int32} {N s : Nat} : kdS T N s ≤ 4 := by
  unfold kdS
  repeat' split
  all_goals omega
theorem mS_3 {T : Nat → Int32} {N s : Nat} : mS T N s = 3 ↔ kdS T N s = 1 ∧ lS T N s ≤ 8 := by
  unfold mS
  repeat' split
  all_goals omega
theorem mS_2 {T : Nat → Int32} {N s : Nat} : mS T N s = 2 ↔ kdS T N s = 2 ∧ lS T N s ≤ 4 := by
  unfold mS
  repeat' split
  all_goals omega
theorem mS_4 {T : Nat → Int32} {N s : Nat} : mS T N s = 4 ↔ kdS T N s = 3 := by
  unfold mS
  repeat' split
  all_goals omega
theorem mS_0 {T : Nat → Int32} {N s : Nat} : mS T N s = 0 ↔ kdS T N s = 0 := by
  unfold mS
  repeat' split
  all_goals omega
theorem mS_le {T : Nat → Int32} {N s : Nat} : mS T N s ≤ 4 := by
  unfold mS
  repeat' split
  all_goals omega
theorem kn_lt {T : Nat → Int32} {N s : Nat} (h : kdS T N s = 2) (h4 : lS T N s ≤ 4) : ndN T s (lS T N s) < 10000 := Nat.lt_of_lt_of_le (nd_lt (fun i hi => w_dg h hi)) (Nat.pow_le_pow_right (by omega) h4)
theorem vS_n {T : Nat → Int32} {N s : Nat} (h : kdS T N s = 2) : vS T N s = Int64.ofNat (ndN T s (lS T N s)) := by
  unfold vS
  rw [if_neg (by omega), if_pos h]
  exact nd_nat (fun i hi => w_dg h hi)
theorem le64 {a b : Nat} (ha : a < 10000) (hb : b < 1000) : Int64.ofNat a ≤ (nI b).toInt64 ↔ a ≤ b := by
  rw [nI_64m b hb, Int64.le_iff_toInt_le, Int64.toInt_ofNat', Int64.toInt_ofNat', Int.bmod_eq_of_le (by omega) (by simp; omega), Int.bmod_eq_of_le (by omega) (by simp; omega)]
  omega
theorem to32 {a : Nat} : (Int64.ofNat a).toInt32 = nI a := by
  apply Int32.toBitVec_inj.mp
  simp [nI]
