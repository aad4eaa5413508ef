/-! ===== what the logs give: passes in order, open doors, sights ===== -/
def inA (c : Nat → Bool) (x : Nat) : Nat → (Nat → Nat) → (Nat → Nat)
  | 0, f => fun i => if i = 0 then x else f i
  | a + 1, f => if c (f a) then inA c x a (fun i => if i = a + 1 then f a else f i) else (fun i => if i = a + 1 then x else f i)
theorem inA_Q {c : Nat → Bool} {x N : Nat} {Q : Nat → Prop} (hx : Q x) : ∀ (a : Nat) (f : Nat → Nat), a < N → (∀ i, i < N → i ≠ a → Q (f i)) → ∀ i, i < N → Q (inA c x a f i)
  | 0, f, _, h, i, hi => by
    unfold inA
    by_cases e : i = 0
    · simp only [e, if_true]; exact hx
    · simp only [e, if_false]; exact h i hi e
  | a + 1, f, ha, h, i, hi => by
    unfold inA
    split
    · refine inA_Q hx a _ (by omega) (fun j hj hne => ?_) i hi
      by_cases e : j = a + 1
      · simp only [e, if_true]; exact h a (by omega) (by omega)
      · simp only [e, if_false]; exact h j hj e
    · by_cases e : i = a + 1
      · simp only [e, if_true]; exact hx
      · simp only [e, if_false]; exact h i hi e
theorem inA_congr {c : Nat → Bool} {x N : Nat} : ∀ (a : Nat) (f f' : Nat → Nat), a < N → (∀ i, i < N → i ≠ a → f i = f' i) → ∀ i, i < N → inA c x a f i = inA c x a f' i
  | 0, f, f', _, h, i, hi => by
    unfold inA
    by_cases e : i = 0
    · simp only [e, if_true]
    · simp only [e, if_false]; exact h i hi e
  | a + 1, f, f', ha, h, i, hi => by
    unfold inA
    rw [h a (by omega) (by omega)]
    split
    · refine inA_congr a _ _ (by omega) (fun j hj hne => ?_) i hi
      by_cases e : j = a + 1
      · simp only [e, if_true]
      · simp only [e, if_false]; exact h j hj e
    · by_cases e : i = a + 1
      · simp only [e, if_true]
      · simp only [e, if_false]; exact h i hi e
/-- later than log k -/
def ltr (g : LG) (k v : Nat) : Bool := decide (lTK g k < lTK g v)
def pcN (g : LG) (y : Int32) (m : Nat) : Nat := cnt (pasB g y) m
/-- the passes of y among the first m logs, in order -/
def pfF (g : LG) (y : Int32) : Nat → (Nat → Nat)
  | 0 => fun _ => 0
  | k + 1 => if pasB g y k then inA (ltr g k) k (pcN g y k) (pfF g y k) else pfF g y k
theorem pfF_in (g : LG) (y : Int32) : ∀ (m i : Nat), i < pcN g y m → pfF g y m i < m ∧ pas g y (pfF g y m i)
  | 0, i, h => by simp [pcN, cnt] at h
  | m + 1, i, h => by
    have ih := pfF_in g y m
    unfold pfF
    by_cases e : pasB g y m = true
    · rw [if_pos e]
      have hc : pcN g y (m + 1) = pcN g y m + 1 := by simp [pcN, cnt, e]
      refine inA_Q (N := pcN g y m + 1) (Q := fun v => v < m + 1 ∧ pas g y v) ⟨by omega, pasB_iff.mp e⟩ _ _ (by omega) (fun j hj hne => ?_) i (by omega)
      have := ih j (by omega)
      exact ⟨by omega, this.2⟩
    · rw [if_neg e]
      have hc : pcN g y (m + 1) = pcN g y m := by simp [pcN, cnt, e]
      have := ih i (by omega)
      exact ⟨by omega, this.2⟩
/-- door dd is open in tick t behind m logs -/
def opn (P : PL) (g : LG) (m t dd : Nat) : Prop := ∃ k, k < m ∧ lKD g k = nI 1 ∧ nv (lTG g) k = dd ∧ nv (lTK g) k ≤ t + pE P dd ∧ t ≤ nv (lMO g) k + pE P dd
def skn (g : LG) (y : Int32) (m t rm : Nat) : Prop := ∀ k, k < m → lKD g k = nI 2 → lCA g k = y → nv (lTK g) k = t → nv (lTG g) k = rm
def tmn (P : PL) (g : LG) (k t : Nat) : Prop := nv (lTK g) k ≤ t + pE P (nv (lTG g) k) ∧ t ≤ nv (lTK g) k + pE P (nv (lTG g) k)
/-- the tables of card y behind m logs, with sights s -/
def wkG (P : PL) (g : LG) (y : Int32) (m : Nat) (s : Nat → Nat → Prop) : WK := (pcN g y m, fun i => lft P g (pfF g y m i), fun i => cmt P g (pfF g y m i), fun i t => tmn P g (pfF g y m i) t, opn P g m, s)
theorem LV.mono {P : PL} {nc n m : Nat} {g : LG} (h : LV P nc n g) (hm : m ≤ n) : LV P nc m g := fun k hk => h k (by omega)
theorem room_lt {P : PL} (hV : PV P) {nc n k : Nat} {g : LG} (hL : LV P nc n g) (hk : k < n) (h0 : lKD g k = 0) : lft P g k < pR P ∧ cmt P g k < pR P ∧ lft P g k ≠ cmt P g k := by
  obtain ⟨-, ⟨t1, t2⟩, -, -⟩ := hL.pass hk h0
  obtain ⟨h1, h2, h3, -⟩ := hV.2.2.2.1 _ t2
  unfold lft cmt
  split
  · exact ⟨h2, h1, h3.symm⟩
  · exact ⟨h1, h2, h3⟩
theorem wkG_V {P : PL} (hV : PV P) {nc n m : Nat} {g : LG} {y : Int32} (hL : LV P nc n g) (hm : m ≤ n) (h12 : pcN g y n ≤ 12) (s : Nat → Nat → Prop) : KV P (wkG P g y m s) ∧ KD (wkG P g y m s) := by
  have hmono : ∀ k, pcN g y m ≤ pcN g y (m + k) := by
    intro k
    induction k with
    | zero => exact Nat.le_refl _
    | succ k ih =>
      refine Nat.le_trans ih ?_
      show cnt _ (m + k) ≤ cnt _ (m + k + 1)
      simp only [cnt]
      omega
  have h1 : pcN g y m ≤ 12 := by
    have := hmono (n - m)
    rw [show m + (n - m) = n by omega] at this
    omega
  refine ⟨⟨h1, fun i hi => ?_⟩, fun i hi => ?_⟩
  · have q := pfF_in g y m i hi
    have r := room_lt hV hL (show pfF g y m i < n by omega) q.2.1
    exact ⟨r.1, r.2.1⟩
  · have q := pfF_in g y m i hi
    exact (room_lt hV hL (show pfF g y m i < n by omega) q.2.1).2.2
theorem tm_I {tk er t : Nat} (h1 : tk < 1000) (h2 : er < 100) (h3 : t < 1000) : (nI tk - nI er ≤ nI t ∧ nI t ≤ nI tk + nI er) ↔ (tk ≤ t + er ∧ t ≤ tk + er) := by
  rw [nI_add, nI_le' (by omega) (by omega)]
  refine and_congr ?_ Iff.rfl
  by_cases h : er ≤ tk
  · rw [nI_sub h, nI_le' (by omega) (by omega)]
    omega
  · have := pk_sneg (a := tk) (b := er) (by omega) (by omega)
    exact ⟨fun _ => by omega, fun _ => Int32.le_trans (Int32.le_of_lt this) (nI_pos' (by omega))⟩
theorem mx_I {a er : Nat} (h1 : a < 1000) (h2 : er < 100) : (if nI a - nI er < nI 0 then nI 0 else nI a - nI er) = nI (a - er) := by
  by_cases h : er ≤ a
  · rw [nI_sub h, if_neg (show ¬ nI (a - er) < nI 0 from nI_pos (by omega))]
  · rw [if_pos (show nI a - nI er < nI 0 from pk_sneg (by omega) (by omega)), show a - er = 0 by omega]
theorem mn_I {b er : Nat} (h1 : b < 1000) (h2 : er < 100) : (if nI 199 < nI b + nI er then nI 199 else nI b + nI er) = nI (min (b + er) 199) := by
  rw [nI_add]
  by_cases h : 199 < b + er
  · rw [if_pos ((nI_lt' (by omega) (by omega)).mpr h), show min (b + er) 199 = 199 by omega]
  · rw [if_neg (fun q => h ((nI_lt' (by omega) (by omega)).mp q)), show min (b + er) 199 = b + er by omega]
/-- the row of open doors holds what is open behind m logs -/
def ODm (τ : Mem) (P : PL) (g : LG) (m : Nat) : Prop := ∀ t, t < 200 → ∃ o, o < 1024 ∧ τ.1 41 t = nI o ∧ ∀ dd, dd < 10 → (o.testBit dd = true ↔ opn P g m t dd)
