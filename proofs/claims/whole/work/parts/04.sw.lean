/-! ===== values, locals ===== -/
def cv (G : GG) : Value → Value
  | .ref k => .ref (ga G k)
  | v => v
theorem cv_cat (G : GG) (v : Value) : (cv G v).category = v.category := by cases v <;> rfl
def lgt : List (Option Value) → Nat → Option Value
  | [], _ => none
  | a :: _, 0 => a
  | _ :: l, n + 1 => lgt l n
def klg : Option Value → Option Value
  | some (.long _) => none
  | some (.double _) => none
  | x => x
def ls1 : List (Option Value) → Nat → Value → List (Option Value)
  | [], _, _ => []
  | _ :: l, 0, v => some v :: l
  | a :: l, 1, v => klg a :: ls1 l 0 v
  | a :: l, n + 2, v => a :: ls1 l (n + 1) v
def ls2 : List (Option Value) → Nat → Value → List (Option Value)
  | a :: b :: l, 0, v => some v :: none :: l
  | a :: l, 1, v => klg a :: ls2 l 0 v
  | a :: l, n + 2, v => a :: ls2 l (n + 1) v
  | l, _, _ => l
theorem ls1_len : ∀ (L : List (Option Value)) (i : Nat) (v : Value), (ls1 L i v).length = L.length
  | [], _, _ => rfl
  | _ :: l, 0, v => rfl
  | a :: l, 1, v => by simp [ls1, ls1_len l 0 v]
  | a :: l, n + 2, v => by simp [ls1, ls1_len l (n + 1) v]
theorem ls2_len : ∀ (L : List (Option Value)) (i : Nat) (v : Value), (ls2 L i v).length = L.length
  | [], 0, _ => rfl
  | [], 1, _ => rfl
  | [], n + 2, _ => rfl
  | [a], 0, v => rfl
  | a :: b :: l, 0, v => rfl
  | a :: l, 1, v => by simp [ls2, ls2_len l 0 v]
  | a :: l, n + 2, v => by simp [ls2, ls2_len l (n + 1) v]
theorem lgt_out : ∀ (L : List (Option Value)) (i : Nat), L.length ≤ i → lgt L i = none
  | [], _, _ => rfl
  | a :: l, 0, h => by simp at h
  | a :: l, n + 1, h => lgt_out l n (by simpa using h)
theorem ls1_get : ∀ (L : List (Option Value)) (i : Nat) (v : Value) (j : Nat) (w : Value), lgt (ls1 L i v) j = some w → (j = i ∧ w = v) ∨ (j ≠ i ∧ lgt L j = some w ∧ ¬ (j + 1 = i ∧ w.category = 2))
  | [], _, _, _, _, h => by simp [ls1, lgt] at h
  | a :: l, 0, v, 0, w, h => by simp [ls1, lgt] at h; exact Or.inl ⟨rfl, h.symm⟩
  | a :: l, 0, v, j + 1, w, h => by
    simp only [ls1, lgt] at h ⊢
    exact Or.inr ⟨by omega, h, by omega⟩
  | a :: l, 1, v, 0, w, h => by
    simp only [ls1, lgt] at h ⊢
    refine Or.inr ⟨by omega, ?_, ?_⟩
    · cases a with
      | none => simp [klg] at h
      | some x => cases x <;> simp [klg] at h ⊢ <;> exact h
    · rintro ⟨-, hc⟩
      cases a with
      | none => simp [klg] at h
      | some x => cases x <;> simp [klg] at h <;> (subst h; simp [Value.category] at hc)
  | a :: l, 1, v, j + 1, w, h => by
    simp only [ls1, lgt] at h ⊢
    rcases ls1_get l 0 v j w h with ⟨h1, h2⟩ | ⟨h1, h2, h3⟩
    · exact Or.inl ⟨by omega, h2⟩
    · exact Or.inr ⟨by omega, h2, by omega⟩
  | a :: l, n + 2, v, 0, w, h => by
    simp only [ls1, lgt] at h ⊢
    exact Or.inr ⟨by omega, h, by omega⟩
  | a :: l, n + 2, v, j + 1, w, h => by
    simp only [ls1, lgt] at h ⊢
    rcases ls1_get l (n + 1) v j w h with ⟨h1, h2⟩ | ⟨h1, h2, h3⟩
    · exact Or.inl ⟨by omega, h2⟩
    · exact Or.inr ⟨by omega, h2, fun q => h3 ⟨by omega, q.2⟩⟩
theorem ls2_get : ∀ (L : List (Option Value)) (i : Nat) (v : Value) (j : Nat) (w : Value), i + 1 < L.length → lgt (ls2 L i v) j = some w → (j = i ∧ w = v) ∨ (j ≠ i ∧ j ≠ i + 1 ∧ lgt L j = some w ∧ ¬ (j + 1 = i ∧ w.category = 2))
  | [], _, _, _, _, hi, h => by simp at hi
  | [a], 0, _, _, _, hi, h => by simp at hi
  | a :: b :: l, 0, v, 0, w, hi, h => by simp [ls2, lgt] at h; exact Or.inl ⟨rfl, h.symm⟩
  | a :: b :: l, 0, v, 1, w, hi, h => by simp [ls2, lgt] at h
  | a :: b :: l, 0, v, j + 2, w, hi, h => by
    simp only [ls2, lgt] at h ⊢
    exact Or.inr ⟨by omega, by omega, h, by omega⟩
  | a :: l, 1, v, 0, w, hi, h => by
    simp only [ls2, lgt] at h ⊢
    refine Or.inr ⟨by omega, by omega, ?_, ?_⟩
    · cases a with
      | none => simp [klg] at h
      | some x => cases x <;> simp [klg] at h ⊢ <;> exact h
    · rintro ⟨-, hc⟩
      cases a with
      | none => simp [klg] at h
      | some x => cases x <;> simp [klg] at h <;> (subst h; simp [Value.category] at hc)
  | a :: l, 1, v, j + 1, w, hi, h => by
    simp only [ls2, lgt] at h ⊢
    rcases ls2_get l 0 v j w (by simp at hi ⊢; omega) h with ⟨h1, h2⟩ | ⟨h1, h2, h3, h4⟩
    · exact Or.inl ⟨by omega, h2⟩
    · exact Or.inr ⟨by omega, by omega, h3, by omega⟩
  | a :: l, n + 2, v, 0, w, hi, h => by
    simp only [ls2, lgt] at h ⊢
    exact Or.inr ⟨by omega, by omega, h, by omega⟩
  | a :: l, n + 2, v, j + 1, w, hi, h => by
    simp only [ls2, lgt] at h ⊢
    rcases ls2_get l (n + 1) v j w (by simp at hi ⊢; omega) h with ⟨h1, h2⟩ | ⟨h1, h2, h3, h4⟩
    · exact Or.inl ⟨by omega, h2⟩
    · exact Or.inr ⟨by omega, by omega, h3, fun q => h4 ⟨by omega, q.2⟩⟩
/-- the locals as pairs, from place k on -/
def lpr (G : GG) : Nat → List (Option Value) → List (Nat × Value)
  | _, [] => []
  | k, none :: l => lpr G (k + 1) l
  | k, some v :: l => (k, cv G v) :: lpr G (k + 1) l
theorem lpr_in (G : GG) : ∀ (L : List (Option Value)) (k i : Nat) (v : Value), lgt L i = some v → (k + i, cv G v) ∈ lpr G k L
  | [], _, _, _, h => by simp [lgt] at h
  | none :: l, k, 0, v, h => by simp [lgt] at h
  | some w :: l, k, 0, v, h => by simp [lgt] at h; subst h; simp [lpr]
  | none :: l, k, i + 1, v, h => by
    have := lpr_in G l (k + 1) i v h
    rw [show k + 1 + i = k + (i + 1) by omega] at this
    exact this
  | some w :: l, k, i + 1, v, h => by
    have := lpr_in G l (k + 1) i v h
    rw [show k + 1 + i = k + (i + 1) by omega] at this
    exact List.mem_cons_of_mem _ this
theorem lpr_out (G : GG) : ∀ (L : List (Option Value)) (k : Nat) (q : Nat × Value), q ∈ lpr G k L → ∃ (i : Nat) (v : Value), q = (k + i, cv G v) ∧ lgt L i = some v
  | [], _, _, h => by simp [lpr] at h
  | none :: l, k, q, h => by
    obtain ⟨i, v, h1, h2⟩ := lpr_out G l (k + 1) q h
    exact ⟨i + 1, v, by rw [h1]; congr 1; omega, h2⟩
  | some w :: l, k, q, h => by
    rcases List.mem_cons.mp h with h | h
    · exact ⟨0, w, h, rfl⟩
    · obtain ⟨i, v, h1, h2⟩ := lpr_out G l (k + 1) q h
      exact ⟨i + 1, v, by rw [h1]; congr 1; omega, h2⟩
def lvr (G : GG) (ls : Array Slot) (n : Nat) (L : List (Option Value)) : Prop := L.length = n ∧ lv_has ls n (lpr G 0 L)
theorem lvr_at {G : GG} {ls : Array Slot} {n : Nat} {L : List (Option Value)} (h : lvr G ls n L) {i : Nat} {v : Value} (hv : lgt L i = some v) : ls[i]? = some (.val (cv G v)) := by
  have := lpr_in G L 0 i v hv
  rw [Nat.zero_add] at this
  exact h.2.2.2 _ this
theorem lvr_lt {L : List (Option Value)} {i : Nat} {v : Value} (hv : lgt L i = some v) : i < L.length := by
  rcases Nat.lt_or_ge i L.length with h | h
  · exact h
  · rw [lgt_out L i h] at hv; cases hv
theorem lvr_of1 {G : GG} {ls' : Array Slot} {n : Nat} {L : List (Option Value)} {i : Nat} {v : Value} (h0 : L.length = n) (h : lv_has ls' n ((i, cv G v) :: (lpr G 0 L).filter (fun q => !(q.1 == i) && !(q.1 + 1 == i && q.2.category == 2)))) : lvr G ls' n (ls1 L i v) := by
  refine ⟨by rw [ls1_len]; exact h0, h.1, h.2.1, fun q hq => h.2.2 q ?_⟩
  obtain ⟨j, w, rfl, hw⟩ := lpr_out G _ _ _ hq
  simp only [Nat.zero_add] at *
  rcases ls1_get L i v j w hw with ⟨rfl, rfl⟩ | ⟨a1, a2, a3⟩
  · exact List.mem_cons_self
  · refine List.mem_cons_of_mem _ (List.mem_filter.mpr ⟨?_, ?_⟩)
    · have := lpr_in G L 0 j w a2
      rwa [Nat.zero_add] at this
    · simp only [cv_cat]
      simp [a1]
      exact Decidable.not_and_iff_or_not.mp a3
theorem lvr_of2 {G : GG} {ls' : Array Slot} {n : Nat} {L : List (Option Value)} {i : Nat} {v : Value} (h0 : L.length = n) (hi : i + 1 < L.length) (h : lv_has ls' n ((i, cv G v) :: (lpr G 0 L).filter (fun q => !(q.1 == i) && (!(q.1 == i + 1) && !(q.1 + 1 == i && q.2.category == 2))))) : lvr G ls' n (ls2 L i v) := by
  refine ⟨by rw [ls2_len]; exact h0, h.1, h.2.1, fun q hq => h.2.2 q ?_⟩
  obtain ⟨j, w, rfl, hw⟩ := lpr_out G _ _ _ hq
  simp only [Nat.zero_add] at *
  rcases ls2_get L i v j w hi hw with ⟨rfl, rfl⟩ | ⟨a1, a2, a3, a4⟩
  · exact List.mem_cons_self
  · refine List.mem_cons_of_mem _ (List.mem_filter.mpr ⟨?_, ?_⟩)
    · have := lpr_in G L 0 j w a3
      rwa [Nat.zero_add] at this
    · simp only [cv_cat]
      simp [a1, a2]
      exact Decidable.not_and_iff_or_not.mp a4
/-- a method's locals as it begins -/
def ent : Nat → List Value → List (Option Value)
  | n, [] => List.replicate n none
  | n, .long v :: vs => some (.long v) :: none :: ent (n - 2) vs
  | n, .double v :: vs => some (.double v) :: none :: ent (n - 2) vs
  | n, v :: vs => some v :: ent (n - 1) vs
def wds (vs : List Value) : Nat := (vs.map Value.category).sum
theorem ent_len : ∀ (n : Nat) (vs : List Value), wds vs ≤ n → (ent n vs).length = n
  | n, [], _ => by simp [ent]
  | n, v :: vs, h => by
    have hw : wds (v :: vs) = v.category + wds vs := by simp [wds]
    rw [hw] at h
    cases v <;> simp only [Value.category] at h <;> simp only [ent, List.length_cons] <;> rw [ent_len _ vs (by omega)] <;> omega
theorem ent_in (G : GG) : ∀ (vs : List Value) (n k i : Nat) (v : Value), lgt (ent n vs) i = some v → (k + i, cv G v) ∈ lv_args k (vs.map (cv G))
  | [], n, k, i, v, h => by
    exfalso
    have : ∀ (n i : Nat), lgt (List.replicate n none) i = none := by
      intro n
      induction n with
      | zero => intro i; rfl
      | succ n ih => intro i; cases i with
        | zero => rfl
        | succ i => exact ih i
    simp [ent, this] at h
  | w :: vs, n, k, i, v, h => by
    have two : (∃ m, ent n (w :: vs) = some w :: none :: ent m vs ∧ w.category = 2) ∨ (∃ m, ent n (w :: vs) = some w :: ent m vs ∧ w.category = 1) := by
      cases w <;> first | exact Or.inl ⟨_, rfl, rfl⟩ | exact Or.inr ⟨_, rfl, rfl⟩
    rcases two with ⟨m, e, hc⟩ | ⟨m, e, hc⟩
    · rw [e] at h
      simp only [List.map_cons, lv_args, cv_cat, hc, if_true]
      cases i with
      | zero => simp [lgt] at h; subst h; simp
      | succ i => cases i with
        | zero => simp [lgt] at h
        | succ i =>
          have := ent_in G vs m (k + 2) i v h
          rw [show k + 2 + i = k + (i + 1 + 1) by omega] at this
          exact List.mem_cons_of_mem _ this
    · rw [e] at h
      simp only [List.map_cons, lv_args, cv_cat, hc]
      cases i with
      | zero => simp [lgt] at h; subst h; simp
      | succ i =>
        have := ent_in G vs m (k + 1) i v h
        rw [show k + 1 + i = k + (i + 1) by omega] at this
        exact List.mem_cons_of_mem _ this
theorem sl_len (G : GG) (vs : List Value) : (lg_sl (vs.map (cv G))).length = wds vs := by
  induction vs with
  | nil => rfl
  | cons v vs ih =>
    have : lg_sl ((v :: vs).map (cv G)) = (if (cv G v).category = 2 then [.val (cv G v), .second] else [.val (cv G v)]) ++ lg_sl (vs.map (cv G)) := rfl
    rw [this, List.length_append, ih, cv_cat]
    simp only [wds, List.map_cons, List.sum_cons]
    rcases lv_cat v with h | h <;> simp [h]
theorem ent_ok (G : GG) {n : Nat} {vs : List Value} (h : wds vs ≤ n) : lvr G ((lg_sl (vs.map (cv G)) ++ List.replicate (n - (lg_sl (vs.map (cv G))).length) Slot.unset).toArray) n (ent n vs) := by
  have h1 := lv_entry (vs.map (cv G)) (n := n) (by rw [sl_len]; exact h)
  refine ⟨ent_len n vs h, h1.1, h1.2.1, fun q hq => h1.2.2 q ?_⟩
  obtain ⟨j, w, rfl, hw⟩ := lpr_out G _ _ _ hq
  exact ent_in G vs n 0 j w hw
