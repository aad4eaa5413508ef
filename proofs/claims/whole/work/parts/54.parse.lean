/-! ===== what a text tells: rooms, doors, the first fault ===== -/
noncomputable def dB (p : Prop) : Bool := @decide p (Classical.propDecidable p)
theorem dB_t {p : Prop} : dB p = true ↔ p := by unfold dB; exact @decide_eq_true_iff p (Classical.propDecidable p)
theorem dB_f {p : Prop} : ¬ dB p = true ↔ ¬ p := not_congr dB_t
/-- the least place that has it, n if none has -/
def fnd (p : Nat → Bool) : Nat → Nat
  | 0 => 0
  | n + 1 => if fnd p n < n then fnd p n else if p n = true then n else n + 1
theorem fnd_all (p : Nat → Bool) : ∀ n, fnd p n ≤ n ∧ (fnd p n < n → p (fnd p n) = true) ∧ (∀ i, i < fnd p n → p i = false) := by
  intro n
  induction n with
  | zero => exact ⟨Nat.le_refl _, fun h => by simp [fnd] at h, fun i h => by simp [fnd] at h⟩
  | succ n ih =>
    obtain ⟨a, b, c⟩ := ih
    unfold fnd
    by_cases h : fnd p n < n
    · rw [if_pos h]
      exact ⟨by omega, fun _ => b h, c⟩
    · rw [if_neg h]
      have e : fnd p n = n := by omega
      rw [e] at c
      by_cases hn : p n = true
      · rw [if_pos hn]
        exact ⟨by omega, fun _ => hn, c⟩
      · rw [if_neg hn]
        refine ⟨by omega, fun q => by omega, fun i hi => ?_⟩
        rcases Nat.lt_or_ge i n with z | z
        · exact c i z
        · obtain rfl : i = n := by omega
          simpa using hn
theorem fnd_at {p : Nat → Bool} {n j : Nat} (hj : j < n) (hp : p j = true) (hf : ∀ i, i < j → p i = false) : fnd p n = j := by
  obtain ⟨a, b, c⟩ := fnd_all p n
  rcases Nat.lt_trichotomy (fnd p n) j with z | z | z
  · have := b (by omega)
    rw [hf _ z] at this
    cases this
  · exact z
  · have := c j z
    rw [hp] at this
    cases this
theorem fnd_no {p : Nat → Bool} {n : Nat} (hf : ∀ i, i < n → p i = false) : fnd p n = n := by
  obtain ⟨a, b, c⟩ := fnd_all p n
  rcases Nat.lt_or_ge (fnd p n) n with z | z
  · have := b z
    rw [hf _ z] at this
    cases this
  · omega
abbrev DR : Type := PL × (Nat → Nat) × (Nat → Nat)
abbrev rn (D : DR) : Nat → Nat := D.2.1
abbrev dn (D : DR) : Nat → Nat := D.2.2
def updN (f : Nat → Nat) (k v : Nat) : Nat → Nat := fun j => if j = k then v else f j
theorem updN_at (f : Nat → Nat) (k v : Nat) : updN f k v k = v := if_pos rfl
theorem updN_ne (f : Nat → Nat) {k j : Nat} (v : Nat) (h : j ≠ k) : updN f k v j = f j := if_neg h
def adR (D : DR) (s w : Nat) : DR := ((pR D.1 + 1, pD D.1, updN (pW D.1) (pR D.1) w, pF D.1, pS D.1, pE D.1), updN (rn D) (pR D.1) s, dn D)
def adD (D : DR) (s a b e : Nat) : DR := ((pR D.1, pD D.1 + 1, pW D.1, updN (pF D.1) (pD D.1) a, updN (pS D.1) (pD D.1) b, updN (pE D.1) (pD D.1) e), rn D, updN (dn D) (pD D.1) s)
def D0 : DR := ((0, 0, fun _ => 0, fun _ => 0, fun _ => 0, fun _ => 0), fun _ => 0, fun _ => 0)
section PARSE
variable (T : Nat → Int32) (N : Nat)
/-- a draft all of whose names are names, and whose numbers are in range -/
def GD (D : DR) : Prop := PV D.1 ∧ (∀ k, k < pR D.1 → isNm T N (rn D k)) ∧ (∀ k, k < pD D.1 → isNm T N (dn D k))
noncomputable def rmX (D : DR) (s : Nat) : Nat := fnd (fun k => dB (sam T N (rn D k) s)) (pR D.1)
noncomputable def ckN (D : DR) (s : Nat) : Nat := if dB (isNm T N s) = true then (if dB ((∃ k, k < pR D.1 ∧ sam T N (rn D k) s) ∨ (∃ k, k < pD D.1 ∧ sam T N (dn D k) s)) = true then 3 else 0) else 1
noncomputable def ckR (D : DR) (s o : Nat) : Nat := if dB (isNm T N s) = true then (if rmX T N D s = pR D.1 ∨ rmX T N D s = o then 4 else 0) else 1
def ckV (m s : Nat) : Nat := if kdS T N s = 2 ∧ lS T N s ≤ 4 then (if m < ndN T s (lS T N s) then 5 else 0) else 1
def ckS (s : Nat) : Nat := if kdS T N s = 3 then 0 else 1
def fh (a : Nat × Nat) (c s : Nat) : Nat × Nat := if a.1 = 0 then (if c = 0 then a else (c, s)) else a
def nvS (s : Nat) : Nat := ndN T s (lS T N s)
noncomputable def rmT (D : DR) (s : Nat) : (Nat × Nat) × DR × Nat :=
  if pR D.1 = 8 then ((2, s), D, s) else
    (fh (fh (fh (0, 0) (ckN T N D (nS T N s)) (nS T N s)) (ckV T N 4 (nS T N (nS T N s))) (nS T N (nS T N s))) (ckS T N (nS T N (nS T N (nS T N s)))) (nS T N (nS T N (nS T N s))),
      adR D (nS T N s) (nvS T N (nS T N (nS T N s))), nS T N (nS T N (nS T N (nS T N s))))
noncomputable def drT (D : DR) (s : Nat) : (Nat × Nat) × DR × Nat :=
  if pD D.1 = 10 then ((2, s), D, s) else
    (fh (fh (fh (fh (fh (0, 0) (ckN T N D (nS T N s)) (nS T N s))
        (ckR T N D (nS T N (nS T N s)) 99) (nS T N (nS T N s)))
        (ckR T N D (nS T N (nS T N (nS T N s))) (rmX T N D (nS T N (nS T N s)))) (nS T N (nS T N (nS T N s))))
        (ckV T N 6 (nS T N (nS T N (nS T N (nS T N s))))) (nS T N (nS T N (nS T N (nS T N s)))))
        (ckS T N (nS T N (nS T N (nS T N (nS T N (nS T N s)))))) (nS T N (nS T N (nS T N (nS T N (nS T N s))))),
      adD D (nS T N s) (rmX T N D (nS T N (nS T N s))) (rmX T N D (nS T N (nS T N (nS T N s)))) (nvS T N (nS T N (nS T N (nS T N (nS T N s))))),
      nS T N (nS T N (nS T N (nS T N (nS T N (nS T N s))))))
noncomputable def tng (D : DR) (s : Nat) : (Nat × Nat) × DR × Nat :=
  if dB (isWd T N wR s) = true then rmT T N D s else if dB (isWd T N wD s) = true then drT T N D s else ((1, s), D, s)
noncomputable def prs : Nat → DR → Nat → (Nat × Nat) × DR
  | 0, D, _ => ((0, 0), D)
  | m + 1, D, s => if kdS T N s = 0 then (if pR D.1 < 2 then (6, s) else (0, 0), D) else if (tng T N D s).1.1 = 0 then prs m (tng T N D s).2.1 (tng T N D s).2.2 else ((tng T N D s).1, D)
end PARSE
theorem fh_0 {a : Nat × Nat} {c s : Nat} : (fh a c s).1 = 0 ↔ (a.1 = 0 ∧ c = 0) := by
  unfold fh
  by_cases h : a.1 = 0
  · rw [if_pos h]
    by_cases hc : c = 0
    · rw [if_pos hc]; exact ⟨fun q => ⟨q, hc⟩, fun q => q.1⟩
    · rw [if_neg hc]; exact ⟨fun q => absurd q hc, fun q => absurd q.2 hc⟩
  · rw [if_neg h]; exact ⟨fun q => absurd q h, fun q => absurd q.1 h⟩
theorem fh_ok {a : Nat × Nat} {c s : Nat} (h : (fh a c s).1 = 0) : fh a c s = a := by
  have := fh_0.mp h
  unfold fh
  rw [if_pos this.1, if_pos this.2]
theorem fh_le {a : Nat × Nat} {c s : Nat} (ha : a.1 ≤ 6) (hc : c ≤ 6) : (fh a c s).1 ≤ 6 := by
  unfold fh
  split
  · split
    · exact ha
    · exact hc
  · exact ha
theorem fh_p {a : Nat × Nat} {c s : Nat} (ha : a.2 ≤ 600) (hc : s ≤ 600) : (fh a c s).2 ≤ 600 := by
  unfold fh
  split
  · split
    · exact ha
    · exact hc
  · exact ha
theorem fh_c0 (a : Nat × Nat) (s : Nat) : fh a 0 s = a := by unfold fh; simp
theorem fh_a {a : Nat × Nat} (h : ¬ a.1 = 0) (c s : Nat) : fh a c s = a := if_neg h
theorem fh_c {a : Nat × Nat} (h : a.1 = 0) {c : Nat} (hc : ¬ c = 0) (s : Nat) : fh a c s = (c, s) := by unfold fh; rw [if_pos h, if_neg hc]
section PARSE2
variable {T : Nat → Int32} {N : Nat}
theorem ckN_le {D : DR} {s : Nat} : ckN T N D s ≤ 6 := by
  unfold ckN
  repeat' split
  all_goals omega
theorem ckR_le {D : DR} {s o : Nat} : ckR T N D s o ≤ 6 := by
  unfold ckR
  repeat' split
  all_goals omega
theorem ckV_le {m s : Nat} : ckV T N m s ≤ 6 := by
  unfold ckV
  repeat' split
  all_goals omega
theorem ckS_le {s : Nat} : ckS T N s ≤ 6 := by
  unfold ckS
  repeat' split
  all_goals omega
theorem ckN_1 {D : DR} {s : Nat} (h : ¬ isNm T N s) : ckN T N D s = 1 := if_neg (dB_f.mpr h)
theorem ckN_3 {D : DR} {s : Nat} (h : isNm T N s) (h2 : (∃ k, k < pR D.1 ∧ sam T N (rn D k) s) ∨ (∃ k, k < pD D.1 ∧ sam T N (dn D k) s)) : ckN T N D s = 3 := by
  unfold ckN
  rw [if_pos (dB_t.mpr h), if_pos (dB_t.mpr h2)]
theorem ckN_0 {D : DR} {s : Nat} (h : isNm T N s) (h2 : ¬ ((∃ k, k < pR D.1 ∧ sam T N (rn D k) s) ∨ (∃ k, k < pD D.1 ∧ sam T N (dn D k) s))) : ckN T N D s = 0 := by
  unfold ckN
  rw [if_pos (dB_t.mpr h), if_neg (dB_f.mpr h2)]
theorem ckN_nm {D : DR} {s : Nat} (h : ckN T N D s = 0) : isNm T N s := by
  apply Classical.byContradiction
  intro q
  rw [ckN_1 q] at h
  cases h
theorem ckR_1 {D : DR} {s o : Nat} (h : ¬ isNm T N s) : ckR T N D s o = 1 := if_neg (dB_f.mpr h)
theorem ckR_4 {D : DR} {s o : Nat} (h : isNm T N s) (h2 : rmX T N D s = pR D.1 ∨ rmX T N D s = o) : ckR T N D s o = 4 := by
  unfold ckR
  rw [if_pos (dB_t.mpr h), if_pos h2]
theorem ckR_0 {D : DR} {s o : Nat} (h : isNm T N s) (h2 : ¬ (rmX T N D s = pR D.1 ∨ rmX T N D s = o)) : ckR T N D s o = 0 := by
  unfold ckR
  rw [if_pos (dB_t.mpr h), if_neg h2]
theorem rmX_le (D : DR) (s : Nat) : rmX T N D s ≤ pR D.1 := (fnd_all _ _).1
theorem ckR_z {D : DR} {s o : Nat} (h : ckR T N D s o = 0) : rmX T N D s < pR D.1 ∧ rmX T N D s ≠ o := by
  have h0 : isNm T N s := by
    apply Classical.byContradiction
    intro q
    rw [ckR_1 q] at h
    cases h
  have := rmX_le (T := T) (N := N) D s
  rcases Classical.em (rmX T N D s = pR D.1 ∨ rmX T N D s = o) with q | q
  · rw [ckR_4 h0 q] at h
    cases h
  · exact ⟨by omega, fun z => q (Or.inr z)⟩
theorem ckV_z {m s : Nat} (h : ckV T N m s = 0) : kdS T N s = 2 ∧ lS T N s ≤ 4 ∧ nvS T N s ≤ m := by
  unfold ckV at h
  split at h
  · next h1 =>
    split at h
    · omega
    · exact ⟨h1.1, h1.2, by unfold nvS; omega⟩
  · omega
theorem GD_0 : GD T N D0 := ⟨⟨by show 0 ≤ 8; omega, by show 0 ≤ 10; omega, fun k hk => absurd hk (Nat.not_lt_zero _), fun k hk => absurd hk (Nat.not_lt_zero _), fun _ => rfl⟩, fun k hk => absurd hk (Nat.not_lt_zero _), fun k hk => absurd hk (Nat.not_lt_zero _)⟩
theorem GD_R {D : DR} {s w : Nat} (h : GD T N D) (h8 : pR D.1 < 8) (hn : isNm T N s) (hw : w ≤ 4) : GD T N (adR D s w) := by
  obtain ⟨⟨p1, p2, p3, p4, p5⟩, q1, q2⟩ := h
  refine ⟨⟨?_, p2, fun k hk => ?_, fun k hk => ?_, fun e => ?_⟩, fun k hk => ?_, q2⟩
  · show pR D.1 + 1 ≤ 8
    omega
  · show updN (pW D.1) (pR D.1) w k ≤ 4
    have hk : k < pR D.1 + 1 := hk
    rcases Nat.lt_or_ge k (pR D.1) with z | z
    · rw [updN_ne _ _ (by omega)]; exact p3 k z
    · obtain rfl : k = pR D.1 := by omega
      rw [updN_at]; exact hw
  · have := p4 k hk
    exact ⟨Nat.lt_succ_of_lt this.1, Nat.lt_succ_of_lt this.2.1, this.2.2⟩
  · cases e
  · show isNm T N (updN (rn D) (pR D.1) s k)
    have hk : k < pR D.1 + 1 := hk
    rcases Nat.lt_or_ge k (pR D.1) with z | z
    · rw [updN_ne _ _ (by omega)]; exact q1 k z
    · obtain rfl : k = pR D.1 := by omega
      rw [updN_at]; exact hn
theorem GD_D {D : DR} {s a b e : Nat} (h : GD T N D) (h8 : pD D.1 < 10) (hn : isNm T N s) (ha : a < pR D.1) (hb : b < pR D.1) (hab : a ≠ b) (he : e ≤ 6) : GD T N (adD D s a b e) := by
  obtain ⟨⟨p1, p2, p3, p4, p5⟩, q1, q2⟩ := h
  refine ⟨⟨p1, ?_, p3, fun k hk => ?_, fun z => ?_⟩, q1, fun k hk => ?_⟩
  · show pD D.1 + 1 ≤ 10
    omega
  · show updN (pF D.1) (pD D.1) a k < pR D.1 ∧ updN (pS D.1) (pD D.1) b k < pR D.1 ∧ updN (pF D.1) (pD D.1) a k ≠ updN (pS D.1) (pD D.1) b k ∧ updN (pE D.1) (pD D.1) e k ≤ 6
    have hk : k < pD D.1 + 1 := hk
    rcases Nat.lt_or_ge k (pD D.1) with z | z
    · rw [updN_ne _ _ (by omega), updN_ne _ _ (by omega), updN_ne _ _ (by omega)]; exact p4 k z
    · obtain rfl : k = pD D.1 := by omega
      rw [updN_at, updN_at, updN_at]; exact ⟨ha, hb, hab, he⟩
  · have z : pR D.1 = 0 := z
    omega
  · show isNm T N (updN (dn D) (pD D.1) s k)
    have hk : k < pD D.1 + 1 := hk
    rcases Nat.lt_or_ge k (pD D.1) with z | z
    · rw [updN_ne _ _ (by omega)]; exact q2 k z
    · obtain rfl : k = pD D.1 := by omega
      rw [updN_at]; exact hn
/-- a thing that is well told: what it gives is a good draft, and the next token lies further on -/
theorem tng_ok {D : DR} {s : Nat} (hD : GD T N D) (hs : s < N) (h : (tng T N D s).1.1 = 0) : GD T N (tng T N D s).2.1 ∧ s < (tng T N D s).2.2 ∧ (tng T N D s).2.2 ≤ N := by
  have a1 := nS_N (T := T) (Nat.le_of_lt hs)
  have a0 := nS_lt (T := T) hs
  have a2 := nS_N (T := T) a1.1
  have a3 := nS_N (T := T) a2.1
  have a4 := nS_N (T := T) a3.1
  have a5 := nS_N (T := T) a4.1
  have a6 := nS_N (T := T) a5.1
  have p1 := hD.1.1
  have p2 := hD.1.2.1
  unfold tng at h ⊢
  split
  · next c1 =>
    rw [if_pos c1] at h
    unfold rmT at h ⊢
    split
    · next c2 => rw [if_pos c2] at h; cases h
    · next c2 =>
      rw [if_neg c2] at h
      obtain ⟨h1, h2⟩ := fh_0.mp h
      obtain ⟨h1, h3⟩ := fh_0.mp h1
      obtain ⟨h1, h4⟩ := fh_0.mp h1
      exact ⟨GD_R hD (by omega) (ckN_nm h4) (ckV_z h3).2.2, by show s < nS T N (nS T N (nS T N (nS T N s))); omega, by show nS T N (nS T N (nS T N (nS T N s))) ≤ N; omega⟩
  · next c1 =>
    rw [if_neg c1] at h
    split
    · next c3 =>
      rw [if_pos c3] at h
      unfold drT at h ⊢
      split
      · next c2 => rw [if_pos c2] at h; cases h
      · next c2 =>
        rw [if_neg c2] at h
        obtain ⟨h1, h2⟩ := fh_0.mp h
        obtain ⟨h1, h3⟩ := fh_0.mp h1
        obtain ⟨h1, h4⟩ := fh_0.mp h1
        obtain ⟨h1, h5⟩ := fh_0.mp h1
        obtain ⟨h1, h6⟩ := fh_0.mp h1
        exact ⟨GD_D hD (by omega) (ckN_nm h6) (ckR_z h5).1 (ckR_z h4).1 (ckR_z h4).2.symm (ckV_z h3).2.2, by show s < nS T N (nS T N (nS T N (nS T N (nS T N (nS T N s))))); omega, by show nS T N (nS T N (nS T N (nS T N (nS T N (nS T N s))))) ≤ N; omega⟩
    · next c3 => rw [if_neg c3] at h; cases h
theorem prs_GD : ∀ (m : Nat) {D : DR} {s : Nat}, GD T N D → s ≤ N → N - s < m → ((prs T N m D s).1.1 = 0 → GD T N (prs T N m D s).2 ∧ 2 ≤ pR (prs T N m D s).2.1) ∧ (prs T N m D s).1.1 ≤ 6 := by
  intro m
  induction m with
  | zero => intro D s hD hs hm; omega
  | succ m ih =>
    intro D s hD hs hm
    unfold prs
    by_cases h0 : kdS T N s = 0
    · rw [if_pos h0]
      by_cases h2 : pR D.1 < 2
      · rw [if_pos h2]; exact ⟨fun q => absurd (show (6 : Nat) = 0 from q) (by decide), Nat.le_refl 6⟩
      · rw [if_neg h2]; exact ⟨fun _ => ⟨hD, Nat.le_of_not_lt h2⟩, Nat.zero_le 6⟩
    · rw [if_neg h0]
      have hs' : s < N := by
        have := mt kdS_0.mpr h0
        omega
      by_cases h3 : (tng T N D s).1.1 = 0
      · rw [if_pos h3]
        have := tng_ok hD hs' h3
        exact ih this.1 this.2.2 (by omega)
      · rw [if_neg h3]
        refine ⟨fun q => absurd q h3, ?_⟩
        show (tng T N D s).1.1 ≤ 6
        unfold tng
        split
        · unfold rmT
          split
          · exact Nat.le_of_ble_eq_true rfl
          · exact fh_le (fh_le (fh_le (by decide) ckN_le) ckV_le) ckS_le
        · split
          · unfold drT
            split
            · exact Nat.le_of_ble_eq_true rfl
            · exact fh_le (fh_le (fh_le (fh_le (fh_le (by decide) ckN_le) ckR_le) ckR_le) ckV_le) ckS_le
          · exact Nat.le_of_ble_eq_true rfl
end PARSE2
