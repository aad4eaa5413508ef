/-! ===== what was known behind m logs doesn't change when logs come behind ===== -/
def KE (K K' : WK) : Prop := kN K = kN K' ∧ (∀ i, i < kN K → kL K i = kL K' i ∧ kC K i = kC K' i ∧ ∀ t, kT K i t ↔ kT K' i t) ∧ (∀ t dd, kO K t dd ↔ kO K' t dd) ∧ (∀ t rm, kS K t rm ↔ kS K' t rm)
section CONG
variable {P : PL} {K K' : WK}
theorem KE_sy (h : KE K K') : KE K' K := ⟨h.1.symm, fun i hi => ⟨(h.2.1 i (by rw [h.1]; exact hi)).1.symm, (h.2.1 i (by rw [h.1]; exact hi)).2.1.symm, fun t => ((h.2.1 i (by rw [h.1]; exact hi)).2.2 t).symm⟩, fun t dd => (h.2.2.1 t dd).symm, fun t rm => (h.2.2.2 t rm).symm⟩
theorem stp_E1 (h : KE K K') {t j rm a j' rm' a' : Nat} (q : stp P K t j rm a j' rm' a') : stp P K' t j rm a j' rm' a' := by
  rcases q with q | ⟨q1, q2, q3, dd, q4, q5, q6⟩ | ⟨q1, q2, q3, q4, q5, q6, q7⟩
  · exact Or.inl q
  · exact Or.inr (Or.inl ⟨q1, q2, q3, dd, q4, (h.2.2.1 t dd).mp q5, q6⟩)
  · obtain ⟨e1, e2, e3⟩ := h.2.1 j q3
    exact Or.inr (Or.inr ⟨q1, q2, by rw [← h.1]; exact q3, q4, (e3 t).mp q5, by rw [← e1]; exact q6, by rw [← e2]; exact q7⟩)
theorem stp_E (h : KE K K') {t j rm a j' rm' a' : Nat} : stp P K t j rm a j' rm' a' ↔ stp P K' t j rm a j' rm' a' := ⟨stp_E1 h, stp_E1 (KE_sy h)⟩
theorem rch_E1 (h : KE K K') : ∀ (t j rm a : Nat), rch P K t j rm a → rch P K' t j rm a
  | 0, _, _, _, q => q
  | t + 1, j', rm', a', ⟨q0, j, rm, a, q1, q2⟩ => ⟨(h.2.2.2 t rm').mp q0, j, rm, a, rch_E1 h t j rm a q1, stp_E1 h q2⟩
theorem hop_E1 (h : KE K K') : ∀ (r j rm a : Nat), hop P K r j rm a → hop P K' r j rm a
  | 0, j, rm, a, q => ⟨(h.2.2.2 199 rm).mp q.1, by rw [q.2]; exact h.1⟩
  | r + 1, j, rm, a, ⟨q0, j', rm', a', q1, q2⟩ => ⟨(h.2.2.2 _ rm).mp q0, j', rm', a', stp_E1 h q1, hop_E1 h r j' rm' a' q2⟩
theorem can_E (h : KE K K') (t rm : Nat) : can P K t rm ↔ can P K' t rm :=
  ⟨fun ⟨j, a, q1, q2⟩ => ⟨j, a, rch_E1 h _ _ _ _ q1, hop_E1 h _ _ _ _ q2⟩, fun ⟨j, a, q1, q2⟩ => ⟨j, a, rch_E1 (KE_sy h) _ _ _ _ q1, hop_E1 (KE_sy h) _ _ _ _ q2⟩⟩
theorem fit_E1 (h : KE K K') {ρ : Nat → Nat} : ∀ (t j a : Nat), fit P K ρ t j a → fit P K' ρ t j a
  | 0, _, _, q => q
  | t + 1, j', a', ⟨⟨j, a, q1, q2⟩, q3⟩ => ⟨⟨j, a, fit_E1 h t j a q1, stp_E1 h q2⟩, hop_E1 h _ _ _ _ q3⟩
theorem cand_E1 (h : KE K K') {ρ : Nat → Nat} {t r : Nat} (q : cand P K ρ t r) : cand P K' ρ t r := by
  obtain ⟨j', a', ⟨j, a, q1, q2⟩, q3⟩ := q
  exact ⟨j', a', ⟨j, a, fit_E1 h _ _ _ q1, stp_E1 h q2⟩, hop_E1 h _ _ _ _ q3⟩
theorem least_E1 (h : KE K K') {ρ : Nat → Nat} {t : Nat} (q : leastAt P K ρ t) : leastAt P K' ρ t := ⟨cand_E1 h q.1, fun r hr z => q.2 r hr (cand_E1 (KE_sy h) z)⟩
theorem hop0_E1 (h : KE K K') (q : hop0 P K) : hop0 P K' := by
  obtain ⟨j', rm', a', q1, q2⟩ := q
  exact ⟨j', rm', a', stp_E1 h q1, hop_E1 h _ _ _ _ q2⟩
end CONG
/-- two rows of logs that are alike below m -/
def gA (m : Nat) (g g' : LG) : Prop := ∀ k, k < m → lKD g k = lKD g' k ∧ lCA g k = lCA g' k ∧ lTG g k = lTG g' k ∧ lTK g k = lTK g' k ∧ lMO g k = lMO g' k
theorem gA_sy {m : Nat} {g g' : LG} (h : gA m g g') : gA m g' g := fun k hk => ⟨(h k hk).1.symm, (h k hk).2.1.symm, (h k hk).2.2.1.symm, (h k hk).2.2.2.1.symm, (h k hk).2.2.2.2.symm⟩
theorem gA_le {m m' : Nat} {g g' : LG} (h : gA m g g') (hm : m' ≤ m) : gA m' g g' := fun k hk => h k (by omega)
theorem inA_c {c c' : Nat → Bool} {x : Nat} : ∀ (a : Nat) (f : Nat → Nat), (∀ i, i < a → c (f i) = c' (f i)) → inA c x a f = inA c' x a f
  | 0, f, _ => rfl
  | a + 1, f, h => by
    unfold inA
    rw [h a (by omega)]
    split
    · exact inA_c a _ (fun i hi => by rw [if_neg (show ¬ i = a + 1 by omega)]; exact h i (by omega))
    · rfl
section GA
variable {P : PL} {g g' : LG} {y : Int32}
theorem pasB_A {m k : Nat} (h : gA m g g') (hk : k < m) : pasB g y k = pasB g' y k := by
  unfold pasB
  rw [(h k hk).1, (h k hk).2.1]
theorem pcN_A {m : Nat} (h : gA m g g') : pcN g y m = pcN g' y m := cnt_cong (fun k hk => pasB_A h hk)
theorem pfF_A : ∀ (m : Nat), gA m g g' → pfF g y m = pfF g' y m
  | 0, _ => rfl
  | m + 1, h => by
    have h' := gA_le h (Nat.le_succ m)
    unfold pfF
    rw [pfF_A m h', pcN_A (y := y) h', pasB_A (y := y) h (Nat.lt_succ_self m)]
    split
    · refine inA_c _ _ (fun i hi => ?_)
      have := (pfF_in g' y m i hi).1
      unfold ltr
      rw [(h m (Nat.lt_succ_self m)).2.2.2.1, (h _ (by omega)).2.2.2.1]
    · rfl
theorem opn_A1 {m t dd : Nat} (h : gA m g g') (q : opn P g m t dd) : opn P g' m t dd := by
  obtain ⟨k, hk, q1, q2, q3, q4⟩ := q
  obtain ⟨e1, e2, e3, e4, e5⟩ := h k hk
  refine ⟨k, hk, by rw [← e1]; exact q1, ?_, ?_, ?_⟩
  · unfold nv; rw [← e3]; exact q2
  · unfold nv; rw [← e4]; exact q3
  · unfold nv; rw [← e5]; exact q4
theorem opn_A {m t dd : Nat} (h : gA m g g') : opn P g m t dd ↔ opn P g' m t dd := ⟨opn_A1 h, opn_A1 (gA_sy h)⟩
theorem skn_A1 {m t rm : Nat} (h : gA m g g') (q : skn g y m t rm) : skn g' y m t rm := by
  intro k hk q1 q2 q3
  obtain ⟨e1, e2, e3, e4, e5⟩ := h k hk
  have := q k hk (by rw [e1]; exact q1) (by rw [e2]; exact q2) (by unfold nv; rw [e4]; exact q3)
  unfold nv at this ⊢
  rw [← e3]; exact this
theorem skn_A {m t rm : Nat} (h : gA m g g') : skn g y m t rm ↔ skn g' y m t rm := ⟨skn_A1 h, skn_A1 (gA_sy h)⟩
theorem wkG_A {m : Nat} {s s' : Nat → Nat → Prop} (h : gA m g g') (hs : ∀ t rm, s t rm ↔ s' t rm) : KE (wkG P g y m s) (wkG P g' y m s') := by
  refine ⟨pcN_A h, fun i hi => ?_, fun t dd => opn_A h, hs⟩
  have hl := (pfF_in g y m i hi).1
  obtain ⟨e1, e2, e3, e4, e5⟩ := h _ hl
  have ef : pfF g' y m i = pfF g y m i := by rw [pfF_A m h]
  refine ⟨?_, ?_, fun t => ?_⟩
  · show lft P g (pfF g y m i) = lft P g' (pfF g' y m i)
    rw [ef]; unfold lft nv; rw [e5, e3]
  · show cmt P g (pfF g y m i) = cmt P g' (pfF g' y m i)
    rw [ef]; unfold cmt nv; rw [e5, e3]
  · show tmn P g (pfF g y m i) t ↔ tmn P g' (pfF g' y m i) t
    rw [ef]; unfold tmn nv; rw [e4, e3]
theorem roomsV_A {m t : Nat} (h : gA m g g') : roomsV P g y m t = roomsV P g' y m t := by
  unfold roomsV
  congr 1
  funext rm
  exact propext (can_E (wkG_A h (fun t rm => skn_A h)) t rm)
theorem wkW_A {m t0 r0 : Nat} (h : gA m g g') : KE (wkW P g y m t0 r0) (wkW P g' y m t0 r0) := wkG_A h (fun t rm => and_congr (skn_A h) Iff.rfl)
theorem CI_A {σ : Mem} {n n' : Nat} (hn : n ≤ n') (h : gA n g g') (q : CI σ P g n) : CI σ P g' n' := by
  obtain ⟨q1, q2, q3, q4⟩ := q
  refine ⟨?_, q2, fun c hc => ?_, ?_⟩
  · rcases q1 with q | ⟨k, k1, k2, k3⟩
    · exact Or.inl q
    · refine Or.inr ⟨k, by omega, k2, fun t ht => ?_⟩
      obtain ⟨o, o1, o2, o3⟩ := k3 t ht
      exact ⟨o, o1, o2, fun dd hd => (o3 dd hd).trans (opn_A (gA_le h k1))⟩
  · rcases q3 c hc with q | ⟨k, k1, k2, k3⟩
    · exact Or.inl q
    · exact Or.inr ⟨k, by omega, k2, fun t ht => by rw [k3 t ht, roomsV_A (gA_le h k1)]⟩
  · rcases q4 with q | ⟨k, c, t0, r0, k1, k2, k3, k4, k5, k6, k7, k8, k9⟩
    · exact Or.inl q
    · have hE := wkW_A (P := P) (y := nI c) (t0 := t0) (r0 := r0) (gA_le h k1)
      refine Or.inr ⟨k, c, t0, r0, by omega, k2, k3, k4, k5, k6, k7, k8, ?_⟩
      rcases k9 with ⟨w1, ρ, w2, w3⟩ | ⟨w1, w2⟩
      · exact Or.inl ⟨w1, ρ, w2, fun t ht => ⟨least_E1 hE (w3 t ht).1, (w3 t ht).2⟩⟩
      · exact Or.inr ⟨w1, fun z => w2 (hop0_E1 (KE_sy hE) z)⟩
theorem CI_cg {σ τ : Mem} {n : Nat} (h : ∀ c, 31 ≤ c → c ≤ 45 → τ.1 c = σ.1 c ∧ τ.2 c = σ.2 c) (q : CI σ P g n) : CI τ P g n := by
  unfold CI OCI ODm EN RCI WCI wayV at q ⊢
  rw [(h 35 (by omega) (by omega)).1, (h 41 (by omega) (by omega)).1, (h 43 (by omega) (by omega)).2, (h 32 (by omega) (by omega)).1, (h 33 (by omega) (by omega)).1, (h 31 (by omega) (by omega)).1, (h 34 (by omega) (by omega)).1]
  exact q
end GA
