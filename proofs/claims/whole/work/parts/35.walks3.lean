/-! ===== Walks: the rooms; where a card breaks ===== -/
noncomputable def rmN (p : Nat → Prop) : Nat := bts (fun k => @decide (p k) (Classical.propDecidable _)) id 8
theorem rmN_lt (p : Nat → Prop) : rmN p < 256 := bts_lt (b := 8) (fun k hk _ => hk)
theorem rmN_bit (p : Nat → Prop) (j : Nat) : (rmN p).testBit j = true ↔ (j < 8 ∧ p j) := by
  unfold rmN
  rw [bts_bit]
  constructor
  · rintro ⟨k, h1, h2, rfl⟩
    exact ⟨h1, (@decide_eq_true_iff _ (Classical.propDecidable _)).mp h2⟩
  · rintro ⟨h1, h2⟩
    exact ⟨j, h1, (@decide_eq_true_iff _ (Classical.propDecidable _)).mpr h2, rfl⟩
theorem rmN_congr {p q : Nat → Prop} (h : ∀ j, j < 8 → (p j ↔ q j)) : rmN p = rmN q := by
  apply Nat.eq_of_testBit_eq
  intro j
  rw [Bool.eq_iff_iff, rmN_bit, rmN_bit]
  constructor
  · rintro ⟨h1, h2⟩; exact ⟨h1, (h j h1).mp h2⟩
  · rintro ⟨h1, h2⟩; exact ⟨h1, (h j h1).mpr h2⟩
def ib (x : Int32) (i : Nat) : Bool := x.toBitVec.getLsbD i
theorem ib_ext {x y : Int32} (h : ∀ i, i < 32 → ib x i = ib y i) : x = y := Int32.toBitVec_inj.mp (BitVec.eq_of_getLsbD_eq h)
theorem ib_or (x y : Int32) (i : Nat) : ib (x ||| y) i = (ib x i || ib y i) := by simp [ib]
theorem ib_and (x y : Int32) (i : Nat) : ib (x &&& y) i = (ib x i && ib y i) := by simp [ib]
theorem ib_nI (m i : Nat) (h : i < 32) : ib (nI m) i = m.testBit i := by
  unfold ib nI
  show (BitVec.ofNat 32 m).getLsbD i = m.testBit i
  rw [BitVec.getLsbD_ofNat]
  simp [h]
theorem ib_l2i (x : Int64) (i : Nat) : ib x.toInt32 i = (decide (i < 32) && mb x i) := by
  unfold ib mb
  rw [Int64.toBitVec_toInt32, BitVec.getLsbD_signExtend]
  by_cases h : i < 32
  · simp [h, show i < 64 by omega]
  · simp [h]
section WALKS3
variable {G : GG} {d : Nat} {σ : Mem}
theorem c_roomsIn {f : Int32 → Mem → Prop} {x : Int64} (h : f (nI (rmN (fun rm => ∃ a, a ≤ 4 ∧ pb x rm a = true))) σ) : SW G d M_X6_roomsIn 0 [some (.long x), none, none, none] [] σ (RI f) := by
  refine sx_iconst (v := nI 0) dX6_roomsIn_0 (by decide) ?_
  refine sw_istoren dX6_roomsIn_1 (Nat.le_of_ble_eq_true rfl) ?_
  refine sx_iconst (v := nI 0) dX6_roomsIn_2 (by decide) ?_
  refine sw_istoren dX6_roomsIn_3 (Nat.le_of_ble_eq_true rfl) ?_
  refine sw_iloadn dX6_roomsIn_4 rfl ?_
  refine sx_iconst (v := nI 4) dX6_roomsIn_5 (by decide) ?_
  refine sw_icmp_gt (tgt := 29) dX6_roomsIn_6 (by decide) (fun h6 => ?_) (fun h6 => ?_)
  · exact absurd h6 (by decide)
  · skip
    refine sw_iloadn dX6_roomsIn_9 rfl ?_
    refine sw_lloadn dX6_roomsIn_10 rfl ?_
    refine sx_bipush (v := nI 8) dX6_roomsIn_11 (by decide) ?_
    refine sw_iloadn dX6_roomsIn_13 rfl ?_
    refine sw_imul dX6_roomsIn_14 ?_
    refine sw_topI (y := nI 0) (by decide) ?_
    refine sw_lushr dX6_roomsIn_15 ?_
    refine sw_ldc2 dX6_roomsIn_16 kl_X6_145 ?_
    refine sw_land dX6_roomsIn_19 ?_
    refine sw_l2i dX6_roomsIn_20 ?_
    refine sw_ior dX6_roomsIn_21 ?_
    refine sw_istoren dX6_roomsIn_22 (Nat.le_of_ble_eq_true rfl) ?_
    refine sx_iinc (nI 1) dX6_roomsIn_23 rfl (by decide) ?_
    refine sw_goto (tgt := 4) dX6_roomsIn_26 (by decide) ?_
    refine sw_iloadn dX6_roomsIn_4 rfl ?_
    refine sx_iconst (v := nI 4) dX6_roomsIn_5 (by decide) ?_
    refine sw_icmp_gt (tgt := 29) dX6_roomsIn_6 (by decide) (fun h6 => ?_) (fun h6 => ?_)
    · exact absurd h6 (by decide)
    · skip
      refine sw_iloadn dX6_roomsIn_9 rfl ?_
      refine sw_lloadn dX6_roomsIn_10 rfl ?_
      refine sx_bipush (v := nI 8) dX6_roomsIn_11 (by decide) ?_
      refine sw_iloadn dX6_roomsIn_13 rfl ?_
      refine sw_imul dX6_roomsIn_14 ?_
      refine sw_topI (y := nI 8) (by decide) ?_
      refine sw_lushr dX6_roomsIn_15 ?_
      refine sw_ldc2 dX6_roomsIn_16 kl_X6_145 ?_
      refine sw_land dX6_roomsIn_19 ?_
      refine sw_l2i dX6_roomsIn_20 ?_
      refine sw_ior dX6_roomsIn_21 ?_
      refine sw_istoren dX6_roomsIn_22 (Nat.le_of_ble_eq_true rfl) ?_
      refine sx_iinc (nI 2) dX6_roomsIn_23 rfl (by decide) ?_
      refine sw_goto (tgt := 4) dX6_roomsIn_26 (by decide) ?_
      refine sw_iloadn dX6_roomsIn_4 rfl ?_
      refine sx_iconst (v := nI 4) dX6_roomsIn_5 (by decide) ?_
      refine sw_icmp_gt (tgt := 29) dX6_roomsIn_6 (by decide) (fun h6 => ?_) (fun h6 => ?_)
      · exact absurd h6 (by decide)
      · skip
        refine sw_iloadn dX6_roomsIn_9 rfl ?_
        refine sw_lloadn dX6_roomsIn_10 rfl ?_
        refine sx_bipush (v := nI 8) dX6_roomsIn_11 (by decide) ?_
        refine sw_iloadn dX6_roomsIn_13 rfl ?_
        refine sw_imul dX6_roomsIn_14 ?_
        refine sw_topI (y := nI 16) (by decide) ?_
        refine sw_lushr dX6_roomsIn_15 ?_
        refine sw_ldc2 dX6_roomsIn_16 kl_X6_145 ?_
        refine sw_land dX6_roomsIn_19 ?_
        refine sw_l2i dX6_roomsIn_20 ?_
        refine sw_ior dX6_roomsIn_21 ?_
        refine sw_istoren dX6_roomsIn_22 (Nat.le_of_ble_eq_true rfl) ?_
        refine sx_iinc (nI 3) dX6_roomsIn_23 rfl (by decide) ?_
        refine sw_goto (tgt := 4) dX6_roomsIn_26 (by decide) ?_
        refine sw_iloadn dX6_roomsIn_4 rfl ?_
        refine sx_iconst (v := nI 4) dX6_roomsIn_5 (by decide) ?_
        refine sw_icmp_gt (tgt := 29) dX6_roomsIn_6 (by decide) (fun h6 => ?_) (fun h6 => ?_)
        · exact absurd h6 (by decide)
        · skip
          refine sw_iloadn dX6_roomsIn_9 rfl ?_
          refine sw_lloadn dX6_roomsIn_10 rfl ?_
          refine sx_bipush (v := nI 8) dX6_roomsIn_11 (by decide) ?_
          refine sw_iloadn dX6_roomsIn_13 rfl ?_
          refine sw_imul dX6_roomsIn_14 ?_
          refine sw_topI (y := nI 24) (by decide) ?_
          refine sw_lushr dX6_roomsIn_15 ?_
          refine sw_ldc2 dX6_roomsIn_16 kl_X6_145 ?_
          refine sw_land dX6_roomsIn_19 ?_
          refine sw_l2i dX6_roomsIn_20 ?_
          refine sw_ior dX6_roomsIn_21 ?_
          refine sw_istoren dX6_roomsIn_22 (Nat.le_of_ble_eq_true rfl) ?_
          refine sx_iinc (nI 4) dX6_roomsIn_23 rfl (by decide) ?_
          refine sw_goto (tgt := 4) dX6_roomsIn_26 (by decide) ?_
          refine sw_iloadn dX6_roomsIn_4 rfl ?_
          refine sx_iconst (v := nI 4) dX6_roomsIn_5 (by decide) ?_
          refine sw_icmp_gt (tgt := 29) dX6_roomsIn_6 (by decide) (fun h6 => ?_) (fun h6 => ?_)
          · exact absurd h6 (by decide)
          · skip
            refine sw_iloadn dX6_roomsIn_9 rfl ?_
            refine sw_lloadn dX6_roomsIn_10 rfl ?_
            refine sx_bipush (v := nI 8) dX6_roomsIn_11 (by decide) ?_
            refine sw_iloadn dX6_roomsIn_13 rfl ?_
            refine sw_imul dX6_roomsIn_14 ?_
            refine sw_topI (y := nI 32) (by decide) ?_
            refine sw_lushr dX6_roomsIn_15 ?_
            refine sw_ldc2 dX6_roomsIn_16 kl_X6_145 ?_
            refine sw_land dX6_roomsIn_19 ?_
            refine sw_l2i dX6_roomsIn_20 ?_
            refine sw_ior dX6_roomsIn_21 ?_
            refine sw_istoren dX6_roomsIn_22 (Nat.le_of_ble_eq_true rfl) ?_
            refine sx_iinc (nI 5) dX6_roomsIn_23 rfl (by decide) ?_
            refine sw_goto (tgt := 4) dX6_roomsIn_26 (by decide) ?_
            refine sw_iloadn dX6_roomsIn_4 rfl ?_
            refine sx_iconst (v := nI 4) dX6_roomsIn_5 (by decide) ?_
            refine sw_icmp_gt (tgt := 29) dX6_roomsIn_6 (by decide) (fun h6 => ?_) (fun h6 => ?_)
            · skip
              refine sw_iloadn dX6_roomsIn_29 rfl ?_
              refine sx_reti dX6_roomsIn_30 rfl ?_
              refine cast (congrArg (fun z => f z σ) ?_) h
              symm
              apply ib_ext
              intro i hi
              rw [ib_nI _ _ hi, Bool.eq_iff_iff, rmN_bit]
              simp only [ib_or, ib_l2i, mb_and, mb_255]
              rw [mb_ushr x (by omega), mb_ushr x (by omega), mb_ushr x (by omega), mb_ushr x (by omega), mb_ushr x (by omega), ib_nI _ _ hi, Nat.zero_testBit]
              simp only [Bool.or_eq_true, Bool.and_eq_true, decide_eq_true_iff, Bool.false_eq_true, false_or, hi, true_and]
              constructor
              · rintro ((((q | q) | q) | q) | q)
                · exact ⟨q.2, 0, by omega, by rw [pb]; exact q.1⟩
                · exact ⟨q.2, 1, by omega, by rw [pb]; exact q.1⟩
                · exact ⟨q.2, 2, by omega, by rw [pb]; exact q.1⟩
                · exact ⟨q.2, 3, by omega, by rw [pb]; exact q.1⟩
                · exact ⟨q.2, 4, by omega, by rw [pb]; exact q.1⟩
              · rintro ⟨h8, a, ha, q⟩
                rcases (show a = 0 ∨ a = 1 ∨ a = 2 ∨ a = 3 ∨ a = 4 by omega) with rfl | rfl | rfl | rfl | rfl
                · exact Or.inl (Or.inl (Or.inl (Or.inl ⟨q, h8⟩)))
                · exact Or.inl (Or.inl (Or.inl (Or.inr ⟨q, h8⟩)))
                · exact Or.inl (Or.inl (Or.inr ⟨q, h8⟩))
                · exact Or.inl (Or.inr ⟨q, h8⟩)
                · exact Or.inr ⟨q, h8⟩
            · exact absurd h6 (by decide)
/-- nothing but rows of answers and sets has changed -/
def sm (σ σ' : Mem) : Prop := ∀ c, c ≠ 33 → c ≠ 34 → c ≠ 44 → c ≠ 45 → σ'.1 c = σ.1 c ∧ σ'.2 c = σ.2 c
theorem sm_rf {σ : Mem} : sm σ σ := fun _ _ _ _ _ => ⟨rfl, rfl⟩
theorem sm_tr {σ σ' σ'' : Mem} (h : sm σ σ') (h' : sm σ' σ'') : sm σ σ'' := fun c a b e g => ⟨(h' c a b e g).1.trans (h c a b e g).1, (h' c a b e g).2.trans (h c a b e g).2⟩
theorem sm_fr {lo hi : Nat} {σ σ' : Mem} (h : fr lo hi σ σ') (hl : 44 ≤ lo) (hh : hi ≤ 45) : sm σ σ' := fun c _ _ e g => h c (by omega)
theorem sm_I {σ σ' : Mem} {c k : Nat} {v : Int32} (h : sm σ σ') (hc : c = 33 ∨ c = 34 ∨ c = 44 ∨ c = 45) : sm σ (setI σ' c k v) := fun x a b e g => ⟨by rw [setI_ne _ _ _ (by omega)]; exact (h x a b e g).1, (h x a b e g).2⟩
theorem sm_J {σ σ' : Mem} {c k : Nat} {v : Int64} (h : sm σ σ') (hc : c = 33 ∨ c = 34 ∨ c = 44 ∨ c = 45) : sm σ (setJ σ' c k v) := fun x a b e g => ⟨(h x a b e g).1, by rw [setJ_ne _ _ _ (by omega)]; exact (h x a b e g).2⟩
theorem WT_sm {σ σ' : Mem} {P : PL} {K : WK} (h : sm σ σ') (hW : WT σ P K) : WT σ' P K := by
  obtain ⟨h1, h2, h3, h4, h5, h6, h7, h8, h9, h10⟩ := hW
  have hPl : PlC σ' P := by
    unfold PlC at *
    rw [(h 2 (by decide) (by decide) (by decide) (by decide)).1, (h 4 (by decide) (by decide) (by decide) (by decide)).1, (h 6 (by decide) (by decide) (by decide) (by decide)).1, (h 7 (by decide) (by decide) (by decide) (by decide)).1, (h 8 (by decide) (by decide) (by decide) (by decide)).1]
    exact h1
  refine ⟨hPl, h2, h3, ?_, ?_, ?_, ?_, ?_, ?_, ?_⟩
  · rw [(h 35 (by decide) (by decide) (by decide) (by decide)).1]; exact h4
  · rw [(h 37 (by decide) (by decide) (by decide) (by decide)).1]; exact h5
  · rw [(h 38 (by decide) (by decide) (by decide) (by decide)).1]; exact h6
  · rw [(h 39 (by decide) (by decide) (by decide) (by decide)).1, (h 40 (by decide) (by decide) (by decide) (by decide)).1]; exact h7
  · unfold OD; rw [(h 41 (by decide) (by decide) (by decide) (by decide)).1]; exact h8
  · unfold SN; rw [(h 42 (by decide) (by decide) (by decide) (by decide)).2]; exact h9
  · unfold EN; rw [(h 43 (by decide) (by decide) (by decide) (by decide)).2]; exact h10
/-- what is kept as tick t begins -/
def kept (P : PL) (K : WK) (t : Nat) (j rm a : Nat) : Prop := match t with
  | 0 => rch P K 0 j rm a
  | t + 1 => rch P K (t + 1) j rm a ∧ hop P K (199 - t) j rm a
theorem kept_n {P : PL} {K : WK} {t : Nat} (ht : t < 200) {j rm a : Nat} : (nxt P K t (kept P K t) j rm a ∧ hop P K (199 - t) j rm a) ↔ kept P K (t + 1) j rm a := by
  cases t with
  | zero => exact Iff.rfl
  | succ t => exact keep (by omega)
theorem kept_in {P : PL} (hV : PV P) {K : WK} (hK : KV P K) (hR : 0 < pR P) {t j rm a : Nat} (h : kept P K t j rm a) : j ≤ kN K ∧ rm < 8 ∧ a ≤ 4 := by
  have h8 := hV.1
  cases t with
  | zero => have := rch_in hV hK hR 0 j rm a h; omega
  | succ t => have := rch_in hV hK hR (t + 1) j rm a h.1; omega
theorem c_findRooms {f : Mem → Prop} {P : PL} {K : WK} {b : Nat} (hW : WT σ P K) (hR0 : 0 < pR P) (hb : b + 200 ≤ 2000) (h : ∀ τ, sm σ τ → τ.1 34 = σ.1 34 → (∀ k, (k < b ∨ b + 200 ≤ k) → τ.1 33 k = σ.1 33 k) → (∀ t, t < 200 → τ.1 33 (b + t) = nI (rmN (can P K t))) → f τ) : SW G (d + 3) M_X6_findRooms 0 [some (.ref 35), some (.ref 33), some (.int (nI b)), none, none, none, none] [] σ (RV f) := by
  have hV := hW.2.1
  have hK := hW.2.2.1
  have h12 := hK.1
  have loop : ∀ (m t : Nat), m = 200 - t → t ≤ 200 → ∀ τ, sm σ τ → τ.1 34 = σ.1 34 → (∀ k, (k < b ∨ b + 200 ≤ k) → τ.1 33 k = σ.1 33 k) → (∀ t', t' < t → τ.1 33 (b + t') = nI (rmN (can P K t'))) → (∀ t, t < 200 → rowH K (τ.2 44) (t * 13) (hop P K (199 - t))) → rowH K (τ.2 45) 0 (kept P K t) → ∀ o4 o6, SW G (d + 3) M_X6_findRooms 10 [some (.ref 35), some (.ref 33), some (.int (nI b)), some (.int (nI t)), o4, none, o6] [] τ (RV f) := by
    intro m
    induction m with
    | zero =>
      intro t hm ht τ hs hw34 hk hd hh hn o4 o6
      obtain rfl : t = 200 := by omega
      refine sw_iloadn dX6_findRooms_10 rfl ?_
      refine sx_sipush (v := nI 200) dX6_findRooms_11 (by decide) ?_
      refine sw_icmp_ge (tgt := 93) dX6_findRooms_14 (by decide) (fun h14 => ?_) (fun h14 => ?_)
      · skip
        refine sx_ret0 dX6_findRooms_93 rfl ?_
        exact h τ hs hw34 hk hd
      · exact absurd ((by decide)) h14
    | succ m ih =>
      intro t hm ht τ hs hw34 hk hd hh hn o4 o6
      have wτ := WT_sm hs hW
      have ih := ih (t + 1) (by omega) (by omega)
      have inner : ∀ (m s : Nat), m = kN K + 1 - s → s ≤ kN K + 1 → ∀ (τ' : Mem) (z : Int64), fr 45 45 τ τ' → (∀ j, j < s → celH (τ'.2 45 j) (kept P K (t + 1) j)) → (∀ j, s ≤ j → j ≤ kN K → celH (τ'.2 45 j) (nxt P K t (kept P K t) j)) → (∀ rm a, rm < 8 → a ≤ 4 → (pb z rm a = true ↔ ∃ j, j < s ∧ kept P K (t + 1) j rm a)) → SW G (d + 3) M_X6_findRooms 28 [some (.ref 35), some (.ref 33), some (.int (nI b)), some (.int (nI t)), some (.long z), none, some (.int (nI s))] [] τ' (RV f) := by
        intro m
        induction m with
        | zero =>
          intro s hm hs' τ' z hf h1 h2 hz
          obtain rfl : s = kN K + 1 := by omega
          have s' := sm_tr hs (sm_fr hf (by omega) (by omega))
          have w' := WT_sm s' hW
          refine sw_iload dX6_findRooms_28 rfl ?_
          refine sw_aloadn dX6_findRooms_30 rfl ?_
          refine sw_getI dX6_findRooms_31 fs_X6_67 o35 ?_
          rw [w'.2.2.2.1]
          refine sw_icmp_gt (tgt := 77) dX6_findRooms_34 (by decide) (fun h34 => ?_) (fun h34 => ?_)
          · skip
            refine sw_aloadn dX6_findRooms_77 rfl ?_
            refine sw_iloadn dX6_findRooms_78 rfl ?_
            refine sw_iloadn dX6_findRooms_79 rfl ?_
            refine sw_iadd dX6_findRooms_80 ?_
            refine sw_lload dX6_findRooms_81 rfl ?_
            refine sx_insI1 dX6_findRooms_83 mk_X6_roomsIn sk_X6_roomsIn lk_X6_175 (Nat.le_of_ble_eq_true rfl) (Nat.le_of_ble_eq_true rfl) ?_
            refine c_roomsIn ?_
            refine sx_iast (b + t) dX6_findRooms_86 a33 (nI_add b t) (by omega) (by decide) ?_
            refine sx_iinc (nI (t + 1)) dX6_findRooms_87 rfl (nI_inc _) ?_
            refine sw_goto (tgt := 10) dX6_findRooms_90 (by decide) ?_
            refine ih _ (sm_I s' (by omega)) ?_ (fun k hk' => ?_) (fun t' ht' => ?_) (fun t' ht' => ?_) (fun j hj => ?_) _ _
            · rw [setI_ne _ _ _ (by decide), (hf 34 (by omega)).1]; exact hw34
            · rw [setI_at, upd_ne _ _ (by omega), (hf 33 (by omega)).1]
              exact hk k hk'
            · rw [setI_at]
              by_cases e : t' = t
              · subst e
                rw [upd_same]
                congr 1
                refine rmN_congr (fun rm hrm => ?_)
                constructor
                · rintro ⟨a, ha, q⟩
                  obtain ⟨j, -, q1, q2⟩ := (hz rm a hrm ha).mp q
                  exact ⟨j, a, q1, q2⟩
                · rintro ⟨j, a, q1, q2⟩
                  have hi := rch_in hV hK hR0 _ _ _ _ q1
                  exact ⟨a, hi.2.2, (hz rm a hrm hi.2.2).mpr ⟨j, by omega, q1, q2⟩⟩
              · rw [upd_ne _ _ (by omega), (hf 33 (by omega)).1]
                exact hd t' (by omega)
            · rw [setI_2, (hf 44 (by omega)).2]
              exact hh t' ht'
            · rw [setI_2, Nat.zero_add]
              exact h1 j (by omega)
          · exact absurd ((nI_lt (by omega) (by omega))) h34
        | succ m ih' =>
          intro s hm hs' τ' z hf h1 h2 hz
          have s' := sm_tr hs (sm_fr hf (by omega) (by omega))
          have w' := WT_sm s' hW
          have hcell : celH (τ'.2 45 s &&& τ'.2 44 (t * 13 + s)) (kept P K (t + 1) s) := by
            rw [(hf 44 (by omega)).2]
            exact celH_congr (celH_and (h2 s (Nat.le_refl _) (by omega)) (hh t (by omega) s (by omega))) (fun rm a _ _ => kept_n (by omega))
          refine sw_iload dX6_findRooms_28 rfl ?_
          refine sw_aloadn dX6_findRooms_30 rfl ?_
          refine sw_getI dX6_findRooms_31 fs_X6_67 o35 ?_
          rw [w'.2.2.2.1]
          refine sw_icmp_gt (tgt := 77) dX6_findRooms_34 (by decide) (fun h34 => ?_) (fun h34 => ?_)
          · exact absurd h34 ((by rw [nI_lt' (by omega) (by omega)]; omega))
          · skip
            refine sw_aloadn dX6_findRooms_37 rfl ?_
            refine sw_getR dX6_findRooms_38 fs_X6_44 o35 r35_13 ?_
            refine sw_iload dX6_findRooms_41 rfl ?_
            refine sw_dup2 dX6_findRooms_43 rfl rfl ?_
            refine sx_lald (s) dX6_findRooms_44 a45 (rfl) (by omega) (by decide) ?_
            refine sw_aloadn dX6_findRooms_45 rfl ?_
            refine sw_getR dX6_findRooms_46 fs_X6_41 o35 r35_12 ?_
            refine sw_iloadn dX6_findRooms_49 rfl ?_
            refine sx_bipush (v := nI 13) dX6_findRooms_50 (by decide) ?_
            refine sw_imul dX6_findRooms_52 ?_
            refine sw_iload dX6_findRooms_53 rfl ?_
            refine sw_iadd dX6_findRooms_55 ?_
            refine sx_lald (t * 13 + s) dX6_findRooms_56 a44 (by rw [nI_mul, nI_add]) (by omega) (by decide) ?_
            refine sw_land dX6_findRooms_57 ?_
            refine sx_last (s) dX6_findRooms_58 a45 (rfl) (by omega) (by decide) ?_
            refine sw_lload dX6_findRooms_59 rfl ?_
            refine sw_aloadn dX6_findRooms_61 rfl ?_
            refine sw_getR dX6_findRooms_62 fs_X6_44 o35 r35_13 ?_
            refine sw_iload dX6_findRooms_65 rfl ?_
            refine sx_lald (s) dX6_findRooms_67 a45 (rfl) (by omega) (by decide) ?_
            rw [setJ_at, updL_same]
            refine sw_lor dX6_findRooms_68 ?_
            refine sw_lstore dX6_findRooms_69 (Nat.le_of_ble_eq_true rfl) ?_
            refine sx_iinc (nI (s + 1)) dX6_findRooms_71 rfl (nI_inc _) ?_
            refine sw_goto (tgt := 28) dX6_findRooms_74 (by decide) ?_
            refine ih' (s + 1) (by omega) (by omega) _ _ (fr_J hf (by omega)) (fun j hj => ?_) (fun j hj1 hj2 => ?_) (fun rm a hr ha => ?_)
            · rw [setJ_at]
              by_cases e : j = s
              · subst e
                rw [updL_same]
                exact hcell
              · rw [updL_ne _ _ e]
                exact h1 j (by omega)
            · rw [setJ_at, updL_ne _ _ (by omega)]
              exact h2 j (by omega) hj2
            · have e : pb (z ||| (τ'.2 45 s &&& τ'.2 44 (t * 13 + s))) rm a = (pb z rm a || pb (τ'.2 45 s &&& τ'.2 44 (t * 13 + s)) rm a) := mb_or _ _ _
              rw [e, Bool.or_eq_true, hz rm a hr ha, hcell.1 rm a hr ha]
              constructor
              · rintro (⟨j, q1, q2⟩ | q)
                · exact ⟨j, by omega, q2⟩
                · exact ⟨s, by omega, q⟩
              · rintro ⟨j, q1, q2⟩
                by_cases e : j = s
                · subst e; exact Or.inr q2
                · exact Or.inl ⟨j, by omega, q2⟩
      refine sw_iloadn dX6_findRooms_10 rfl ?_
      refine sx_sipush (v := nI 200) dX6_findRooms_11 (by decide) ?_
      refine sw_icmp_ge (tgt := 93) dX6_findRooms_14 (by decide) (fun h14 => ?_) (fun h14 => ?_)
      · exact absurd h14 ((by rw [nI_le' (by omega) (by omega)]; omega))
      · skip
        refine sw_aloadn dX6_findRooms_17 rfl ?_
        refine sw_iloadn dX6_findRooms_18 rfl ?_
        refine sx_invV1 dX6_findRooms_19 mk_X6_goOn vk_X6_goOn lk_X6_172 o35 (Nat.le_of_ble_eq_true rfl) (Nat.le_of_ble_eq_true rfl) ?_
        refine c_goOn (R := kept P K t) wτ (by omega) hn (fun j rm a q => kept_in hV hK hR0 q) (fun τ' hf hrow => ?_)
        refine sx_lconst (v := 0) dX6_findRooms_22 (by decide) ?_
        refine sw_lstore dX6_findRooms_23 (Nat.le_of_ble_eq_true rfl) ?_
        refine sx_iconst (v := nI 0) dX6_findRooms_25 (by decide) ?_
        refine sw_istore dX6_findRooms_26 (Nat.le_of_ble_eq_true rfl) ?_
        exact inner (kN K + 1) 0 (by omega) (by omega) _ _ hf (fun j hj => absurd hj (by omega)) (fun j _ hj => by have := hrow j hj; rw [Nat.zero_add] at this; exact this) (fun rm a _ _ => by
          rw [pb, mb_0]
          exact ⟨fun q => Bool.noConfusion q, fun ⟨j, q, _⟩ => absurd q (by omega)⟩)
  refine sw_aloadn dX6_findRooms_0 rfl ?_
  refine sx_invV0 dX6_findRooms_1 mk_X6_findHopeful vk_X6_findHopeful lk_X6_166 o35 (Nat.le_of_ble_eq_true rfl) (Nat.le_of_ble_eq_true rfl) ?_
  refine c_findHopeful hW (fun τ hf hh => ?_)
  refine sw_aloadn dX6_findRooms_4 rfl ?_
  refine sx_invV0 dX6_findRooms_5 mk_X6_startOutside vk_X6_startOutside lk_X6_169 o35 (Nat.le_of_ble_eq_true rfl) (Nat.le_of_ble_eq_true rfl) ?_
  refine c_startOutside (K := K) h12 (fun τ' hf' hrow => ?_)
  refine sx_iconst (v := nI 0) dX6_findRooms_8 (by decide) ?_
  refine sw_istoren dX6_findRooms_9 (Nat.le_of_ble_eq_true rfl) ?_
  refine loop 200 0 (by omega) (by omega) τ' (sm_tr (sm_fr hf (by omega) (by omega)) (sm_fr hf' (by omega) (by omega))) ?_ (fun k _ => ?_) (fun t' ht' => absurd ht' (by omega)) (fun t' ht' => ?_) hrow _ _
  · rw [(hf' 34 (by omega)).1, (hf 34 (by omega)).1]
  · rw [(hf' 33 (by omega)).1, (hf 33 (by omega)).1]
  · rw [(hf' 44 (by omega)).2]; exact hh t' ht'
end WALKS3
