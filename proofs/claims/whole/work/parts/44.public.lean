/-! ===== rooms, broken, way (its walk), many, inside: of the class ===== -/
noncomputable def manyB (P : PL) (g : LG) (room t m : Nat) (w : Int32) (c : Nat) : Bool := if w = nI 0 then decide (roomsV P g (nI c) m t = 2 ^ room) else (roomsV P g (nI c) m t).testBit room
noncomputable def insB (P : PL) (g : LG) (t m c : Nat) : Bool := decide (2 ≤ roomsV P g (nI c) m t)
noncomputable def sureB (P : PL) (g : LG) (t m c : Nat) : Bool := decide (2 ≤ roomsV P g (nI c) m t) && !(roomsV P g (nI c) m t).testBit 0
theorem roomsV_lt (P : PL) (g : LG) (y : Int32) (m t : Nat) : roomsV P g y m t < 256 := rmN_lt _
theorem and_z {a b : Nat} (ha : a < 1024) : nI a &&& nI b = 0 ↔ a &&& b = 0 := by
  rw [and_nI]
  have : a &&& b ≤ a := Nat.and_le_left
  exact ⟨fun q => nI_z (by omega) q, fun q => by rw [q]; rfl⟩
theorem and_2p {a k : Nat} : a &&& 2 ^ k = 0 ↔ a.testBit k = false := by
  constructor
  · intro h
    have : (a &&& 2 ^ k).testBit k = false := by rw [h, Nat.zero_testBit]
    rw [Nat.testBit_and, Nat.testBit_two_pow_self, Bool.and_true] at this
    exact this
  · intro h
    apply Nat.eq_of_testBit_eq
    intro i
    rw [Nat.testBit_and, Nat.testBit_two_pow, Nat.zero_testBit]
    by_cases e : k = i
    · subst e; rw [h]; rfl
    · simp [e]
theorem in_out : ∀ a, a < 256 → (nI a &&& (nI 1 ^^^ (-1)) = 0 ↔ ¬ 2 ≤ a) := by decide +kernel
theorem cnt_or (k x : Nat) (hx : x.testBit k = false) (N : Nat) : cnt (fun j => (x ||| 2 ^ k).testBit j) N = cnt (fun j => x.testBit j) N + (if k < N then 1 else 0) := by
  induction N with
  | zero => simp [cnt]
  | succ N ihN =>
    have e1 : cnt (fun j => (x ||| 2 ^ k).testBit j) (N + 1) = cnt (fun j => (x ||| 2 ^ k).testBit j) N + (if (x ||| 2 ^ k).testBit N = true then 1 else 0) := rfl
    have e2 : cnt (fun j => x.testBit j) (N + 1) = cnt (fun j => x.testBit j) N + (if x.testBit N = true then 1 else 0) := rfl
    rw [e1, e2, ihN, Nat.testBit_or, Nat.testBit_two_pow]
    by_cases e : k = N
    · subst e; simp [hx]
    · by_cases e2 : k < N
      · simp [e, e2, show k < N + 1 by omega]; omega
      · simp [e, e2, show ¬ k < N + 1 by omega]
theorem cnt_bts (p : Nat → Bool) : ∀ (k : Nat), k ≤ 10 → cnt (fun j => (bts p id k).testBit j) 10 = cnt p k := by
  intro k
  induction k with
  | zero => intro _; simp [bts, cnt]
  | succ k ih =>
    intro hk
    have ih := ih (by omega)
    rw [bts]
    show _ = cnt p k + (if p k = true then 1 else 0)
    by_cases e : p k = true
    · rw [if_pos e, if_pos e]
      show cnt (fun j => (bts p id k ||| 2 ^ k).testBit j) 10 = _
      rw [cnt_or _ _ (by rw [← Bool.not_eq_true, bts_bit]; rintro ⟨j, a1, a2, a3⟩; exact absurd a3 (by show ¬ j = k; omega)), ih, if_pos (by omega)]
    · rw [if_neg e, if_neg e, ih, Nat.add_zero]
section PUBLIC
variable {G : GG} {d : Nat} {σ : Mem}
theorem c_X7_rooms {f : Int32 → Mem → Prop} {P : PL} {nc n : Nat} {x t m : Int32} (hc : σ.1 0 3 = nI nc) (hcb : nc ≤ 10) (hn : σ.1 17 0 = nI n) (hnb : n ≤ 100) (hS : 0 < nc → Std σ P nc n) (k1 : ∀ c t' m', c < nc → t' < 200 → m' < n + 1 → x = nI c → t = nI t' → m = nI m' → ∀ τ, fr 31 45 σ τ → Std τ P nc n → f (nI (roomsV P (lgC σ) (nI c) m' t')) τ) (k0 : ¬ (inR x nc ∧ inR t 200 ∧ inR m (n + 1)) → f (-1) σ) : SW G (d + 5) M_X7_rooms 0 [some (.ref 0), some (.int x), some (.int t), some (.int m)] [] σ (RI f) := by
  refine sw_aloadn dX7_rooms_0 rfl ?_
  refine sw_iloadn dX7_rooms_1 rfl ?_
  refine sx_invI1 dX7_rooms_2 mk_X7_hasCard vk_X7_hasCard lk_X7_100 o0 (Nat.le_of_ble_eq_true rfl) (Nat.le_of_ble_eq_true rfl) ?_
  refine c_X7_hasCard hc hcb (fun h2 => ?_) (fun h2 => ?_)
  · skip
    refine sw_if_eq (tgt := 24) dX7_rooms_5 (by decide) (fun h5 => ?_) (fun h5 => ?_)
    · exact absurd h5 (by decide)
    · skip
      refine sw_aloadn dX7_rooms_8 rfl ?_
      refine sw_iloadn dX7_rooms_9 rfl ?_
      refine sx_invI1 dX7_rooms_10 mk_X7_isTick vk_X7_isTick lk_X7_107 o0 (Nat.le_of_ble_eq_true rfl) (Nat.le_of_ble_eq_true rfl) ?_
      refine c_X7_isTick (fun h10 => ?_) (fun h10 => ?_)
      · skip
        refine sw_if_eq (tgt := 24) dX7_rooms_13 (by decide) (fun h13 => ?_) (fun h13 => ?_)
        · exact absurd h13 (by decide)
        · skip
          refine sw_aloadn dX7_rooms_16 rfl ?_
          refine sw_iloadn dX7_rooms_17 rfl ?_
          refine sx_invI1 dX7_rooms_18 mk_X7_isBehind vk_X7_isBehind lk_X7_124 o0 (Nat.le_of_ble_eq_true rfl) (Nat.le_of_ble_eq_true rfl) ?_
          refine c_X7_isBehind hn hnb (fun h18 => ?_) (fun h18 => ?_)
          · skip
            refine sw_if_ne (tgt := 26) dX7_rooms_21 (by decide) (fun h21 => ?_) (fun h21 => ?_)
            · skip
              obtain ⟨c, c1, rfl⟩ := h2
              obtain ⟨t', t1, rfl⟩ := h10
              obtain ⟨m', m1, rfl⟩ := h18
              refine sw_aloadn dX7_rooms_26 rfl ?_
              refine sw_getR dX7_rooms_27 fs_X7_67 o0 r0_10 ?_
              refine sw_iloadn dX7_rooms_30 rfl ?_
              refine sw_iloadn dX7_rooms_31 rfl ?_
              refine sw_iloadn dX7_rooms_32 rfl ?_
              refine sx_invI3 dX7_rooms_33 mk_X1_roomsOf vk_X1_roomsOf lk_X7_127 o31 (Nat.le_of_ble_eq_true rfl) (Nat.le_of_ble_eq_true rfl) ?_
              refine c_roomsOf (hS (by omega)) (show c < 10 by omega) t1 (show m' ≤ n by omega) (fun τ hf hst => ?_)
              refine sx_reti dX7_rooms_36 rfl ?_
              exact k1 c t' m' c1 t1 m1 rfl rfl rfl _ hf hst
            · exact absurd h21 (by decide)
          · skip
            refine sw_if_ne (tgt := 26) dX7_rooms_21 (by decide) (fun h21 => ?_) (fun h21 => ?_)
            · exact absurd h21 (by decide)
            · skip
              refine sx_iconst (v := (-1)) dX7_rooms_24 (by decide) ?_
              refine sx_reti dX7_rooms_25 rfl ?_
              first
                | exact k0 (fun q => h2 q.1)
                | exact k0 (fun q => h10 q.2.1)
                | exact k0 (fun q => h18 q.2.2)
      · skip
        refine sw_if_eq (tgt := 24) dX7_rooms_13 (by decide) (fun h13 => ?_) (fun h13 => ?_)
        · skip
          refine sx_iconst (v := (-1)) dX7_rooms_24 (by decide) ?_
          refine sx_reti dX7_rooms_25 rfl ?_
          first
            | exact k0 (fun q => h2 q.1)
            | exact k0 (fun q => h10 q.2.1)
            | exact k0 (fun q => h18 q.2.2)
        · exact absurd h13 (by decide)
  · skip
    refine sw_if_eq (tgt := 24) dX7_rooms_5 (by decide) (fun h5 => ?_) (fun h5 => ?_)
    · skip
      refine sx_iconst (v := (-1)) dX7_rooms_24 (by decide) ?_
      refine sx_reti dX7_rooms_25 rfl ?_
      first
        | exact k0 (fun q => h2 q.1)
        | exact k0 (fun q => h10 q.2.1)
        | exact k0 (fun q => h18 q.2.2)
    · exact absurd h5 (by decide)
theorem c_X7_broken {f : Int32 → Mem → Prop} {P : PL} {nc n : Nat} {x m : Int32} (hc : σ.1 0 3 = nI nc) (hcb : nc ≤ 10) (hn : σ.1 17 0 = nI n) (hnb : n ≤ 100) (hS : 0 < nc → Std σ P nc n) (k1 : ∀ c m', c < nc → m' < n + 1 → x = nI c → m = nI m' → ∀ s, s < pcN (lgC σ) (nI c) m' → wlk P (wkG P (lgC σ) (nI c) m' (fun _ _ => True)) s → ¬ wlk P (wkG P (lgC σ) (nI c) m' (fun _ _ => True)) (s + 1) → ∀ τ, fr 31 45 σ τ → Std τ P nc n → f (nI (pfF (lgC σ) (nI c) m' s)) τ) (k2 : ∀ c m', c < nc → m' < n + 1 → x = nI c → m = nI m' → wlk P (wkG P (lgC σ) (nI c) m' (fun _ _ => True)) (pcN (lgC σ) (nI c) m') → ∀ τ, fr 31 45 σ τ → Std τ P nc n → f (-1) τ) (k0 : ¬ (inR x nc ∧ inR m (n + 1)) → f (-1) σ) : SW G (d + 5) M_X7_broken 0 [some (.ref 0), some (.int x), some (.int m)] [] σ (RI f) := by
  refine sw_aloadn dX7_broken_0 rfl ?_
  refine sw_iloadn dX7_broken_1 rfl ?_
  refine sx_invI1 dX7_broken_2 mk_X7_hasCard vk_X7_hasCard lk_X7_100 o0 (Nat.le_of_ble_eq_true rfl) (Nat.le_of_ble_eq_true rfl) ?_
  refine c_X7_hasCard hc hcb (fun h2 => ?_) (fun h2 => ?_)
  · skip
    refine sw_if_eq (tgt := 16) dX7_broken_5 (by decide) (fun h5 => ?_) (fun h5 => ?_)
    · exact absurd h5 (by decide)
    · skip
      refine sw_aloadn dX7_broken_8 rfl ?_
      refine sw_iloadn dX7_broken_9 rfl ?_
      refine sx_invI1 dX7_broken_10 mk_X7_isBehind vk_X7_isBehind lk_X7_124 o0 (Nat.le_of_ble_eq_true rfl) (Nat.le_of_ble_eq_true rfl) ?_
      refine c_X7_isBehind hn hnb (fun h10 => ?_) (fun h10 => ?_)
      · skip
        refine sw_if_ne (tgt := 18) dX7_broken_13 (by decide) (fun h13 => ?_) (fun h13 => ?_)
        · skip
          obtain ⟨c, c1, rfl⟩ := h2
          obtain ⟨m', m1, rfl⟩ := h10
          refine sw_aloadn dX7_broken_18 rfl ?_
          refine sw_getR dX7_broken_19 fs_X7_67 o0 r0_10 ?_
          refine sw_iloadn dX7_broken_22 rfl ?_
          refine sw_iloadn dX7_broken_23 rfl ?_
          refine sx_invI2 dX7_broken_24 mk_X1_breakOf vk_X1_breakOf lk_X7_142 o31 (Nat.le_of_ble_eq_true rfl) (Nat.le_of_ble_eq_true rfl) ?_
          refine c_breakOf (hS (by omega)) (show c < 10 by omega) (show m' ≤ n by omega) (fun s s1 w1 w2 τ hf hst => ?_) (fun w1 τ hf hst => ?_)
          · refine sx_reti dX7_broken_27 rfl ?_
            exact k1 c m' c1 m1 rfl rfl s s1 w1 w2 _ hf hst
          · refine sx_reti dX7_broken_27 rfl ?_
            exact k2 c m' c1 m1 rfl rfl w1 _ hf hst
        · exact absurd h13 (by decide)
      · skip
        refine sw_if_ne (tgt := 18) dX7_broken_13 (by decide) (fun h13 => ?_) (fun h13 => ?_)
        · exact absurd h13 (by decide)
        · skip
          refine sx_iconst (v := (-1)) dX7_broken_16 (by decide) ?_
          refine sx_reti dX7_broken_17 rfl ?_
          first
            | exact k0 (fun q => h2 q.1)
            | exact k0 (fun q => h10 q.2)
  · skip
    refine sw_if_eq (tgt := 16) dX7_broken_5 (by decide) (fun h5 => ?_) (fun h5 => ?_)
    · skip
      refine sx_iconst (v := (-1)) dX7_broken_16 (by decide) ?_
      refine sx_reti dX7_broken_17 rfl ?_
      first
        | exact k0 (fun q => h2 q.1)
        | exact k0 (fun q => h10 q.2)
    · exact absurd h5 (by decide)
theorem Std_cards {τ : Mem} {P : PL} {nc n : Nat} (hf : fr 31 45 σ τ) (hc : σ.1 0 3 = nI nc) : τ.1 0 3 = nI nc := by rw [(hf 0 (by omega)).1]; exact hc
theorem c_X7_many {f : Int32 → Mem → Prop} {P : PL} {nc n nr : Nat} {x t m w : Int32} (hc : σ.1 0 3 = nI nc) (hcb : nc ≤ 10) (hr : σ.1 2 0 = nI nr) (hrb : nr ≤ 8) (hn : σ.1 17 0 = nI n) (hnb : n ≤ 100) (hS : 0 < nc → Std σ P nc n) (k1 : ∀ r t' m', r < nr → t' < 200 → m' < n + 1 → x = nI r → t = nI t' → m = nI m' → inR w 2 → ∀ τ, fr 31 45 σ τ → (0 < nc → Std τ P nc n) → f (nI (cnt (manyB P (lgC σ) r t' m' w) nc)) τ) (k0 : ¬ (inR x nr ∧ inR t 200 ∧ inR m (n + 1) ∧ inR w 2) → f (-1) σ) : SW G (d + 5) M_X7_many 0 [some (.ref 0), some (.int x), some (.int t), some (.int m), some (.int w), none, none, none, none] [] σ (RI f) := by
  have loop : ∀ r t' m', r < nr → t' < 200 → m' < n + 1 → x = nI r → t = nI t' → m = nI m' → inR w 2 → ∀ (q k : Nat), q = nc - k → k ≤ nc → ∀ τ, fr 31 45 σ τ → (0 < nc → Std τ P nc n) → ∀ o8, SW G (d + 5) M_X7_many 48 [some (.ref 0), some (.int (nI r)), some (.int (nI t')), some (.int (nI m')), some (.int w), some (.int (nI (2 ^ r))), some (.int (nI (cnt (manyB P (lgC σ) r t' m' w) k))), some (.int (nI k)), o8] [] τ (RI f) := by
    intro r t' m' b1 b2 b3 b4 b5 b6 b7 q
    have pw : 2 ^ r < 1024 := Nat.pow_lt_pow_right (by omega) (show r < 10 by omega)
    induction q with
    | zero =>
      intro k hq hk τ hf hst o8
      obtain rfl : k = nc := by omega
      have hc' := Std_cards (P := P) (n := n) hf hc
      refine sw_iload dX7_many_48 rfl ?_
      refine sw_aloadn dX7_many_50 rfl ?_
      refine sw_getI dX7_many_51 fs_X7_87 o0 ?_
      rw [hc']
      refine sw_icmp_ge (tgt := 102) dX7_many_54 (by decide) (fun h54 => ?_) (fun h54 => ?_)
      · skip
        refine sw_iload dX7_many_102 rfl ?_
        refine sx_reti dX7_many_104 rfl ?_
        exact k1 r t' m' b1 b2 b3 b4 b5 b6 b7 τ hf hst
      · exact absurd ((nI_le (Nat.le_refl _) (by omega))) h54
    | succ q ih =>
      intro k hq hk τ hf hst o8
      have hc' := Std_cards (P := P) (n := n) hf hc
      have hlg : lgC τ = lgC σ := lgC_fr hf (by omega)
      have ih := ih (k + 1) (by omega) (by omega)
      have hlt := roomsV_lt P (lgC σ) (nI k) m' t'
      refine sw_iload dX7_many_48 rfl ?_
      refine sw_aloadn dX7_many_50 rfl ?_
      refine sw_getI dX7_many_51 fs_X7_87 o0 ?_
      rw [hc']
      refine sw_icmp_ge (tgt := 102) dX7_many_54 (by decide) (fun h54 => ?_) (fun h54 => ?_)
      · exact absurd h54 ((by rw [nI_le' (by omega) (by omega)]; omega))
      · skip
        refine sw_aloadn dX7_many_57 rfl ?_
        refine sw_getR dX7_many_58 fs_X7_67 o0 r0_10 ?_
        refine sw_iload dX7_many_61 rfl ?_
        refine sw_iloadn dX7_many_63 rfl ?_
        refine sw_iloadn dX7_many_64 rfl ?_
        refine sx_invI3 dX7_many_65 mk_X1_roomsOf vk_X1_roomsOf lk_X7_127 o31 (Nat.le_of_ble_eq_true rfl) (Nat.le_of_ble_eq_true rfl) ?_
        refine c_roomsOf (σ := τ) (hst (by omega)) (show k < 10 by omega) b2 (show m' ≤ n by omega) (fun τ' hf' hst' => ?_)
        rw [hlg]
        refine sw_istore dX7_many_68 (Nat.le_of_ble_eq_true rfl) ?_
        refine sw_iload dX7_many_70 rfl ?_
        refine sw_if_ne (tgt := 85) dX7_many_72 (by decide) (fun h72 => ?_) (fun h72 => ?_)
        · skip
          refine sw_iload dX7_many_85 rfl ?_
          refine sw_iload dX7_many_87 rfl ?_
          refine sw_iand dX7_many_89 ?_
          refine sw_if_eq (tgt := 96) dX7_many_90 (by decide) (fun h90 => ?_) (fun h90 => ?_)
          · skip
            refine sx_iinc (nI (k + 1)) dX7_many_96 rfl (nI_inc _) ?_
            refine sw_goto (tgt := 48) dX7_many_99 (by decide) ?_
            have ih := ih τ' (fr_tr hf hf') (fun _ => hst')
            first
              | (have e : manyB P (lgC σ) r t' m' w k = true := by rw [manyB, if_pos (show w = nI 0 from h72)]; exact decide_eq_true (nI_inj (by omega) (by omega) h79)
                 rw [cnt, if_pos e] at ih; exact ih _)
              | (have e : ¬ manyB P (lgC σ) r t' m' w k = true := by rw [manyB, if_pos (show w = nI 0 from h72)]; exact fun z => h79 (congrArg nI (of_decide_eq_true z))
                 rw [cnt, if_neg e] at ih; exact ih _)
              | (have e : manyB P (lgC σ) r t' m' w k = true := by
                   rw [manyB, if_neg (show ¬ w = nI 0 from h72), ← Bool.not_eq_false]
                   exact fun z => h90 ((and_z (by omega)).mpr (and_2p.mpr z))
                 rw [cnt, if_pos e] at ih; exact ih _)
              | (have e : ¬ manyB P (lgC σ) r t' m' w k = true := by
                   rw [manyB, if_neg (show ¬ w = nI 0 from h72), Bool.not_eq_true]
                   exact and_2p.mp ((and_z (by omega)).mp h90)
                 rw [cnt, if_neg e] at ih; exact ih _)
          · skip
            refine sx_iinc (nI (cnt (manyB P (lgC σ) r t' m' w) k + 1)) dX7_many_93 rfl (nI_inc _) ?_
            refine sx_iinc (nI (k + 1)) dX7_many_96 rfl (nI_inc _) ?_
            refine sw_goto (tgt := 48) dX7_many_99 (by decide) ?_
            have ih := ih τ' (fr_tr hf hf') (fun _ => hst')
            first
              | (have e : manyB P (lgC σ) r t' m' w k = true := by rw [manyB, if_pos (show w = nI 0 from h72)]; exact decide_eq_true (nI_inj (by omega) (by omega) h79)
                 rw [cnt, if_pos e] at ih; exact ih _)
              | (have e : ¬ manyB P (lgC σ) r t' m' w k = true := by rw [manyB, if_pos (show w = nI 0 from h72)]; exact fun z => h79 (congrArg nI (of_decide_eq_true z))
                 rw [cnt, if_neg e] at ih; exact ih _)
              | (have e : manyB P (lgC σ) r t' m' w k = true := by
                   rw [manyB, if_neg (show ¬ w = nI 0 from h72), ← Bool.not_eq_false]
                   exact fun z => h90 ((and_z (by omega)).mpr (and_2p.mpr z))
                 rw [cnt, if_pos e] at ih; exact ih _)
              | (have e : ¬ manyB P (lgC σ) r t' m' w k = true := by
                   rw [manyB, if_neg (show ¬ w = nI 0 from h72), Bool.not_eq_true]
                   exact and_2p.mp ((and_z (by omega)).mp h90)
                 rw [cnt, if_neg e] at ih; exact ih _)
        · skip
          refine sw_iload dX7_many_75 rfl ?_
          refine sw_iload dX7_many_77 rfl ?_
          refine sw_icmp_ne (tgt := 96) dX7_many_79 (by decide) (fun h79 => ?_) (fun h79 => ?_)
          · skip
            refine sx_iinc (nI (k + 1)) dX7_many_96 rfl (nI_inc _) ?_
            refine sw_goto (tgt := 48) dX7_many_99 (by decide) ?_
            have ih := ih τ' (fr_tr hf hf') (fun _ => hst')
            first
              | (have e : manyB P (lgC σ) r t' m' w k = true := by rw [manyB, if_pos (show w = nI 0 from h72)]; exact decide_eq_true (nI_inj (by omega) (by omega) h79)
                 rw [cnt, if_pos e] at ih; exact ih _)
              | (have e : ¬ manyB P (lgC σ) r t' m' w k = true := by rw [manyB, if_pos (show w = nI 0 from h72)]; exact fun z => h79 (congrArg nI (of_decide_eq_true z))
                 rw [cnt, if_neg e] at ih; exact ih _)
              | (have e : manyB P (lgC σ) r t' m' w k = true := by
                   rw [manyB, if_neg (show ¬ w = nI 0 from h72), ← Bool.not_eq_false]
                   exact fun z => h90 ((and_z (by omega)).mpr (and_2p.mpr z))
                 rw [cnt, if_pos e] at ih; exact ih _)
              | (have e : ¬ manyB P (lgC σ) r t' m' w k = true := by
                   rw [manyB, if_neg (show ¬ w = nI 0 from h72), Bool.not_eq_true]
                   exact and_2p.mp ((and_z (by omega)).mp h90)
                 rw [cnt, if_neg e] at ih; exact ih _)
          · skip
            refine sw_goto (tgt := 93) dX7_many_82 (by decide) ?_
            refine sx_iinc (nI (cnt (manyB P (lgC σ) r t' m' w) k + 1)) dX7_many_93 rfl (nI_inc _) ?_
            refine sx_iinc (nI (k + 1)) dX7_many_96 rfl (nI_inc _) ?_
            refine sw_goto (tgt := 48) dX7_many_99 (by decide) ?_
            have ih := ih τ' (fr_tr hf hf') (fun _ => hst')
            first
              | (have e : manyB P (lgC σ) r t' m' w k = true := by rw [manyB, if_pos (show w = nI 0 from h72)]; exact decide_eq_true (nI_inj (by omega) (by omega) h79)
                 rw [cnt, if_pos e] at ih; exact ih _)
              | (have e : ¬ manyB P (lgC σ) r t' m' w k = true := by rw [manyB, if_pos (show w = nI 0 from h72)]; exact fun z => h79 (congrArg nI (of_decide_eq_true z))
                 rw [cnt, if_neg e] at ih; exact ih _)
              | (have e : manyB P (lgC σ) r t' m' w k = true := by
                   rw [manyB, if_neg (show ¬ w = nI 0 from h72), ← Bool.not_eq_false]
                   exact fun z => h90 ((and_z (by omega)).mpr (and_2p.mpr z))
                 rw [cnt, if_pos e] at ih; exact ih _)
              | (have e : ¬ manyB P (lgC σ) r t' m' w k = true := by
                   rw [manyB, if_neg (show ¬ w = nI 0 from h72), Bool.not_eq_true]
                   exact and_2p.mp ((and_z (by omega)).mp h90)
                 rw [cnt, if_neg e] at ih; exact ih _)
  refine sw_aloadn dX7_many_0 rfl ?_
  refine sw_iloadn dX7_many_1 rfl ?_
  refine sx_invI1 dX7_many_2 mk_X7_hasRoom vk_X7_hasRoom lk_X7_118 o0 (Nat.le_of_ble_eq_true rfl) (Nat.le_of_ble_eq_true rfl) ?_
  refine c_X7_hasRoom hr (by omega) (fun h2 => ?_) (fun h2 => ?_)
  · skip
    refine sw_if_eq (tgt := 35) dX7_many_5 (by decide) (fun h5 => ?_) (fun h5 => ?_)
    · exact absurd h5 (by decide)
    · skip
      refine sw_aloadn dX7_many_8 rfl ?_
      refine sw_iloadn dX7_many_9 rfl ?_
      refine sx_invI1 dX7_many_10 mk_X7_isTick vk_X7_isTick lk_X7_107 o0 (Nat.le_of_ble_eq_true rfl) (Nat.le_of_ble_eq_true rfl) ?_
      refine c_X7_isTick (fun h10 => ?_) (fun h10 => ?_)
      · skip
        refine sw_if_eq (tgt := 35) dX7_many_13 (by decide) (fun h13 => ?_) (fun h13 => ?_)
        · exact absurd h13 (by decide)
        · skip
          refine sw_aloadn dX7_many_16 rfl ?_
          refine sw_iloadn dX7_many_17 rfl ?_
          refine sx_invI1 dX7_many_18 mk_X7_isBehind vk_X7_isBehind lk_X7_124 o0 (Nat.le_of_ble_eq_true rfl) (Nat.le_of_ble_eq_true rfl) ?_
          refine c_X7_isBehind hn hnb (fun h18 => ?_) (fun h18 => ?_)
          · skip
            refine sw_if_eq (tgt := 35) dX7_many_21 (by decide) (fun h21 => ?_) (fun h21 => ?_)
            · exact absurd h21 (by decide)
            · skip
              refine sw_iload dX7_many_24 rfl ?_
              refine sw_if_lt (tgt := 35) dX7_many_26 (by decide) (fun h26 => ?_) (fun h26 => ?_)
              · skip
                refine sx_iconst (v := (-1)) dX7_many_35 (by decide) ?_
                refine sx_reti dX7_many_36 rfl ?_
                first
                  | exact k0 (fun q => h2 q.1)
                  | exact k0 (fun q => h10 q.2.1)
                  | exact k0 (fun q => h18 q.2.2.1)
                  | exact k0 (fun q => inR_lt h26 (by omega) q.2.2.2)
                  | exact k0 (fun q => inR_gt (Int32.not_le.mp h32) (by omega) q.2.2.2)
              · skip
                refine sw_iload dX7_many_29 rfl ?_
                refine sx_iconst (v := nI 1) dX7_many_31 (by decide) ?_
                refine sw_icmp_le (tgt := 37) dX7_many_32 (by decide) (fun h32 => ?_) (fun h32 => ?_)
                · skip
                  obtain ⟨r, r1, rfl⟩ := h2
                  obtain ⟨t', t1, rfl⟩ := h10
                  obtain ⟨m', m1, rfl⟩ := h18
                  have hw : inR w 2 := inR_le h26 (Int32.not_lt.mpr h32) (by omega)
                  refine sx_iconst (v := nI 1) dX7_many_37 (by decide) ?_
                  refine sw_iloadn dX7_many_38 rfl ?_
                  refine sw_ishl dX7_many_39 ?_
                  refine sw_topI (y := nI (2 ^ r)) (shl_nI r (by omega)) ?_
                  refine sw_istore dX7_many_40 (Nat.le_of_ble_eq_true rfl) ?_
                  refine sx_iconst (v := nI 0) dX7_many_42 (by decide) ?_
                  refine sw_istore dX7_many_43 (Nat.le_of_ble_eq_true rfl) ?_
                  refine sx_iconst (v := nI 0) dX7_many_45 (by decide) ?_
                  refine sw_istore dX7_many_46 (Nat.le_of_ble_eq_true rfl) ?_
                  exact loop r t' m' r1 t1 m1 rfl rfl rfl hw nc 0 (by omega) (by omega) σ fr_rf hS _
                · skip
                  refine sx_iconst (v := (-1)) dX7_many_35 (by decide) ?_
                  refine sx_reti dX7_many_36 rfl ?_
                  first
                    | exact k0 (fun q => h2 q.1)
                    | exact k0 (fun q => h10 q.2.1)
                    | exact k0 (fun q => h18 q.2.2.1)
                    | exact k0 (fun q => inR_lt h26 (by omega) q.2.2.2)
                    | exact k0 (fun q => inR_gt (Int32.not_le.mp h32) (by omega) q.2.2.2)
          · skip
            refine sw_if_eq (tgt := 35) dX7_many_21 (by decide) (fun h21 => ?_) (fun h21 => ?_)
            · skip
              refine sx_iconst (v := (-1)) dX7_many_35 (by decide) ?_
              refine sx_reti dX7_many_36 rfl ?_
              first
                | exact k0 (fun q => h2 q.1)
                | exact k0 (fun q => h10 q.2.1)
                | exact k0 (fun q => h18 q.2.2.1)
                | exact k0 (fun q => inR_lt h26 (by omega) q.2.2.2)
                | exact k0 (fun q => inR_gt (Int32.not_le.mp h32) (by omega) q.2.2.2)
            · exact absurd h21 (by decide)
      · skip
        refine sw_if_eq (tgt := 35) dX7_many_13 (by decide) (fun h13 => ?_) (fun h13 => ?_)
        · skip
          refine sx_iconst (v := (-1)) dX7_many_35 (by decide) ?_
          refine sx_reti dX7_many_36 rfl ?_
          first
            | exact k0 (fun q => h2 q.1)
            | exact k0 (fun q => h10 q.2.1)
            | exact k0 (fun q => h18 q.2.2.1)
            | exact k0 (fun q => inR_lt h26 (by omega) q.2.2.2)
            | exact k0 (fun q => inR_gt (Int32.not_le.mp h32) (by omega) q.2.2.2)
        · exact absurd h13 (by decide)
  · skip
    refine sw_if_eq (tgt := 35) dX7_many_5 (by decide) (fun h5 => ?_) (fun h5 => ?_)
    · skip
      refine sx_iconst (v := (-1)) dX7_many_35 (by decide) ?_
      refine sx_reti dX7_many_36 rfl ?_
      first
        | exact k0 (fun q => h2 q.1)
        | exact k0 (fun q => h10 q.2.1)
        | exact k0 (fun q => h18 q.2.2.1)
        | exact k0 (fun q => inR_lt h26 (by omega) q.2.2.2)
        | exact k0 (fun q => inR_gt (Int32.not_le.mp h32) (by omega) q.2.2.2)
    · exact absurd h5 (by decide)
theorem c_X7_inside {f : Int32 → Mem → Prop} {P : PL} {nc n : Nat} {t m w : Int32} (hc : σ.1 0 3 = nI nc) (hcb : nc ≤ 10) (hn : σ.1 17 0 = nI n) (hnb : n ≤ 100) (hS : 0 < nc → Std σ P nc n) (k1 : ∀ t' m', t' < 200 → m' < n + 1 → t = nI t' → m = nI m' → inR w 3 → ∀ τ, fr 31 45 σ τ → (0 < nc → Std τ P nc n) → f (if w = nI 0 then nI (cnt (sureB P (lgC σ) t' m') nc) else if w = nI 1 then nI (cnt (insB P (lgC σ) t' m') nc) else nI (bts (insB P (lgC σ) t' m') id nc)) τ) (k0 : ¬ (inR t 200 ∧ inR m (n + 1) ∧ inR w 3) → f (-1) σ) : SW G (d + 5) M_X7_inside 0 [some (.ref 0), some (.int t), some (.int m), some (.int w), none, none, none, none, none] [] σ (RI f) := by
  have loop : ∀ t' m', t' < 200 → m' < n + 1 → t = nI t' → m = nI m' → inR w 3 → ∀ (q k : Nat), q = nc - k → k ≤ nc → ∀ τ, fr 31 45 σ τ → (0 < nc → Std τ P nc n) → ∀ o8, SW G (d + 5) M_X7_inside 39 [some (.ref 0), some (.int (nI t')), some (.int (nI m')), some (.int w), some (.int (nI 1)), some (.int (nI (cnt (sureB P (lgC σ) t' m') k))), some (.int (nI (bts (insB P (lgC σ) t' m') id k))), some (.int (nI k)), o8] [] τ (RI f) := by
    intro t' m' b2 b3 b5 b6 b7 q
    have bl : ∀ k, k ≤ nc → bts (insB P (lgC σ) t' m') id k < 1024 := fun k hk => bts_lt (b := 10) (fun j hj _ => by show j < 10; omega)
    induction q with
    | zero =>
      intro k hq hk τ hf hst o8
      obtain rfl : k = nc := by omega
      have hc' := Std_cards (P := P) (n := n) hf hc
      have k1 := k1 t' m' b2 b3 b5 b6 b7 τ hf hst
      refine sw_iload dX7_inside_39 rfl ?_
      refine sw_aloadn dX7_inside_41 rfl ?_
      refine sw_getI dX7_inside_42 fs_X7_87 o0 ?_
      rw [hc']
      refine sw_icmp_ge (tgt := 97) dX7_inside_45 (by decide) (fun h45 => ?_) (fun h45 => ?_)
      · skip
        refine sw_iloadn dX7_inside_97 rfl ?_
        refine sw_if_ne (tgt := 104) dX7_inside_98 (by decide) (fun h98 => ?_) (fun h98 => ?_)
        · skip
          refine sw_iloadn dX7_inside_104 rfl ?_
          refine sx_iconst (v := nI 1) dX7_inside_105 (by decide) ?_
          refine sw_icmp_ne (tgt := 117) dX7_inside_106 (by decide) (fun h106 => ?_) (fun h106 => ?_)
          · skip
            refine sw_iload dX7_inside_117 rfl ?_
            refine sx_reti dX7_inside_119 rfl ?_
            first
              | (rw [if_pos (show w = nI 0 from h98)] at k1; exact k1)
              | (rw [if_neg (show ¬ w = nI 0 from h98), if_pos h106] at k1; exact k1)
              | (rw [if_neg (show ¬ w = nI 0 from h98), if_neg h106] at k1; exact k1)
          · skip
            refine sw_iload dX7_inside_109 rfl ?_
            refine sx_insI1 dX7_inside_111 mk_J6_bitCount_0f7a4 sk_J6_bitCount_0f7a4 lk_X7_146 (Nat.le_of_ble_eq_true rfl) (Nat.le_of_ble_eq_true rfl) ?_
            refine c_bitCount ?_
            rw [bc_small _ (bl k hk), cnt_bts _ k (by omega)]
            refine sw_goto (tgt := 119) dX7_inside_114 (by decide) ?_
            refine sx_reti dX7_inside_119 rfl ?_
            first
              | (rw [if_pos (show w = nI 0 from h98)] at k1; exact k1)
              | (rw [if_neg (show ¬ w = nI 0 from h98), if_pos h106] at k1; exact k1)
              | (rw [if_neg (show ¬ w = nI 0 from h98), if_neg h106] at k1; exact k1)
        · skip
          refine sw_iload dX7_inside_101 rfl ?_
          refine sx_reti dX7_inside_103 rfl ?_
          first
            | (rw [if_pos (show w = nI 0 from h98)] at k1; exact k1)
            | (rw [if_neg (show ¬ w = nI 0 from h98), if_pos h106] at k1; exact k1)
            | (rw [if_neg (show ¬ w = nI 0 from h98), if_neg h106] at k1; exact k1)
      · exact absurd ((nI_le (Nat.le_refl _) (by omega))) h45
    | succ q ih =>
      intro k hq hk τ hf hst o8
      have hc' := Std_cards (P := P) (n := n) hf hc
      have hlg : lgC τ = lgC σ := lgC_fr hf (by omega)
      have ih := ih (k + 1) (by omega) (by omega)
      have hlt := roomsV_lt P (lgC σ) (nI k) m' t'
      have hio := in_out _ hlt
      refine sw_iload dX7_inside_39 rfl ?_
      refine sw_aloadn dX7_inside_41 rfl ?_
      refine sw_getI dX7_inside_42 fs_X7_87 o0 ?_
      rw [hc']
      refine sw_icmp_ge (tgt := 97) dX7_inside_45 (by decide) (fun h45 => ?_) (fun h45 => ?_)
      · exact absurd h45 ((by rw [nI_le' (by omega) (by omega)]; omega))
      · skip
        refine sw_aloadn dX7_inside_48 rfl ?_
        refine sw_getR dX7_inside_49 fs_X7_67 o0 r0_10 ?_
        refine sw_iload dX7_inside_52 rfl ?_
        refine sw_iloadn dX7_inside_54 rfl ?_
        refine sw_iloadn dX7_inside_55 rfl ?_
        refine sx_invI3 dX7_inside_56 mk_X1_roomsOf vk_X1_roomsOf lk_X7_127 o31 (Nat.le_of_ble_eq_true rfl) (Nat.le_of_ble_eq_true rfl) ?_
        refine c_roomsOf (σ := τ) (hst (by omega)) (show k < 10 by omega) b2 (show m' ≤ n by omega) (fun τ' hf' hst' => ?_)
        rw [hlg]
        refine sw_istore dX7_inside_59 (Nat.le_of_ble_eq_true rfl) ?_
        refine sw_iload dX7_inside_61 rfl ?_
        refine sw_iload dX7_inside_63 rfl ?_
        refine sx_iconst (v := (-1)) dX7_inside_65 (by decide) ?_
        refine sw_ixor dX7_inside_66 ?_
        refine sw_iand dX7_inside_67 ?_
        refine sw_if_eq (tgt := 91) dX7_inside_68 (by decide) (fun h68 => ?_) (fun h68 => ?_)
        · skip
          refine sx_iinc (nI (k + 1)) dX7_inside_91 rfl (nI_inc _) ?_
          refine sw_goto (tgt := 39) dX7_inside_94 (by decide) ?_
          have ih := ih τ' (fr_tr hf hf') (fun _ => hst')
          first
            | (have e1 : insB P (lgC σ) t' m' k = true := decide_eq_true (Classical.byContradiction (fun z => h68 (hio.mpr z)))
               have e3 : (roomsV P (lgC σ) (nI k) m' t').testBit 0 = false := and_2p.mp ((and_z (by omega)).mp h85)
               have e2 : sureB P (lgC σ) t' m' k = true := by
                 unfold sureB; unfold insB at e1; rw [e1, e3]; rfl
               rw [cnt, if_pos e2, bts, if_pos e1] at ih; exact ih _)
            | (have e1 : insB P (lgC σ) t' m' k = true := decide_eq_true (Classical.byContradiction (fun z => h68 (hio.mpr z)))
               have e3 : (roomsV P (lgC σ) (nI k) m' t').testBit 0 = true := by
                 rw [← Bool.not_eq_false]
                 exact fun z => h85 ((and_z (by omega)).mpr (and_2p.mpr z))
               have e2 : ¬ sureB P (lgC σ) t' m' k = true := by
                 unfold sureB; rw [e3]; simp
               rw [cnt, if_neg e2, bts, if_pos e1] at ih; exact ih _)
            | (have e1 : ¬ insB P (lgC σ) t' m' k = true := fun z => hio.mp h68 (of_decide_eq_true z)
               have e2 : ¬ sureB P (lgC σ) t' m' k = true := by
                 unfold sureB; unfold insB at e1; rw [Bool.eq_false_iff.mpr e1]; simp
               rw [cnt, if_neg e2, bts, if_neg e1] at ih; exact ih _)
        · skip
          refine sw_iload dX7_inside_71 rfl ?_
          refine sx_iconst (v := nI 1) dX7_inside_73 (by decide) ?_
          refine sw_iload dX7_inside_74 rfl ?_
          refine sw_ishl dX7_inside_76 ?_
          refine sw_ior dX7_inside_77 ?_
          rw [or_st _ (show k < 31 by omega)]
          refine sw_istore dX7_inside_78 (Nat.le_of_ble_eq_true rfl) ?_
          refine sw_iload dX7_inside_80 rfl ?_
          refine sw_iload dX7_inside_82 rfl ?_
          refine sw_iand dX7_inside_84 ?_
          refine sw_if_ne (tgt := 91) dX7_inside_85 (by decide) (fun h85 => ?_) (fun h85 => ?_)
          · skip
            refine sx_iinc (nI (k + 1)) dX7_inside_91 rfl (nI_inc _) ?_
            refine sw_goto (tgt := 39) dX7_inside_94 (by decide) ?_
            have ih := ih τ' (fr_tr hf hf') (fun _ => hst')
            first
              | (have e1 : insB P (lgC σ) t' m' k = true := decide_eq_true (Classical.byContradiction (fun z => h68 (hio.mpr z)))
                 have e3 : (roomsV P (lgC σ) (nI k) m' t').testBit 0 = false := and_2p.mp ((and_z (by omega)).mp h85)
                 have e2 : sureB P (lgC σ) t' m' k = true := by
                   unfold sureB; unfold insB at e1; rw [e1, e3]; rfl
                 rw [cnt, if_pos e2, bts, if_pos e1] at ih; exact ih _)
              | (have e1 : insB P (lgC σ) t' m' k = true := decide_eq_true (Classical.byContradiction (fun z => h68 (hio.mpr z)))
                 have e3 : (roomsV P (lgC σ) (nI k) m' t').testBit 0 = true := by
                   rw [← Bool.not_eq_false]
                   exact fun z => h85 ((and_z (by omega)).mpr (and_2p.mpr z))
                 have e2 : ¬ sureB P (lgC σ) t' m' k = true := by
                   unfold sureB; rw [e3]; simp
                 rw [cnt, if_neg e2, bts, if_pos e1] at ih; exact ih _)
              | (have e1 : ¬ insB P (lgC σ) t' m' k = true := fun z => hio.mp h68 (of_decide_eq_true z)
                 have e2 : ¬ sureB P (lgC σ) t' m' k = true := by
                   unfold sureB; unfold insB at e1; rw [Bool.eq_false_iff.mpr e1]; simp
                 rw [cnt, if_neg e2, bts, if_neg e1] at ih; exact ih _)
          · skip
            refine sx_iinc (nI (cnt (sureB P (lgC σ) t' m') k + 1)) dX7_inside_88 rfl (nI_inc _) ?_
            refine sx_iinc (nI (k + 1)) dX7_inside_91 rfl (nI_inc _) ?_
            refine sw_goto (tgt := 39) dX7_inside_94 (by decide) ?_
            have ih := ih τ' (fr_tr hf hf') (fun _ => hst')
            first
              | (have e1 : insB P (lgC σ) t' m' k = true := decide_eq_true (Classical.byContradiction (fun z => h68 (hio.mpr z)))
                 have e3 : (roomsV P (lgC σ) (nI k) m' t').testBit 0 = false := and_2p.mp ((and_z (by omega)).mp h85)
                 have e2 : sureB P (lgC σ) t' m' k = true := by
                   unfold sureB; unfold insB at e1; rw [e1, e3]; rfl
                 rw [cnt, if_pos e2, bts, if_pos e1] at ih; exact ih _)
              | (have e1 : insB P (lgC σ) t' m' k = true := decide_eq_true (Classical.byContradiction (fun z => h68 (hio.mpr z)))
                 have e3 : (roomsV P (lgC σ) (nI k) m' t').testBit 0 = true := by
                   rw [← Bool.not_eq_false]
                   exact fun z => h85 ((and_z (by omega)).mpr (and_2p.mpr z))
                 have e2 : ¬ sureB P (lgC σ) t' m' k = true := by
                   unfold sureB; rw [e3]; simp
                 rw [cnt, if_neg e2, bts, if_pos e1] at ih; exact ih _)
              | (have e1 : ¬ insB P (lgC σ) t' m' k = true := fun z => hio.mp h68 (of_decide_eq_true z)
                 have e2 : ¬ sureB P (lgC σ) t' m' k = true := by
                   unfold sureB; unfold insB at e1; rw [Bool.eq_false_iff.mpr e1]; simp
                 rw [cnt, if_neg e2, bts, if_neg e1] at ih; exact ih _)
  refine sw_aloadn dX7_inside_0 rfl ?_
  refine sw_iloadn dX7_inside_1 rfl ?_
  refine sx_invI1 dX7_inside_2 mk_X7_isTick vk_X7_isTick lk_X7_107 o0 (Nat.le_of_ble_eq_true rfl) (Nat.le_of_ble_eq_true rfl) ?_
  refine c_X7_isTick (fun h2 => ?_) (fun h2 => ?_)
  · skip
    refine sw_if_eq (tgt := 25) dX7_inside_5 (by decide) (fun h5 => ?_) (fun h5 => ?_)
    · exact absurd h5 (by decide)
    · skip
      refine sw_aloadn dX7_inside_8 rfl ?_
      refine sw_iloadn dX7_inside_9 rfl ?_
      refine sx_invI1 dX7_inside_10 mk_X7_isBehind vk_X7_isBehind lk_X7_124 o0 (Nat.le_of_ble_eq_true rfl) (Nat.le_of_ble_eq_true rfl) ?_
      refine c_X7_isBehind hn hnb (fun h10 => ?_) (fun h10 => ?_)
      · skip
        refine sw_if_eq (tgt := 25) dX7_inside_13 (by decide) (fun h13 => ?_) (fun h13 => ?_)
        · exact absurd h13 (by decide)
        · skip
          refine sw_iloadn dX7_inside_16 rfl ?_
          refine sw_if_lt (tgt := 25) dX7_inside_17 (by decide) (fun h17 => ?_) (fun h17 => ?_)
          · skip
            refine sx_iconst (v := (-1)) dX7_inside_25 (by decide) ?_
            refine sx_reti dX7_inside_26 rfl ?_
            first
              | exact k0 (fun q => h2 q.1)
              | exact k0 (fun q => h10 q.2.1)
              | exact k0 (fun q => inR_lt h17 (by omega) q.2.2)
              | exact k0 (fun q => inR_gt (Int32.not_le.mp h22) (by omega) q.2.2)
          · skip
            refine sw_iloadn dX7_inside_20 rfl ?_
            refine sx_iconst (v := nI 2) dX7_inside_21 (by decide) ?_
            refine sw_icmp_le (tgt := 27) dX7_inside_22 (by decide) (fun h22 => ?_) (fun h22 => ?_)
            · skip
              obtain ⟨t', t1, rfl⟩ := h2
              obtain ⟨m', m1, rfl⟩ := h10
              have hw : inR w 3 := inR_le h17 (Int32.not_lt.mpr h22) (by omega)
              refine sx_iconst (v := nI 1) dX7_inside_27 (by decide) ?_
              refine sw_istore dX7_inside_28 (Nat.le_of_ble_eq_true rfl) ?_
              refine sx_iconst (v := nI 0) dX7_inside_30 (by decide) ?_
              refine sw_istore dX7_inside_31 (Nat.le_of_ble_eq_true rfl) ?_
              refine sx_iconst (v := nI 0) dX7_inside_33 (by decide) ?_
              refine sw_istore dX7_inside_34 (Nat.le_of_ble_eq_true rfl) ?_
              refine sx_iconst (v := nI 0) dX7_inside_36 (by decide) ?_
              refine sw_istore dX7_inside_37 (Nat.le_of_ble_eq_true rfl) ?_
              exact loop t' m' t1 m1 rfl rfl hw nc 0 (by omega) (by omega) σ fr_rf hS _
            · skip
              refine sx_iconst (v := (-1)) dX7_inside_25 (by decide) ?_
              refine sx_reti dX7_inside_26 rfl ?_
              first
                | exact k0 (fun q => h2 q.1)
                | exact k0 (fun q => h10 q.2.1)
                | exact k0 (fun q => inR_lt h17 (by omega) q.2.2)
                | exact k0 (fun q => inR_gt (Int32.not_le.mp h22) (by omega) q.2.2)
      · skip
        refine sw_if_eq (tgt := 25) dX7_inside_13 (by decide) (fun h13 => ?_) (fun h13 => ?_)
        · skip
          refine sx_iconst (v := (-1)) dX7_inside_25 (by decide) ?_
          refine sx_reti dX7_inside_26 rfl ?_
          first
            | exact k0 (fun q => h2 q.1)
            | exact k0 (fun q => h10 q.2.1)
            | exact k0 (fun q => inR_lt h17 (by omega) q.2.2)
            | exact k0 (fun q => inR_gt (Int32.not_le.mp h22) (by omega) q.2.2)
        · exact absurd h13 (by decide)
  · skip
    refine sw_if_eq (tgt := 25) dX7_inside_5 (by decide) (fun h5 => ?_) (fun h5 => ?_)
    · skip
      refine sx_iconst (v := (-1)) dX7_inside_25 (by decide) ?_
      refine sx_reti dX7_inside_26 rfl ?_
      first
        | exact k0 (fun q => h2 q.1)
        | exact k0 (fun q => h10 q.2.1)
        | exact k0 (fun q => inR_lt h17 (by omega) q.2.2)
        | exact k0 (fun q => inR_gt (Int32.not_le.mp h22) (by omega) q.2.2)
    · exact absurd h5 (by decide)
end PUBLIC
