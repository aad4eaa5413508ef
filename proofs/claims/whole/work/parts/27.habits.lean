/-! ===== the plan as numbers; what passes tell ===== -/
/-- kind, card, target, tick, more -/
abbrev LG : Type := (Nat → Int32) × (Nat → Int32) × (Nat → Int32) × (Nat → Int32) × (Nat → Int32)
def lgC (σ : Mem) : LG := (σ.1 18, σ.1 19, σ.1 20, σ.1 21, σ.1 22)
def lgM (σ : Mem) : LG := (σ.1 58, σ.1 59, σ.1 60, σ.1 61, σ.1 62)
abbrev lKD (g : LG) : Nat → Int32 := g.1
abbrev lCA (g : LG) : Nat → Int32 := g.2.1
abbrev lTG (g : LG) : Nat → Int32 := g.2.2.1
abbrev lTK (g : LG) : Nat → Int32 := g.2.2.2.1
abbrev lMO (g : LG) : Nat → Int32 := g.2.2.2.2
def nv (f : Nat → Int32) (k : Nat) : Nat := (f k).toNatClampNeg
/-- f k is a number below b -/
def okv (f : Nat → Int32) (b k : Nat) : Prop := f k = nI (nv f k) ∧ nv f k < b
theorem okv_of {f : Nat → Int32} {b k j : Nat} (h : f k = nI j) (hj : j < b) (hb : b < 100000) : okv f b k := by
  have e : nv f k = j := by rw [nv, h, nI_clamp (by omega)]
  exact ⟨by rw [e]; exact h, by rw [e]; exact hj⟩
/-- rooms, doors, widths, first, second, errors -/
abbrev PL : Type := Nat × Nat × (Nat → Nat) × (Nat → Nat) × (Nat → Nat) × (Nat → Nat)
abbrev pR (P : PL) : Nat := P.1
abbrev pD (P : PL) : Nat := P.2.1
abbrev pW (P : PL) : Nat → Nat := P.2.2.1
abbrev pF (P : PL) : Nat → Nat := P.2.2.2.1
abbrev pS (P : PL) : Nat → Nat := P.2.2.2.2.1
abbrev pE (P : PL) : Nat → Nat := P.2.2.2.2.2
def PlC (σ : Mem) (P : PL) : Prop := σ.1 2 0 = nI (pR P) ∧ σ.1 2 1 = nI (pD P) ∧ (∀ k, k < pR P → σ.1 4 k = nI (pW P k)) ∧ (∀ k, k < pD P → σ.1 6 k = nI (pF P k)) ∧ (∀ k, k < pD P → σ.1 7 k = nI (pS P k)) ∧ (∀ k, k < pD P → σ.1 8 k = nI (pE P k))
def PlM (σ : Mem) (P : PL) : Prop := σ.1 46 18 = nI (pR P) ∧ σ.1 46 19 = nI (pD P) ∧ (∀ k, k < pR P → σ.1 54 k = nI (pW P k)) ∧ (∀ k, k < pD P → σ.1 55 k = nI (pF P k)) ∧ (∀ k, k < pD P → σ.1 56 k = nI (pS P k)) ∧ (∀ k, k < pD P → σ.1 57 k = nI (pE P k))
def PV (P : PL) : Prop := pR P ≤ 8 ∧ pD P ≤ 10 ∧ (∀ k, k < pR P → pW P k ≤ 4) ∧ (∀ k, k < pD P → pF P k < pR P ∧ pS P k < pR P ∧ pF P k ≠ pS P k ∧ pE P k ≤ 6) ∧ (pR P = 0 → pD P = 0)
/-- the logs hold what was told -/
def LV (P : PL) (nc n : Nat) (g : LG) : Prop := ∀ k, k < n →
  (lKD g k = 0 ∧ okv (lCA g) nc k ∧ okv (lTG g) (pD P) k ∧ okv (lTK g) 200 k ∧ (lMO g k = nI 0 ∨ lMO g k = nI 1)) ∨
  (lKD g k = nI 1 ∧ lCA g k = -1 ∧ okv (lTG g) (pD P) k ∧ okv (lTK g) 200 k ∧ okv (lMO g) 200 k ∧ nv (lTK g) k ≤ nv (lMO g) k) ∨
  (lKD g k = nI 2 ∧ okv (lCA g) nc k ∧ okv (lTG g) (pR P) k ∧ okv (lTK g) 200 k ∧ lMO g k = -1)
theorem LV.pass {P : PL} {nc n : Nat} {g : LG} (h : LV P nc n g) {k : Nat} (hk : k < n) (h0 : lKD g k = 0) : okv (lCA g) nc k ∧ okv (lTG g) (pD P) k ∧ okv (lTK g) 200 k ∧ (lMO g k = nI 0 ∨ lMO g k = nI 1) := by
  rcases h k hk with q | q | q
  · exact q.2
  · rw [q.1] at h0; exact absurd h0 (by decide)
  · rw [q.1] at h0; exact absurd h0 (by decide)
def pas (g : LG) (y : Int32) (k : Nat) : Prop := lKD g k = 0 ∧ lCA g k = y
def cmt (P : PL) (g : LG) (k : Nat) : Nat := if lMO g k = nI 1 then pF P (nv (lTG g) k) else pS P (nv (lTG g) k)
def lft (P : PL) (g : LG) (k : Nat) : Nat := if lMO g k = nI 1 then pS P (nv (lTG g) k) else pF P (nv (lTG g) k)
section HABITS
variable {G : GG} {d : Nat} {σ : Mem}
theorem c_X3_roomLeft {f : Int32 → Mem → Prop} {P : PL} (hP : PlC σ P) (hV : PV P) {k : Nat} {b : Int32} (hk : k < pD P) (h : f (nI (if b = 0 then pF P k else pS P k)) σ) : SW G d M_X3_roomLeft 0 [some (.ref 2), some (.int (nI k)), some (.int b)] [] σ (RI f) := by
  have hD := hV.2.1
  refine sw_iloadn dX3_roomLeft_0 rfl ?_
  refine sw_if_eq (tgt := 13) dX3_roomLeft_1 (by decide) (fun h1 => ?_) (fun h1 => ?_)
  · skip
    refine sw_aloadn dX3_roomLeft_13 rfl ?_
    refine sw_getR dX3_roomLeft_14 fs_X3_22 o2 r2_5 ?_
    refine sw_iloadn dX3_roomLeft_17 rfl ?_
    refine sx_iald (k) dX3_roomLeft_18 a6 (rfl) (by omega) (by decide) ?_
    refine sx_reti dX3_roomLeft_19 rfl ?_
    first
      | (rw [if_pos h1] at h; rw [hP.2.2.2.1 k hk]; exact h)
      | (rw [if_neg h1] at h; rw [hP.2.2.2.2.1 k hk]; exact h)
  · skip
    refine sw_aloadn dX3_roomLeft_4 rfl ?_
    refine sw_getR dX3_roomLeft_5 fs_X3_25 o2 r2_6 ?_
    refine sw_iloadn dX3_roomLeft_8 rfl ?_
    refine sx_iald (k) dX3_roomLeft_9 a7 (rfl) (by omega) (by decide) ?_
    refine sw_goto (tgt := 19) dX3_roomLeft_10 (by decide) ?_
    refine sx_reti dX3_roomLeft_19 rfl ?_
    first
      | (rw [if_pos h1] at h; rw [hP.2.2.2.1 k hk]; exact h)
      | (rw [if_neg h1] at h; rw [hP.2.2.2.2.1 k hk]; exact h)
theorem c_X3_roomComeTo {f : Int32 → Mem → Prop} {P : PL} (hP : PlC σ P) (hV : PV P) {k : Nat} {b : Int32} (hk : k < pD P) (h : f (nI (if b = 0 then pS P k else pF P k)) σ) : SW G d M_X3_roomComeTo 0 [some (.ref 2), some (.int (nI k)), some (.int b)] [] σ (RI f) := by
  have hD := hV.2.1
  refine sw_iloadn dX3_roomComeTo_0 rfl ?_
  refine sw_if_eq (tgt := 13) dX3_roomComeTo_1 (by decide) (fun h1 => ?_) (fun h1 => ?_)
  · skip
    refine sw_aloadn dX3_roomComeTo_13 rfl ?_
    refine sw_getR dX3_roomComeTo_14 fs_X3_25 o2 r2_6 ?_
    refine sw_iloadn dX3_roomComeTo_17 rfl ?_
    refine sx_iald (k) dX3_roomComeTo_18 a7 (rfl) (by omega) (by decide) ?_
    refine sx_reti dX3_roomComeTo_19 rfl ?_
    first
      | (rw [if_pos h1] at h; rw [hP.2.2.2.2.1 k hk]; exact h)
      | (rw [if_neg h1] at h; rw [hP.2.2.2.1 k hk]; exact h)
  · skip
    refine sw_aloadn dX3_roomComeTo_4 rfl ?_
    refine sw_getR dX3_roomComeTo_5 fs_X3_22 o2 r2_5 ?_
    refine sw_iloadn dX3_roomComeTo_8 rfl ?_
    refine sx_iald (k) dX3_roomComeTo_9 a6 (rfl) (by omega) (by decide) ?_
    refine sw_goto (tgt := 19) dX3_roomComeTo_10 (by decide) ?_
    refine sx_reti dX3_roomComeTo_19 rfl ?_
    first
      | (rw [if_pos h1] at h; rw [hP.2.2.2.2.1 k hk]; exact h)
      | (rw [if_neg h1] at h; rw [hP.2.2.2.1 k hk]; exact h)
theorem c_X0_roomComeTo {f : Int32 → Mem → Prop} {P : PL} (hP : PlC σ P) (hV : PV P) {nc n k : Nat} (hn : n ≤ 100) (hk : k < n) (hL : LV P nc n (lgC σ)) (h0 : σ.1 18 k = 0) (h : f (nI (cmt P (lgC σ) k)) σ) : SW G (d + 1) M_X0_roomComeTo 0 [some (.ref 29), some (.int (nI k))] [] σ (RI f) := by
  obtain ⟨-, ⟨t1, t2⟩, -, -⟩ := hL.pass hk h0
  have t1 : σ.1 20 k = nI (nv (lTG (lgC σ)) k) := t1
  refine sw_aloadn dX0_roomComeTo_0 rfl ?_
  refine sw_getR dX0_roomComeTo_1 fs_X0_15 o29 r29_0 ?_
  refine sw_aloadn dX0_roomComeTo_4 rfl ?_
  refine sw_getR dX0_roomComeTo_5 fs_X0_19 o29 r29_1 ?_
  refine sw_getR dX0_roomComeTo_8 fs_X0_23 o17 r17_3 ?_
  refine sw_iloadn dX0_roomComeTo_11 rfl ?_
  refine sx_iald (k) dX0_roomComeTo_12 a20 (rfl) (by omega) (by decide) ?_
  rw [t1]
  refine sw_aloadn dX0_roomComeTo_13 rfl ?_
  refine sw_getR dX0_roomComeTo_14 fs_X0_19 o29 r29_1 ?_
  refine sw_iloadn dX0_roomComeTo_17 rfl ?_
  refine sx_invI1 dX0_roomComeTo_18 mk_X2_isBack vk_X2_isBack lk_X0_28 o17 (Nat.le_of_ble_eq_true rfl) (Nat.le_of_ble_eq_true rfl) ?_
  refine c_X2_isBack (by omega) (fun h18 => ?_) (fun h18 => ?_)
  · skip
    refine sx_invI2 dX0_roomComeTo_21 mk_X3_roomComeTo vk_X3_roomComeTo lk_X0_32 o2 (Nat.le_of_ble_eq_true rfl) (Nat.le_of_ble_eq_true rfl) ?_
    refine c_X3_roomComeTo hP hV t2 ?_
    refine sx_reti dX0_roomComeTo_24 rfl ?_
    first
      | (rw [cmt, if_pos (show lMO (lgC σ) k = nI 1 from h18)] at h; exact h)
      | (rw [cmt, if_neg (show ¬ lMO (lgC σ) k = nI 1 from h18)] at h; exact h)
  · skip
    refine sx_invI2 dX0_roomComeTo_21 mk_X3_roomComeTo vk_X3_roomComeTo lk_X0_32 o2 (Nat.le_of_ble_eq_true rfl) (Nat.le_of_ble_eq_true rfl) ?_
    refine c_X3_roomComeTo hP hV t2 ?_
    refine sx_reti dX0_roomComeTo_24 rfl ?_
    first
      | (rw [cmt, if_pos (show lMO (lgC σ) k = nI 1 from h18)] at h; exact h)
      | (rw [cmt, if_neg (show ¬ lMO (lgC σ) k = nI 1 from h18)] at h; exact h)
theorem c_X0_isFromOutside {f : Int32 → Mem → Prop} {P : PL} (hP : PlC σ P) (hV : PV P) {nc n k : Nat} (hn : n ≤ 100) (hk : k < n) (hL : LV P nc n (lgC σ)) (h0 : σ.1 18 k = 0) (k1 : lft P (lgC σ) k = 0 → f (nI 1) σ) (k0 : ¬ lft P (lgC σ) k = 0 → f (nI 0) σ) : SW G (d + 1) M_X0_isFromOutside 0 [some (.ref 29), some (.int (nI k))] [] σ (RI f) := by
  obtain ⟨-, ⟨t1, t2⟩, -, -⟩ := hL.pass hk h0
  have t1 : σ.1 20 k = nI (nv (lTG (lgC σ)) k) := t1
  have h3 := hV.2.2.2.1 _ t2
  have h8 := hV.1
  refine sw_aloadn dX0_isFromOutside_0 rfl ?_
  refine sw_getR dX0_isFromOutside_1 fs_X0_15 o29 r29_0 ?_
  refine sw_aloadn dX0_isFromOutside_4 rfl ?_
  refine sw_getR dX0_isFromOutside_5 fs_X0_19 o29 r29_1 ?_
  refine sw_getR dX0_isFromOutside_8 fs_X0_23 o17 r17_3 ?_
  refine sw_iloadn dX0_isFromOutside_11 rfl ?_
  refine sx_iald (k) dX0_isFromOutside_12 a20 (rfl) (by omega) (by decide) ?_
  rw [t1]
  refine sw_aloadn dX0_isFromOutside_13 rfl ?_
  refine sw_getR dX0_isFromOutside_14 fs_X0_19 o29 r29_1 ?_
  refine sw_iloadn dX0_isFromOutside_17 rfl ?_
  refine sx_invI1 dX0_isFromOutside_18 mk_X2_isBack vk_X2_isBack lk_X0_28 o17 (Nat.le_of_ble_eq_true rfl) (Nat.le_of_ble_eq_true rfl) ?_
  refine c_X2_isBack (by omega) (fun h18 => ?_) (fun h18 => ?_)
  · skip
    refine sx_invI2 dX0_isFromOutside_21 mk_X3_roomLeft vk_X3_roomLeft lk_X0_38 o2 (Nat.le_of_ble_eq_true rfl) (Nat.le_of_ble_eq_true rfl) ?_
    refine c_X3_roomLeft hP hV t2 ?_
    refine sw_if_ne (tgt := 31) dX0_isFromOutside_24 (by decide) (fun h24 => ?_) (fun h24 => ?_)
    · skip
      refine sx_iconst (v := nI 0) dX0_isFromOutside_31 (by decide) ?_
      refine sx_retz dX0_isFromOutside_32 rfl (Or.inl rfl) ?_
      first
        | (rw [lft, if_pos (show lMO (lgC σ) k = nI 1 from h18)] at k1
           exact k1 (nI_inj (by omega) (by omega) h24))
        | (rw [lft, if_pos (show lMO (lgC σ) k = nI 1 from h18)] at k0
           exact k0 (fun e => h24 (congrArg nI e)))
        | (rw [lft, if_neg (show ¬ lMO (lgC σ) k = nI 1 from h18)] at k1
           exact k1 (nI_inj (by omega) (by omega) h24))
        | (rw [lft, if_neg (show ¬ lMO (lgC σ) k = nI 1 from h18)] at k0
           exact k0 (fun e => h24 (congrArg nI e)))
    · skip
      refine sx_iconst (v := nI 1) dX0_isFromOutside_27 (by decide) ?_
      refine sw_goto (tgt := 32) dX0_isFromOutside_28 (by decide) ?_
      refine sx_retz dX0_isFromOutside_32 rfl (Or.inr rfl) ?_
      first
        | (rw [lft, if_pos (show lMO (lgC σ) k = nI 1 from h18)] at k1
           exact k1 (nI_inj (by omega) (by omega) h24))
        | (rw [lft, if_pos (show lMO (lgC σ) k = nI 1 from h18)] at k0
           exact k0 (fun e => h24 (congrArg nI e)))
        | (rw [lft, if_neg (show ¬ lMO (lgC σ) k = nI 1 from h18)] at k1
           exact k1 (nI_inj (by omega) (by omega) h24))
        | (rw [lft, if_neg (show ¬ lMO (lgC σ) k = nI 1 from h18)] at k0
           exact k0 (fun e => h24 (congrArg nI e)))
  · skip
    refine sx_invI2 dX0_isFromOutside_21 mk_X3_roomLeft vk_X3_roomLeft lk_X0_38 o2 (Nat.le_of_ble_eq_true rfl) (Nat.le_of_ble_eq_true rfl) ?_
    refine c_X3_roomLeft hP hV t2 ?_
    refine sw_if_ne (tgt := 31) dX0_isFromOutside_24 (by decide) (fun h24 => ?_) (fun h24 => ?_)
    · skip
      refine sx_iconst (v := nI 0) dX0_isFromOutside_31 (by decide) ?_
      refine sx_retz dX0_isFromOutside_32 rfl (Or.inl rfl) ?_
      first
        | (rw [lft, if_pos (show lMO (lgC σ) k = nI 1 from h18)] at k1
           exact k1 (nI_inj (by omega) (by omega) h24))
        | (rw [lft, if_pos (show lMO (lgC σ) k = nI 1 from h18)] at k0
           exact k0 (fun e => h24 (congrArg nI e)))
        | (rw [lft, if_neg (show ¬ lMO (lgC σ) k = nI 1 from h18)] at k1
           exact k1 (nI_inj (by omega) (by omega) h24))
        | (rw [lft, if_neg (show ¬ lMO (lgC σ) k = nI 1 from h18)] at k0
           exact k0 (fun e => h24 (congrArg nI e)))
    · skip
      refine sx_iconst (v := nI 1) dX0_isFromOutside_27 (by decide) ?_
      refine sw_goto (tgt := 32) dX0_isFromOutside_28 (by decide) ?_
      refine sx_retz dX0_isFromOutside_32 rfl (Or.inr rfl) ?_
      first
        | (rw [lft, if_pos (show lMO (lgC σ) k = nI 1 from h18)] at k1
           exact k1 (nI_inj (by omega) (by omega) h24))
        | (rw [lft, if_pos (show lMO (lgC σ) k = nI 1 from h18)] at k0
           exact k0 (fun e => h24 (congrArg nI e)))
        | (rw [lft, if_neg (show ¬ lMO (lgC σ) k = nI 1 from h18)] at k1
           exact k1 (nI_inj (by omega) (by omega) h24))
        | (rw [lft, if_neg (show ¬ lMO (lgC σ) k = nI 1 from h18)] at k0
           exact k0 (fun e => h24 (congrArg nI e)))
theorem c_X0_dayOf {f : Int32 → Mem → Prop} {k : Nat} (t q : Nat) (hq : t / 25 = q) (hk : k < 100) (t1 : σ.1 21 k = nI t) (t2 : t < 200) (h : f (nI q) σ) : SW G d M_X0_dayOf 0 [some (.ref 29), some (.int (nI k))] [] σ (RI f) := by
  refine sw_aloadn dX0_dayOf_0 rfl ?_
  refine sw_getR dX0_dayOf_1 fs_X0_19 o29 r29_1 ?_
  refine sw_getR dX0_dayOf_4 fs_X0_58 o17 r17_4 ?_
  refine sw_iloadn dX0_dayOf_7 rfl ?_
  refine sx_iald (k) dX0_dayOf_8 a21 (rfl) (by omega) (by decide) ?_
  rw [t1]
  refine sx_bipush (v := nI 25) dX0_dayOf_9 (by decide) ?_
  refine sw_idiv dX0_dayOf_11 (by decide) ?_
  rw [pk_div (by omega) (by omega) (by omega), hq]
  refine sx_reti dX0_dayOf_12 rfl ?_
  exact h
/-- a pass of y into the room of pass k, ahead of it -/
def frs (P : PL) (g : LG) (k : Nat) : Prop := ∀ j, j < k → ¬ (pas g (lCA g k) j ∧ cmt P g j = cmt P g k)
theorem cmt_lt {P : PL} (hV : PV P) {nc n k : Nat} {g : LG} (hL : LV P nc n g) (hk : k < n) (h0 : lKD g k = 0) : cmt P g k < 8 := by
  obtain ⟨-, ⟨t1, t2⟩, -, -⟩ := hL.pass hk h0
  have h3 := hV.2.2.2.1 _ t2
  have h8 := hV.1
  unfold cmt
  split <;> omega
theorem c_X0_isFirst {f : Int32 → Mem → Prop} {P : PL} (hP : PlC σ P) (hV : PV P) {nc n k : Nat} (hs : σ.1 17 0 = nI n) (hn : n ≤ 100) (hk : k < n) (hL : LV P nc n (lgC σ)) (h0 : σ.1 18 k = 0) (k1 : frs P (lgC σ) k → f (nI 1) σ) (k0 : ¬ frs P (lgC σ) k → f (nI 0) σ) : SW G (d + 3) M_X0_isFirst 0 [some (.ref 29), some (.int (nI k)), none, none] [] σ (RI f) := by
  have hck := cmt_lt hV hL hk h0
  have loop : ∀ (m i : Nat), m = k - i → i ≤ k → (∀ j, j < i → ¬ (pas (lgC σ) (lCA (lgC σ) k) j ∧ cmt P (lgC σ) j = cmt P (lgC σ) k)) → SW G (d + 3) M_X0_isFirst 8 [some (.ref 29), some (.int (nI k)), some (.int (nI (cmt P (lgC σ) k))), some (.int (nI i))] [] σ (RI f) := by
    intro m
    induction m with
    | zero =>
      intro i hm hi hI
      obtain rfl : i = k := by omega
      refine sw_iloadn dX0_isFirst_8 rfl ?_
      refine sw_iloadn dX0_isFirst_9 rfl ?_
      refine sw_icmp_ge (tgt := 50) dX0_isFirst_10 (by decide) (fun h10 => ?_) (fun h10 => ?_)
      · skip
        refine sx_iconst (v := nI 1) dX0_isFirst_50 (by decide) ?_
        refine sx_retz dX0_isFirst_51 rfl (Or.inr rfl) ?_
        exact k1 hI
      · exact absurd ((nI_le (Nat.le_refl _) (by omega))) h10
    | succ m ih =>
      intro i hm hi hI
      have nxt : ¬ (pas (lgC σ) (lCA (lgC σ) k) i ∧ cmt P (lgC σ) i = cmt P (lgC σ) k) → SW G (d + 3) M_X0_isFirst 8 [some (.ref 29), some (.int (nI k)), some (.int (nI (cmt P (lgC σ) k))), some (.int (nI (i + 1)))] [] σ (RI f) := fun q => ih (i + 1) (by omega) (by omega) (fun j hj => by
        rcases Nat.lt_succ_iff_lt_or_eq.mp hj with h | rfl
        · exact hI j h
        · exact q)
      refine sw_iloadn dX0_isFirst_8 rfl ?_
      refine sw_iloadn dX0_isFirst_9 rfl ?_
      refine sw_icmp_ge (tgt := 50) dX0_isFirst_10 (by decide) (fun h10 => ?_) (fun h10 => ?_)
      · exact absurd h10 ((by rw [nI_le' (by omega) (by omega)]; omega))
      · skip
        refine sw_aloadn dX0_isFirst_13 rfl ?_
        refine sw_getR dX0_isFirst_14 fs_X0_19 o29 r29_1 ?_
        refine sw_iloadn dX0_isFirst_17 rfl ?_
        refine sw_aloadn dX0_isFirst_18 rfl ?_
        refine sw_getR dX0_isFirst_19 fs_X0_19 o29 r29_1 ?_
        refine sw_getR dX0_isFirst_22 fs_X0_44 o17 r17_2 ?_
        refine sw_iloadn dX0_isFirst_25 rfl ?_
        refine sx_iald (k) dX0_isFirst_26 a19 (rfl) (by omega) (by decide) ?_
        refine sx_invI2 dX0_isFirst_27 mk_X2_isPassOf vk_X2_isPassOf lk_X0_47 o17 (Nat.le_of_ble_eq_true rfl) (Nat.le_of_ble_eq_true rfl) ?_
        refine c_X2_isPassOf hs hn (by omega) (fun h27 => ?_) (fun h27 => ?_)
        · skip
          refine sw_if_eq (tgt := 44) dX0_isFirst_30 (by decide) (fun h30 => ?_) (fun h30 => ?_)
          · exact absurd h30 (by decide)
          · skip
            refine sw_aloadn dX0_isFirst_33 rfl ?_
            refine sw_iloadn dX0_isFirst_34 rfl ?_
            refine sx_invI1 dX0_isFirst_35 mk_X0_roomComeTo vk_X0_roomComeTo lk_X0_41 o29 (Nat.le_of_ble_eq_true rfl) (Nat.le_of_ble_eq_true rfl) ?_
            refine c_X0_roomComeTo hP hV hn (show i < n by omega) hL h27.1 ?_
            refine sw_iloadn dX0_isFirst_38 rfl ?_
            refine sw_icmp_ne (tgt := 44) dX0_isFirst_39 (by decide) (fun h39 => ?_) (fun h39 => ?_)
            · skip
              refine sx_iinc (nI (i + 1)) dX0_isFirst_44 rfl (nI_inc _) ?_
              refine sw_goto (tgt := 8) dX0_isFirst_47 (by decide) ?_
              first
                | exact nxt (fun q => h27 q.1)
                | exact nxt (fun q => h39 (congrArg nI q.2))
            · skip
              refine sx_iconst (v := nI 0) dX0_isFirst_42 (by decide) ?_
              refine sx_retz dX0_isFirst_43 rfl (Or.inl rfl) ?_
              exact k0 (fun q => q i (by omega) ⟨h27, nI_inj (by have := cmt_lt hV hL (show i < n by omega) h27.1; omega) (by omega) h39⟩)
        · skip
          refine sw_if_eq (tgt := 44) dX0_isFirst_30 (by decide) (fun h30 => ?_) (fun h30 => ?_)
          · skip
            refine sx_iinc (nI (i + 1)) dX0_isFirst_44 rfl (nI_inc _) ?_
            refine sw_goto (tgt := 8) dX0_isFirst_47 (by decide) ?_
            first
              | exact nxt (fun q => h27 q.1)
              | exact nxt (fun q => h39 (congrArg nI q.2))
          · exact absurd h30 (by decide)
  refine sw_aloadn dX0_isFirst_0 rfl ?_
  refine sw_iloadn dX0_isFirst_1 rfl ?_
  refine sx_invI1 dX0_isFirst_2 mk_X0_roomComeTo vk_X0_roomComeTo lk_X0_41 o29 (Nat.le_of_ble_eq_true rfl) (Nat.le_of_ble_eq_true rfl) ?_
  refine c_X0_roomComeTo hP hV hn hk hL h0 ?_
  refine sw_istoren dX0_isFirst_5 (Nat.le_of_ble_eq_true rfl) ?_
  refine sx_iconst (v := nI 0) dX0_isFirst_6 (by decide) ?_
  refine sw_istoren dX0_isFirst_7 (Nat.le_of_ble_eq_true rfl) ?_
  exact loop k 0 (by omega) (by omega) (fun j hj => absurd hj (by omega))
end HABITS
