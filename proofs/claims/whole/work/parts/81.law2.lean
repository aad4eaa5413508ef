/-! ===== the law's loop ===== -/
/-- what is asked of the law: room for the calls that are left, and its end -/
def LawS (G : GG) (j : Nat) : PSI := fun p e R s m args below meth c cells slots A Z =>
  (R = room_1 ∧ cells + (512 - j) ≤ 1101 ∧ slots + 6 * (512 - j) ≤ 24632) ∧
  (∀ (H' : Heap) (locs' : List Loc) (ls' : Array Slot) (cells' slots' : Nat), cells' ≤ 1101 → slots' ≤ 24632 → va_S A s.heap H' locs' → W p (gl G) e R s m args below meth c H' locs' cells' slots' Z (F0 m 1107 ls' [.int (nI 1)]))
section LAW2
variable {G : GG} {σ : Mem} {Ls j : Nat} {xs : Nat → Int32} {o5 o6 : Option Value}
theorem sz_psi {G : GG} {d : Nat} {M : MM} {pc : Nat} {L : List (Option Value)} {S : List Value} {σ : Mem} {Q Q' : PSI} (hq : ∀ p e R s m args below meth c cells slots A Z, Q p e R s m args below meth c cells slots A Z → Q' p e R s m args below meth c cells slots A Z) (h : SZ G d M pc L S σ Q') : SZ G d M pc L S σ Q := by
  intro p e R s m args below meth c H locs cells slots A Z ls C hR hP hS hl hr
  exact h p e R s m args below meth c H locs cells slots A Z ls C hR hP hS hl (hq _ _ _ _ _ _ _ _ _ _ _ _ _ hr)
theorem LawS_s {L : List (Option Value)} {pc : Nat} (h : SZ G 12 M_L_law pc L [] σ (LawS G (j + 1))) : SZ G 12 M_L_law pc L [] σ (LawS G j) :=
  sz_psi (fun p e R s m args below meth c cells slots A Z q => ⟨⟨q.1.1, by have := q.1.2.1; omega, by have := q.1.2.2; omega⟩, q.2⟩) h
theorem lw_cw : Cond.codeWith yL_way cL_way 7 (some .int) hhW ∈ TB := tb_of (by decide +kernel) (by decide +kernel)
theorem lw_st : Cond.static yL_way ∈ TB := tb_of (by decide +kernel) (by decide +kernel)
theorem lw_in : Cond.initialized RL ∈ TB := tb_of (by decide +kernel) (by decide +kernel)
theorem lw_ml : Cond.methodLink RL 65 yL_way ∈ TB := tb_of (by decide +kernel) (by decide +kernel)
theorem law_wayC {x t r u : Int32} {L : List (Option Value)} (hX : Exc G) (hj : j < 512) (hway : SZ G 10 M_X7_way 0 [some (.ref 0), some (.int x), some (.int t), some (.int r), some (.int u)] [] σ (WayS G (fun y σ' => SZ G 12 M_L_law 619 L [.int (nI 0)] (setJ σ' 75 0 y.toInt64) (LawS G (j + 1))) (fun σ' => SZ G 12 M_L_law 619 L [.int (nI 1)] σ' (LawS G (j + 1))))) : SZ G 12 M_L_law 616 L [.ref 75, .int u, .int r, .int t, .int x, .ref 0] σ (LawS G j) := by
  intro p e R s m args below meth c H locs cells slots A Z ls C hR hP hS hl hr
  obtain ⟨⟨rfl, hc, hs⟩, hk⟩ := hr
  have ht := C.2.2.2.2.2.1
  have hMet := lway_met (d := 10) (fL := fun kk τ => SZ G 12 M_L_law 619 L [.int kk] τ (LawS G (j + 1))) C.1 hX (by omega) hway (fun y σ' h => h) (fun σ' h => h)
  have hT : GoodIn TB (va_wsS RL 65 yL_way wsLW) := by
    intro w hw
    unfold va_wsS wsLW at hw
    simp only [List.mem_append, List.mem_cons, List.not_mem_nil, or_false] at hw
    rcases hw with (rfl | rfl | rfl) | rfl | hw
    · exact tb_good _ lw_ml
    · exact tb_good _ lw_st
    · exact tb_good _ lw_in
    · exact tb_good _ lw_cw
    · exact tb_good _ hw
  have cw : vx_CSW room_1 s args RL 65 yL_way cL_way 7 (some .int) hhW wsLW (rmE 11) 1 6 6 := vx_cwSW 6 ht hT rfl rfl rfl ⟨by decide +kernel, by decide +kernel, by decide +kernel⟩ ⟨Nat.le_of_ble_eq_true rfl, Nat.le_of_ble_eq_true rfl⟩
  have hpre : PreS s H (va_Pc ([Value.ref 0, .int x, .int t, .int r, .int u, .ref 75].map (cv G)) (PcW G σ)) ([Value.ref 0, .int x, .int t, .int r, .int u, .ref 75].map (cv G)) := ⟨pcw_blind C.1, pcw_at C hP hS⟩
  refine lw_afterX (M := M_L_law) (S := []) (f := fun kk τ => SZ G 12 M_L_law 619 L [.int kk] τ (LawS G (j + 1))) (fx := fun _ => False) (A := A) (vx_runSX (As := [Value.ref 0, .int x, .int t, .int r, .int u, .ref 75].map (cv G)) ⟨C.2.1, C.2.2.1, C.2.2.2.1, C.2.2.2.2.1, ht⟩ hMet cw hpre rfl rfl hl.2.1 rfl (lv_room (Nat.zero_le 8)) dL_law_616 ⟨by show cells + 1 ≤ 1101; omega, by show slots + 6 ≤ 24632; omega⟩) C hS ?_ (fun σ' H' locs' q ce hf => hf.elim)
  intro kk σ' H' locs' hq hP' hS'
  exact hq p e room_1 s m args below meth c H' locs' (cells + 1) (slots + 6) A Z ls C ⟨Nat.le_refl _, Nat.le_of_ble_eq_true rfl, by show cells + 1 ≤ 1101; omega, by show slots + 6 ≤ 24632; omega⟩ hP' hS' hl ⟨⟨rfl, by omega, by omega⟩, hk⟩
theorem law_way (hX : Scr G Ls xs) (hE : Exc G) (hL : Ls ≤ 3072) (hj : 6 * j + 6 ≤ Ls) (hI : Inv σ) (h : ∀ ρ o5 o6, Inv ρ → SZ G 12 M_L_law 1100 [some (.ref 76), some (.ref 0), some (.ref 46), some (.ref 75), some (.int (nI (6 * j))), o5, o6] [] ρ (LawS G (j + 1))) : SZ G 12 M_L_law 590 [some (.ref 76), some (.ref 0), some (.ref 46), some (.ref 75), some (.int (nI (6 * j))), o5, o6] [] σ (LawS G j) := by
  have rest : ∀ kk τ, WR G (xs (6 * j + 1)) (xs (6 * j + 2)) (xs (6 * j + 3)) (xs (6 * j + 4)) kk τ → SZ G 12 M_L_law 619 [some (.ref 76), some (.ref 0), some (.ref 46), some (.ref 75), some (.int (nI (6 * j))), o5, o6] [.int kk] τ (LawS G (j + 1)) := by
    intro kk τ hm
    refine sz_istore dL_law_619 (Nat.le_of_ble_eq_true rfl) ?_
    refine sz_aloadn dL_law_621 rfl ?_
    refine sz_aloadn dL_law_622 rfl ?_
    refine sz_iload dL_law_623 rfl ?_
    refine sy_iconst (v := nI 1) dL_law_625 (by decide) ?_
    refine sz_iadd dL_law_626 ?_
    refine sz_topI (y := nI (6 * j + 1)) (nI_add _ _) ?_
    refine sz_sld (6 * j + 1) hX dL_law_627 (rfl) (by omega) (by omega) ?_
    refine sz_aloadn dL_law_628 rfl ?_
    refine sz_iload dL_law_629 rfl ?_
    refine sy_iconst (v := nI 2) dL_law_631 (by decide) ?_
    refine sz_iadd dL_law_632 ?_
    refine sz_topI (y := nI (6 * j + 2)) (nI_add _ _) ?_
    refine sz_sld (6 * j + 2) hX dL_law_633 (rfl) (by omega) (by omega) ?_
    refine sz_aloadn dL_law_634 rfl ?_
    refine sz_iload dL_law_635 rfl ?_
    refine sy_iconst (v := nI 3) dL_law_637 (by decide) ?_
    refine sz_iadd dL_law_638 ?_
    refine sz_topI (y := nI (6 * j + 3)) (nI_add _ _) ?_
    refine sz_sld (6 * j + 3) hX dL_law_639 (rfl) (by omega) (by omega) ?_
    refine sz_aloadn dL_law_640 rfl ?_
    refine sz_iload dL_law_641 rfl ?_
    refine sy_iconst (v := nI 4) dL_law_643 (by decide) ?_
    refine sz_iadd dL_law_644 ?_
    refine sz_topI (y := nI (6 * j + 4)) (nI_add _ _) ?_
    refine sz_sld (6 * j + 4) hX dL_law_645 (rfl) (by omega) (by omega) ?_
    refine sy_invI4 dL_law_646 mk_X8_way vk_X8_way lk_L_70 o46 (Nat.le_of_ble_eq_true rfl) (Nat.le_of_ble_eq_true rfl) ?_
    refine hm _ (fun b ρ hI2 e0 e75 => ?_)
    refine sz_istore dL_law_649 (Nat.le_of_ble_eq_true rfl) ?_
    refine sz_aloadn dL_law_651 rfl ?_
    refine sy_invI0 dL_law_652 mk_X8_thrown vk_X8_thrown lk_L_71 o46 (Nat.le_of_ble_eq_true rfl) (Nat.le_of_ble_eq_true rfl) ?_
    refine m_thrown ?_
    rw [e0]
    refine sz_iload dL_law_655 rfl ?_
    refine sz_icmp_eq (tgt := 662) dL_law_657 (by decide) (fun h657 => ?_) (fun h657 => ?_)
    · skip
      refine sz_iload dL_law_662 rfl ?_
      refine sz_if_ne (tgt := 679) dL_law_664 (by decide) (fun h664 => ?_) (fun h664 => ?_)
      · skip
        refine sz_goto (tgt := 1100) dL_law_679 (by decide) ?_
        exact h _ _ _ hI2
      · skip
        refine sz_aloadn dL_law_667 rfl ?_
        refine sy_iconst (v := nI 0) dL_law_668 (by decide) ?_
        refine sy_lald (0) dL_law_669 a75 (rfl) (by omega) (by decide) ?_
        rw [e75 h664]
        refine sz_iload dL_law_670 rfl ?_
        refine sz_i2l dL_law_672 ?_
        refine sz_lc_eq (tgt := 679) dL_law_673 dL_law_674 (by decide) (fun h673 => ?_) (fun h673 => ?_)
        · skip
          refine sz_goto (tgt := 1100) dL_law_679 (by decide) ?_
          exact h _ _ _ hI2
        · exact absurd (rfl) h673
    · exact absurd (rfl) h657
  refine sz_aloadn dL_law_590 rfl ?_
  refine sz_aloadn dL_law_591 rfl ?_
  refine sz_iload dL_law_592 rfl ?_
  refine sy_iconst (v := nI 1) dL_law_594 (by decide) ?_
  refine sz_iadd dL_law_595 ?_
  refine sz_topI (y := nI (6 * j + 1)) (nI_add _ _) ?_
  refine sz_sld (6 * j + 1) hX dL_law_596 (rfl) (by omega) (by omega) ?_
  refine sz_aloadn dL_law_597 rfl ?_
  refine sz_iload dL_law_598 rfl ?_
  refine sy_iconst (v := nI 2) dL_law_600 (by decide) ?_
  refine sz_iadd dL_law_601 ?_
  refine sz_topI (y := nI (6 * j + 2)) (nI_add _ _) ?_
  refine sz_sld (6 * j + 2) hX dL_law_602 (rfl) (by omega) (by omega) ?_
  refine sz_aloadn dL_law_603 rfl ?_
  refine sz_iload dL_law_604 rfl ?_
  refine sy_iconst (v := nI 3) dL_law_606 (by decide) ?_
  refine sz_iadd dL_law_607 ?_
  refine sz_topI (y := nI (6 * j + 3)) (nI_add _ _) ?_
  refine sz_sld (6 * j + 3) hX dL_law_608 (rfl) (by omega) (by omega) ?_
  refine sz_aloadn dL_law_609 rfl ?_
  refine sz_iload dL_law_610 rfl ?_
  refine sy_iconst (v := nI 4) dL_law_612 (by decide) ?_
  refine sz_iadd dL_law_613 ?_
  refine sz_topI (y := nI (6 * j + 4)) (nI_add _ _) ?_
  refine sz_sld (6 * j + 4) hX dL_law_614 (rfl) (by omega) (by omega) ?_
  refine sz_aloadn dL_law_615 rfl ?_
  exact law_wayC hE (by omega) (op_way hI (fun kk τ hm => rest kk τ hm))
theorem len_6 {a b : Nat} (ha : a ≤ 3072) (hb : b ≤ 3078) : nI a - nI 6 < nI b ↔ a < b + 6 := by
  rw [Int32.lt_iff_toInt_lt, Int32.toInt_sub, nI_toInt (by omega), nI_toInt (by omega), nI_toInt (by omega), Int.bmod_eq_of_le (by omega) (by omega)]
  omega
theorem law_loop (hX : Scr G Ls xs) (hE : Exc G) (hG : Str G) (hL : Ls ≤ 3072) : ∀ (m j : Nat) (σ : Mem) (o5 o6 : Option Value), m = 512 - j → j ≤ 512 → Inv σ → SZ G 12 M_L_law 23 [some (.ref 76), some (.ref 0), some (.ref 46), some (.ref 75), some (.int (nI (6 * j))), o5, o6] [] σ (LawS G j) := by
  have fin : ∀ (j : Nat) (σ : Mem) (L : List (Option Value)), SZ G 12 M_L_law 1106 L [] σ (LawS G j) := by
    intro j σ L
    refine sy_iconst (v := nI 1) dL_law_1106 (by decide) ?_
    intro p e R s m args below meth c H locs cells slots A Z ls C hR hP hS hl hr
    exact hr.2 H locs ls cells slots (by have := hr.1.2.1; omega) (by have := hr.1.2.2; omega) hS
  intro m
  induction m with
  | zero =>
    intro j σ o5 o6 hm hj hI
    refine sz_iload dL_law_23 rfl ?_
    refine sz_aloadn dL_law_25 rfl ?_
    refine sz_slen hX dL_law_26 ?_
    refine sy_bipush (v := nI 6) dL_law_27 (by decide) ?_
    refine sz_isub dL_law_29 ?_
    refine sz_icmp_gt (tgt := 1106) dL_law_30 (by decide) (fun h30 => ?_) (fun h30 => ?_)
    · skip
      exact fin _ _ _
    · exact absurd (((len_6 (by omega) (by omega)).mpr (by omega))) h30
  | succ m ih =>
    intro j σ o5 o6 hm hj hI
    refine sz_iload dL_law_23 rfl ?_
    refine sz_aloadn dL_law_25 rfl ?_
    refine sz_slen hX dL_law_26 ?_
    refine sy_bipush (v := nI 6) dL_law_27 (by decide) ?_
    refine sz_isub dL_law_29 ?_
    refine sz_icmp_gt (tgt := 1106) dL_law_30 (by decide) (fun h30 => ?_) (fun h30 => ?_)
    · skip
      exact fin _ _ _
    · skip
      have hj6 : 6 * j + 6 ≤ Ls := by have := mt (len_6 (a := Ls) (b := 6 * j) (by omega) (by omega)).mpr h30; omega
      have nxt : ∀ ρ o5 o6, Inv ρ → SZ G 12 M_L_law 1100 [some (.ref 76), some (.ref 0), some (.ref 46), some (.ref 75), some (.int (nI (6 * j))), o5, o6] [] ρ (LawS G (j + 1)) := by
        intro ρ o5 o6 hI2
        refine sy_iinc (nI (6 * (j + 1))) dL_law_1100 rfl (nI_add (6 * j) 6) ?_
        refine sz_goto (tgt := 23) dL_law_1103 (by decide) ?_
        exact ih (j + 1) ρ o5 o6 (by omega) (by omega) hI2
      have nxt' : ∀ ρ, Inv ρ → SZ G 12 M_L_law 1100 [some (.ref 76), some (.ref 0), some (.ref 46), some (.ref 75), some (.int (nI (6 * j))), o5, o6] [] ρ (LawS G j) := fun ρ hI2 => LawS_s (nxt ρ o5 o6 hI2)
      refine sz_aloadn dL_law_33 rfl ?_
      refine sz_iload dL_law_34 rfl ?_
      refine sz_sld (6 * j) hX dL_law_36 (rfl) (by omega) (by omega) ?_
      refine sy_bipush (v := nI 31) dL_law_37 (by decide) ?_
      refine sz_iand dL_law_39 ?_
      refine sz_tab0 (tgt := 1100) dL_law_40 (by decide) (fun kc hkc hsw => ?_) (fun hsw => ?_)
      · rcases (show kc = 0 ∨ kc = 1 ∨ kc = 2 ∨ kc = 3 ∨ kc = 4 ∨ kc = 5 ∨ kc = 6 ∨ kc = 7 ∨ kc = 8 ∨ kc = 9 ∨ kc = 10 ∨ kc = 11 ∨ kc = 12 ∨ kc = 13 ∨ kc = 14 ∨ kc = 15 ∨ kc = 16 ∨ kc = 17 ∨ kc = 18 ∨ kc = 19 ∨ kc = 20 by simp at hkc; omega) with rfl | rfl | rfl | rfl | rfl | rfl | rfl | rfl | rfl | rfl | rfl | rfl | rfl | rfl | rfl | rfl | rfl | rfl | rfl | rfl | rfl
        · refine ⟨100, 140, rfl, by decide, ?_⟩
          exact law_feed hX hL hj6 hI nxt'
        · refine ⟨173, 213, rfl, by decide, ?_⟩
          exact law_end hX hL hj6 hI nxt'
        · refine ⟨198, 238, rfl, by decide, ?_⟩
          exact law_building hG hX hL hj6 hI nxt'
        · refine ⟨211, 251, rfl, by decide, ?_⟩
          exact law_place hX hL hj6 hI nxt'
        · refine ⟨224, 264, rfl, by decide, ?_⟩
          exact law_card hX hL hj6 hI nxt'
        · refine ⟨237, 277, rfl, by decide, ?_⟩
          exact law_pass hX hL hj6 hI nxt'
        · refine ⟨314, 354, rfl, by decide, ?_⟩
          exact law_gap hX hL hj6 hI nxt'
        · refine ⟨363, 403, rfl, by decide, ?_⟩
          exact law_sight hX hL hj6 hI nxt'
        · refine ⟨412, 452, rfl, by decide, ?_⟩
          exact law_right hX hL hj6 hI nxt'
        · refine ⟨501, 541, rfl, by decide, ?_⟩
          exact law_rooms hX hL hj6 hI nxt'
        · refine ⟨550, 590, rfl, by decide, ?_⟩
          exact law_way hX hE hL hj6 hI nxt
        · refine ⟨642, 682, rfl, by decide, ?_⟩
          exact law_broken hX hL hj6 hI nxt'
        · refine ⟨679, 719, rfl, by decide, ?_⟩
          exact law_many hX hL hj6 hI nxt'
        · refine ⟨740, 780, rfl, by decide, ?_⟩
          exact law_inside hX hL hj6 hI nxt'
        · refine ⟨789, 829, rfl, by decide, ?_⟩
          exact law_allowed hX hL hj6 hI nxt'
        · refine ⟨838, 878, rfl, by decide, ?_⟩
          exact law_odd hX hL hj6 hI nxt'
        · refine ⟨875, 915, rfl, by decide, ?_⟩
          exact law_pairs hX hL hj6 hI nxt'
        · refine ⟨936, 976, rfl, by decide, ?_⟩
          exact law_log hX hL hj6 hI nxt'
        · refine ⟨973, 1013, rfl, by decide, ?_⟩
          exact law_door hX hL hj6 hI nxt'
        · refine ⟨1010, 1050, rfl, by decide, ?_⟩
          exact law_wide hX hL hj6 hI nxt'
        · refine ⟨1035, 1075, rfl, by decide, ?_⟩
          exact law_count hX hL hj6 hI nxt'
      · skip
        exact nxt' σ hI
end LAW2
