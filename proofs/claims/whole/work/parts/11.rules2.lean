/-! ===== compares of longs with their branch; switches ===== -/
theorem nI_back {x : Int32} (h : 0 ≤ x.toInt) : x = nI x.toInt.toNat := by
  have h1 := Int32.toInt_lt x
  apply Int32.toInt_inj.mp
  rw [nI_toInt (by omega)]
  omega
section SWL
variable {G : GG} {d : Nat} {M M' : MM} {pc : Nat} {L : List (Option Value)} {S : List Value} {σ : Mem} {Q : Option Value → Mem → Prop}
theorem sw_lc_eq {x y : Int64} {off : Int} {tgt : Nat} (hd : decode M.1 pc = .ok (.lcmp, 1)) (hd2 : decode M.1 (pc + 1) = .ok (.ifCond .eq off, 3)) (ht : ((pc + 1 : Nat) : Int) + off = (tgt : Int)) (kt : x = y → SW G d M tgt L S σ Q) (kf : ¬ x = y → SW G d M (pc + 1 + 3) L S σ Q) : SW G d M pc L (.long y :: .long x :: S) σ Q :=
  sw_lcmp hd (sw_if_eq hd2 ht (fun h => kt ((lg_cmp_eq x y).mp h)) (fun h => kf (fun e => h ((lg_cmp_eq x y).mpr e))))
theorem sw_lc_ne {x y : Int64} {off : Int} {tgt : Nat} (hd : decode M.1 pc = .ok (.lcmp, 1)) (hd2 : decode M.1 (pc + 1) = .ok (.ifCond .ne off, 3)) (ht : ((pc + 1 : Nat) : Int) + off = (tgt : Int)) (kt : ¬ x = y → SW G d M tgt L S σ Q) (kf : x = y → SW G d M (pc + 1 + 3) L S σ Q) : SW G d M pc L (.long y :: .long x :: S) σ Q :=
  sw_lcmp hd (sw_if_ne hd2 ht (fun h => kt (fun e => h ((lg_cmp_eq x y).mpr e))) (fun h => kf ((lg_cmp_eq x y).mp h)))
theorem sw_lc_le {x y : Int64} {off : Int} {tgt : Nat} (hd : decode M.1 pc = .ok (.lcmp, 1)) (hd2 : decode M.1 (pc + 1) = .ok (.ifCond .le off, 3)) (ht : ((pc + 1 : Nat) : Int) + off = (tgt : Int)) (kt : x ≤ y → SW G d M tgt L S σ Q) (kf : ¬ x ≤ y → SW G d M (pc + 1 + 3) L S σ Q) : SW G d M pc L (.long y :: .long x :: S) σ Q :=
  sw_lcmp hd (sw_if_le hd2 ht (fun h => kt ((lg_cmp_le x y).mp h)) (fun h => kf (fun e => h ((lg_cmp_le x y).mpr e))))
theorem sw_tab0 {dflt hi : Int} {offs : Array Int} {len : Nat} {x : Int32} {tgt : Nat} (hd : decode M.1 pc = .ok (.tableswitch dflt 0 hi offs, len)) (hh : hi = (offs.size : Int) - 1 ∧ offs.size < 100 ∧ (pc : Int) + dflt = (tgt : Int)) (hin : ∀ k, k < offs.size → x = nI k → ∃ (off : Int) (t : Nat), offs[k]? = some off ∧ (pc : Int) + off = (t : Int) ∧ SW G d M t L S σ Q) (hout : (∀ k, k < offs.size → x ≠ nI k) → SW G d M tgt L S σ Q) : SW G d M pc L (.int x :: S) σ Q := by
  obtain ⟨h1, h2, h3⟩ := hh
  by_cases h : x.toInt < 0 ∨ hi < x.toInt
  · refine sw_tabOut hd h h3 (hout ?_)
    intro k hk e
    subst e
    rw [nI_toInt (by omega)] at h
    omega
  · have h0 : 0 ≤ x.toInt := by omega
    obtain ⟨off, t, e1, e2, e3⟩ := hin x.toInt.toNat (by omega) (nI_back h0)
    exact sw_tabIn hd (by omega) (by omega) (by rw [Int.sub_zero]; exact e1) e2 e3
end SWL
