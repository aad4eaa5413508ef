/-! ===== Arrays.fill, Integer.bitCount ===== -/
section JDK
variable {G : GG} {d : Nat} {σ : Mem}
def filI (f : Nat → Int32) (n : Nat) (v : Int32) : Nat → Int32 := fun j => if j < n then v else f j
def filJ (f : Nat → Int64) (n : Nat) (v : Int64) : Nat → Int64 := fun j => if j < n then v else f j
theorem filI_step (f : Nat → Int32) (i : Nat) (v : Int32) : upd (filI f i v) i v = filI f (i + 1) v := by
  funext j
  unfold upd filI
  by_cases h : j = i
  · subst h; simp
  · by_cases h2 : j < i
    · simp [h, h2, Nat.lt_succ_of_lt h2]
    · simp [h, h2, show ¬ j < i + 1 by omega]
theorem filJ_step (f : Nat → Int64) (i : Nat) (v : Int64) : vp_updL (filJ f i v) i v = filJ f (i + 1) v := by
  funext j
  unfold vp_updL filJ
  by_cases h : j = i
  · subst h; simp
  · by_cases h2 : j < i
    · simp [h, h2, Nat.lt_succ_of_lt h2]
    · simp [h, h2, show ¬ j < i + 1 by omega]
theorem c_fillI {f : Mem → Prop} {c n : Nat} {v : Int32} (hc : cellA c 0 n) (hn : n < 10000) (h : f (setA σ c (filI (σ.1 c) n v))) : SW G d M_J7_fill_53178 0 [some (.ref c), some (.int v), none, none] [] σ (RV f) := by
  have loop : ∀ (m i : Nat), m = n - i → i ≤ n → SW G d M_J7_fill_53178 5 [some (.ref c), some (.int v), some (.int (nI i)), some (.int (nI n))] [] (setA σ c (filI (σ.1 c) i v)) (RV f) := by
    intro m
    induction m with
    | zero =>
      intro i hm hi
      obtain rfl : i = n := by omega
      refine sw_iloadn dJ7_fill_53178_5 rfl ?_
      refine sw_iloadn dJ7_fill_53178_6 rfl ?_
      refine sw_icmp_ge (tgt := 20) dJ7_fill_53178_7 (by decide) (fun h7 => ?_) (fun h7 => ?_)
      · skip
        refine sx_ret0 dJ7_fill_53178_20 rfl ?_
        exact h
      · exact absurd ((nI_le (Nat.le_refl _) (by omega))) h7
    | succ m ih =>
      intro i hm hi
      refine sw_iloadn dJ7_fill_53178_5 rfl ?_
      refine sw_iloadn dJ7_fill_53178_6 rfl ?_
      refine sw_icmp_ge (tgt := 20) dJ7_fill_53178_7 (by decide) (fun h7 => ?_) (fun h7 => ?_)
      · exact absurd h7 ((by rw [nI_le' (by omega) (by omega)]; omega))
      · skip
        refine sw_aloadn dJ7_fill_53178_10 rfl ?_
        refine sw_iloadn dJ7_fill_53178_11 rfl ?_
        refine sw_iloadn dJ7_fill_53178_12 rfl ?_
        refine sx_iast (i) dJ7_fill_53178_13 hc (rfl) (by omega) (by omega) ?_
        rw [setI_setA, setA_setA, setA_at, filI_step]
        refine sx_iinc (nI (i + 1)) dJ7_fill_53178_14 rfl (nI_inc _) ?_
        refine sw_goto (tgt := 5) dJ7_fill_53178_17 (by decide) ?_
        exact ih (i + 1) (by omega) (by omega)
  have l0 := loop n 0 (by omega) (by omega)
  rw [show filI (σ.1 c) 0 v = σ.1 c from by funext j; simp [filI], setA_self] at l0
  refine sx_iconst (v := nI 0) dJ7_fill_53178_0 (by decide) ?_
  refine sw_istoren dJ7_fill_53178_1 (Nat.le_of_ble_eq_true rfl) ?_
  refine sw_aloadn dJ7_fill_53178_2 rfl ?_
  refine sw_alen dJ7_fill_53178_3 hc (by decide) ?_
  refine sw_istoren dJ7_fill_53178_4 (Nat.le_of_ble_eq_true rfl) ?_
  exact l0
theorem c_fillJ {f : Mem → Prop} {c n : Nat} {v : Int64} (hc : cellA c 1 n) (hn : n < 10000) (h : f (setB σ c (filJ (σ.2 c) n v))) : SW G d M_J7_fill_d0a16 0 [some (.ref c), some (.long v), none, none, none] [] σ (RV f) := by
  have loop : ∀ (m i : Nat), m = n - i → i ≤ n → SW G d M_J7_fill_d0a16 6 [some (.ref c), some (.long v), none, some (.int (nI i)), some (.int (nI n))] [] (setB σ c (filJ (σ.2 c) i v)) (RV f) := by
    intro m
    induction m with
    | zero =>
      intro i hm hi
      obtain rfl : i = n := by omega
      refine sw_iloadn dJ7_fill_d0a16_6 rfl ?_
      refine sw_iload dJ7_fill_d0a16_7 rfl ?_
      refine sw_icmp_ge (tgt := 22) dJ7_fill_d0a16_9 (by decide) (fun h9 => ?_) (fun h9 => ?_)
      · skip
        refine sx_ret0 dJ7_fill_d0a16_22 rfl ?_
        exact h
      · exact absurd ((nI_le (Nat.le_refl _) (by omega))) h9
    | succ m ih =>
      intro i hm hi
      refine sw_iloadn dJ7_fill_d0a16_6 rfl ?_
      refine sw_iload dJ7_fill_d0a16_7 rfl ?_
      refine sw_icmp_ge (tgt := 22) dJ7_fill_d0a16_9 (by decide) (fun h9 => ?_) (fun h9 => ?_)
      · exact absurd h9 ((by rw [nI_le' (by omega) (by omega)]; omega))
      · skip
        refine sw_aloadn dJ7_fill_d0a16_12 rfl ?_
        refine sw_iloadn dJ7_fill_d0a16_13 rfl ?_
        refine sw_lloadn dJ7_fill_d0a16_14 rfl ?_
        refine sx_last (i) dJ7_fill_d0a16_15 hc (rfl) (by omega) (by omega) ?_
        rw [setJ_setB, setB_setB, setB_at, filJ_step]
        refine sx_iinc (nI (i + 1)) dJ7_fill_d0a16_16 rfl (nI_inc _) ?_
        refine sw_goto (tgt := 6) dJ7_fill_d0a16_19 (by decide) ?_
        exact ih (i + 1) (by omega) (by omega)
  have l0 := loop n 0 (by omega) (by omega)
  rw [show filJ (σ.2 c) 0 v = σ.2 c from by funext j; simp [filJ], setB_self] at l0
  refine sx_iconst (v := nI 0) dJ7_fill_d0a16_0 (by decide) ?_
  refine sw_istoren dJ7_fill_d0a16_1 (Nat.le_of_ble_eq_true rfl) ?_
  refine sw_aloadn dJ7_fill_d0a16_2 rfl ?_
  refine sw_alen dJ7_fill_d0a16_3 hc (by decide) ?_
  refine sw_istore dJ7_fill_d0a16_4 (Nat.le_of_ble_eq_true rfl) ?_
  exact l0
/-- Integer.bitCount, as its code has it -/
def bcI (x : Int32) : Int32 :=
  let u := fun (x : Int32) (s : Nat) => (x.toUInt32 >>> ((nI s).toUInt32 &&& Int32.toUInt32 31)).toInt32
  let a := x - (u x 1 &&& 1431655765)
  let b := (a &&& 858993459) + (u a 2 &&& 858993459)
  let c := (b + u b 4) &&& 252645135
  let e := c + u c 8
  let g := e + u e 16
  g &&& nI 63
theorem c_bitCount {f : Int32 → Mem → Prop} {x : Int32} (h : f (bcI x) σ) : SW G d M_J6_bitCount_0f7a4 0 [some (.int x)] [] σ (RI f) := by
  refine sw_iloadn dJ6_bitCount_0f7a4_0 rfl ?_
  refine sw_iloadn dJ6_bitCount_0f7a4_1 rfl ?_
  refine sx_iconst (v := nI 1) dJ6_bitCount_0f7a4_2 (by decide) ?_
  refine sw_iushr dJ6_bitCount_0f7a4_3 ?_
  refine sw_ldcw dJ6_bitCount_0f7a4_4 ki_J6_265 ?_
  refine sw_iand dJ6_bitCount_0f7a4_7 ?_
  refine sw_isub dJ6_bitCount_0f7a4_8 ?_
  refine sw_istoren dJ6_bitCount_0f7a4_9 (Nat.le_of_ble_eq_true rfl) ?_
  refine sw_iloadn dJ6_bitCount_0f7a4_10 rfl ?_
  refine sw_ldcw dJ6_bitCount_0f7a4_11 ki_J6_266 ?_
  refine sw_iand dJ6_bitCount_0f7a4_14 ?_
  refine sw_iloadn dJ6_bitCount_0f7a4_15 rfl ?_
  refine sx_iconst (v := nI 2) dJ6_bitCount_0f7a4_16 (by decide) ?_
  refine sw_iushr dJ6_bitCount_0f7a4_17 ?_
  refine sw_ldcw dJ6_bitCount_0f7a4_18 ki_J6_266 ?_
  refine sw_iand dJ6_bitCount_0f7a4_21 ?_
  refine sw_iadd dJ6_bitCount_0f7a4_22 ?_
  refine sw_istoren dJ6_bitCount_0f7a4_23 (Nat.le_of_ble_eq_true rfl) ?_
  refine sw_iloadn dJ6_bitCount_0f7a4_24 rfl ?_
  refine sw_iloadn dJ6_bitCount_0f7a4_25 rfl ?_
  refine sx_iconst (v := nI 4) dJ6_bitCount_0f7a4_26 (by decide) ?_
  refine sw_iushr dJ6_bitCount_0f7a4_27 ?_
  refine sw_iadd dJ6_bitCount_0f7a4_28 ?_
  refine sw_ldcw dJ6_bitCount_0f7a4_29 ki_J6_267 ?_
  refine sw_iand dJ6_bitCount_0f7a4_32 ?_
  refine sw_istoren dJ6_bitCount_0f7a4_33 (Nat.le_of_ble_eq_true rfl) ?_
  refine sw_iloadn dJ6_bitCount_0f7a4_34 rfl ?_
  refine sw_iloadn dJ6_bitCount_0f7a4_35 rfl ?_
  refine sx_bipush (v := nI 8) dJ6_bitCount_0f7a4_36 (by decide) ?_
  refine sw_iushr dJ6_bitCount_0f7a4_38 ?_
  refine sw_iadd dJ6_bitCount_0f7a4_39 ?_
  refine sw_istoren dJ6_bitCount_0f7a4_40 (Nat.le_of_ble_eq_true rfl) ?_
  refine sw_iloadn dJ6_bitCount_0f7a4_41 rfl ?_
  refine sw_iloadn dJ6_bitCount_0f7a4_42 rfl ?_
  refine sx_bipush (v := nI 16) dJ6_bitCount_0f7a4_43 (by decide) ?_
  refine sw_iushr dJ6_bitCount_0f7a4_45 ?_
  refine sw_iadd dJ6_bitCount_0f7a4_46 ?_
  refine sw_istoren dJ6_bitCount_0f7a4_47 (Nat.le_of_ble_eq_true rfl) ?_
  refine sw_iloadn dJ6_bitCount_0f7a4_48 rfl ?_
  refine sx_bipush (v := nI 63) dJ6_bitCount_0f7a4_49 (by decide) ?_
  refine sw_iand dJ6_bitCount_0f7a4_51 ?_
  refine sx_reti dJ6_bitCount_0f7a4_52 rfl ?_
  exact h
theorem bc_small : ∀ m, m < 1024 → bcI (nI m) = nI (cnt (fun k => m.testBit k) 10) := by decide +kernel
theorem cnt8_10 {m : Nat} (h : m < 256) : cnt (fun k => m.testBit k) 10 = cnt (fun k => m.testBit k) 8 := by
  have e9 : m.testBit 9 = false := Nat.testBit_lt_two_pow (by omega)
  have e8 : m.testBit 8 = false := Nat.testBit_lt_two_pow (by omega)
  simp [cnt, e9, e8]
theorem or_bit : ∀ m, m < 1024 → ∀ k, k < 10 → nI m ||| (nI 1 <<< (nI k &&& 31)) = nI (m ||| 2 ^ k) := by decide +kernel
theorem or_lt {m k b : Nat} (hm : m < 2 ^ b) (hk : k < b) : m ||| 2 ^ k < 2 ^ b := Nat.or_lt_two_pow hm (Nat.pow_lt_pow_right (by omega) hk)
theorem and_nI (a b : Nat) : nI a &&& nI b = nI (a &&& b) := by
  apply Int32.toBitVec_inj.mp
  simp only [nI, Int32.toBitVec_and]
  show BitVec.ofNat 32 a &&& BitVec.ofNat 32 b = BitVec.ofNat 32 (a &&& b)
  exact BitVec.ofNat_and.symm
theorem tb_or (m k j : Nat) : (m ||| 2 ^ k).testBit j = (m.testBit j || decide (j = k)) := by
  rw [Nat.testBit_or, Nat.testBit_two_pow]
  congr 1
  exact decide_eq_decide.mpr eq_comm
end JDK
