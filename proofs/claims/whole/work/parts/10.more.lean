/-! ===== Math, arraycopy, the script ===== -/
section SWM
variable {G : GG} {d : Nat} {M M' : MM} {pc : Nat} {L : List (Option Value)} {S : List Value} {σ : Mem} {Q : Option Value → Mem → Prop}
theorem sw_max {x y : Int32} {idx : Nat} (hd : decode M.1 pc = .ok (.invokestatic idx, 3)) (hk : Cond.methodLink M.2.2.1 idx Lib.Math.max.name ∈ TB) (hs : (S.map Value.category).sum ≤ 8) (k : SW G (d + 1) M (pc + 3) L (.int (if x < y then y else x) :: S) σ Q) : SW G (d + 1) M pc L (.int y :: .int x :: S) σ Q := by
  intro p e R s m args below meth c H locs cells slots A Z ls C hR hP hS hl hr
  have ht := C.2.2.2.2.2.1
  exact va_mmax C.2.1 C.2.2.1 (C.2.2.2.1.trans hl.2.1.symm) C.2.2.2.2.1 (ht _ hk) (ht _ mx_1) (ht _ mx_2) (ht _ mx_3) (by have := hR.1; omega) (by rw [cats]; have := hR.2.1; omega) hR.2.2.1 hR.2.2.2 hd (k p e R s m args below meth c H locs cells slots A Z ls C hR hP hS hl hr)
theorem sw_min {x y : Int32} {idx : Nat} (hd : decode M.1 pc = .ok (.invokestatic idx, 3)) (hk : Cond.methodLink M.2.2.1 idx Lib.Math.min.name ∈ TB) (hs : (S.map Value.category).sum ≤ 8) (k : SW G (d + 1) M (pc + 3) L (.int (if y < x then y else x) :: S) σ Q) : SW G (d + 1) M pc L (.int y :: .int x :: S) σ Q := by
  intro p e R s m args below meth c H locs cells slots A Z ls C hR hP hS hl hr
  have ht := C.2.2.2.2.2.1
  exact va_mmin C.2.1 C.2.2.1 (C.2.2.2.1.trans hl.2.1.symm) C.2.2.2.2.1 (ht _ hk) (ht _ mn_1) (ht _ mx_2) (ht _ mn_3) (by have := hR.1; omega) (by rw [cats]; have := hR.2.1; omega) hR.2.2.1 hR.2.2.2 hd (k p e R s m args below meth c H locs cells slots A Z ls C hR hP hS hl hr)
theorem sw_abs {x : Int32} {idx : Nat} (hd : decode M.1 pc = .ok (.invokestatic idx, 3)) (hk : Cond.methodLink M.2.2.1 idx Lib.Math.abs.name ∈ TB) (hs : (S.map Value.category).sum ≤ 8) (k : SW G (d + 1) M (pc + 3) L (.int (if 0 ≤ x then x else 0 - x) :: S) σ Q) : SW G (d + 1) M pc L (.int x :: S) σ Q := by
  intro p e R s m args below meth c H locs cells slots A Z ls C hR hP hS hl hr
  have ht := C.2.2.2.2.2.1
  exact va_mabs C.2.1 C.2.2.1 (C.2.2.2.1.trans hl.2.1.symm) C.2.2.2.2.1 (ht _ hk) (ht _ mb_1) (ht _ mx_2) (ht _ mb_3) (by have := hR.1; omega) (by rw [cats]; have := hR.2.1; omega) hR.2.2.1 hR.2.2.2 hd (k p e R s m args below meth c H locs cells slots A Z ls C hR hP hS hl hr)
def setA (σ : Mem) (c : Nat) (f : Nat → Int32) : Mem := (fun x => if x = c then f else σ.1 x, σ.2)
def setB (σ : Mem) (c : Nat) (f : Nat → Int64) : Mem := (σ.1, fun x => if x = c then f else σ.2 x)
theorem cont_setA_ne (G : GG) (σ : Mem) {c j : Nat} (f : Nat → Int32) (h : j ≠ c) : cont G (setA σ c f) j = cont G σ j := by
  have e1 : (setA σ c f).1 j = σ.1 j := if_neg h
  have e2 : (setA σ c f).2 j = σ.2 j := rfl
  unfold cont
  cases shp j with
  | inl ci =>
    have : fldV G (setA σ c f) j ci = fldV G σ j ci := by
      funext x
      unfold fldV
      split <;> simp [e1, e2]
    simp only [this]
  | inr q => simp only [e1, e2]
theorem cont_setA_a (G : GG) (σ : Mem) {c ty n : Nat} (f : Nat → Int32) (hs : shp c = .inr (ty, n)) (ht : ty ≠ 1) : cont G (setA σ c f) c = .inl (gc G ty, n, .inl f) := by
  simp [cont, hs, if_neg ht, setA]
theorem sw_copy {a b n0 n1 idx : Nat} {n : Nat} (hd : decode M.1 pc = .ok (.invokestatic idx, 3)) (hk : Cond.methodLink M.2.2.1 idx arraycopyName ∈ TB) (ha : cellA a 0 n0) (hb : cellA b 0 n1) (h0 : n ≤ n0) (h1 : n ≤ n1) (hn : n < 100000) (hs : (S.map Value.category).sum ≤ 8) (k : SW G (d + 1) M (pc + 3) L S (setA σ b (va_cpy (σ.1 a) (σ.1 b) 0 0 n)) Q) : SW G (d + 1) M pc L (.int (nI n) :: .int (nI 0) :: .ref b :: .int (nI 0) :: .ref a :: S) σ Q := by
  intro p e R s m args below meth c H locs cells slots A Z ls C hR hP hS hl hr
  have ht := C.2.2.2.2.2.1
  have z0 : (nI 0).toNatClampNeg = 0 := nI_clamp (by omega)
  have zn : (nI n).toNatClampNeg = n := nI_clamp (by omega)
  have p0 : ¬ nI 0 < 0 := nI_pos (by omega)
  have pn : ¬ nI n < 0 := nI_pos (by omega)
  have e5 : nativeFrameWords "java/lang/System" "arraycopy" 5 ≤ 12 := by decide +kernel
  have f1 : 1 ≤ R.frames := by have := hR.1; omega
  have f2 : ((S.map (cv G)).map fun v => v.category).sum + (nativeFrameWords "java/lang/System" "arraycopy" 5 + 11) ≤ R.locals := by
    rw [cats]; have := hR.2.1; omega
  have f3 : (nI 0).toNatClampNeg + (nI n).toNatClampNeg ≤ n0 := by omega
  have f4 : (nI 0).toNatClampNeg + (nI n).toNatClampNeg ≤ n1 := by omega
  refine va_copyi (rest := S.map (cv G)) (sp := nI 0) (dp := nI 0) (n := nI n) C.2.1 C.2.2.1 (C.2.2.2.1.trans hl.2.1.symm) C.2.2.2.2.1 (ht _ hk) (ht _ ac_1) (ht _ ac_2) (ht _ ac_3) C.2.2.2.2.2.2.2.1 hP (wl_D G σ C.1.1 C.2.2.2.2.2.2.2.2.2.1) hS a b 0 0 (wl_arrI G σ ha.1 ha.2 (by decide)) (wl_arrI G σ hb.1 hb.2 (by decide)) rfl rfl rfl p0 p0 pn f3 f4 (fun i _ => rfl) f1 f2 hd (fun H1 locs1 hP1 _ hS1 => ?_)
  rw [z0, zn, wl_set G σ (setA σ b (va_cpy (σ.1 a) (σ.1 b) 0 0 n)) _ hb.1 (cont_setA_a G σ _ hb.2 (by decide)) (fun j hj => cont_setA_ne G σ _ hj)] at hP1
  exact k p e R s m args below meth c H1 locs1 cells slots A Z ls C hR hP1 hS1 hl hr
theorem sw_ldcw {i : Nat} {v : Int32} (hd : decode M.1 pc = .ok (.ldc_w i, 3)) (hc : Cond.constant M.2.2.1 i v ∈ TB) (k : SW G d M (pc + 3) L (.int v :: S) σ Q) : SW G d M pc L S σ Q := by
  intro p e R s m args below meth c H locs cells slots A Z ls C hR hP hS hl hr
  exact lv_ldcw C.2.1 C.2.2.1 C.2.2.2.2.1 (C.2.2.2.2.2.1 _ hc) hd (k p e R s m args below meth c H locs cells slots A Z ls C hR hP hS hl hr)
/-- what the ambient facts say of the script -/
def Scr (G : GG) (n : Nat) (xs : Nat → Int32) : Prop := ∀ (A : Nat → Prop) (s : State), gm G A s → va_X (ga G 76) n xs s s.heap ∧ ga G 76 < s.heap.size ∧ ¬ A (ga G 76)
theorem sw_sld {n : Nat} {xs : Nat → Int32} {x : Int32} (j : Nat) (hX : Scr G n xs) (hd : decode M.1 pc = .ok (.iaload, 1)) (hx : x = nI j) (hj : j < n) (hn : n < 100000) (k : SW G d M (pc + 1) L (.int (xs j) :: S) σ Q) : SW G d M pc L (.int x :: .ref 76 :: S) σ Q := by
  intro p e R s m args below meth c H locs cells slots A Z ls C hR hP hS hl hr
  obtain ⟨h1, h2, h3⟩ := hX A s C.2.2.2.2.2.2.2.2.1
  subst hx
  refine va_sld C.2.1 C.2.2.1 h1 h2 h3 hS (vp_in_nI hj (by omega)) hd ?_
  rw [nI_clamp (by omega)]
  exact k p e R s m args below meth c H locs cells slots A Z ls C hR hP hS hl hr
theorem sw_slen {n : Nat} {xs : Nat → Int32} (hX : Scr G n xs) (hd : decode M.1 pc = .ok (.arraylength, 1)) (k : SW G d M (pc + 1) L (.int (nI n) :: S) σ Q) : SW G d M pc L (.ref 76 :: S) σ Q := by
  intro p e R s m args below meth c H locs cells slots A Z ls C hR hP hS hl hr
  obtain ⟨h1, h2, h3⟩ := hX A s C.2.2.2.2.2.2.2.2.1
  exact va_slen C.2.1 C.2.2.1 h1 h2 h3 hS hd (k p e R s m args below meth c H locs cells slots A Z ls C hR hP hS hl hr)
end SWM
