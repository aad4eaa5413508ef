/-! ===== rules in the shapes that the written walks use ===== -/
def RI (f : Int32 → Mem → Prop) : Option Value → Mem → Prop := fun r σ' => ∃ x, r = some (.int x) ∧ f x σ'
def RJ (f : Int64 → Mem → Prop) : Option Value → Mem → Prop := fun r σ' => ∃ x, r = some (.long x) ∧ f x σ'
def RV (f : Mem → Prop) : Option Value → Mem → Prop := fun r σ' => r = none ∧ f σ'
section SWS
variable {G : GG} {d : Nat} {M M' : MM} {pc : Nat} {L : List (Option Value)} {S : List Value} {σ : Mem} {Q : Option Value → Mem → Prop}
theorem sx_iconst {n : Int} {v : Int32} (hd : decode M.1 pc = .ok (.iconst n, 1)) (hv : Int32.ofInt n = v) (k : SW G d M (pc + 1) L (.int v :: S) σ Q) : SW G d M pc L S σ Q := sw_iconst hd (hv ▸ k)
theorem sx_bipush {n : Int} {v : Int32} (hd : decode M.1 pc = .ok (.bipush n, 2)) (hv : (Int8.ofInt n).toInt32 = v) (k : SW G d M (pc + 2) L (.int v :: S) σ Q) : SW G d M pc L S σ Q := sw_bipush hd (hv ▸ k)
theorem sx_sipush {n : Int} {v : Int32} (hd : decode M.1 pc = .ok (.sipush n, 3)) (hv : (Int16.ofInt n).toInt32 = v) (k : SW G d M (pc + 3) L (.int v :: S) σ Q) : SW G d M pc L S σ Q := sw_sipush hd (hv ▸ k)
theorem sx_lconst {n : Fin 2} {v : Int64} (hd : decode M.1 pc = .ok (.lconst n, 1)) (hv : Int64.ofNat (n : Nat) = v) (k : SW G d M (pc + 1) L (.long v :: S) σ Q) : SW G d M pc L S σ Q := sw_lconst hd (hv ▸ k)
theorem sx_iinc {i : Nat} {n : Int} {x : Int32} (y : Int32) (hd : decode M.1 pc = .ok (.iinc i n, 3)) (hv : lgt L i = some (.int x)) (hy : x + Int32.ofInt n = y) (k : SW G d M (pc + 3) (ls1 L i (.int y)) S σ Q) : SW G d M pc L S σ Q := sw_iinc hd hv (hy ▸ k)
theorem sx_reti {x : Int32} {f : Int32 → Mem → Prop} (hd : decode M.1 pc = .ok (.ireturn, 1)) (ht : M.2.2.2.2 = some .int) (h : f x σ) : SW G d M pc L [.int x] σ (RI f) := sw_reti hd ht ⟨x, rfl, h⟩
theorem sx_retz {x : Int32} {f : Int32 → Mem → Prop} (hd : decode M.1 pc = .ok (.ireturn, 1)) (ht : M.2.2.2.2 = some .boolean) (hx : x = 0 ∨ x = 1) (h : f x σ) : SW G d M pc L [.int x] σ (RI f) := sw_retz hd ht hx ⟨x, rfl, h⟩
theorem sx_retl {x : Int64} {f : Int64 → Mem → Prop} (hd : decode M.1 pc = .ok (.lreturn, 1)) (ht : M.2.2.2.2 = some .long) (h : f x σ) : SW G d M pc L [.long x] σ (RJ f) := sw_retl hd ht ⟨x, rfl, h⟩
theorem sx_ret0 {f : Mem → Prop} (hd : decode M.1 pc = .ok (.return_, 1)) (ht : M.2.2.2.2 = none) (h : f σ) : SW G d M pc L [] σ (RV f) := sw_ret0 hd ht ⟨rfl, h⟩
theorem sx_iald {x : Int32} {c n : Nat} (j : Nat) (hd : decode M.1 pc = .ok (.iaload, 1)) (hc : cellA c 0 n) (hx : x = nI j) (hj : j < n) (hn : n < 100000) (k : SW G d M (pc + 1) L (.int (σ.1 c j) :: S) σ Q) : SW G d M pc L (.int x :: .ref c :: S) σ Q := by
  subst hx
  refine sw_iald hd hc (vp_in_nI hj (by omega)) ?_
  rw [nI_clamp (by omega)]
  exact k
theorem sx_bald {x : Int32} {c n : Nat} (j : Nat) (hd : decode M.1 pc = .ok (.baload, 1)) (hc : cellA c 2 n) (hx : x = nI j) (hj : j < n) (hn : n < 100000) (k : SW G d M (pc + 1) L (.int (σ.1 c j) :: S) σ Q) : SW G d M pc L (.int x :: .ref c :: S) σ Q := by
  subst hx
  refine sw_bald hd hc (vp_in_nI hj (by omega)) ?_
  rw [nI_clamp (by omega)]
  exact k
theorem sx_zald {x : Int32} {c n : Nat} (j : Nat) (hd : decode M.1 pc = .ok (.baload, 1)) (hc : cellA c 3 n) (hx : x = nI j) (hj : j < n) (hn : n < 100000) (k : SW G d M (pc + 1) L (.int (σ.1 c j) :: S) σ Q) : SW G d M pc L (.int x :: .ref c :: S) σ Q := by
  subst hx
  refine sw_zald hd hc (vp_in_nI hj (by omega)) ?_
  rw [nI_clamp (by omega)]
  exact k
theorem sx_lald {x : Int32} {c n : Nat} (j : Nat) (hd : decode M.1 pc = .ok (.laload, 1)) (hc : cellA c 1 n) (hx : x = nI j) (hj : j < n) (hn : n < 100000) (k : SW G d M (pc + 1) L (.long (σ.2 c j) :: S) σ Q) : SW G d M pc L (.int x :: .ref c :: S) σ Q := by
  subst hx
  refine sw_lald hd hc (vp_in_nI hj (by omega)) ?_
  rw [nI_clamp (by omega)]
  exact k
theorem sx_iast {x : Int32} {y : Int32} {c n : Nat} (j : Nat) (hd : decode M.1 pc = .ok (.iastore, 1)) (hc : cellA c 0 n) (hx : x = nI j) (hj : j < n) (hn : n < 100000) (k : SW G d M (pc + 1) L S (setI σ c j (y)) Q) : SW G d M pc L (.int y :: .int x :: .ref c :: S) σ Q := by
  subst hx
  refine sw_iast hd hc (vp_in_nI hj (by omega)) ?_
  rw [nI_clamp (by omega)]
  exact k
theorem sx_bast {x : Int32} {y : Int32} {c n : Nat} (j : Nat) (hd : decode M.1 pc = .ok (.bastore, 1)) (hc : cellA c 2 n) (hx : x = nI j) (hj : j < n) (hn : n < 100000) (k : SW G d M (pc + 1) L S (setI σ c j (vp_nar .byte y)) Q) : SW G d M pc L (.int y :: .int x :: .ref c :: S) σ Q := by
  subst hx
  refine sw_bast hd hc (vp_in_nI hj (by omega)) ?_
  rw [nI_clamp (by omega)]
  exact k
theorem sx_zast {x : Int32} {y : Int32} {c n : Nat} (j : Nat) (hd : decode M.1 pc = .ok (.bastore, 1)) (hc : cellA c 3 n) (hx : x = nI j) (hj : j < n) (hn : n < 100000) (k : SW G d M (pc + 1) L S (setI σ c j (vp_nar .boolean y)) Q) : SW G d M pc L (.int y :: .int x :: .ref c :: S) σ Q := by
  subst hx
  refine sw_zast hd hc (vp_in_nI hj (by omega)) ?_
  rw [nI_clamp (by omega)]
  exact k
theorem sx_last {x : Int32} {y : Int64} {c n : Nat} (j : Nat) (hd : decode M.1 pc = .ok (.lastore, 1)) (hc : cellA c 1 n) (hx : x = nI j) (hj : j < n) (hn : n < 100000) (k : SW G d M (pc + 1) L S (setJ σ c j (y)) Q) : SW G d M pc L (.long y :: .int x :: .ref c :: S) σ Q := by
  subst hx
  refine sw_last hd hc (vp_in_nI hj (by omega)) ?_
  rw [nI_clamp (by omega)]
  exact k
theorem sx_invI0 {b ci idx : Nat} (hd : decode M.1 pc = .ok (.invokevirtual idx, 3)) (hM : MOk M') (hV : VOk M' 0 ci) (hk : LK M.2.2.1 idx M'.2.1) (hc : cellO b ci) (hw : wds [.ref b] ≤ M'.2.2.2.1) (hs : (S.map Value.category).sum ≤ 8) (h : SW G d M' 0 (ent M'.2.2.2.1 [.ref b]) [] σ (RI (fun x σ' => SW G (d + 1) M (pc + 3) L (.int x :: S) σ' Q))) : SW G (d + 1) M pc L (.ref b :: S) σ Q :=
  sw_inv [] hd hM hV hk hc rfl hw hs (sw_mono (fun r σ' h => by obtain ⟨x, rfl, h⟩ := h; exact h) h)
theorem sx_insI0 {idx : Nat} (hd : decode M.1 pc = .ok (.invokestatic idx, 3)) (hM : MOk M') (hV : SOk M' 0) (hk : LK M.2.2.1 idx M'.2.1) (hw : wds [] ≤ M'.2.2.2.1) (hs : (S.map Value.category).sum ≤ 8) (h : SW G d M' 0 (ent M'.2.2.2.1 []) [] σ (RI (fun x σ' => SW G (d + 1) M (pc + 3) L (.int x :: S) σ' Q))) : SW G (d + 1) M pc L (S) σ Q :=
  sw_ins [] hd hM hV hk rfl hw hs (sw_mono (fun r σ' h => by obtain ⟨x, rfl, h⟩ := h; exact h) h)
theorem sx_invJ0 {b ci idx : Nat} (hd : decode M.1 pc = .ok (.invokevirtual idx, 3)) (hM : MOk M') (hV : VOk M' 0 ci) (hk : LK M.2.2.1 idx M'.2.1) (hc : cellO b ci) (hw : wds [.ref b] ≤ M'.2.2.2.1) (hs : (S.map Value.category).sum ≤ 8) (h : SW G d M' 0 (ent M'.2.2.2.1 [.ref b]) [] σ (RJ (fun x σ' => SW G (d + 1) M (pc + 3) L (.long x :: S) σ' Q))) : SW G (d + 1) M pc L (.ref b :: S) σ Q :=
  sw_inv [] hd hM hV hk hc rfl hw hs (sw_mono (fun r σ' h => by obtain ⟨x, rfl, h⟩ := h; exact h) h)
theorem sx_insJ0 {idx : Nat} (hd : decode M.1 pc = .ok (.invokestatic idx, 3)) (hM : MOk M') (hV : SOk M' 0) (hk : LK M.2.2.1 idx M'.2.1) (hw : wds [] ≤ M'.2.2.2.1) (hs : (S.map Value.category).sum ≤ 8) (h : SW G d M' 0 (ent M'.2.2.2.1 []) [] σ (RJ (fun x σ' => SW G (d + 1) M (pc + 3) L (.long x :: S) σ' Q))) : SW G (d + 1) M pc L (S) σ Q :=
  sw_ins [] hd hM hV hk rfl hw hs (sw_mono (fun r σ' h => by obtain ⟨x, rfl, h⟩ := h; exact h) h)
theorem sx_invV0 {b ci idx : Nat} (hd : decode M.1 pc = .ok (.invokevirtual idx, 3)) (hM : MOk M') (hV : VOk M' 0 ci) (hk : LK M.2.2.1 idx M'.2.1) (hc : cellO b ci) (hw : wds [.ref b] ≤ M'.2.2.2.1) (hs : (S.map Value.category).sum ≤ 8) (h : SW G d M' 0 (ent M'.2.2.2.1 [.ref b]) [] σ (RV (fun σ' => SW G (d + 1) M (pc + 3) L S σ' Q))) : SW G (d + 1) M pc L (.ref b :: S) σ Q :=
  sw_inv [] hd hM hV hk hc rfl hw hs (sw_mono (fun r σ' h => by obtain ⟨rfl, h⟩ := h; exact h) h)
theorem sx_insV0 {idx : Nat} (hd : decode M.1 pc = .ok (.invokestatic idx, 3)) (hM : MOk M') (hV : SOk M' 0) (hk : LK M.2.2.1 idx M'.2.1) (hw : wds [] ≤ M'.2.2.2.1) (hs : (S.map Value.category).sum ≤ 8) (h : SW G d M' 0 (ent M'.2.2.2.1 []) [] σ (RV (fun σ' => SW G (d + 1) M (pc + 3) L S σ' Q))) : SW G (d + 1) M pc L (S) σ Q :=
  sw_ins [] hd hM hV hk rfl hw hs (sw_mono (fun r σ' h => by obtain ⟨rfl, h⟩ := h; exact h) h)
theorem sx_invI1 {a1 : Value} {b ci idx : Nat} (hd : decode M.1 pc = .ok (.invokevirtual idx, 3)) (hM : MOk M') (hV : VOk M' 1 ci) (hk : LK M.2.2.1 idx M'.2.1) (hc : cellO b ci) (hw : wds [.ref b, a1] ≤ M'.2.2.2.1) (hs : (S.map Value.category).sum ≤ 8) (h : SW G d M' 0 (ent M'.2.2.2.1 [.ref b, a1]) [] σ (RI (fun x σ' => SW G (d + 1) M (pc + 3) L (.int x :: S) σ' Q))) : SW G (d + 1) M pc L (a1 :: .ref b :: S) σ Q :=
  sw_inv [a1] hd hM hV hk hc rfl hw hs (sw_mono (fun r σ' h => by obtain ⟨x, rfl, h⟩ := h; exact h) h)
theorem sx_insI1 {a1 : Value} {idx : Nat} (hd : decode M.1 pc = .ok (.invokestatic idx, 3)) (hM : MOk M') (hV : SOk M' 1) (hk : LK M.2.2.1 idx M'.2.1) (hw : wds [a1] ≤ M'.2.2.2.1) (hs : (S.map Value.category).sum ≤ 8) (h : SW G d M' 0 (ent M'.2.2.2.1 [a1]) [] σ (RI (fun x σ' => SW G (d + 1) M (pc + 3) L (.int x :: S) σ' Q))) : SW G (d + 1) M pc L (a1 :: S) σ Q :=
  sw_ins [a1] hd hM hV hk rfl hw hs (sw_mono (fun r σ' h => by obtain ⟨x, rfl, h⟩ := h; exact h) h)
theorem sx_invJ1 {a1 : Value} {b ci idx : Nat} (hd : decode M.1 pc = .ok (.invokevirtual idx, 3)) (hM : MOk M') (hV : VOk M' 1 ci) (hk : LK M.2.2.1 idx M'.2.1) (hc : cellO b ci) (hw : wds [.ref b, a1] ≤ M'.2.2.2.1) (hs : (S.map Value.category).sum ≤ 8) (h : SW G d M' 0 (ent M'.2.2.2.1 [.ref b, a1]) [] σ (RJ (fun x σ' => SW G (d + 1) M (pc + 3) L (.long x :: S) σ' Q))) : SW G (d + 1) M pc L (a1 :: .ref b :: S) σ Q :=
  sw_inv [a1] hd hM hV hk hc rfl hw hs (sw_mono (fun r σ' h => by obtain ⟨x, rfl, h⟩ := h; exact h) h)
theorem sx_insJ1 {a1 : Value} {idx : Nat} (hd : decode M.1 pc = .ok (.invokestatic idx, 3)) (hM : MOk M') (hV : SOk M' 1) (hk : LK M.2.2.1 idx M'.2.1) (hw : wds [a1] ≤ M'.2.2.2.1) (hs : (S.map Value.category).sum ≤ 8) (h : SW G d M' 0 (ent M'.2.2.2.1 [a1]) [] σ (RJ (fun x σ' => SW G (d + 1) M (pc + 3) L (.long x :: S) σ' Q))) : SW G (d + 1) M pc L (a1 :: S) σ Q :=
  sw_ins [a1] hd hM hV hk rfl hw hs (sw_mono (fun r σ' h => by obtain ⟨x, rfl, h⟩ := h; exact h) h)
theorem sx_invV1 {a1 : Value} {b ci idx : Nat} (hd : decode M.1 pc = .ok (.invokevirtual idx, 3)) (hM : MOk M') (hV : VOk M' 1 ci) (hk : LK M.2.2.1 idx M'.2.1) (hc : cellO b ci) (hw : wds [.ref b, a1] ≤ M'.2.2.2.1) (hs : (S.map Value.category).sum ≤ 8) (h : SW G d M' 0 (ent M'.2.2.2.1 [.ref b, a1]) [] σ (RV (fun σ' => SW G (d + 1) M (pc + 3) L S σ' Q))) : SW G (d + 1) M pc L (a1 :: .ref b :: S) σ Q :=
  sw_inv [a1] hd hM hV hk hc rfl hw hs (sw_mono (fun r σ' h => by obtain ⟨rfl, h⟩ := h; exact h) h)
theorem sx_insV1 {a1 : Value} {idx : Nat} (hd : decode M.1 pc = .ok (.invokestatic idx, 3)) (hM : MOk M') (hV : SOk M' 1) (hk : LK M.2.2.1 idx M'.2.1) (hw : wds [a1] ≤ M'.2.2.2.1) (hs : (S.map Value.category).sum ≤ 8) (h : SW G d M' 0 (ent M'.2.2.2.1 [a1]) [] σ (RV (fun σ' => SW G (d + 1) M (pc + 3) L S σ' Q))) : SW G (d + 1) M pc L (a1 :: S) σ Q :=
  sw_ins [a1] hd hM hV hk rfl hw hs (sw_mono (fun r σ' h => by obtain ⟨rfl, h⟩ := h; exact h) h)
theorem sx_invI2 {a1 a2 : Value} {b ci idx : Nat} (hd : decode M.1 pc = .ok (.invokevirtual idx, 3)) (hM : MOk M') (hV : VOk M' 2 ci) (hk : LK M.2.2.1 idx M'.2.1) (hc : cellO b ci) (hw : wds [.ref b, a1, a2] ≤ M'.2.2.2.1) (hs : (S.map Value.category).sum ≤ 8) (h : SW G d M' 0 (ent M'.2.2.2.1 [.ref b, a1, a2]) [] σ (RI (fun x σ' => SW G (d + 1) M (pc + 3) L (.int x :: S) σ' Q))) : SW G (d + 1) M pc L (a2 :: a1 :: .ref b :: S) σ Q :=
  sw_inv [a1, a2] hd hM hV hk hc rfl hw hs (sw_mono (fun r σ' h => by obtain ⟨x, rfl, h⟩ := h; exact h) h)
theorem sx_insI2 {a1 a2 : Value} {idx : Nat} (hd : decode M.1 pc = .ok (.invokestatic idx, 3)) (hM : MOk M') (hV : SOk M' 2) (hk : LK M.2.2.1 idx M'.2.1) (hw : wds [a1, a2] ≤ M'.2.2.2.1) (hs : (S.map Value.category).sum ≤ 8) (h : SW G d M' 0 (ent M'.2.2.2.1 [a1, a2]) [] σ (RI (fun x σ' => SW G (d + 1) M (pc + 3) L (.int x :: S) σ' Q))) : SW G (d + 1) M pc L (a2 :: a1 :: S) σ Q :=
  sw_ins [a1, a2] hd hM hV hk rfl hw hs (sw_mono (fun r σ' h => by obtain ⟨x, rfl, h⟩ := h; exact h) h)
theorem sx_invJ2 {a1 a2 : Value} {b ci idx : Nat} (hd : decode M.1 pc = .ok (.invokevirtual idx, 3)) (hM : MOk M') (hV : VOk M' 2 ci) (hk : LK M.2.2.1 idx M'.2.1) (hc : cellO b ci) (hw : wds [.ref b, a1, a2] ≤ M'.2.2.2.1) (hs : (S.map Value.category).sum ≤ 8) (h : SW G d M' 0 (ent M'.2.2.2.1 [.ref b, a1, a2]) [] σ (RJ (fun x σ' => SW G (d + 1) M (pc + 3) L (.long x :: S) σ' Q))) : SW G (d + 1) M pc L (a2 :: a1 :: .ref b :: S) σ Q :=
  sw_inv [a1, a2] hd hM hV hk hc rfl hw hs (sw_mono (fun r σ' h => by obtain ⟨x, rfl, h⟩ := h; exact h) h)
theorem sx_insJ2 {a1 a2 : Value} {idx : Nat} (hd : decode M.1 pc = .ok (.invokestatic idx, 3)) (hM : MOk M') (hV : SOk M' 2) (hk : LK M.2.2.1 idx M'.2.1) (hw : wds [a1, a2] ≤ M'.2.2.2.1) (hs : (S.map Value.category).sum ≤ 8) (h : SW G d M' 0 (ent M'.2.2.2.1 [a1, a2]) [] σ (RJ (fun x σ' => SW G (d + 1) M (pc + 3) L (.long x :: S) σ' Q))) : SW G (d + 1) M pc L (a2 :: a1 :: S) σ Q :=
  sw_ins [a1, a2] hd hM hV hk rfl hw hs (sw_mono (fun r σ' h => by obtain ⟨x, rfl, h⟩ := h; exact h) h)
theorem sx_invV2 {a1 a2 : Value} {b ci idx : Nat} (hd : decode M.1 pc = .ok (.invokevirtual idx, 3)) (hM : MOk M') (hV : VOk M' 2 ci) (hk : LK M.2.2.1 idx M'.2.1) (hc : cellO b ci) (hw : wds [.ref b, a1, a2] ≤ M'.2.2.2.1) (hs : (S.map Value.category).sum ≤ 8) (h : SW G d M' 0 (ent M'.2.2.2.1 [.ref b, a1, a2]) [] σ (RV (fun σ' => SW G (d + 1) M (pc + 3) L S σ' Q))) : SW G (d + 1) M pc L (a2 :: a1 :: .ref b :: S) σ Q :=
  sw_inv [a1, a2] hd hM hV hk hc rfl hw hs (sw_mono (fun r σ' h => by obtain ⟨rfl, h⟩ := h; exact h) h)
theorem sx_insV2 {a1 a2 : Value} {idx : Nat} (hd : decode M.1 pc = .ok (.invokestatic idx, 3)) (hM : MOk M') (hV : SOk M' 2) (hk : LK M.2.2.1 idx M'.2.1) (hw : wds [a1, a2] ≤ M'.2.2.2.1) (hs : (S.map Value.category).sum ≤ 8) (h : SW G d M' 0 (ent M'.2.2.2.1 [a1, a2]) [] σ (RV (fun σ' => SW G (d + 1) M (pc + 3) L S σ' Q))) : SW G (d + 1) M pc L (a2 :: a1 :: S) σ Q :=
  sw_ins [a1, a2] hd hM hV hk rfl hw hs (sw_mono (fun r σ' h => by obtain ⟨rfl, h⟩ := h; exact h) h)
theorem sx_invI3 {a1 a2 a3 : Value} {b ci idx : Nat} (hd : decode M.1 pc = .ok (.invokevirtual idx, 3)) (hM : MOk M') (hV : VOk M' 3 ci) (hk : LK M.2.2.1 idx M'.2.1) (hc : cellO b ci) (hw : wds [.ref b, a1, a2, a3] ≤ M'.2.2.2.1) (hs : (S.map Value.category).sum ≤ 8) (h : SW G d M' 0 (ent M'.2.2.2.1 [.ref b, a1, a2, a3]) [] σ (RI (fun x σ' => SW G (d + 1) M (pc + 3) L (.int x :: S) σ' Q))) : SW G (d + 1) M pc L (a3 :: a2 :: a1 :: .ref b :: S) σ Q :=
  sw_inv [a1, a2, a3] hd hM hV hk hc rfl hw hs (sw_mono (fun r σ' h => by obtain ⟨x, rfl, h⟩ := h; exact h) h)
theorem sx_insI3 {a1 a2 a3 : Value} {idx : Nat} (hd : decode M.1 pc = .ok (.invokestatic idx, 3)) (hM : MOk M') (hV : SOk M' 3) (hk : LK M.2.2.1 idx M'.2.1) (hw : wds [a1, a2, a3] ≤ M'.2.2.2.1) (hs : (S.map Value.category).sum ≤ 8) (h : SW G d M' 0 (ent M'.2.2.2.1 [a1, a2, a3]) [] σ (RI (fun x σ' => SW G (d + 1) M (pc + 3) L (.int x :: S) σ' Q))) : SW G (d + 1) M pc L (a3 :: a2 :: a1 :: S) σ Q :=
  sw_ins [a1, a2, a3] hd hM hV hk rfl hw hs (sw_mono (fun r σ' h => by obtain ⟨x, rfl, h⟩ := h; exact h) h)
theorem sx_invJ3 {a1 a2 a3 : Value} {b ci idx : Nat} (hd : decode M.1 pc = .ok (.invokevirtual idx, 3)) (hM : MOk M') (hV : VOk M' 3 ci) (hk : LK M.2.2.1 idx M'.2.1) (hc : cellO b ci) (hw : wds [.ref b, a1, a2, a3] ≤ M'.2.2.2.1) (hs : (S.map Value.category).sum ≤ 8) (h : SW G d M' 0 (ent M'.2.2.2.1 [.ref b, a1, a2, a3]) [] σ (RJ (fun x σ' => SW G (d + 1) M (pc + 3) L (.long x :: S) σ' Q))) : SW G (d + 1) M pc L (a3 :: a2 :: a1 :: .ref b :: S) σ Q :=
  sw_inv [a1, a2, a3] hd hM hV hk hc rfl hw hs (sw_mono (fun r σ' h => by obtain ⟨x, rfl, h⟩ := h; exact h) h)
theorem sx_insJ3 {a1 a2 a3 : Value} {idx : Nat} (hd : decode M.1 pc = .ok (.invokestatic idx, 3)) (hM : MOk M') (hV : SOk M' 3) (hk : LK M.2.2.1 idx M'.2.1) (hw : wds [a1, a2, a3] ≤ M'.2.2.2.1) (hs : (S.map Value.category).sum ≤ 8) (h : SW G d M' 0 (ent M'.2.2.2.1 [a1, a2, a3]) [] σ (RJ (fun x σ' => SW G (d + 1) M (pc + 3) L (.long x :: S) σ' Q))) : SW G (d + 1) M pc L (a3 :: a2 :: a1 :: S) σ Q :=
  sw_ins [a1, a2, a3] hd hM hV hk rfl hw hs (sw_mono (fun r σ' h => by obtain ⟨x, rfl, h⟩ := h; exact h) h)
theorem sx_invV3 {a1 a2 a3 : Value} {b ci idx : Nat} (hd : decode M.1 pc = .ok (.invokevirtual idx, 3)) (hM : MOk M') (hV : VOk M' 3 ci) (hk : LK M.2.2.1 idx M'.2.1) (hc : cellO b ci) (hw : wds [.ref b, a1, a2, a3] ≤ M'.2.2.2.1) (hs : (S.map Value.category).sum ≤ 8) (h : SW G d M' 0 (ent M'.2.2.2.1 [.ref b, a1, a2, a3]) [] σ (RV (fun σ' => SW G (d + 1) M (pc + 3) L S σ' Q))) : SW G (d + 1) M pc L (a3 :: a2 :: a1 :: .ref b :: S) σ Q :=
  sw_inv [a1, a2, a3] hd hM hV hk hc rfl hw hs (sw_mono (fun r σ' h => by obtain ⟨rfl, h⟩ := h; exact h) h)
theorem sx_insV3 {a1 a2 a3 : Value} {idx : Nat} (hd : decode M.1 pc = .ok (.invokestatic idx, 3)) (hM : MOk M') (hV : SOk M' 3) (hk : LK M.2.2.1 idx M'.2.1) (hw : wds [a1, a2, a3] ≤ M'.2.2.2.1) (hs : (S.map Value.category).sum ≤ 8) (h : SW G d M' 0 (ent M'.2.2.2.1 [a1, a2, a3]) [] σ (RV (fun σ' => SW G (d + 1) M (pc + 3) L S σ' Q))) : SW G (d + 1) M pc L (a3 :: a2 :: a1 :: S) σ Q :=
  sw_ins [a1, a2, a3] hd hM hV hk rfl hw hs (sw_mono (fun r σ' h => by obtain ⟨rfl, h⟩ := h; exact h) h)
theorem sx_invI4 {a1 a2 a3 a4 : Value} {b ci idx : Nat} (hd : decode M.1 pc = .ok (.invokevirtual idx, 3)) (hM : MOk M') (hV : VOk M' 4 ci) (hk : LK M.2.2.1 idx M'.2.1) (hc : cellO b ci) (hw : wds [.ref b, a1, a2, a3, a4] ≤ M'.2.2.2.1) (hs : (S.map Value.category).sum ≤ 8) (h : SW G d M' 0 (ent M'.2.2.2.1 [.ref b, a1, a2, a3, a4]) [] σ (RI (fun x σ' => SW G (d + 1) M (pc + 3) L (.int x :: S) σ' Q))) : SW G (d + 1) M pc L (a4 :: a3 :: a2 :: a1 :: .ref b :: S) σ Q :=
  sw_inv [a1, a2, a3, a4] hd hM hV hk hc rfl hw hs (sw_mono (fun r σ' h => by obtain ⟨x, rfl, h⟩ := h; exact h) h)
theorem sx_insI4 {a1 a2 a3 a4 : Value} {idx : Nat} (hd : decode M.1 pc = .ok (.invokestatic idx, 3)) (hM : MOk M') (hV : SOk M' 4) (hk : LK M.2.2.1 idx M'.2.1) (hw : wds [a1, a2, a3, a4] ≤ M'.2.2.2.1) (hs : (S.map Value.category).sum ≤ 8) (h : SW G d M' 0 (ent M'.2.2.2.1 [a1, a2, a3, a4]) [] σ (RI (fun x σ' => SW G (d + 1) M (pc + 3) L (.int x :: S) σ' Q))) : SW G (d + 1) M pc L (a4 :: a3 :: a2 :: a1 :: S) σ Q :=
  sw_ins [a1, a2, a3, a4] hd hM hV hk rfl hw hs (sw_mono (fun r σ' h => by obtain ⟨x, rfl, h⟩ := h; exact h) h)
theorem sx_invJ4 {a1 a2 a3 a4 : Value} {b ci idx : Nat} (hd : decode M.1 pc = .ok (.invokevirtual idx, 3)) (hM : MOk M') (hV : VOk M' 4 ci) (hk : LK M.2.2.1 idx M'.2.1) (hc : cellO b ci) (hw : wds [.ref b, a1, a2, a3, a4] ≤ M'.2.2.2.1) (hs : (S.map Value.category).sum ≤ 8) (h : SW G d M' 0 (ent M'.2.2.2.1 [.ref b, a1, a2, a3, a4]) [] σ (RJ (fun x σ' => SW G (d + 1) M (pc + 3) L (.long x :: S) σ' Q))) : SW G (d + 1) M pc L (a4 :: a3 :: a2 :: a1 :: .ref b :: S) σ Q :=
  sw_inv [a1, a2, a3, a4] hd hM hV hk hc rfl hw hs (sw_mono (fun r σ' h => by obtain ⟨x, rfl, h⟩ := h; exact h) h)
theorem sx_insJ4 {a1 a2 a3 a4 : Value} {idx : Nat} (hd : decode M.1 pc = .ok (.invokestatic idx, 3)) (hM : MOk M') (hV : SOk M' 4) (hk : LK M.2.2.1 idx M'.2.1) (hw : wds [a1, a2, a3, a4] ≤ M'.2.2.2.1) (hs : (S.map Value.category).sum ≤ 8) (h : SW G d M' 0 (ent M'.2.2.2.1 [a1, a2, a3, a4]) [] σ (RJ (fun x σ' => SW G (d + 1) M (pc + 3) L (.long x :: S) σ' Q))) : SW G (d + 1) M pc L (a4 :: a3 :: a2 :: a1 :: S) σ Q :=
  sw_ins [a1, a2, a3, a4] hd hM hV hk rfl hw hs (sw_mono (fun r σ' h => by obtain ⟨x, rfl, h⟩ := h; exact h) h)
theorem sx_invV4 {a1 a2 a3 a4 : Value} {b ci idx : Nat} (hd : decode M.1 pc = .ok (.invokevirtual idx, 3)) (hM : MOk M') (hV : VOk M' 4 ci) (hk : LK M.2.2.1 idx M'.2.1) (hc : cellO b ci) (hw : wds [.ref b, a1, a2, a3, a4] ≤ M'.2.2.2.1) (hs : (S.map Value.category).sum ≤ 8) (h : SW G d M' 0 (ent M'.2.2.2.1 [.ref b, a1, a2, a3, a4]) [] σ (RV (fun σ' => SW G (d + 1) M (pc + 3) L S σ' Q))) : SW G (d + 1) M pc L (a4 :: a3 :: a2 :: a1 :: .ref b :: S) σ Q :=
  sw_inv [a1, a2, a3, a4] hd hM hV hk hc rfl hw hs (sw_mono (fun r σ' h => by obtain ⟨rfl, h⟩ := h; exact h) h)
theorem sx_insV4 {a1 a2 a3 a4 : Value} {idx : Nat} (hd : decode M.1 pc = .ok (.invokestatic idx, 3)) (hM : MOk M') (hV : SOk M' 4) (hk : LK M.2.2.1 idx M'.2.1) (hw : wds [a1, a2, a3, a4] ≤ M'.2.2.2.1) (hs : (S.map Value.category).sum ≤ 8) (h : SW G d M' 0 (ent M'.2.2.2.1 [a1, a2, a3, a4]) [] σ (RV (fun σ' => SW G (d + 1) M (pc + 3) L S σ' Q))) : SW G (d + 1) M pc L (a4 :: a3 :: a2 :: a1 :: S) σ Q :=
  sw_ins [a1, a2, a3, a4] hd hM hV hk rfl hw hs (sw_mono (fun r σ' h => by obtain ⟨rfl, h⟩ := h; exact h) h)
theorem sx_invI5 {a1 a2 a3 a4 a5 : Value} {b ci idx : Nat} (hd : decode M.1 pc = .ok (.invokevirtual idx, 3)) (hM : MOk M') (hV : VOk M' 5 ci) (hk : LK M.2.2.1 idx M'.2.1) (hc : cellO b ci) (hw : wds [.ref b, a1, a2, a3, a4, a5] ≤ M'.2.2.2.1) (hs : (S.map Value.category).sum ≤ 8) (h : SW G d M' 0 (ent M'.2.2.2.1 [.ref b, a1, a2, a3, a4, a5]) [] σ (RI (fun x σ' => SW G (d + 1) M (pc + 3) L (.int x :: S) σ' Q))) : SW G (d + 1) M pc L (a5 :: a4 :: a3 :: a2 :: a1 :: .ref b :: S) σ Q :=
  sw_inv [a1, a2, a3, a4, a5] hd hM hV hk hc rfl hw hs (sw_mono (fun r σ' h => by obtain ⟨x, rfl, h⟩ := h; exact h) h)
theorem sx_insI5 {a1 a2 a3 a4 a5 : Value} {idx : Nat} (hd : decode M.1 pc = .ok (.invokestatic idx, 3)) (hM : MOk M') (hV : SOk M' 5) (hk : LK M.2.2.1 idx M'.2.1) (hw : wds [a1, a2, a3, a4, a5] ≤ M'.2.2.2.1) (hs : (S.map Value.category).sum ≤ 8) (h : SW G d M' 0 (ent M'.2.2.2.1 [a1, a2, a3, a4, a5]) [] σ (RI (fun x σ' => SW G (d + 1) M (pc + 3) L (.int x :: S) σ' Q))) : SW G (d + 1) M pc L (a5 :: a4 :: a3 :: a2 :: a1 :: S) σ Q :=
  sw_ins [a1, a2, a3, a4, a5] hd hM hV hk rfl hw hs (sw_mono (fun r σ' h => by obtain ⟨x, rfl, h⟩ := h; exact h) h)
theorem sx_invJ5 {a1 a2 a3 a4 a5 : Value} {b ci idx : Nat} (hd : decode M.1 pc = .ok (.invokevirtual idx, 3)) (hM : MOk M') (hV : VOk M' 5 ci) (hk : LK M.2.2.1 idx M'.2.1) (hc : cellO b ci) (hw : wds [.ref b, a1, a2, a3, a4, a5] ≤ M'.2.2.2.1) (hs : (S.map Value.category).sum ≤ 8) (h : SW G d M' 0 (ent M'.2.2.2.1 [.ref b, a1, a2, a3, a4, a5]) [] σ (RJ (fun x σ' => SW G (d + 1) M (pc + 3) L (.long x :: S) σ' Q))) : SW G (d + 1) M pc L (a5 :: a4 :: a3 :: a2 :: a1 :: .ref b :: S) σ Q :=
  sw_inv [a1, a2, a3, a4, a5] hd hM hV hk hc rfl hw hs (sw_mono (fun r σ' h => by obtain ⟨x, rfl, h⟩ := h; exact h) h)
theorem sx_insJ5 {a1 a2 a3 a4 a5 : Value} {idx : Nat} (hd : decode M.1 pc = .ok (.invokestatic idx, 3)) (hM : MOk M') (hV : SOk M' 5) (hk : LK M.2.2.1 idx M'.2.1) (hw : wds [a1, a2, a3, a4, a5] ≤ M'.2.2.2.1) (hs : (S.map Value.category).sum ≤ 8) (h : SW G d M' 0 (ent M'.2.2.2.1 [a1, a2, a3, a4, a5]) [] σ (RJ (fun x σ' => SW G (d + 1) M (pc + 3) L (.long x :: S) σ' Q))) : SW G (d + 1) M pc L (a5 :: a4 :: a3 :: a2 :: a1 :: S) σ Q :=
  sw_ins [a1, a2, a3, a4, a5] hd hM hV hk rfl hw hs (sw_mono (fun r σ' h => by obtain ⟨x, rfl, h⟩ := h; exact h) h)
theorem sx_invV5 {a1 a2 a3 a4 a5 : Value} {b ci idx : Nat} (hd : decode M.1 pc = .ok (.invokevirtual idx, 3)) (hM : MOk M') (hV : VOk M' 5 ci) (hk : LK M.2.2.1 idx M'.2.1) (hc : cellO b ci) (hw : wds [.ref b, a1, a2, a3, a4, a5] ≤ M'.2.2.2.1) (hs : (S.map Value.category).sum ≤ 8) (h : SW G d M' 0 (ent M'.2.2.2.1 [.ref b, a1, a2, a3, a4, a5]) [] σ (RV (fun σ' => SW G (d + 1) M (pc + 3) L S σ' Q))) : SW G (d + 1) M pc L (a5 :: a4 :: a3 :: a2 :: a1 :: .ref b :: S) σ Q :=
  sw_inv [a1, a2, a3, a4, a5] hd hM hV hk hc rfl hw hs (sw_mono (fun r σ' h => by obtain ⟨rfl, h⟩ := h; exact h) h)
theorem sx_insV5 {a1 a2 a3 a4 a5 : Value} {idx : Nat} (hd : decode M.1 pc = .ok (.invokestatic idx, 3)) (hM : MOk M') (hV : SOk M' 5) (hk : LK M.2.2.1 idx M'.2.1) (hw : wds [a1, a2, a3, a4, a5] ≤ M'.2.2.2.1) (hs : (S.map Value.category).sum ≤ 8) (h : SW G d M' 0 (ent M'.2.2.2.1 [a1, a2, a3, a4, a5]) [] σ (RV (fun σ' => SW G (d + 1) M (pc + 3) L S σ' Q))) : SW G (d + 1) M pc L (a5 :: a4 :: a3 :: a2 :: a1 :: S) σ Q :=
  sw_ins [a1, a2, a3, a4, a5] hd hM hV hk rfl hw hs (sw_mono (fun r σ' h => by obtain ⟨rfl, h⟩ := h; exact h) h)
end SWS
