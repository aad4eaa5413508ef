/-! ===== the judgement with any ending: our rules once more ===== -/
abbrev PSI : Type := Program → Env → Room → State → MethodId → Array Value → List Frame → Method → Code → Nat → Nat → (Nat → Prop) → (State → Prop) → Prop
def SZ (G : GG) (d : Nat) (M : MM) (pc : Nat) (L : List (Option Value)) (S : List Value) (σ : Mem) (Q : PSI) : Prop :=
  ∀ (p : Program) (e : Env) (R : Room) (s : State) (m : MethodId) (args : Array Value) (below : List Frame) (meth : Method) (c : Code) (H : Heap) (locs : List Loc) (cells slots : Nat) (A : Nat → Prop) (Z : State → Prop) (ls : Array Slot),
    Cx G M p s m args meth c A → (d ≤ R.frames ∧ 31 * d ≤ R.locals ∧ cells ≤ R.cells ∧ slots ≤ R.slots) → va_P (gD G) vwCl (wl G σ) H → va_S A s.heap H locs → lvr G ls M.2.2.2.1 L → Q p e R s m args below meth c cells slots A Z →
    W p (gl G) e R s m args below meth c H locs cells slots Z (F0 m pc ls (S.map (cv G)))
section SZR
variable {G : GG} {d : Nat} {M M' : MM} {pc : Nat} {L : List (Option Value)} {S : List Value} {σ : Mem} {Q : PSI}
theorem sz_iconst {n : Int} (hd : decode M.1 pc = .ok (.iconst n, 1))  (k : SZ G d M (pc + 1) L (.int (Int32.ofInt n) :: S) σ Q) : SZ G d M pc L (S) σ Q := by
  intro p e R s m args below meth c H locs cells slots A Z ls C hR hP hS hl hr
  exact lv_iconst C.2.1 C.2.2.1 hd rfl (k p e R s m args below meth c H locs cells slots A Z ls C hR hP hS hl hr)
theorem sz_bipush {n : Int} (hd : decode M.1 pc = .ok (.bipush n, 2))  (k : SZ G d M (pc + 2) L (.int (Int8.ofInt n).toInt32 :: S) σ Q) : SZ G d M pc L (S) σ Q := by
  intro p e R s m args below meth c H locs cells slots A Z ls C hR hP hS hl hr
  exact lv_bipush C.2.1 C.2.2.1 hd rfl (k p e R s m args below meth c H locs cells slots A Z ls C hR hP hS hl hr)
theorem sz_sipush {n : Int} (hd : decode M.1 pc = .ok (.sipush n, 3))  (k : SZ G d M (pc + 3) L (.int (Int16.ofInt n).toInt32 :: S) σ Q) : SZ G d M pc L (S) σ Q := by
  intro p e R s m args below meth c H locs cells slots A Z ls C hR hP hS hl hr
  exact lv_sipush C.2.1 C.2.2.1 hd rfl (k p e R s m args below meth c H locs cells slots A Z ls C hR hP hS hl hr)
theorem sz_lconst {n : Fin 2} (hd : decode M.1 pc = .ok (.lconst n, 1))  (k : SZ G d M (pc + 1) L (.long (Int64.ofNat (n : Nat)) :: S) σ Q) : SZ G d M pc L (S) σ Q := by
  intro p e R s m args below meth c H locs cells slots A Z ls C hR hP hS hl hr
  exact lv_lconst C.2.1 C.2.2.1 hd rfl (k p e R s m args below meth c H locs cells slots A Z ls C hR hP hS hl hr)
theorem sz_ldc2 {i : Nat} {v : Int64} (hd : decode M.1 pc = .ok (.ldc2_w i, 3)) (hc : Cond.constantLong M.2.2.1 i v ∈ TB) (k : SZ G d M (pc + 3) L (.long v :: S) σ Q) : SZ G d M pc L (S) σ Q := by
  intro p e R s m args below meth c H locs cells slots A Z ls C hR hP hS hl hr
  exact lv_ldc2 C.2.1 C.2.2.1 C.2.2.2.2.1 (C.2.2.2.2.2.1 _ hc) hd (k p e R s m args below meth c H locs cells slots A Z ls C hR hP hS hl hr)
theorem sz_iload {i : Nat} {x : Int32} (hd : decode M.1 pc = .ok (.iload i, 2)) (hv : lgt L i = some (.int x)) (k : SZ G d M (pc + 2) L (.int x :: S) σ Q) : SZ G d M pc L (S) σ Q := by
  intro p e R s m args below meth c H locs cells slots A Z ls C hR hP hS hl hr
  exact lv_iload C.2.1 C.2.2.1 hd (lvr_at hl hv) (k p e R s m args below meth c H locs cells slots A Z ls C hR hP hS hl hr)
theorem sz_iloadn {i : Fin 4} {x : Int32} (hd : decode M.1 pc = .ok (.iload_n i, 1)) (hv : lgt L (i : Nat) = some (.int x)) (k : SZ G d M (pc + 1) L (.int x :: S) σ Q) : SZ G d M pc L (S) σ Q := by
  intro p e R s m args below meth c H locs cells slots A Z ls C hR hP hS hl hr
  exact lv_iload_n C.2.1 C.2.2.1 hd rfl (lvr_at hl hv) (k p e R s m args below meth c H locs cells slots A Z ls C hR hP hS hl hr)
theorem sz_lload {i : Nat} {x : Int64} (hd : decode M.1 pc = .ok (.lload i, 2)) (hv : lgt L i = some (.long x)) (k : SZ G d M (pc + 2) L (.long x :: S) σ Q) : SZ G d M pc L (S) σ Q := by
  intro p e R s m args below meth c H locs cells slots A Z ls C hR hP hS hl hr
  exact lv_lload C.2.1 C.2.2.1 hd (lvr_at hl hv) (k p e R s m args below meth c H locs cells slots A Z ls C hR hP hS hl hr)
theorem sz_lloadn {i : Fin 4} {x : Int64} (hd : decode M.1 pc = .ok (.lload_n i, 1)) (hv : lgt L (i : Nat) = some (.long x)) (k : SZ G d M (pc + 1) L (.long x :: S) σ Q) : SZ G d M pc L (S) σ Q := by
  intro p e R s m args below meth c H locs cells slots A Z ls C hR hP hS hl hr
  exact lv_lload_n C.2.1 C.2.2.1 hd rfl (lvr_at hl hv) (k p e R s m args below meth c H locs cells slots A Z ls C hR hP hS hl hr)
theorem sz_aload {i : Nat} {x : Nat} (hd : decode M.1 pc = .ok (.aload i, 2)) (hv : lgt L i = some (.ref x)) (k : SZ G d M (pc + 2) L (.ref x :: S) σ Q) : SZ G d M pc L (S) σ Q := by
  intro p e R s m args below meth c H locs cells slots A Z ls C hR hP hS hl hr
  exact lv_aload C.2.1 C.2.2.1 hd (lvr_at hl hv) (k p e R s m args below meth c H locs cells slots A Z ls C hR hP hS hl hr)
theorem sz_aloadn {i : Fin 4} {x : Nat} (hd : decode M.1 pc = .ok (.aload_n i, 1)) (hv : lgt L (i : Nat) = some (.ref x)) (k : SZ G d M (pc + 1) L (.ref x :: S) σ Q) : SZ G d M pc L (S) σ Q := by
  intro p e R s m args below meth c H locs cells slots A Z ls C hR hP hS hl hr
  exact lv_aload_n C.2.1 C.2.2.1 hd rfl (lvr_at hl hv) (k p e R s m args below meth c H locs cells slots A Z ls C hR hP hS hl hr)
theorem sz_istore {i : Nat} {x : Int32} (hd : decode M.1 pc = .ok (.istore i, 2)) (hi : i < L.length) (k : SZ G d M (pc + 2) (ls1 L i (.int x)) S σ Q) : SZ G d M pc L (.int x :: S) σ Q := by
  intro p e R s m args below meth c H locs cells slots A Z ls C hR hP hS hl hr
  refine lv_istore C.2.1 C.2.2.1 hd hl.2 (hl.1 ▸ hi) rfl (fun ls' hl' => ?_)
  exact k p e R s m args below meth c H locs cells slots A Z ls' C hR hP hS (lvr_of1 (v := .int x) hl.1  hl') hr
theorem sz_istoren {i : Fin 4} {x : Int32} (hd : decode M.1 pc = .ok (.istore_n i, 1)) (hi : (i : Nat) < L.length) (k : SZ G d M (pc + 1) (ls1 L (i : Nat) (.int x)) S σ Q) : SZ G d M pc L (.int x :: S) σ Q := by
  intro p e R s m args below meth c H locs cells slots A Z ls C hR hP hS hl hr
  refine lv_istore_n C.2.1 C.2.2.1 hd rfl hl.2 (hl.1 ▸ hi) rfl (fun ls' hl' => ?_)
  exact k p e R s m args below meth c H locs cells slots A Z ls' C hR hP hS (lvr_of1 (v := .int x) hl.1  hl') hr
theorem sz_lstore {i : Nat} {x : Int64} (hd : decode M.1 pc = .ok (.lstore i, 2)) (hi : i + 1 < L.length) (k : SZ G d M (pc + 2) (ls2 L i (.long x)) S σ Q) : SZ G d M pc L (.long x :: S) σ Q := by
  intro p e R s m args below meth c H locs cells slots A Z ls C hR hP hS hl hr
  refine lv_lstore C.2.1 C.2.2.1 hd hl.2 (hl.1 ▸ hi) rfl (fun ls' hl' => ?_)
  exact k p e R s m args below meth c H locs cells slots A Z ls' C hR hP hS (lvr_of2 (v := .long x) hl.1 hi hl') hr
theorem sz_lstoren {i : Fin 4} {x : Int64} (hd : decode M.1 pc = .ok (.lstore_n i, 1)) (hi : (i : Nat) + 1 < L.length) (k : SZ G d M (pc + 1) (ls2 L (i : Nat) (.long x)) S σ Q) : SZ G d M pc L (.long x :: S) σ Q := by
  intro p e R s m args below meth c H locs cells slots A Z ls C hR hP hS hl hr
  refine lv_lstore_n C.2.1 C.2.2.1 hd rfl hl.2 (hl.1 ▸ hi) rfl (fun ls' hl' => ?_)
  exact k p e R s m args below meth c H locs cells slots A Z ls' C hR hP hS (lvr_of2 (v := .long x) hl.1 hi hl') hr
theorem sz_astore {i : Nat} {x : Nat} (hd : decode M.1 pc = .ok (.astore i, 2)) (hi : i < L.length) (k : SZ G d M (pc + 2) (ls1 L i (.ref x)) S σ Q) : SZ G d M pc L (.ref x :: S) σ Q := by
  intro p e R s m args below meth c H locs cells slots A Z ls C hR hP hS hl hr
  refine lv_astore C.2.1 C.2.2.1 hd hl.2 (hl.1 ▸ hi) rfl (fun ls' hl' => ?_)
  exact k p e R s m args below meth c H locs cells slots A Z ls' C hR hP hS (lvr_of1 (v := .ref x) hl.1  hl') hr
theorem sz_astoren {i : Fin 4} {x : Nat} (hd : decode M.1 pc = .ok (.astore_n i, 1)) (hi : (i : Nat) < L.length) (k : SZ G d M (pc + 1) (ls1 L (i : Nat) (.ref x)) S σ Q) : SZ G d M pc L (.ref x :: S) σ Q := by
  intro p e R s m args below meth c H locs cells slots A Z ls C hR hP hS hl hr
  refine lv_astore_n C.2.1 C.2.2.1 hd rfl hl.2 (hl.1 ▸ hi) rfl (fun ls' hl' => ?_)
  exact k p e R s m args below meth c H locs cells slots A Z ls' C hR hP hS (lvr_of1 (v := .ref x) hl.1  hl') hr
theorem sz_iinc {i : Nat} {n : Int} {x : Int32} (hd : decode M.1 pc = .ok (.iinc i n, 3)) (hv : lgt L i = some (.int x)) (k : SZ G d M (pc + 3) (ls1 L i (.int (x + Int32.ofInt n))) S σ Q) : SZ G d M pc L S σ Q := by
  intro p e R s m args below meth c H locs cells slots A Z ls C hR hP hS hl hr
  have h1 := lpr_in G L 0 i _ hv
  rw [Nat.zero_add] at h1
  obtain ⟨j, hj⟩ := List.getElem?_of_mem h1
  refine lv_iinc (k := j) (x := x) C.2.1 C.2.2.1 hd hl.2 hj rfl (hl.1 ▸ lvr_lt hv) rfl (fun ls' hl' => ?_)
  exact k p e R s m args below meth c H locs cells slots A Z ls' C hR hP hS (lvr_of1 (v := .int (x + Int32.ofInt n)) hl.1 hl') hr
theorem sz_iadd {x y : Int32} (hd : decode M.1 pc = .ok (.iadd, 1))  (k : SZ G d M (pc + 1) L (.int (x + y) :: S) σ Q) : SZ G d M pc L (.int y :: .int x :: S) σ Q := by
  intro p e R s m args below meth c H locs cells slots A Z ls C hR hP hS hl hr
  exact lv_iadd C.2.1 C.2.2.1 hd (k p e R s m args below meth c H locs cells slots A Z ls C hR hP hS hl hr)
theorem sz_isub {x y : Int32} (hd : decode M.1 pc = .ok (.isub, 1))  (k : SZ G d M (pc + 1) L (.int (x - y) :: S) σ Q) : SZ G d M pc L (.int y :: .int x :: S) σ Q := by
  intro p e R s m args below meth c H locs cells slots A Z ls C hR hP hS hl hr
  exact lv_isub C.2.1 C.2.2.1 hd (k p e R s m args below meth c H locs cells slots A Z ls C hR hP hS hl hr)
theorem sz_imul {x y : Int32} (hd : decode M.1 pc = .ok (.imul, 1))  (k : SZ G d M (pc + 1) L (.int (x * y) :: S) σ Q) : SZ G d M pc L (.int y :: .int x :: S) σ Q := by
  intro p e R s m args below meth c H locs cells slots A Z ls C hR hP hS hl hr
  exact lv_imul C.2.1 C.2.2.1 hd (k p e R s m args below meth c H locs cells slots A Z ls C hR hP hS hl hr)
theorem sz_iand {x y : Int32} (hd : decode M.1 pc = .ok (.iand, 1))  (k : SZ G d M (pc + 1) L (.int (x &&& y) :: S) σ Q) : SZ G d M pc L (.int y :: .int x :: S) σ Q := by
  intro p e R s m args below meth c H locs cells slots A Z ls C hR hP hS hl hr
  exact lv_iand C.2.1 C.2.2.1 hd (k p e R s m args below meth c H locs cells slots A Z ls C hR hP hS hl hr)
theorem sz_ior {x y : Int32} (hd : decode M.1 pc = .ok (.ior, 1))  (k : SZ G d M (pc + 1) L (.int (x ||| y) :: S) σ Q) : SZ G d M pc L (.int y :: .int x :: S) σ Q := by
  intro p e R s m args below meth c H locs cells slots A Z ls C hR hP hS hl hr
  exact lv_ior C.2.1 C.2.2.1 hd (k p e R s m args below meth c H locs cells slots A Z ls C hR hP hS hl hr)
theorem sz_ixor {x y : Int32} (hd : decode M.1 pc = .ok (.ixor, 1))  (k : SZ G d M (pc + 1) L (.int (x ^^^ y) :: S) σ Q) : SZ G d M pc L (.int y :: .int x :: S) σ Q := by
  intro p e R s m args below meth c H locs cells slots A Z ls C hR hP hS hl hr
  exact lv_ixor C.2.1 C.2.2.1 hd (k p e R s m args below meth c H locs cells slots A Z ls C hR hP hS hl hr)
theorem sz_ladd {x y : Int64} (hd : decode M.1 pc = .ok (.ladd, 1))  (k : SZ G d M (pc + 1) L (.long (x + y) :: S) σ Q) : SZ G d M pc L (.long y :: .long x :: S) σ Q := by
  intro p e R s m args below meth c H locs cells slots A Z ls C hR hP hS hl hr
  exact lv_ladd C.2.1 C.2.2.1 hd (k p e R s m args below meth c H locs cells slots A Z ls C hR hP hS hl hr)
theorem sz_lsub {x y : Int64} (hd : decode M.1 pc = .ok (.lsub, 1))  (k : SZ G d M (pc + 1) L (.long (x - y) :: S) σ Q) : SZ G d M pc L (.long y :: .long x :: S) σ Q := by
  intro p e R s m args below meth c H locs cells slots A Z ls C hR hP hS hl hr
  exact lv_lsub C.2.1 C.2.2.1 hd (k p e R s m args below meth c H locs cells slots A Z ls C hR hP hS hl hr)
theorem sz_lmul {x y : Int64} (hd : decode M.1 pc = .ok (.lmul, 1))  (k : SZ G d M (pc + 1) L (.long (x * y) :: S) σ Q) : SZ G d M pc L (.long y :: .long x :: S) σ Q := by
  intro p e R s m args below meth c H locs cells slots A Z ls C hR hP hS hl hr
  exact lv_lmul C.2.1 C.2.2.1 hd (k p e R s m args below meth c H locs cells slots A Z ls C hR hP hS hl hr)
theorem sz_land {x y : Int64} (hd : decode M.1 pc = .ok (.land, 1))  (k : SZ G d M (pc + 1) L (.long (x &&& y) :: S) σ Q) : SZ G d M pc L (.long y :: .long x :: S) σ Q := by
  intro p e R s m args below meth c H locs cells slots A Z ls C hR hP hS hl hr
  exact lv_land C.2.1 C.2.2.1 hd (k p e R s m args below meth c H locs cells slots A Z ls C hR hP hS hl hr)
theorem sz_lor {x y : Int64} (hd : decode M.1 pc = .ok (.lor, 1))  (k : SZ G d M (pc + 1) L (.long (x ||| y) :: S) σ Q) : SZ G d M pc L (.long y :: .long x :: S) σ Q := by
  intro p e R s m args below meth c H locs cells slots A Z ls C hR hP hS hl hr
  exact lv_lor C.2.1 C.2.2.1 hd (k p e R s m args below meth c H locs cells slots A Z ls C hR hP hS hl hr)
theorem sz_lxor {x y : Int64} (hd : decode M.1 pc = .ok (.lxor, 1))  (k : SZ G d M (pc + 1) L (.long (x ^^^ y) :: S) σ Q) : SZ G d M pc L (.long y :: .long x :: S) σ Q := by
  intro p e R s m args below meth c H locs cells slots A Z ls C hR hP hS hl hr
  exact lv_lxor C.2.1 C.2.2.1 hd (k p e R s m args below meth c H locs cells slots A Z ls C hR hP hS hl hr)
theorem sz_idiv {x y : Int32} (hd : decode M.1 pc = .ok (.idiv, 1)) (hy : ¬ y = 0) (k : SZ G d M (pc + 1) L (.int (x / y) :: S) σ Q) : SZ G d M pc L (.int y :: .int x :: S) σ Q := by
  intro p e R s m args below meth c H locs cells slots A Z ls C hR hP hS hl hr
  exact lv_idiv C.2.1 C.2.2.1 hd hy (k p e R s m args below meth c H locs cells slots A Z ls C hR hP hS hl hr)
theorem sz_irem {x y : Int32} (hd : decode M.1 pc = .ok (.irem, 1)) (hy : ¬ y = 0) (k : SZ G d M (pc + 1) L (.int (x - x / y * y) :: S) σ Q) : SZ G d M pc L (.int y :: .int x :: S) σ Q := by
  intro p e R s m args below meth c H locs cells slots A Z ls C hR hP hS hl hr
  exact lv_irem C.2.1 C.2.2.1 hd hy (k p e R s m args below meth c H locs cells slots A Z ls C hR hP hS hl hr)
theorem sz_ineg {x : Int32} (hd : decode M.1 pc = .ok (.ineg, 1))  (k : SZ G d M (pc + 1) L (.int (-x) :: S) σ Q) : SZ G d M pc L (.int x :: S) σ Q := by
  intro p e R s m args below meth c H locs cells slots A Z ls C hR hP hS hl hr
  exact lv_ineg C.2.1 C.2.2.1 hd (k p e R s m args below meth c H locs cells slots A Z ls C hR hP hS hl hr)
theorem sz_ishl {x y : Int32} (hd : decode M.1 pc = .ok (.ishl, 1))  (k : SZ G d M (pc + 1) L (.int (x <<< (y &&& 31)) :: S) σ Q) : SZ G d M pc L (.int y :: .int x :: S) σ Q := by
  intro p e R s m args below meth c H locs cells slots A Z ls C hR hP hS hl hr
  exact lv_ishl C.2.1 C.2.2.1 hd (k p e R s m args below meth c H locs cells slots A Z ls C hR hP hS hl hr)
theorem sz_ishr {x y : Int32} (hd : decode M.1 pc = .ok (.ishr, 1))  (k : SZ G d M (pc + 1) L (.int (x >>> (y &&& 31)) :: S) σ Q) : SZ G d M pc L (.int y :: .int x :: S) σ Q := by
  intro p e R s m args below meth c H locs cells slots A Z ls C hR hP hS hl hr
  exact lv_ishr C.2.1 C.2.2.1 hd (k p e R s m args below meth c H locs cells slots A Z ls C hR hP hS hl hr)
theorem sz_iushr {x y : Int32} (hd : decode M.1 pc = .ok (.iushr, 1))  (k : SZ G d M (pc + 1) L (.int (x.toUInt32 >>> (y.toUInt32 &&& Int32.toUInt32 31)).toInt32 :: S) σ Q) : SZ G d M pc L (.int y :: .int x :: S) σ Q := by
  intro p e R s m args below meth c H locs cells slots A Z ls C hR hP hS hl hr
  exact lv_iushr C.2.1 C.2.2.1 hd rfl (k p e R s m args below meth c H locs cells slots A Z ls C hR hP hS hl hr)
theorem sz_lshl {x : Int64} {y : Int32} (hd : decode M.1 pc = .ok (.lshl, 1))  (k : SZ G d M (pc + 1) L (.long (x <<< (y.toInt64 &&& 63)) :: S) σ Q) : SZ G d M pc L (.int y :: .long x :: S) σ Q := by
  intro p e R s m args below meth c H locs cells slots A Z ls C hR hP hS hl hr
  exact lv_lshl C.2.1 C.2.2.1 hd rfl (k p e R s m args below meth c H locs cells slots A Z ls C hR hP hS hl hr)
theorem sz_lshr {x : Int64} {y : Int32} (hd : decode M.1 pc = .ok (.lshr, 1))  (k : SZ G d M (pc + 1) L (.long (x >>> (y.toInt64 &&& 63)) :: S) σ Q) : SZ G d M pc L (.int y :: .long x :: S) σ Q := by
  intro p e R s m args below meth c H locs cells slots A Z ls C hR hP hS hl hr
  exact lv_lshr C.2.1 C.2.2.1 hd rfl (k p e R s m args below meth c H locs cells slots A Z ls C hR hP hS hl hr)
theorem sz_lushr {x : Int64} {y : Int32} (hd : decode M.1 pc = .ok (.lushr, 1))  (k : SZ G d M (pc + 1) L (.long (x.toUInt64 >>> (y.toInt64.toUInt64 &&& Int64.toUInt64 63)).toInt64 :: S) σ Q) : SZ G d M pc L (.int y :: .long x :: S) σ Q := by
  intro p e R s m args below meth c H locs cells slots A Z ls C hR hP hS hl hr
  exact lv_lushr C.2.1 C.2.2.1 hd rfl (k p e R s m args below meth c H locs cells slots A Z ls C hR hP hS hl hr)
theorem sz_i2l {x : Int32} (hd : decode M.1 pc = .ok (.i2l, 1))  (k : SZ G d M (pc + 1) L (.long x.toInt64 :: S) σ Q) : SZ G d M pc L (.int x :: S) σ Q := by
  intro p e R s m args below meth c H locs cells slots A Z ls C hR hP hS hl hr
  exact lv_i2l C.2.1 C.2.2.1 hd rfl (k p e R s m args below meth c H locs cells slots A Z ls C hR hP hS hl hr)
theorem sz_l2i {x : Int64} (hd : decode M.1 pc = .ok (.l2i, 1))  (k : SZ G d M (pc + 1) L (.int x.toInt32 :: S) σ Q) : SZ G d M pc L (.long x :: S) σ Q := by
  intro p e R s m args below meth c H locs cells slots A Z ls C hR hP hS hl hr
  exact lv_l2i C.2.1 C.2.2.1 hd rfl (k p e R s m args below meth c H locs cells slots A Z ls C hR hP hS hl hr)
theorem sz_i2b {x : Int32} (hd : decode M.1 pc = .ok (.i2b, 1))  (k : SZ G d M (pc + 1) L (.int x.toInt8.toInt32 :: S) σ Q) : SZ G d M pc L (.int x :: S) σ Q := by
  intro p e R s m args below meth c H locs cells slots A Z ls C hR hP hS hl hr
  exact lv_i2b C.2.1 C.2.2.1 hd rfl (k p e R s m args below meth c H locs cells slots A Z ls C hR hP hS hl hr)
theorem sz_lcmp {x y : Int64} (hd : decode M.1 pc = .ok (.lcmp, 1))  (k : SZ G d M (pc + 1) L (.int (lg_cmp x y) :: S) σ Q) : SZ G d M pc L (.long y :: .long x :: S) σ Q := by
  intro p e R s m args below meth c H locs cells slots A Z ls C hR hP hS hl hr
  exact W.lcmp C.2.1 C.2.2.1 hd (k p e R s m args below meth c H locs cells slots A Z ls C hR hP hS hl hr)
theorem sz_dup {v : Value} (hd : decode M.1 pc = .ok (.dup, 1)) (hv : v.category = 1) (k : SZ G d M (pc + 1) L (v :: v :: S) σ Q) : SZ G d M pc L (v :: S) σ Q := by
  intro p e R s m args below meth c H locs cells slots A Z ls C hR hP hS hl hr
  exact lv_dup C.2.1 C.2.2.1 hd (by rw [cv_cat]; exact hv) (k p e R s m args below meth c H locs cells slots A Z ls C hR hP hS hl hr)
theorem sz_dup2 {v u : Value} (hd : decode M.1 pc = .ok (.dup2, 1)) (hv : v.category = 1) (hu : u.category = 1) (k : SZ G d M (pc + 1) L (v :: u :: v :: u :: S) σ Q) : SZ G d M pc L (v :: u :: S) σ Q := by
  intro p e R s m args below meth c H locs cells slots A Z ls C hR hP hS hl hr
  exact lv_dup2_11 C.2.1 C.2.2.1 hd (by rw [cv_cat]; exact hv) (by rw [cv_cat]; exact hu) (k p e R s m args below meth c H locs cells slots A Z ls C hR hP hS hl hr)
-- branches
theorem sz_if_eq {x : Int32} {off : Int} {tgt : Nat} (hd : decode M.1 pc = .ok (.ifCond .eq off, 3)) (ht : (pc : Int) + off = (tgt : Int)) (kt : x = 0 → SZ G d M tgt L S σ Q) (kf : ¬ x = 0 → SZ G d M (pc + 3) L S σ Q) : SZ G d M pc L (.int x :: S) σ Q := by
  intro p e R s m args below meth c H locs cells slots A Z ls C hR hP hS hl hr
  exact lv_if_eq C.2.1 C.2.2.1 hd ht (fun h => (kt (by first | exact h | exact Decidable.byContradiction h | omega) p e R s m args below meth c H locs cells slots A Z ls C hR hP hS hl hr)) (fun h => (kf (by first | exact h | exact Decidable.byContradiction h | omega) p e R s m args below meth c H locs cells slots A Z ls C hR hP hS hl hr))
theorem sz_if_ne {x : Int32} {off : Int} {tgt : Nat} (hd : decode M.1 pc = .ok (.ifCond .ne off, 3)) (ht : (pc : Int) + off = (tgt : Int)) (kt : ¬ x = 0 → SZ G d M tgt L S σ Q) (kf : x = 0 → SZ G d M (pc + 3) L S σ Q) : SZ G d M pc L (.int x :: S) σ Q := by
  intro p e R s m args below meth c H locs cells slots A Z ls C hR hP hS hl hr
  exact lv_if_ne C.2.1 C.2.2.1 hd ht (fun h => (kt (by first | exact h | exact Decidable.byContradiction h | omega) p e R s m args below meth c H locs cells slots A Z ls C hR hP hS hl hr)) (fun h => (kf (by first | exact h | exact Decidable.byContradiction h | omega) p e R s m args below meth c H locs cells slots A Z ls C hR hP hS hl hr))
theorem sz_if_lt {x : Int32} {off : Int} {tgt : Nat} (hd : decode M.1 pc = .ok (.ifCond .lt off, 3)) (ht : (pc : Int) + off = (tgt : Int)) (kt : x < 0 → SZ G d M tgt L S σ Q) (kf : ¬ x < 0 → SZ G d M (pc + 3) L S σ Q) : SZ G d M pc L (.int x :: S) σ Q := by
  intro p e R s m args below meth c H locs cells slots A Z ls C hR hP hS hl hr
  exact lv_if_lt C.2.1 C.2.2.1 hd ht (fun h => (kt (by first | exact h | exact Decidable.byContradiction h | omega) p e R s m args below meth c H locs cells slots A Z ls C hR hP hS hl hr)) (fun h => (kf (by first | exact h | exact Decidable.byContradiction h | omega) p e R s m args below meth c H locs cells slots A Z ls C hR hP hS hl hr))
theorem sz_if_ge {x : Int32} {off : Int} {tgt : Nat} (hd : decode M.1 pc = .ok (.ifCond .ge off, 3)) (ht : (pc : Int) + off = (tgt : Int)) (kt : 0 ≤ x → SZ G d M tgt L S σ Q) (kf : ¬ 0 ≤ x → SZ G d M (pc + 3) L S σ Q) : SZ G d M pc L (.int x :: S) σ Q := by
  intro p e R s m args below meth c H locs cells slots A Z ls C hR hP hS hl hr
  exact lv_if_ge C.2.1 C.2.2.1 hd ht (fun h => (kt (by first | exact h | exact Decidable.byContradiction h | omega) p e R s m args below meth c H locs cells slots A Z ls C hR hP hS hl hr)) (fun h => (kf (by first | exact h | exact Decidable.byContradiction h | omega) p e R s m args below meth c H locs cells slots A Z ls C hR hP hS hl hr))
theorem sz_if_gt {x : Int32} {off : Int} {tgt : Nat} (hd : decode M.1 pc = .ok (.ifCond .gt off, 3)) (ht : (pc : Int) + off = (tgt : Int)) (kt : 0 < x → SZ G d M tgt L S σ Q) (kf : ¬ 0 < x → SZ G d M (pc + 3) L S σ Q) : SZ G d M pc L (.int x :: S) σ Q := by
  intro p e R s m args below meth c H locs cells slots A Z ls C hR hP hS hl hr
  exact lv_if_gt C.2.1 C.2.2.1 hd ht (fun h => (kt (by first | exact h | exact Decidable.byContradiction h | omega) p e R s m args below meth c H locs cells slots A Z ls C hR hP hS hl hr)) (fun h => (kf (by first | exact h | exact Decidable.byContradiction h | omega) p e R s m args below meth c H locs cells slots A Z ls C hR hP hS hl hr))
theorem sz_if_le {x : Int32} {off : Int} {tgt : Nat} (hd : decode M.1 pc = .ok (.ifCond .le off, 3)) (ht : (pc : Int) + off = (tgt : Int)) (kt : x ≤ 0 → SZ G d M tgt L S σ Q) (kf : ¬ x ≤ 0 → SZ G d M (pc + 3) L S σ Q) : SZ G d M pc L (.int x :: S) σ Q := by
  intro p e R s m args below meth c H locs cells slots A Z ls C hR hP hS hl hr
  exact lv_if_le C.2.1 C.2.2.1 hd ht (fun h => (kt (by first | exact h | exact Decidable.byContradiction h | omega) p e R s m args below meth c H locs cells slots A Z ls C hR hP hS hl hr)) (fun h => (kf (by first | exact h | exact Decidable.byContradiction h | omega) p e R s m args below meth c H locs cells slots A Z ls C hR hP hS hl hr))
theorem sz_icmp_eq {x y : Int32} {off : Int} {tgt : Nat} (hd : decode M.1 pc = .ok (.if_icmp .eq off, 3)) (ht : (pc : Int) + off = (tgt : Int)) (kt : x = y → SZ G d M tgt L S σ Q) (kf : ¬ x = y → SZ G d M (pc + 3) L S σ Q) : SZ G d M pc L (.int y :: .int x :: S) σ Q := by
  intro p e R s m args below meth c H locs cells slots A Z ls C hR hP hS hl hr
  exact lv_icmp_eq C.2.1 C.2.2.1 hd ht (fun h => (kt (by first | exact h | exact Decidable.byContradiction h | omega) p e R s m args below meth c H locs cells slots A Z ls C hR hP hS hl hr)) (fun h => (kf (by first | exact h | exact Decidable.byContradiction h | omega) p e R s m args below meth c H locs cells slots A Z ls C hR hP hS hl hr))
theorem sz_icmp_ne {x y : Int32} {off : Int} {tgt : Nat} (hd : decode M.1 pc = .ok (.if_icmp .ne off, 3)) (ht : (pc : Int) + off = (tgt : Int)) (kt : ¬ x = y → SZ G d M tgt L S σ Q) (kf : x = y → SZ G d M (pc + 3) L S σ Q) : SZ G d M pc L (.int y :: .int x :: S) σ Q := by
  intro p e R s m args below meth c H locs cells slots A Z ls C hR hP hS hl hr
  exact lv_icmp_ne C.2.1 C.2.2.1 hd ht (fun h => (kt (by first | exact h | exact Decidable.byContradiction h | omega) p e R s m args below meth c H locs cells slots A Z ls C hR hP hS hl hr)) (fun h => (kf (by first | exact h | exact Decidable.byContradiction h | omega) p e R s m args below meth c H locs cells slots A Z ls C hR hP hS hl hr))
theorem sz_icmp_lt {x y : Int32} {off : Int} {tgt : Nat} (hd : decode M.1 pc = .ok (.if_icmp .lt off, 3)) (ht : (pc : Int) + off = (tgt : Int)) (kt : x < y → SZ G d M tgt L S σ Q) (kf : ¬ x < y → SZ G d M (pc + 3) L S σ Q) : SZ G d M pc L (.int y :: .int x :: S) σ Q := by
  intro p e R s m args below meth c H locs cells slots A Z ls C hR hP hS hl hr
  exact lv_icmp_lt C.2.1 C.2.2.1 hd ht (fun h => (kt (by first | exact h | exact Decidable.byContradiction h | omega) p e R s m args below meth c H locs cells slots A Z ls C hR hP hS hl hr)) (fun h => (kf (by first | exact h | exact Decidable.byContradiction h | omega) p e R s m args below meth c H locs cells slots A Z ls C hR hP hS hl hr))
theorem sz_icmp_ge {x y : Int32} {off : Int} {tgt : Nat} (hd : decode M.1 pc = .ok (.if_icmp .ge off, 3)) (ht : (pc : Int) + off = (tgt : Int)) (kt : y ≤ x → SZ G d M tgt L S σ Q) (kf : ¬ y ≤ x → SZ G d M (pc + 3) L S σ Q) : SZ G d M pc L (.int y :: .int x :: S) σ Q := by
  intro p e R s m args below meth c H locs cells slots A Z ls C hR hP hS hl hr
  exact lv_icmp_ge C.2.1 C.2.2.1 hd ht (fun h => (kt (by first | exact h | exact Decidable.byContradiction h | omega) p e R s m args below meth c H locs cells slots A Z ls C hR hP hS hl hr)) (fun h => (kf (by first | exact h | exact Decidable.byContradiction h | omega) p e R s m args below meth c H locs cells slots A Z ls C hR hP hS hl hr))
theorem sz_icmp_gt {x y : Int32} {off : Int} {tgt : Nat} (hd : decode M.1 pc = .ok (.if_icmp .gt off, 3)) (ht : (pc : Int) + off = (tgt : Int)) (kt : y < x → SZ G d M tgt L S σ Q) (kf : ¬ y < x → SZ G d M (pc + 3) L S σ Q) : SZ G d M pc L (.int y :: .int x :: S) σ Q := by
  intro p e R s m args below meth c H locs cells slots A Z ls C hR hP hS hl hr
  exact lv_icmp_gt C.2.1 C.2.2.1 hd ht (fun h => (kt (by first | exact h | exact Decidable.byContradiction h | omega) p e R s m args below meth c H locs cells slots A Z ls C hR hP hS hl hr)) (fun h => (kf (by first | exact h | exact Decidable.byContradiction h | omega) p e R s m args below meth c H locs cells slots A Z ls C hR hP hS hl hr))
theorem sz_icmp_le {x y : Int32} {off : Int} {tgt : Nat} (hd : decode M.1 pc = .ok (.if_icmp .le off, 3)) (ht : (pc : Int) + off = (tgt : Int)) (kt : x ≤ y → SZ G d M tgt L S σ Q) (kf : ¬ x ≤ y → SZ G d M (pc + 3) L S σ Q) : SZ G d M pc L (.int y :: .int x :: S) σ Q := by
  intro p e R s m args below meth c H locs cells slots A Z ls C hR hP hS hl hr
  exact lv_icmp_le C.2.1 C.2.2.1 hd ht (fun h => (kt (by first | exact h | exact Decidable.byContradiction h | omega) p e R s m args below meth c H locs cells slots A Z ls C hR hP hS hl hr)) (fun h => (kf (by first | exact h | exact Decidable.byContradiction h | omega) p e R s m args below meth c H locs cells slots A Z ls C hR hP hS hl hr))
theorem sz_goto {off : Int} {tgt : Nat} (hd : decode M.1 pc = .ok (.goto off, 3)) (ht : (pc : Int) + off = (tgt : Int)) (k : SZ G d M tgt L S σ Q) : SZ G d M pc L S σ Q := by
  intro p e R s m args below meth c H locs cells slots A Z ls C hR hP hS hl hr
  exact lv_goto C.2.1 C.2.2.1 hd ht (k p e R s m args below meth c H locs cells slots A Z ls C hR hP hS hl hr)
theorem sz_tabOut {dflt lo hi : Int} {offs : Array Int} {len : Nat} {x : Int32} {tgt : Nat} (hd : decode M.1 pc = .ok (.tableswitch dflt lo hi offs, len)) (h : x.toInt < lo ∨ hi < x.toInt) (ht : (pc : Int) + dflt = (tgt : Int)) (k : SZ G d M tgt L S σ Q) : SZ G d M pc L (.int x :: S) σ Q := by
  intro p e R s m args below meth c H locs cells slots A Z ls C hR hP hS hl hr
  exact lv_tableOut C.2.1 C.2.2.1 hd h ht (k p e R s m args below meth c H locs cells slots A Z ls C hR hP hS hl hr)
theorem sz_tabIn {dflt lo hi : Int} {offs : Array Int} {len : Nat} {x : Int32} {off : Int} {tgt : Nat} (hd : decode M.1 pc = .ok (.tableswitch dflt lo hi offs, len)) (h1 : ¬ x.toInt < lo) (h2 : ¬ hi < x.toInt) (ho : offs[(x.toInt - lo).toNat]? = some off) (ht : (pc : Int) + off = (tgt : Int)) (k : SZ G d M tgt L S σ Q) : SZ G d M pc L (.int x :: S) σ Q := by
  intro p e R s m args below meth c H locs cells slots A Z ls C hR hP hS hl hr
  exact lv_tableIn C.2.1 C.2.2.1 hd h1 h2 ho ht (k p e R s m args below meth c H locs cells slots A Z ls C hR hP hS hl hr)
theorem sz_lookup {dflt : Int} {ps : Array (Int × Int)} {len : Nat} {x : Int32} {off : Int} {tgt : Nat} (hd : decode M.1 pc = .ok (.lookupswitch dflt ps, len)) (hp : (ps.toList.zip (ps.toList.drop 1)).all (fun (a, next) => a.1 < next.1) = true) (ho : Op.lookupswitch.offset ps.toList dflt x.toInt = off) (ht : (pc : Int) + off = (tgt : Int)) (k : SZ G d M tgt L S σ Q) : SZ G d M pc L (.int x :: S) σ Q := by
  intro p e R s m args below meth c H locs cells slots A Z ls C hR hP hS hl hr
  exact lv_lookup C.2.1 C.2.2.1 hd hp ho ht (k p e R s m args below meth c H locs cells slots A Z ls C hR hP hS hl hr)
theorem sz_nmI {x : Int32} (k : ∀ y : Int32, y = x → SZ G d M pc L (.int y :: S) σ Q) : SZ G d M pc L (.int x :: S) σ Q := k x rfl
theorem sz_nmJ {x : Int64} (k : ∀ y : Int64, y = x → SZ G d M pc L (.long y :: S) σ Q) : SZ G d M pc L (.long x :: S) σ Q := k x rfl
theorem sz_topI {x y : Int32} (h : x = y) (k : SZ G d M pc L (.int y :: S) σ Q) : SZ G d M pc L (.int x :: S) σ Q := h ▸ k
theorem sz_topJ {x y : Int64} (h : x = y) (k : SZ G d M pc L (.long y :: S) σ Q) : SZ G d M pc L (.long x :: S) σ Q := h ▸ k
theorem sz_mem {σ' : Mem} (h : σ = σ') (k : SZ G d M pc L S σ' Q) : SZ G d M pc L S σ Q := h ▸ k
theorem sz_loc {L' : List (Option Value)} (h : L = L') (k : SZ G d M pc L' S σ Q) : SZ G d M pc L S σ Q := h ▸ k
theorem sz_deep {d' : Nat} (h : d' ≤ d) (k : SZ G d' M pc L S σ Q) : SZ G d M pc L S σ Q := by
  intro p e R s m args below meth c H locs cells slots A Z ls C hR hP hS hl hr
  exact k p e R s m args below meth c H locs cells slots A Z ls C ⟨by omega, by omega, hR.2.2.1, hR.2.2.2⟩ hP hS hl hr
theorem sz_iald {i : Int32} {c n : Nat} (hd : decode M.1 pc = .ok (.iaload, 1)) (hc : cellA c 0 n) (hi : vp_in i n) (k : SZ G d M (pc + 1) L (.int (σ.1 c i.toNatClampNeg) :: S) σ Q) : SZ G d M pc L (.int i :: .ref c :: S) σ Q := by
  intro p e R s m args below meth cd H locs cells slots A Z ls C hR hP hS hl hr
  exact va_iald C.2.1 C.2.2.1 C.2.2.2.2.2.2.2.1 hP c 0 (wl_arrI G σ hc.1 hc.2 (by decide)) rfl hi hd (k p e R s m args below meth cd H locs cells slots A Z ls C hR hP hS hl hr)
theorem sz_bald {i : Int32} {c n : Nat} (hd : decode M.1 pc = .ok (.baload, 1)) (hc : cellA c 2 n) (hi : vp_in i n) (k : SZ G d M (pc + 1) L (.int (σ.1 c i.toNatClampNeg) :: S) σ Q) : SZ G d M pc L (.int i :: .ref c :: S) σ Q := by
  intro p e R s m args below meth cd H locs cells slots A Z ls C hR hP hS hl hr
  exact va_bald C.2.1 C.2.2.1 C.2.2.2.2.2.2.2.1 hP c 2 (wl_arrI G σ hc.1 hc.2 (by decide)) rfl hi hd (k p e R s m args below meth cd H locs cells slots A Z ls C hR hP hS hl hr)
theorem sz_zald {i : Int32} {c n : Nat} (hd : decode M.1 pc = .ok (.baload, 1)) (hc : cellA c 3 n) (hi : vp_in i n) (k : SZ G d M (pc + 1) L (.int (σ.1 c i.toNatClampNeg) :: S) σ Q) : SZ G d M pc L (.int i :: .ref c :: S) σ Q := by
  intro p e R s m args below meth cd H locs cells slots A Z ls C hR hP hS hl hr
  exact va_zald C.2.1 C.2.2.1 C.2.2.2.2.2.2.2.1 hP c 3 (wl_arrI G σ hc.1 hc.2 (by decide)) rfl hi hd (k p e R s m args below meth cd H locs cells slots A Z ls C hR hP hS hl hr)
theorem sz_lald {i : Int32} {c n : Nat} (hd : decode M.1 pc = .ok (.laload, 1)) (hc : cellA c 1 n) (hi : vp_in i n) (k : SZ G d M (pc + 1) L (.long (σ.2 c i.toNatClampNeg) :: S) σ Q) : SZ G d M pc L (.int i :: .ref c :: S) σ Q := by
  intro p e R s m args below meth cd H locs cells slots A Z ls C hR hP hS hl hr
  exact va_lald C.2.1 C.2.2.1 C.2.2.2.2.2.2.2.1 hP c 1 (wl_arrJ G σ hc.1 hc.2) rfl hi hd (k p e R s m args below meth cd H locs cells slots A Z ls C hR hP hS hl hr)
theorem sz_iast {i x : Int32} {c n : Nat} (hd : decode M.1 pc = .ok (.iastore, 1)) (hc : cellA c 0 n) (hi : vp_in i n) (k : SZ G d M (pc + 1) L S (setI σ c i.toNatClampNeg (x)) Q) : SZ G d M pc L (.int x :: .int i :: .ref c :: S) σ Q := by
  intro p e R s m args below meth cd H locs cells slots A Z ls C hR hP hS hl hr
  refine va_iast C.2.1 C.2.2.1 C.2.2.2.2.2.2.2.1 hP (wl_D G σ C.1.1 C.2.2.2.2.2.2.2.2.2.1) hS c 0 (wl_arrI G σ hc.1 hc.2 (by decide)) rfl hi hd (fun H1 locs1 hP1 _ hS1 => ?_)
  rw [wl_set G σ (setI σ c i.toNatClampNeg (x)) _ hc.1 (cont_setI_a G σ _ _ hc.2 (by decide)) (fun j hj => cont_setI_ne G σ _ _ hj)] at hP1
  exact k p e R s m args below meth cd H1 locs1 cells slots A Z ls C hR hP1 hS1 hl hr
theorem sz_bast {i x : Int32} {c n : Nat} (hd : decode M.1 pc = .ok (.bastore, 1)) (hc : cellA c 2 n) (hi : vp_in i n) (k : SZ G d M (pc + 1) L S (setI σ c i.toNatClampNeg (vp_nar .byte x)) Q) : SZ G d M pc L (.int x :: .int i :: .ref c :: S) σ Q := by
  intro p e R s m args below meth cd H locs cells slots A Z ls C hR hP hS hl hr
  refine va_bast C.2.1 C.2.2.1 C.2.2.2.2.2.2.2.1 hP (wl_D G σ C.1.1 C.2.2.2.2.2.2.2.2.2.1) hS c 2 (wl_arrI G σ hc.1 hc.2 (by decide)) rfl hi hd (fun H1 locs1 hP1 _ hS1 => ?_)
  rw [wl_set G σ (setI σ c i.toNatClampNeg (vp_nar .byte x)) _ hc.1 (cont_setI_a G σ _ _ hc.2 (by decide)) (fun j hj => cont_setI_ne G σ _ _ hj)] at hP1
  exact k p e R s m args below meth cd H1 locs1 cells slots A Z ls C hR hP1 hS1 hl hr
theorem sz_zast {i x : Int32} {c n : Nat} (hd : decode M.1 pc = .ok (.bastore, 1)) (hc : cellA c 3 n) (hi : vp_in i n) (k : SZ G d M (pc + 1) L S (setI σ c i.toNatClampNeg (vp_nar .boolean x)) Q) : SZ G d M pc L (.int x :: .int i :: .ref c :: S) σ Q := by
  intro p e R s m args below meth cd H locs cells slots A Z ls C hR hP hS hl hr
  refine va_zast C.2.1 C.2.2.1 C.2.2.2.2.2.2.2.1 hP (wl_D G σ C.1.1 C.2.2.2.2.2.2.2.2.2.1) hS c 3 (wl_arrI G σ hc.1 hc.2 (by decide)) rfl hi hd (fun H1 locs1 hP1 _ hS1 => ?_)
  rw [wl_set G σ (setI σ c i.toNatClampNeg (vp_nar .boolean x)) _ hc.1 (cont_setI_a G σ _ _ hc.2 (by decide)) (fun j hj => cont_setI_ne G σ _ _ hj)] at hP1
  exact k p e R s m args below meth cd H1 locs1 cells slots A Z ls C hR hP1 hS1 hl hr
theorem sz_last {i : Int32} {x : Int64} {c n : Nat} (hd : decode M.1 pc = .ok (.lastore, 1)) (hc : cellA c 1 n) (hi : vp_in i n) (k : SZ G d M (pc + 1) L S (setJ σ c i.toNatClampNeg x) Q) : SZ G d M pc L (.long x :: .int i :: .ref c :: S) σ Q := by
  intro p e R s m args below meth cd H locs cells slots A Z ls C hR hP hS hl hr
  refine va_last C.2.1 C.2.2.1 C.2.2.2.2.2.2.2.1 hP (wl_D G σ C.1.1 C.2.2.2.2.2.2.2.2.2.1) hS c 1 (wl_arrJ G σ hc.1 hc.2) rfl hi hd (fun H1 locs1 hP1 _ hS1 => ?_)
  rw [wl_set G σ (setJ σ c i.toNatClampNeg x) _ hc.1 (cont_setJ_a G σ _ _ hc.2) (fun j hj => cont_setJ_ne G σ _ _ hj)] at hP1
  exact k p e R s m args below meth cd H1 locs1 cells slots A Z ls C hR hP1 hS1 hl hr
theorem sz_alen {c ty n : Nat} (hd : decode M.1 pc = .ok (.arraylength, 1)) (hc : cellA c ty n) (hty : ty < 4) (k : SZ G d M (pc + 1) L (.int (Int32.ofNat n) :: S) σ Q) : SZ G d M pc L (.ref c :: S) σ Q := by
  intro p e R s m args below meth cd H locs cells slots A Z ls C hR hP hS hl hr
  have h1 := wl_at G σ hc.1
  simp only [cont, hc.2] at h1
  have ht : ∃ T, (tyl G)[ty]? = some (gc G ty, T) := by
    rcases (show ty = 0 ∨ ty = 1 ∨ ty = 2 ∨ ty = 3 by omega) with rfl | rfl | rfl | rfl <;> exact ⟨_, rfl⟩
  obtain ⟨T, hT⟩ := ht
  exact va_alen C.2.1 C.2.2.1 C.2.2.2.2.2.2.2.1 hP c ty h1 hT rfl hd (k p e R s m args below meth cd H locs cells slots A Z ls C hR hP hS hl hr)
theorem sz_getV {c idx ci k kd : Nat} {f : Bool} (hd : decode M.1 pc = .ok (.getfield idx, 3)) (hf : FS M.2.2.1 idx ci k kd f) (hc : cellO c ci) {v : Value} (hv : fldV G σ c ci k = cv G v) (kk : SZ G d M (pc + 3) L (v :: S) σ Q) : SZ G d M pc L (.ref c :: S) σ Q := by
  intro p e R s m args below meth cd H locs cells slots A Z ls C hR hP hS hl hr
  obtain ⟨C0, T, N, ty, ⟨h1, h2, h3, h4, h5⟩, hk, e1, -, -, -, -, -, hl0⟩ := hf
  have hfs : ((List.range (nfd ci)).map (fldV G σ c ci))[k]? = some (fldV G σ c ci k) := by
    rw [List.getElem?_map, List.getElem?_range (by omega)]; rfl
  have kk := kk p e R s m args below meth cd H locs cells slots A Z ls C hR hP hS hl hr
  have kk : W p (gl G) e R s m args below meth cd H locs cells slots Z (F0 m (pc + 3) ls (fldV G σ c ci k :: S.map (cv G))) := by rw [hv]; exact kk
  rcases hl0 with hl1 | ⟨host, hl1⟩
  · exact va_get C.2.1 C.2.2.1 C.2.2.2.2.2.1 h2 C.2.2.2.2.1 C.2.2.2.2.2.2.2.1 hP c (wl_obj G σ hc.1 hc.2) h1 k hk (C.2.2.2.2.2.1 _ hl1) (fun x hx => by rw [e1] at hx; exact hx) hfs hd kk
  · exact va_getN C.2.1 C.2.2.1 C.2.2.2.2.2.1 h2 C.2.2.2.2.1 C.2.2.2.2.2.2.2.1 hP c (wl_obj G σ hc.1 hc.2) h1 k hk (va_Nw.use rfl (C.2.2.2.2.2.2.1 _ hl1)) (fun x hx => by rw [e1] at hx; exact hx) hfs hd kk
theorem sz_getI {c idx ci k : Nat} {f : Bool} (hd : decode M.1 pc = .ok (.getfield idx, 3)) (hf : FS M.2.2.1 idx ci k 0 f) (hc : cellO c ci) (kk : SZ G d M (pc + 3) L (.int (σ.1 c k) :: S) σ Q) : SZ G d M pc L (.ref c :: S) σ Q := by
  have e : fkd ci k = 0 := by obtain ⟨_, _, _, _, -, -, -, -, e, -⟩ := hf; exact e
  exact sz_getV hd hf hc (v := .int (σ.1 c k)) (by simp [fldV, e, cv]) kk
theorem sz_getZ {c idx ci k : Nat} {f : Bool} (hd : decode M.1 pc = .ok (.getfield idx, 3)) (hf : FS M.2.2.1 idx ci k 3 f) (hc : cellO c ci) (kk : SZ G d M (pc + 3) L (.int (σ.1 c k) :: S) σ Q) : SZ G d M pc L (.ref c :: S) σ Q := by
  have e : fkd ci k = 3 := by obtain ⟨_, _, _, _, -, -, -, -, e, -⟩ := hf; exact e
  exact sz_getV hd hf hc (v := .int (σ.1 c k)) (by simp [fldV, e, cv]) kk
theorem sz_getJ {c idx ci k : Nat} {f : Bool} (hd : decode M.1 pc = .ok (.getfield idx, 3)) (hf : FS M.2.2.1 idx ci k 1 f) (hc : cellO c ci) (kk : SZ G d M (pc + 3) L (.long (σ.2 c k) :: S) σ Q) : SZ G d M pc L (.ref c :: S) σ Q := by
  have e : fkd ci k = 1 := by obtain ⟨_, _, _, _, -, -, -, -, e, -⟩ := hf; exact e
  exact sz_getV hd hf hc (v := .long (σ.2 c k)) (by simp [fldV, e, cv]) kk
theorem sz_getR {c idx ci k t : Nat} {f : Bool} (hd : decode M.1 pc = .ok (.getfield idx, 3)) (hf : FS M.2.2.1 idx ci k 2 f) (hc : cellO c ci) (ht : rfc c k = t) (kk : SZ G d M (pc + 3) L (.ref t :: S) σ Q) : SZ G d M pc L (.ref c :: S) σ Q := by
  have e : fkd ci k = 2 := by obtain ⟨_, _, _, _, -, -, -, -, e, -⟩ := hf; exact e
  exact sz_getV hd hf hc (v := .ref t) (by simp [fldV, e, cv, ht]) kk
theorem sz_putI {c idx ci k : Nat} {v : Int32} (hd : decode M.1 pc = .ok (.putfield idx, 3)) (hf : FS M.2.2.1 idx ci k 0 false) (hc : cellO c ci) (kk : SZ G d M (pc + 3) L S (setI σ c k v) Q) : SZ G d M pc L (.int v :: .ref c :: S) σ Q := by
  intro p e R s m args below meth cd H locs cells slots A Z ls C hR hP hS hl hr
  obtain ⟨C0, T, N, ty, ⟨h1, h2, h3, h4, h5⟩, hk, e1, e2, e3, e4, -, -, hl0⟩ := hf
  have hK := C.2.2.2.2.2.2.2.1
  have hD := wl_D G σ C.1.1 C.2.2.2.2.2.2.2.2.2.1
  have go : ∀ (H1 : Heap) (locs1 : List Loc), va_P (gD G) vwCl ((wl G σ).set c (ga G c, .inr (ci, ((List.range (nfd ci)).map (fldV G σ c ci)).set k (.int v)))) H1 → va_D A ((wl G σ).set c (ga G c, .inr (ci, ((List.range (nfd ci)).map (fldV G σ c ci)).set k (.int v)))) → va_S A s.heap H1 locs1 → W p (gl G) e R s m args below meth cd H1 locs1 cells slots Z (F0 m (pc + 3) ls (S.map (cv G))) := by
    intro H1 locs1 hP1 _ hS1
    rw [wl_set G σ (setI σ c k v) _ hc.1 (cont_setI_f G σ v hc.2 (by omega) (Or.inl e3)) (fun j hj => cont_setI_ne G σ _ _ hj)] at hP1
    exact kk p e R s m args below meth cd H1 locs1 cells slots A Z ls C hR hP1 hS1 hl hr
  rcases hl0 with hl1 | ⟨host, hl1⟩
  · exact va_put C.2.1 C.2.2.1 C.2.2.2.2.2.1 h2 ty h3 h4 C.2.2.2.2.1 hK hP hD hS c (wl_obj G σ hc.1 hc.2) h1 k hk (C.2.2.2.2.2.1 _ hl1) (fun x hx => by rw [e1] at hx; exact hx) e2 ((h3 k hk).trans (by rw [e4 rfl])) (vp_nar_int v) rfl (by simp; omega) hd go
  · exact va_putN C.2.1 C.2.2.1 C.2.2.2.2.2.1 h2 ty h3 h4 C.2.2.2.2.1 hK hP hD hS c (wl_obj G σ hc.1 hc.2) h1 k hk (va_Nw.use rfl (C.2.2.2.2.2.2.1 _ hl1)) (fun x hx => by rw [e1] at hx; exact hx) e2 ((h3 k hk).trans (by rw [e4 rfl])) (vp_nar_int v) rfl (by simp; omega) hd go
theorem sz_putZ {c idx ci k : Nat} {v : Int32} (hd : decode M.1 pc = .ok (.putfield idx, 3)) (hf : FS M.2.2.1 idx ci k 3 false) (hc : cellO c ci) (hv : v = 0 ∨ v = 1) (kk : SZ G d M (pc + 3) L S (setI σ c k v) Q) : SZ G d M pc L (.int v :: .ref c :: S) σ Q := by
  intro p e R s m args below meth cd H locs cells slots A Z ls C hR hP hS hl hr
  obtain ⟨C0, T, N, ty, ⟨h1, h2, h3, h4, h5⟩, hk, e1, e2, e3, -, -, e4, hl0⟩ := hf
  have hK := C.2.2.2.2.2.2.2.1
  have hD := wl_D G σ C.1.1 C.2.2.2.2.2.2.2.2.2.1
  have n1 : narrow .boolean (.int v) = .int v := by rcases hv with rfl | rfl <;> decide
  have n2 : fits .boolean (.int v) = true := by rcases hv with rfl | rfl <;> decide
  have go : ∀ (H1 : Heap) (locs1 : List Loc), va_P (gD G) vwCl ((wl G σ).set c (ga G c, .inr (ci, ((List.range (nfd ci)).map (fldV G σ c ci)).set k (.int v)))) H1 → va_D A ((wl G σ).set c (ga G c, .inr (ci, ((List.range (nfd ci)).map (fldV G σ c ci)).set k (.int v)))) → va_S A s.heap H1 locs1 → W p (gl G) e R s m args below meth cd H1 locs1 cells slots Z (F0 m (pc + 3) ls (S.map (cv G))) := by
    intro H1 locs1 hP1 _ hS1
    rw [wl_set G σ (setI σ c k v) _ hc.1 (cont_setI_f G σ v hc.2 (by omega) (Or.inr e3)) (fun j hj => cont_setI_ne G σ _ _ hj)] at hP1
    exact kk p e R s m args below meth cd H1 locs1 cells slots A Z ls C hR hP1 hS1 hl hr
  rcases hl0 with hl1 | ⟨host, hl1⟩
  · exact va_put C.2.1 C.2.2.1 C.2.2.2.2.2.1 h2 ty h3 h4 C.2.2.2.2.1 hK hP hD hS c (wl_obj G σ hc.1 hc.2) h1 k hk (C.2.2.2.2.2.1 _ hl1) (fun x hx => by rw [e1] at hx; exact hx) e2 ((h3 k hk).trans (by rw [e4 rfl])) n1 n2 (by simp; omega) hd go
  · exact va_putN C.2.1 C.2.2.1 C.2.2.2.2.2.1 h2 ty h3 h4 C.2.2.2.2.1 hK hP hD hS c (wl_obj G σ hc.1 hc.2) h1 k hk (va_Nw.use rfl (C.2.2.2.2.2.2.1 _ hl1)) (fun x hx => by rw [e1] at hx; exact hx) e2 ((h3 k hk).trans (by rw [e4 rfl])) n1 n2 (by simp; omega) hd go
theorem sz_putJ {c idx ci k : Nat} {v : Int64} (hd : decode M.1 pc = .ok (.putfield idx, 3)) (hf : FS M.2.2.1 idx ci k 1 false) (hc : cellO c ci) (kk : SZ G d M (pc + 3) L S (setJ σ c k v) Q) : SZ G d M pc L (.long v :: .ref c :: S) σ Q := by
  intro p e R s m args below meth cd H locs cells slots A Z ls C hR hP hS hl hr
  obtain ⟨C0, T, N, ty, ⟨h1, h2, h3, h4, h5⟩, hk, e1, e2, e3, -, e4, -, hl0⟩ := hf
  have hK := C.2.2.2.2.2.2.2.1
  have hD := wl_D G σ C.1.1 C.2.2.2.2.2.2.2.2.2.1
  have go : ∀ (H1 : Heap) (locs1 : List Loc), va_P (gD G) vwCl ((wl G σ).set c (ga G c, .inr (ci, ((List.range (nfd ci)).map (fldV G σ c ci)).set k (.long v)))) H1 → va_D A ((wl G σ).set c (ga G c, .inr (ci, ((List.range (nfd ci)).map (fldV G σ c ci)).set k (.long v)))) → va_S A s.heap H1 locs1 → W p (gl G) e R s m args below meth cd H1 locs1 cells slots Z (F0 m (pc + 3) ls (S.map (cv G))) := by
    intro H1 locs1 hP1 _ hS1
    rw [wl_set G σ (setJ σ c k v) _ hc.1 (cont_setJ_f G σ v hc.2 (by omega) e3) (fun j hj => cont_setJ_ne G σ _ _ hj)] at hP1
    exact kk p e R s m args below meth cd H1 locs1 cells slots A Z ls C hR hP1 hS1 hl hr
  rcases hl0 with hl1 | ⟨host, hl1⟩
  · exact va_put C.2.1 C.2.2.1 C.2.2.2.2.2.1 h2 ty h3 h4 C.2.2.2.2.1 hK hP hD hS c (wl_obj G σ hc.1 hc.2) h1 k hk (C.2.2.2.2.2.1 _ hl1) (fun x hx => by rw [e1] at hx; exact hx) e2 ((h3 k hk).trans (by rw [e4 rfl])) rfl rfl (by simp; omega) hd go
  · exact va_putN C.2.1 C.2.2.1 C.2.2.2.2.2.1 h2 ty h3 h4 C.2.2.2.2.1 hK hP hD hS c (wl_obj G σ hc.1 hc.2) h1 k hk (va_Nw.use rfl (C.2.2.2.2.2.2.1 _ hl1)) (fun x hx => by rw [e1] at hx; exact hx) e2 ((h3 k hk).trans (by rw [e4 rfl])) rfl rfl (by simp; omega) hd go
theorem sz_after {G : GG} {d : Nat} {M : MM} {pc : Nat} {L : List (Option Value)} {S : List Value} {Q : PSI} {p : Program} {e : Env} {R : Room} {s : State} {m : MethodId} {args : Array Value} {below : List Frame} {meth : Method} {c : Code} {H : Heap} {locs : List Loc} {cells slots : Nat} {A : Nat → Prop} {Z : State → Prop} {ls : Array Slot} {a : Array Value} {st0 : List Value}
    (hrun : va_Run p (gl G) e R s m args below meth c H locs cells slots 0 0 (F0 m pc ls st0) (S.map (cv G)) (QcW G (fun r σ' => SZ G d M (pc + 3) L (r.toList ++ S) σ' Q) a) (AK G))
    (C : Cx G M p s m args meth c A) (hR : d ≤ R.frames ∧ 31 * d ≤ R.locals ∧ cells ≤ R.cells ∧ slots ≤ R.slots) (hS : va_S A s.heap H locs) (hl : lvr G ls M.2.2.2.1 L)
    (hr : Q p e R s m args below meth c cells slots A Z) :
    W p (gl G) e R s m args below meth c H locs cells slots Z (F0 m pc ls st0) := by
  intro T hT X
  obtain ⟨v, st₀, t, T', Lc, h0, X', hL, e1, e2, ⟨⟨r, σ', hv, hq, hp⟩, hz, hk⟩, st⟩ := hrun T hT X
  have hv : v = r.map (cv G) := by injection hv
  subst hv
  rw [h0] at hz hk
  have hA := C.2.2.2.2.2.2.2.2.2.1
  have hS' : va_S A s.heap T'.heap (locs ++ Lc) := by
    refine ⟨Nat.le_trans hS.1 (by rw [e1]; exact hz), fun q h1 h2 => ?_, fun q hq => ?_⟩
    · rw [e1, hk q (Nat.lt_of_lt_of_le h1 hS.1) (fun z => h2 (hA q z))]
      exact hS.2.1 q h1 h2
    · rcases List.mem_append.mp hq with h | h
      · exact hS.2.2 q h
      · exact hA _ (hL q h)
  have hst : (r.toList ++ S).map (cv G) = (r.map (cv G)).toList ++ S.map (cv G) := by cases r <;> rfl
  have key := hq p e R s m args below meth c T'.heap (locs ++ Lc) cells slots A Z ls C hR (by rw [e1]; exact hp) hS' hl hr
  rw [hst] at key
  obtain ⟨t2, a1, b1⟩ := key T' rfl X'
  exact ⟨t2, st t2 a1, b1⟩
theorem sz_inv {G : GG} {d : Nat} {M M' : MM} {pc : Nat} {L : List (Option Value)} {S : List Value} {σ : Mem} {Q : PSI} {b ci n idx : Nat} (As : List Value) (hd : decode M.1 pc = .ok (.invokevirtual idx, 3)) (hM : MOk M') (hV : VOk M' n ci) (hk : LK M.2.2.1 idx M'.2.1) (hc : cellO b ci) (hn : As.length = n) (hw : wds (.ref b :: As) ≤ M'.2.2.2.1) (hs : (S.map Value.category).sum ≤ 8)
    (h : SW G d M' 0 (ent M'.2.2.2.1 (.ref b :: As)) [] σ (fun r σ' => SZ G (d + 1) M (pc + 3) L (r.toList ++ S) σ' Q)) : SZ G (d + 1) M pc L (As.reverse ++ .ref b :: S) σ Q := by
  intro p e R s m args below meth c H locs cells slots A Z ls C hR hP hS hl hr
  have hMet := sw_met C.1 hM hw h
  obtain ⟨v1, v2, v3, T, N, v4⟩ := hV
  have ht := C.2.2.2.2.2.1
  have hroom : (rmD d).frames + 1 ≤ R.frames ∧ 8 + (M'.2.2.2.1 + 11) + (rmD d).locals ≤ R.locals := by
    have h1 := hM.2.2.2.2.2
    have h2 := hR.1
    have h3 := hR.2.1
    refine ⟨h2, ?_⟩
    show 8 + (M'.2.2.2.1 + 11) + 31 * d ≤ R.locals
    omega
  have hpre : PreV s H M'.2.2.1 (ga G b) (va_Pc ((Value.ref b :: As).map (cv G)) (PcW G σ)) (As.map (cv G)) :=
    ⟨pcw_blind C.1, va_recv C.2.2.2.2.2.2.2.1 hP (ci := ci) (q0 := b) v4 (wl_obj G σ hc.1 hc.2), pcw_at C hP hS⟩
  have hstk : ((As.reverse ++ .ref b :: S).map (cv G)) = (As.map (cv G)).reverse ++ .ref (ga G b) :: S.map (cv G) := by simp [cv]
  rw [hstk]
  refine sz_after (S := S) ?_ C hR hS hl hr (a := (Value.ref (ga G b) :: As.map (cv G)).toArray)
  rcases hk with hk | ⟨host, hk⟩
  · exact va_runV ⟨C.2.1, C.2.2.1, C.2.2.2.1, C.2.2.2.2.1, ht⟩ hMet ⟨callB_of n ht (wsM_good hM) rfl rfl rfl (ht _ hM.2.2.2.1) (ht _ hk) ⟨hM.2.2.2.2.1.1, hM.2.2.2.2.1.2, v3⟩ hroom, ht _ v1, ht _ v2⟩ hpre rfl (by simpa using hn) hl.2.1 rfl (lv_room (by rw [cats]; exact hs)) hd ⟨by have := hR.2.2.1; omega, by have := hR.2.2.2; omega⟩
  · exact va_runVN (host := host) ⟨C.2.1, C.2.2.1, C.2.2.2.1, C.2.2.2.2.1, ht⟩ hMet ⟨va_cnB n ht (wsM_good hM) rfl rfl rfl (C.2.2.2.2.2.2.1 _ hk) (ht _ hM.2.2.2.1) ⟨hM.2.2.2.2.1.1, hM.2.2.2.2.1.2, v3⟩ hroom, ht _ v1, ht _ v2⟩ hpre rfl (by simpa using hn) hl.2.1 rfl (lv_room (by rw [cats]; exact hs)) hd ⟨by have := hR.2.2.1; omega, by have := hR.2.2.2; omega⟩
theorem sz_ins {G : GG} {d : Nat} {M M' : MM} {pc : Nat} {L : List (Option Value)} {S : List Value} {σ : Mem} {Q : PSI} {n idx : Nat} (As : List Value) (hd : decode M.1 pc = .ok (.invokestatic idx, 3)) (hM : MOk M') (hV : SOk M' n) (hk : LK M.2.2.1 idx M'.2.1) (hn : As.length = n) (hw : wds As ≤ M'.2.2.2.1) (hs : (S.map Value.category).sum ≤ 8)
    (h : SW G d M' 0 (ent M'.2.2.2.1 As) [] σ (fun r σ' => SZ G (d + 1) M (pc + 3) L (r.toList ++ S) σ' Q)) : SZ G (d + 1) M pc L (As.reverse ++ S) σ Q := by
  intro p e R s m args below meth c H locs cells slots A Z ls C hR hP hS hl hr
  have hMet := sw_met C.1 hM hw h
  obtain ⟨v1, v3⟩ := hV
  have ht := C.2.2.2.2.2.1
  have hroom : (rmD d).frames + 1 ≤ R.frames ∧ 8 + (M'.2.2.2.1 + 11) + (rmD d).locals ≤ R.locals := by
    have h1 := hM.2.2.2.2.2
    have h2 := hR.1
    have h3 := hR.2.1
    refine ⟨h2, ?_⟩
    show 8 + (M'.2.2.2.1 + 11) + 31 * d ≤ R.locals
    omega
  have hpre : PreS s H (va_Pc (As.map (cv G)) (PcW G σ)) (As.map (cv G)) := ⟨pcw_blind C.1, pcw_at C hP hS⟩
  have hstk : ((As.reverse ++ S).map (cv G)) = (As.map (cv G)).reverse ++ S.map (cv G) := by simp
  rw [hstk]
  refine sz_after (S := S) ?_ C hR hS hl hr (a := (As.map (cv G)).toArray)
  rcases hk with hk | ⟨host, hk⟩
  · exact va_runS ⟨C.2.1, C.2.2.1, C.2.2.2.1, C.2.2.2.2.1, ht⟩ hMet ⟨callB_of n ht (wsM_good hM) rfl rfl rfl (ht _ hM.2.2.2.1) (ht _ hk) ⟨hM.2.2.2.2.1.1, hM.2.2.2.2.1.2, v3⟩ hroom, ht _ v1⟩ hpre rfl (by simpa using hn) hl.2.1 rfl (lv_room (by rw [cats]; exact hs)) hd ⟨by have := hR.2.2.1; omega, by have := hR.2.2.2; omega⟩
  · exact va_runSN (host := host) ⟨C.2.1, C.2.2.1, C.2.2.2.1, C.2.2.2.2.1, ht⟩ hMet ⟨va_cnB n ht (wsM_good hM) rfl rfl rfl (C.2.2.2.2.2.2.1 _ hk) (ht _ hM.2.2.2.1) ⟨hM.2.2.2.2.1.1, hM.2.2.2.2.1.2, v3⟩ hroom, ht _ v1, trivial⟩ hpre rfl (by simpa using hn) hl.2.1 rfl (lv_room (by rw [cats]; exact hs)) hd ⟨by have := hR.2.2.1; omega, by have := hR.2.2.2; omega⟩

theorem sy_iconst {n : Int} {v : Int32} (hd : decode M.1 pc = .ok (.iconst n, 1)) (hv : Int32.ofInt n = v) (k : SZ G d M (pc + 1) L (.int v :: S) σ Q) : SZ G d M pc L S σ Q := sz_iconst hd (hv ▸ k)
theorem sy_bipush {n : Int} {v : Int32} (hd : decode M.1 pc = .ok (.bipush n, 2)) (hv : (Int8.ofInt n).toInt32 = v) (k : SZ G d M (pc + 2) L (.int v :: S) σ Q) : SZ G d M pc L S σ Q := sz_bipush hd (hv ▸ k)
theorem sy_sipush {n : Int} {v : Int32} (hd : decode M.1 pc = .ok (.sipush n, 3)) (hv : (Int16.ofInt n).toInt32 = v) (k : SZ G d M (pc + 3) L (.int v :: S) σ Q) : SZ G d M pc L S σ Q := sz_sipush hd (hv ▸ k)
theorem sy_lconst {n : Fin 2} {v : Int64} (hd : decode M.1 pc = .ok (.lconst n, 1)) (hv : Int64.ofNat (n : Nat) = v) (k : SZ G d M (pc + 1) L (.long v :: S) σ Q) : SZ G d M pc L S σ Q := sz_lconst hd (hv ▸ k)
theorem sy_iinc {i : Nat} {n : Int} {x : Int32} (y : Int32) (hd : decode M.1 pc = .ok (.iinc i n, 3)) (hv : lgt L i = some (.int x)) (hy : x + Int32.ofInt n = y) (k : SZ G d M (pc + 3) (ls1 L i (.int y)) S σ Q) : SZ G d M pc L S σ Q := sz_iinc hd hv (hy ▸ k)
theorem sy_iald {x : Int32} {c n : Nat} (j : Nat) (hd : decode M.1 pc = .ok (.iaload, 1)) (hc : cellA c 0 n) (hx : x = nI j) (hj : j < n) (hn : n < 100000) (k : SZ G d M (pc + 1) L (.int (σ.1 c j) :: S) σ Q) : SZ G d M pc L (.int x :: .ref c :: S) σ Q := by
  subst hx
  refine sz_iald hd hc (vp_in_nI hj (by omega)) ?_
  rw [nI_clamp (by omega)]
  exact k
theorem sy_bald {x : Int32} {c n : Nat} (j : Nat) (hd : decode M.1 pc = .ok (.baload, 1)) (hc : cellA c 2 n) (hx : x = nI j) (hj : j < n) (hn : n < 100000) (k : SZ G d M (pc + 1) L (.int (σ.1 c j) :: S) σ Q) : SZ G d M pc L (.int x :: .ref c :: S) σ Q := by
  subst hx
  refine sz_bald hd hc (vp_in_nI hj (by omega)) ?_
  rw [nI_clamp (by omega)]
  exact k
theorem sy_zald {x : Int32} {c n : Nat} (j : Nat) (hd : decode M.1 pc = .ok (.baload, 1)) (hc : cellA c 3 n) (hx : x = nI j) (hj : j < n) (hn : n < 100000) (k : SZ G d M (pc + 1) L (.int (σ.1 c j) :: S) σ Q) : SZ G d M pc L (.int x :: .ref c :: S) σ Q := by
  subst hx
  refine sz_zald hd hc (vp_in_nI hj (by omega)) ?_
  rw [nI_clamp (by omega)]
  exact k
theorem sy_lald {x : Int32} {c n : Nat} (j : Nat) (hd : decode M.1 pc = .ok (.laload, 1)) (hc : cellA c 1 n) (hx : x = nI j) (hj : j < n) (hn : n < 100000) (k : SZ G d M (pc + 1) L (.long (σ.2 c j) :: S) σ Q) : SZ G d M pc L (.int x :: .ref c :: S) σ Q := by
  subst hx
  refine sz_lald hd hc (vp_in_nI hj (by omega)) ?_
  rw [nI_clamp (by omega)]
  exact k
theorem sy_iast {x : Int32} {y : Int32} {c n : Nat} (j : Nat) (hd : decode M.1 pc = .ok (.iastore, 1)) (hc : cellA c 0 n) (hx : x = nI j) (hj : j < n) (hn : n < 100000) (k : SZ G d M (pc + 1) L S (setI σ c j (y)) Q) : SZ G d M pc L (.int y :: .int x :: .ref c :: S) σ Q := by
  subst hx
  refine sz_iast hd hc (vp_in_nI hj (by omega)) ?_
  rw [nI_clamp (by omega)]
  exact k
theorem sy_bast {x : Int32} {y : Int32} {c n : Nat} (j : Nat) (hd : decode M.1 pc = .ok (.bastore, 1)) (hc : cellA c 2 n) (hx : x = nI j) (hj : j < n) (hn : n < 100000) (k : SZ G d M (pc + 1) L S (setI σ c j (vp_nar .byte y)) Q) : SZ G d M pc L (.int y :: .int x :: .ref c :: S) σ Q := by
  subst hx
  refine sz_bast hd hc (vp_in_nI hj (by omega)) ?_
  rw [nI_clamp (by omega)]
  exact k
theorem sy_zast {x : Int32} {y : Int32} {c n : Nat} (j : Nat) (hd : decode M.1 pc = .ok (.bastore, 1)) (hc : cellA c 3 n) (hx : x = nI j) (hj : j < n) (hn : n < 100000) (k : SZ G d M (pc + 1) L S (setI σ c j (vp_nar .boolean y)) Q) : SZ G d M pc L (.int y :: .int x :: .ref c :: S) σ Q := by
  subst hx
  refine sz_zast hd hc (vp_in_nI hj (by omega)) ?_
  rw [nI_clamp (by omega)]
  exact k
theorem sy_last {x : Int32} {y : Int64} {c n : Nat} (j : Nat) (hd : decode M.1 pc = .ok (.lastore, 1)) (hc : cellA c 1 n) (hx : x = nI j) (hj : j < n) (hn : n < 100000) (k : SZ G d M (pc + 1) L S (setJ σ c j (y)) Q) : SZ G d M pc L (.long y :: .int x :: .ref c :: S) σ Q := by
  subst hx
  refine sz_last hd hc (vp_in_nI hj (by omega)) ?_
  rw [nI_clamp (by omega)]
  exact k
theorem sy_invI0 {b ci idx : Nat} (hd : decode M.1 pc = .ok (.invokevirtual idx, 3)) (hM : MOk M') (hV : VOk M' 0 ci) (hk : LK M.2.2.1 idx M'.2.1) (hc : cellO b ci) (hw : wds [.ref b] ≤ M'.2.2.2.1) (hs : (S.map Value.category).sum ≤ 8) (h : SW G d M' 0 (ent M'.2.2.2.1 [.ref b]) [] σ (RI (fun x σ' => SZ G (d + 1) M (pc + 3) L (.int x :: S) σ' Q))) : SZ G (d + 1) M pc L (.ref b :: S) σ Q :=
  sz_inv [] hd hM hV hk hc rfl hw hs (sw_mono (fun r σ' h => by obtain ⟨x, rfl, h⟩ := h; exact h) h)
theorem sy_insI0 {idx : Nat} (hd : decode M.1 pc = .ok (.invokestatic idx, 3)) (hM : MOk M') (hV : SOk M' 0) (hk : LK M.2.2.1 idx M'.2.1) (hw : wds [] ≤ M'.2.2.2.1) (hs : (S.map Value.category).sum ≤ 8) (h : SW G d M' 0 (ent M'.2.2.2.1 []) [] σ (RI (fun x σ' => SZ G (d + 1) M (pc + 3) L (.int x :: S) σ' Q))) : SZ G (d + 1) M pc L (S) σ Q :=
  sz_ins [] hd hM hV hk rfl hw hs (sw_mono (fun r σ' h => by obtain ⟨x, rfl, h⟩ := h; exact h) h)
theorem sy_invJ0 {b ci idx : Nat} (hd : decode M.1 pc = .ok (.invokevirtual idx, 3)) (hM : MOk M') (hV : VOk M' 0 ci) (hk : LK M.2.2.1 idx M'.2.1) (hc : cellO b ci) (hw : wds [.ref b] ≤ M'.2.2.2.1) (hs : (S.map Value.category).sum ≤ 8) (h : SW G d M' 0 (ent M'.2.2.2.1 [.ref b]) [] σ (RJ (fun x σ' => SZ G (d + 1) M (pc + 3) L (.long x :: S) σ' Q))) : SZ G (d + 1) M pc L (.ref b :: S) σ Q :=
  sz_inv [] hd hM hV hk hc rfl hw hs (sw_mono (fun r σ' h => by obtain ⟨x, rfl, h⟩ := h; exact h) h)
theorem sy_insJ0 {idx : Nat} (hd : decode M.1 pc = .ok (.invokestatic idx, 3)) (hM : MOk M') (hV : SOk M' 0) (hk : LK M.2.2.1 idx M'.2.1) (hw : wds [] ≤ M'.2.2.2.1) (hs : (S.map Value.category).sum ≤ 8) (h : SW G d M' 0 (ent M'.2.2.2.1 []) [] σ (RJ (fun x σ' => SZ G (d + 1) M (pc + 3) L (.long x :: S) σ' Q))) : SZ G (d + 1) M pc L (S) σ Q :=
  sz_ins [] hd hM hV hk rfl hw hs (sw_mono (fun r σ' h => by obtain ⟨x, rfl, h⟩ := h; exact h) h)
theorem sy_invV0 {b ci idx : Nat} (hd : decode M.1 pc = .ok (.invokevirtual idx, 3)) (hM : MOk M') (hV : VOk M' 0 ci) (hk : LK M.2.2.1 idx M'.2.1) (hc : cellO b ci) (hw : wds [.ref b] ≤ M'.2.2.2.1) (hs : (S.map Value.category).sum ≤ 8) (h : SW G d M' 0 (ent M'.2.2.2.1 [.ref b]) [] σ (RV (fun σ' => SZ G (d + 1) M (pc + 3) L S σ' Q))) : SZ G (d + 1) M pc L (.ref b :: S) σ Q :=
  sz_inv [] hd hM hV hk hc rfl hw hs (sw_mono (fun r σ' h => by obtain ⟨rfl, h⟩ := h; exact h) h)
theorem sy_insV0 {idx : Nat} (hd : decode M.1 pc = .ok (.invokestatic idx, 3)) (hM : MOk M') (hV : SOk M' 0) (hk : LK M.2.2.1 idx M'.2.1) (hw : wds [] ≤ M'.2.2.2.1) (hs : (S.map Value.category).sum ≤ 8) (h : SW G d M' 0 (ent M'.2.2.2.1 []) [] σ (RV (fun σ' => SZ G (d + 1) M (pc + 3) L S σ' Q))) : SZ G (d + 1) M pc L (S) σ Q :=
  sz_ins [] hd hM hV hk rfl hw hs (sw_mono (fun r σ' h => by obtain ⟨rfl, h⟩ := h; exact h) h)
theorem sy_invI1 {a1 : Value} {b ci idx : Nat} (hd : decode M.1 pc = .ok (.invokevirtual idx, 3)) (hM : MOk M') (hV : VOk M' 1 ci) (hk : LK M.2.2.1 idx M'.2.1) (hc : cellO b ci) (hw : wds [.ref b, a1] ≤ M'.2.2.2.1) (hs : (S.map Value.category).sum ≤ 8) (h : SW G d M' 0 (ent M'.2.2.2.1 [.ref b, a1]) [] σ (RI (fun x σ' => SZ G (d + 1) M (pc + 3) L (.int x :: S) σ' Q))) : SZ G (d + 1) M pc L (a1 :: .ref b :: S) σ Q :=
  sz_inv [a1] hd hM hV hk hc rfl hw hs (sw_mono (fun r σ' h => by obtain ⟨x, rfl, h⟩ := h; exact h) h)
theorem sy_insI1 {a1 : Value} {idx : Nat} (hd : decode M.1 pc = .ok (.invokestatic idx, 3)) (hM : MOk M') (hV : SOk M' 1) (hk : LK M.2.2.1 idx M'.2.1) (hw : wds [a1] ≤ M'.2.2.2.1) (hs : (S.map Value.category).sum ≤ 8) (h : SW G d M' 0 (ent M'.2.2.2.1 [a1]) [] σ (RI (fun x σ' => SZ G (d + 1) M (pc + 3) L (.int x :: S) σ' Q))) : SZ G (d + 1) M pc L (a1 :: S) σ Q :=
  sz_ins [a1] hd hM hV hk rfl hw hs (sw_mono (fun r σ' h => by obtain ⟨x, rfl, h⟩ := h; exact h) h)
theorem sy_invJ1 {a1 : Value} {b ci idx : Nat} (hd : decode M.1 pc = .ok (.invokevirtual idx, 3)) (hM : MOk M') (hV : VOk M' 1 ci) (hk : LK M.2.2.1 idx M'.2.1) (hc : cellO b ci) (hw : wds [.ref b, a1] ≤ M'.2.2.2.1) (hs : (S.map Value.category).sum ≤ 8) (h : SW G d M' 0 (ent M'.2.2.2.1 [.ref b, a1]) [] σ (RJ (fun x σ' => SZ G (d + 1) M (pc + 3) L (.long x :: S) σ' Q))) : SZ G (d + 1) M pc L (a1 :: .ref b :: S) σ Q :=
  sz_inv [a1] hd hM hV hk hc rfl hw hs (sw_mono (fun r σ' h => by obtain ⟨x, rfl, h⟩ := h; exact h) h)
theorem sy_insJ1 {a1 : Value} {idx : Nat} (hd : decode M.1 pc = .ok (.invokestatic idx, 3)) (hM : MOk M') (hV : SOk M' 1) (hk : LK M.2.2.1 idx M'.2.1) (hw : wds [a1] ≤ M'.2.2.2.1) (hs : (S.map Value.category).sum ≤ 8) (h : SW G d M' 0 (ent M'.2.2.2.1 [a1]) [] σ (RJ (fun x σ' => SZ G (d + 1) M (pc + 3) L (.long x :: S) σ' Q))) : SZ G (d + 1) M pc L (a1 :: S) σ Q :=
  sz_ins [a1] hd hM hV hk rfl hw hs (sw_mono (fun r σ' h => by obtain ⟨x, rfl, h⟩ := h; exact h) h)
theorem sy_invV1 {a1 : Value} {b ci idx : Nat} (hd : decode M.1 pc = .ok (.invokevirtual idx, 3)) (hM : MOk M') (hV : VOk M' 1 ci) (hk : LK M.2.2.1 idx M'.2.1) (hc : cellO b ci) (hw : wds [.ref b, a1] ≤ M'.2.2.2.1) (hs : (S.map Value.category).sum ≤ 8) (h : SW G d M' 0 (ent M'.2.2.2.1 [.ref b, a1]) [] σ (RV (fun σ' => SZ G (d + 1) M (pc + 3) L S σ' Q))) : SZ G (d + 1) M pc L (a1 :: .ref b :: S) σ Q :=
  sz_inv [a1] hd hM hV hk hc rfl hw hs (sw_mono (fun r σ' h => by obtain ⟨rfl, h⟩ := h; exact h) h)
theorem sy_insV1 {a1 : Value} {idx : Nat} (hd : decode M.1 pc = .ok (.invokestatic idx, 3)) (hM : MOk M') (hV : SOk M' 1) (hk : LK M.2.2.1 idx M'.2.1) (hw : wds [a1] ≤ M'.2.2.2.1) (hs : (S.map Value.category).sum ≤ 8) (h : SW G d M' 0 (ent M'.2.2.2.1 [a1]) [] σ (RV (fun σ' => SZ G (d + 1) M (pc + 3) L S σ' Q))) : SZ G (d + 1) M pc L (a1 :: S) σ Q :=
  sz_ins [a1] hd hM hV hk rfl hw hs (sw_mono (fun r σ' h => by obtain ⟨rfl, h⟩ := h; exact h) h)
theorem sy_invI2 {a1 a2 : Value} {b ci idx : Nat} (hd : decode M.1 pc = .ok (.invokevirtual idx, 3)) (hM : MOk M') (hV : VOk M' 2 ci) (hk : LK M.2.2.1 idx M'.2.1) (hc : cellO b ci) (hw : wds [.ref b, a1, a2] ≤ M'.2.2.2.1) (hs : (S.map Value.category).sum ≤ 8) (h : SW G d M' 0 (ent M'.2.2.2.1 [.ref b, a1, a2]) [] σ (RI (fun x σ' => SZ G (d + 1) M (pc + 3) L (.int x :: S) σ' Q))) : SZ G (d + 1) M pc L (a2 :: a1 :: .ref b :: S) σ Q :=
  sz_inv [a1, a2] hd hM hV hk hc rfl hw hs (sw_mono (fun r σ' h => by obtain ⟨x, rfl, h⟩ := h; exact h) h)
theorem sy_insI2 {a1 a2 : Value} {idx : Nat} (hd : decode M.1 pc = .ok (.invokestatic idx, 3)) (hM : MOk M') (hV : SOk M' 2) (hk : LK M.2.2.1 idx M'.2.1) (hw : wds [a1, a2] ≤ M'.2.2.2.1) (hs : (S.map Value.category).sum ≤ 8) (h : SW G d M' 0 (ent M'.2.2.2.1 [a1, a2]) [] σ (RI (fun x σ' => SZ G (d + 1) M (pc + 3) L (.int x :: S) σ' Q))) : SZ G (d + 1) M pc L (a2 :: a1 :: S) σ Q :=
  sz_ins [a1, a2] hd hM hV hk rfl hw hs (sw_mono (fun r σ' h => by obtain ⟨x, rfl, h⟩ := h; exact h) h)
theorem sy_invJ2 {a1 a2 : Value} {b ci idx : Nat} (hd : decode M.1 pc = .ok (.invokevirtual idx, 3)) (hM : MOk M') (hV : VOk M' 2 ci) (hk : LK M.2.2.1 idx M'.2.1) (hc : cellO b ci) (hw : wds [.ref b, a1, a2] ≤ M'.2.2.2.1) (hs : (S.map Value.category).sum ≤ 8) (h : SW G d M' 0 (ent M'.2.2.2.1 [.ref b, a1, a2]) [] σ (RJ (fun x σ' => SZ G (d + 1) M (pc + 3) L (.long x :: S) σ' Q))) : SZ G (d + 1) M pc L (a2 :: a1 :: .ref b :: S) σ Q :=
  sz_inv [a1, a2] hd hM hV hk hc rfl hw hs (sw_mono (fun r σ' h => by obtain ⟨x, rfl, h⟩ := h; exact h) h)
theorem sy_insJ2 {a1 a2 : Value} {idx : Nat} (hd : decode M.1 pc = .ok (.invokestatic idx, 3)) (hM : MOk M') (hV : SOk M' 2) (hk : LK M.2.2.1 idx M'.2.1) (hw : wds [a1, a2] ≤ M'.2.2.2.1) (hs : (S.map Value.category).sum ≤ 8) (h : SW G d M' 0 (ent M'.2.2.2.1 [a1, a2]) [] σ (RJ (fun x σ' => SZ G (d + 1) M (pc + 3) L (.long x :: S) σ' Q))) : SZ G (d + 1) M pc L (a2 :: a1 :: S) σ Q :=
  sz_ins [a1, a2] hd hM hV hk rfl hw hs (sw_mono (fun r σ' h => by obtain ⟨x, rfl, h⟩ := h; exact h) h)
theorem sy_invV2 {a1 a2 : Value} {b ci idx : Nat} (hd : decode M.1 pc = .ok (.invokevirtual idx, 3)) (hM : MOk M') (hV : VOk M' 2 ci) (hk : LK M.2.2.1 idx M'.2.1) (hc : cellO b ci) (hw : wds [.ref b, a1, a2] ≤ M'.2.2.2.1) (hs : (S.map Value.category).sum ≤ 8) (h : SW G d M' 0 (ent M'.2.2.2.1 [.ref b, a1, a2]) [] σ (RV (fun σ' => SZ G (d + 1) M (pc + 3) L S σ' Q))) : SZ G (d + 1) M pc L (a2 :: a1 :: .ref b :: S) σ Q :=
  sz_inv [a1, a2] hd hM hV hk hc rfl hw hs (sw_mono (fun r σ' h => by obtain ⟨rfl, h⟩ := h; exact h) h)
theorem sy_insV2 {a1 a2 : Value} {idx : Nat} (hd : decode M.1 pc = .ok (.invokestatic idx, 3)) (hM : MOk M') (hV : SOk M' 2) (hk : LK M.2.2.1 idx M'.2.1) (hw : wds [a1, a2] ≤ M'.2.2.2.1) (hs : (S.map Value.category).sum ≤ 8) (h : SW G d M' 0 (ent M'.2.2.2.1 [a1, a2]) [] σ (RV (fun σ' => SZ G (d + 1) M (pc + 3) L S σ' Q))) : SZ G (d + 1) M pc L (a2 :: a1 :: S) σ Q :=
  sz_ins [a1, a2] hd hM hV hk rfl hw hs (sw_mono (fun r σ' h => by obtain ⟨rfl, h⟩ := h; exact h) h)
theorem sy_invI3 {a1 a2 a3 : Value} {b ci idx : Nat} (hd : decode M.1 pc = .ok (.invokevirtual idx, 3)) (hM : MOk M') (hV : VOk M' 3 ci) (hk : LK M.2.2.1 idx M'.2.1) (hc : cellO b ci) (hw : wds [.ref b, a1, a2, a3] ≤ M'.2.2.2.1) (hs : (S.map Value.category).sum ≤ 8) (h : SW G d M' 0 (ent M'.2.2.2.1 [.ref b, a1, a2, a3]) [] σ (RI (fun x σ' => SZ G (d + 1) M (pc + 3) L (.int x :: S) σ' Q))) : SZ G (d + 1) M pc L (a3 :: a2 :: a1 :: .ref b :: S) σ Q :=
  sz_inv [a1, a2, a3] hd hM hV hk hc rfl hw hs (sw_mono (fun r σ' h => by obtain ⟨x, rfl, h⟩ := h; exact h) h)
theorem sy_insI3 {a1 a2 a3 : Value} {idx : Nat} (hd : decode M.1 pc = .ok (.invokestatic idx, 3)) (hM : MOk M') (hV : SOk M' 3) (hk : LK M.2.2.1 idx M'.2.1) (hw : wds [a1, a2, a3] ≤ M'.2.2.2.1) (hs : (S.map Value.category).sum ≤ 8) (h : SW G d M' 0 (ent M'.2.2.2.1 [a1, a2, a3]) [] σ (RI (fun x σ' => SZ G (d + 1) M (pc + 3) L (.int x :: S) σ' Q))) : SZ G (d + 1) M pc L (a3 :: a2 :: a1 :: S) σ Q :=
  sz_ins [a1, a2, a3] hd hM hV hk rfl hw hs (sw_mono (fun r σ' h => by obtain ⟨x, rfl, h⟩ := h; exact h) h)
theorem sy_invJ3 {a1 a2 a3 : Value} {b ci idx : Nat} (hd : decode M.1 pc = .ok (.invokevirtual idx, 3)) (hM : MOk M') (hV : VOk M' 3 ci) (hk : LK M.2.2.1 idx M'.2.1) (hc : cellO b ci) (hw : wds [.ref b, a1, a2, a3] ≤ M'.2.2.2.1) (hs : (S.map Value.category).sum ≤ 8) (h : SW G d M' 0 (ent M'.2.2.2.1 [.ref b, a1, a2, a3]) [] σ (RJ (fun x σ' => SZ G (d + 1) M (pc + 3) L (.long x :: S) σ' Q))) : SZ G (d + 1) M pc L (a3 :: a2 :: a1 :: .ref b :: S) σ Q :=
  sz_inv [a1, a2, a3] hd hM hV hk hc rfl hw hs (sw_mono (fun r σ' h => by obtain ⟨x, rfl, h⟩ := h; exact h) h)
theorem sy_insJ3 {a1 a2 a3 : Value} {idx : Nat} (hd : decode M.1 pc = .ok (.invokestatic idx, 3)) (hM : MOk M') (hV : SOk M' 3) (hk : LK M.2.2.1 idx M'.2.1) (hw : wds [a1, a2, a3] ≤ M'.2.2.2.1) (hs : (S.map Value.category).sum ≤ 8) (h : SW G d M' 0 (ent M'.2.2.2.1 [a1, a2, a3]) [] σ (RJ (fun x σ' => SZ G (d + 1) M (pc + 3) L (.long x :: S) σ' Q))) : SZ G (d + 1) M pc L (a3 :: a2 :: a1 :: S) σ Q :=
  sz_ins [a1, a2, a3] hd hM hV hk rfl hw hs (sw_mono (fun r σ' h => by obtain ⟨x, rfl, h⟩ := h; exact h) h)
theorem sy_invV3 {a1 a2 a3 : Value} {b ci idx : Nat} (hd : decode M.1 pc = .ok (.invokevirtual idx, 3)) (hM : MOk M') (hV : VOk M' 3 ci) (hk : LK M.2.2.1 idx M'.2.1) (hc : cellO b ci) (hw : wds [.ref b, a1, a2, a3] ≤ M'.2.2.2.1) (hs : (S.map Value.category).sum ≤ 8) (h : SW G d M' 0 (ent M'.2.2.2.1 [.ref b, a1, a2, a3]) [] σ (RV (fun σ' => SZ G (d + 1) M (pc + 3) L S σ' Q))) : SZ G (d + 1) M pc L (a3 :: a2 :: a1 :: .ref b :: S) σ Q :=
  sz_inv [a1, a2, a3] hd hM hV hk hc rfl hw hs (sw_mono (fun r σ' h => by obtain ⟨rfl, h⟩ := h; exact h) h)
theorem sy_insV3 {a1 a2 a3 : Value} {idx : Nat} (hd : decode M.1 pc = .ok (.invokestatic idx, 3)) (hM : MOk M') (hV : SOk M' 3) (hk : LK M.2.2.1 idx M'.2.1) (hw : wds [a1, a2, a3] ≤ M'.2.2.2.1) (hs : (S.map Value.category).sum ≤ 8) (h : SW G d M' 0 (ent M'.2.2.2.1 [a1, a2, a3]) [] σ (RV (fun σ' => SZ G (d + 1) M (pc + 3) L S σ' Q))) : SZ G (d + 1) M pc L (a3 :: a2 :: a1 :: S) σ Q :=
  sz_ins [a1, a2, a3] hd hM hV hk rfl hw hs (sw_mono (fun r σ' h => by obtain ⟨rfl, h⟩ := h; exact h) h)
theorem sy_invI4 {a1 a2 a3 a4 : Value} {b ci idx : Nat} (hd : decode M.1 pc = .ok (.invokevirtual idx, 3)) (hM : MOk M') (hV : VOk M' 4 ci) (hk : LK M.2.2.1 idx M'.2.1) (hc : cellO b ci) (hw : wds [.ref b, a1, a2, a3, a4] ≤ M'.2.2.2.1) (hs : (S.map Value.category).sum ≤ 8) (h : SW G d M' 0 (ent M'.2.2.2.1 [.ref b, a1, a2, a3, a4]) [] σ (RI (fun x σ' => SZ G (d + 1) M (pc + 3) L (.int x :: S) σ' Q))) : SZ G (d + 1) M pc L (a4 :: a3 :: a2 :: a1 :: .ref b :: S) σ Q :=
  sz_inv [a1, a2, a3, a4] hd hM hV hk hc rfl hw hs (sw_mono (fun r σ' h => by obtain ⟨x, rfl, h⟩ := h; exact h) h)
theorem sy_insI4 {a1 a2 a3 a4 : Value} {idx : Nat} (hd : decode M.1 pc = .ok (.invokestatic idx, 3)) (hM : MOk M') (hV : SOk M' 4) (hk : LK M.2.2.1 idx M'.2.1) (hw : wds [a1, a2, a3, a4] ≤ M'.2.2.2.1) (hs : (S.map Value.category).sum ≤ 8) (h : SW G d M' 0 (ent M'.2.2.2.1 [a1, a2, a3, a4]) [] σ (RI (fun x σ' => SZ G (d + 1) M (pc + 3) L (.int x :: S) σ' Q))) : SZ G (d + 1) M pc L (a4 :: a3 :: a2 :: a1 :: S) σ Q :=
  sz_ins [a1, a2, a3, a4] hd hM hV hk rfl hw hs (sw_mono (fun r σ' h => by obtain ⟨x, rfl, h⟩ := h; exact h) h)
theorem sy_invJ4 {a1 a2 a3 a4 : Value} {b ci idx : Nat} (hd : decode M.1 pc = .ok (.invokevirtual idx, 3)) (hM : MOk M') (hV : VOk M' 4 ci) (hk : LK M.2.2.1 idx M'.2.1) (hc : cellO b ci) (hw : wds [.ref b, a1, a2, a3, a4] ≤ M'.2.2.2.1) (hs : (S.map Value.category).sum ≤ 8) (h : SW G d M' 0 (ent M'.2.2.2.1 [.ref b, a1, a2, a3, a4]) [] σ (RJ (fun x σ' => SZ G (d + 1) M (pc + 3) L (.long x :: S) σ' Q))) : SZ G (d + 1) M pc L (a4 :: a3 :: a2 :: a1 :: .ref b :: S) σ Q :=
  sz_inv [a1, a2, a3, a4] hd hM hV hk hc rfl hw hs (sw_mono (fun r σ' h => by obtain ⟨x, rfl, h⟩ := h; exact h) h)
theorem sy_insJ4 {a1 a2 a3 a4 : Value} {idx : Nat} (hd : decode M.1 pc = .ok (.invokestatic idx, 3)) (hM : MOk M') (hV : SOk M' 4) (hk : LK M.2.2.1 idx M'.2.1) (hw : wds [a1, a2, a3, a4] ≤ M'.2.2.2.1) (hs : (S.map Value.category).sum ≤ 8) (h : SW G d M' 0 (ent M'.2.2.2.1 [a1, a2, a3, a4]) [] σ (RJ (fun x σ' => SZ G (d + 1) M (pc + 3) L (.long x :: S) σ' Q))) : SZ G (d + 1) M pc L (a4 :: a3 :: a2 :: a1 :: S) σ Q :=
  sz_ins [a1, a2, a3, a4] hd hM hV hk rfl hw hs (sw_mono (fun r σ' h => by obtain ⟨x, rfl, h⟩ := h; exact h) h)
theorem sy_invV4 {a1 a2 a3 a4 : Value} {b ci idx : Nat} (hd : decode M.1 pc = .ok (.invokevirtual idx, 3)) (hM : MOk M') (hV : VOk M' 4 ci) (hk : LK M.2.2.1 idx M'.2.1) (hc : cellO b ci) (hw : wds [.ref b, a1, a2, a3, a4] ≤ M'.2.2.2.1) (hs : (S.map Value.category).sum ≤ 8) (h : SW G d M' 0 (ent M'.2.2.2.1 [.ref b, a1, a2, a3, a4]) [] σ (RV (fun σ' => SZ G (d + 1) M (pc + 3) L S σ' Q))) : SZ G (d + 1) M pc L (a4 :: a3 :: a2 :: a1 :: .ref b :: S) σ Q :=
  sz_inv [a1, a2, a3, a4] hd hM hV hk hc rfl hw hs (sw_mono (fun r σ' h => by obtain ⟨rfl, h⟩ := h; exact h) h)
theorem sy_insV4 {a1 a2 a3 a4 : Value} {idx : Nat} (hd : decode M.1 pc = .ok (.invokestatic idx, 3)) (hM : MOk M') (hV : SOk M' 4) (hk : LK M.2.2.1 idx M'.2.1) (hw : wds [a1, a2, a3, a4] ≤ M'.2.2.2.1) (hs : (S.map Value.category).sum ≤ 8) (h : SW G d M' 0 (ent M'.2.2.2.1 [a1, a2, a3, a4]) [] σ (RV (fun σ' => SZ G (d + 1) M (pc + 3) L S σ' Q))) : SZ G (d + 1) M pc L (a4 :: a3 :: a2 :: a1 :: S) σ Q :=
  sz_ins [a1, a2, a3, a4] hd hM hV hk rfl hw hs (sw_mono (fun r σ' h => by obtain ⟨rfl, h⟩ := h; exact h) h)
theorem sy_invI5 {a1 a2 a3 a4 a5 : Value} {b ci idx : Nat} (hd : decode M.1 pc = .ok (.invokevirtual idx, 3)) (hM : MOk M') (hV : VOk M' 5 ci) (hk : LK M.2.2.1 idx M'.2.1) (hc : cellO b ci) (hw : wds [.ref b, a1, a2, a3, a4, a5] ≤ M'.2.2.2.1) (hs : (S.map Value.category).sum ≤ 8) (h : SW G d M' 0 (ent M'.2.2.2.1 [.ref b, a1, a2, a3, a4, a5]) [] σ (RI (fun x σ' => SZ G (d + 1) M (pc + 3) L (.int x :: S) σ' Q))) : SZ G (d + 1) M pc L (a5 :: a4 :: a3 :: a2 :: a1 :: .ref b :: S) σ Q :=
  sz_inv [a1, a2, a3, a4, a5] hd hM hV hk hc rfl hw hs (sw_mono (fun r σ' h => by obtain ⟨x, rfl, h⟩ := h; exact h) h)
theorem sy_insI5 {a1 a2 a3 a4 a5 : Value} {idx : Nat} (hd : decode M.1 pc = .ok (.invokestatic idx, 3)) (hM : MOk M') (hV : SOk M' 5) (hk : LK M.2.2.1 idx M'.2.1) (hw : wds [a1, a2, a3, a4, a5] ≤ M'.2.2.2.1) (hs : (S.map Value.category).sum ≤ 8) (h : SW G d M' 0 (ent M'.2.2.2.1 [a1, a2, a3, a4, a5]) [] σ (RI (fun x σ' => SZ G (d + 1) M (pc + 3) L (.int x :: S) σ' Q))) : SZ G (d + 1) M pc L (a5 :: a4 :: a3 :: a2 :: a1 :: S) σ Q :=
  sz_ins [a1, a2, a3, a4, a5] hd hM hV hk rfl hw hs (sw_mono (fun r σ' h => by obtain ⟨x, rfl, h⟩ := h; exact h) h)
theorem sy_invJ5 {a1 a2 a3 a4 a5 : Value} {b ci idx : Nat} (hd : decode M.1 pc = .ok (.invokevirtual idx, 3)) (hM : MOk M') (hV : VOk M' 5 ci) (hk : LK M.2.2.1 idx M'.2.1) (hc : cellO b ci) (hw : wds [.ref b, a1, a2, a3, a4, a5] ≤ M'.2.2.2.1) (hs : (S.map Value.category).sum ≤ 8) (h : SW G d M' 0 (ent M'.2.2.2.1 [.ref b, a1, a2, a3, a4, a5]) [] σ (RJ (fun x σ' => SZ G (d + 1) M (pc + 3) L (.long x :: S) σ' Q))) : SZ G (d + 1) M pc L (a5 :: a4 :: a3 :: a2 :: a1 :: .ref b :: S) σ Q :=
  sz_inv [a1, a2, a3, a4, a5] hd hM hV hk hc rfl hw hs (sw_mono (fun r σ' h => by obtain ⟨x, rfl, h⟩ := h; exact h) h)
theorem sy_insJ5 {a1 a2 a3 a4 a5 : Value} {idx : Nat} (hd : decode M.1 pc = .ok (.invokestatic idx, 3)) (hM : MOk M') (hV : SOk M' 5) (hk : LK M.2.2.1 idx M'.2.1) (hw : wds [a1, a2, a3, a4, a5] ≤ M'.2.2.2.1) (hs : (S.map Value.category).sum ≤ 8) (h : SW G d M' 0 (ent M'.2.2.2.1 [a1, a2, a3, a4, a5]) [] σ (RJ (fun x σ' => SZ G (d + 1) M (pc + 3) L (.long x :: S) σ' Q))) : SZ G (d + 1) M pc L (a5 :: a4 :: a3 :: a2 :: a1 :: S) σ Q :=
  sz_ins [a1, a2, a3, a4, a5] hd hM hV hk rfl hw hs (sw_mono (fun r σ' h => by obtain ⟨x, rfl, h⟩ := h; exact h) h)
theorem sy_invV5 {a1 a2 a3 a4 a5 : Value} {b ci idx : Nat} (hd : decode M.1 pc = .ok (.invokevirtual idx, 3)) (hM : MOk M') (hV : VOk M' 5 ci) (hk : LK M.2.2.1 idx M'.2.1) (hc : cellO b ci) (hw : wds [.ref b, a1, a2, a3, a4, a5] ≤ M'.2.2.2.1) (hs : (S.map Value.category).sum ≤ 8) (h : SW G d M' 0 (ent M'.2.2.2.1 [.ref b, a1, a2, a3, a4, a5]) [] σ (RV (fun σ' => SZ G (d + 1) M (pc + 3) L S σ' Q))) : SZ G (d + 1) M pc L (a5 :: a4 :: a3 :: a2 :: a1 :: .ref b :: S) σ Q :=
  sz_inv [a1, a2, a3, a4, a5] hd hM hV hk hc rfl hw hs (sw_mono (fun r σ' h => by obtain ⟨rfl, h⟩ := h; exact h) h)
theorem sy_insV5 {a1 a2 a3 a4 a5 : Value} {idx : Nat} (hd : decode M.1 pc = .ok (.invokestatic idx, 3)) (hM : MOk M') (hV : SOk M' 5) (hk : LK M.2.2.1 idx M'.2.1) (hw : wds [a1, a2, a3, a4, a5] ≤ M'.2.2.2.1) (hs : (S.map Value.category).sum ≤ 8) (h : SW G d M' 0 (ent M'.2.2.2.1 [a1, a2, a3, a4, a5]) [] σ (RV (fun σ' => SZ G (d + 1) M (pc + 3) L S σ' Q))) : SZ G (d + 1) M pc L (a5 :: a4 :: a3 :: a2 :: a1 :: S) σ Q :=
  sz_ins [a1, a2, a3, a4, a5] hd hM hV hk rfl hw hs (sw_mono (fun r σ' h => by obtain ⟨rfl, h⟩ := h; exact h) h)
theorem sz_ldcw {i : Nat} {v : Int32} (hd : decode M.1 pc = .ok (.ldc_w i, 3)) (hc : Cond.constant M.2.2.1 i v ∈ TB) (k : SZ G d M (pc + 3) L (.int v :: S) σ Q) : SZ G d M pc L S σ Q := by
  intro p e R s m args below meth c H locs cells slots A Z ls C hR hP hS hl hr
  exact lv_ldcw C.2.1 C.2.2.1 C.2.2.2.2.1 (C.2.2.2.2.2.1 _ hc) hd (k p e R s m args below meth c H locs cells slots A Z ls C hR hP hS hl hr)
theorem sz_sld {n : Nat} {xs : Nat → Int32} {x : Int32} (j : Nat) (hX : Scr G n xs) (hd : decode M.1 pc = .ok (.iaload, 1)) (hx : x = nI j) (hj : j < n) (hn : n < 100000) (k : SZ G d M (pc + 1) L (.int (xs j) :: S) σ Q) : SZ G d M pc L (.int x :: .ref 76 :: S) σ Q := by
  intro p e R s m args below meth c H locs cells slots A Z ls C hR hP hS hl hr
  obtain ⟨h1, h2, h3⟩ := hX A s C.2.2.2.2.2.2.2.2.1
  subst hx
  refine va_sld C.2.1 C.2.2.1 h1 h2 h3 hS (vp_in_nI hj (by omega)) hd ?_
  rw [nI_clamp (by omega)]
  exact k p e R s m args below meth c H locs cells slots A Z ls C hR hP hS hl hr
theorem sz_slen {n : Nat} {xs : Nat → Int32} (hX : Scr G n xs) (hd : decode M.1 pc = .ok (.arraylength, 1)) (k : SZ G d M (pc + 1) L (.int (nI n) :: S) σ Q) : SZ G d M pc L (.ref 76 :: S) σ Q := by
  intro p e R s m args below meth c H locs cells slots A Z ls C hR hP hS hl hr
  obtain ⟨h1, h2, h3⟩ := hX A s C.2.2.2.2.2.2.2.2.1
  exact va_slen C.2.1 C.2.2.1 h1 h2 h3 hS hd (k p e R s m args below meth c H locs cells slots A Z ls C hR hP hS hl hr)
theorem sz_lc_eq {x y : Int64} {off : Int} {tgt : Nat} (hd : decode M.1 pc = .ok (.lcmp, 1)) (hd2 : decode M.1 (pc + 1) = .ok (.ifCond .eq off, 3)) (ht : ((pc + 1 : Nat) : Int) + off = (tgt : Int)) (kt : x = y → SZ G d M tgt L S σ Q) (kf : ¬ x = y → SZ G d M (pc + 1 + 3) L S σ Q) : SZ G d M pc L (.long y :: .long x :: S) σ Q :=
  sz_lcmp hd (sz_if_eq hd2 ht (fun h => kt ((lg_cmp_eq x y).mp h)) (fun h => kf (fun e => h ((lg_cmp_eq x y).mpr e))))
theorem sz_lc_ne {x y : Int64} {off : Int} {tgt : Nat} (hd : decode M.1 pc = .ok (.lcmp, 1)) (hd2 : decode M.1 (pc + 1) = .ok (.ifCond .ne off, 3)) (ht : ((pc + 1 : Nat) : Int) + off = (tgt : Int)) (kt : ¬ x = y → SZ G d M tgt L S σ Q) (kf : x = y → SZ G d M (pc + 1 + 3) L S σ Q) : SZ G d M pc L (.long y :: .long x :: S) σ Q :=
  sz_lcmp hd (sz_if_ne hd2 ht (fun h => kt (fun e => h ((lg_cmp_eq x y).mpr e))) (fun h => kf ((lg_cmp_eq x y).mp h)))
theorem sz_lc_le {x y : Int64} {off : Int} {tgt : Nat} (hd : decode M.1 pc = .ok (.lcmp, 1)) (hd2 : decode M.1 (pc + 1) = .ok (.ifCond .le off, 3)) (ht : ((pc + 1 : Nat) : Int) + off = (tgt : Int)) (kt : x ≤ y → SZ G d M tgt L S σ Q) (kf : ¬ x ≤ y → SZ G d M (pc + 1 + 3) L S σ Q) : SZ G d M pc L (.long y :: .long x :: S) σ Q :=
  sz_lcmp hd (sz_if_le hd2 ht (fun h => kt ((lg_cmp_le x y).mp h)) (fun h => kf (fun e => h ((lg_cmp_le x y).mpr e))))
theorem sz_tab0 {dflt hi : Int} {offs : Array Int} {len : Nat} {x : Int32} {tgt : Nat} (hd : decode M.1 pc = .ok (.tableswitch dflt 0 hi offs, len)) (hh : hi = (offs.size : Int) - 1 ∧ offs.size < 100 ∧ (pc : Int) + dflt = (tgt : Int)) (hin : ∀ k, k < offs.size → x = nI k → ∃ (off : Int) (t : Nat), offs[k]? = some off ∧ (pc : Int) + off = (t : Int) ∧ SZ G d M t L S σ Q) (hout : (∀ k, k < offs.size → x ≠ nI k) → SZ G d M tgt L S σ Q) : SZ G d M pc L (.int x :: S) σ Q := by
  obtain ⟨h1, h2, h3⟩ := hh
  by_cases h : x.toInt < 0 ∨ hi < x.toInt
  · refine sz_tabOut hd h h3 (hout ?_)
    intro k hk e
    subst e
    rw [nI_toInt (by omega)] at h
    omega
  · have h0 : 0 ≤ x.toInt := by omega
    obtain ⟨off, t, e1, e2, e3⟩ := hin x.toInt.toNat (by omega) (nI_back h0)
    exact sz_tabIn hd (by omega) (by omega) (by rw [Int.sub_zero]; exact e1) e2 e3
end SZR
