/-! ===== the judgement: from here on the method runs to its end, with Q of its answer and of the memory ===== -/
abbrev MM : Type := ByteArray × MethodName × String × Nat × Option FieldType
def Cx (G : GG) (M : MM) (p : Program) (s : State) (m : MethodId) (args : Array Value) (meth : Method) (c : Code) (A : Nat → Prop) : Prop :=
  Wok G ∧ p.tables.exec = Jvm.exec ∧ c.code = M.1 ∧ c.maxLocals = M.2.2.2.1 ∧ s.vm.findClass M.2.2.1 = some m.cls ∧ (∀ w ∈ TB, w.before args s = true) ∧ (∀ w ∈ NT, va_Nw w s) ∧ va_K (gD G) vwCl (tyl G) s ∧ gm G A s ∧ (∀ q, AK G q → A q) ∧ meth.sig.returnType = M.2.2.2.2 ∧ meth.locks = false
/-- pc is a return of M that gives r -/
def retD (M : MM) (pc : Nat) : Option Value → Prop
  | none => decode M.1 pc = .ok (.return_, 1) ∧ M.2.2.2.2 = none
  | some (.int v) => decode M.1 pc = .ok (.ireturn, 1) ∧ ∃ ty, M.2.2.2.2 = some ty ∧ narrow ty (.int v) = .int v
  | some (.long _) => decode M.1 pc = .ok (.lreturn, 1) ∧ M.2.2.2.2 = some .long
  | _ => False
def SW (G : GG) (d : Nat) (M : MM) (pc : Nat) (L : List (Option Value)) (S : List Value) (σ : Mem) (Q : Option Value → Mem → Prop) : Prop :=
  ∀ (p : Program) (e : Env) (R : Room) (s : State) (m : MethodId) (args : Array Value) (below : List Frame) (meth : Method) (c : Code) (H : Heap) (locs : List Loc) (cells slots : Nat) (A : Nat → Prop) (Z : State → Prop) (ls : Array Slot),
    Cx G M p s m args meth c A → (d ≤ R.frames ∧ 31 * d ≤ R.locals ∧ cells ≤ R.cells ∧ slots ≤ R.slots) → va_P (gD G) vwCl (wl G σ) H → va_S A s.heap H locs → lvr G ls M.2.2.2.1 L →
    (∀ (r : Option Value) (σ' : Mem) (H' : Heap) (locs' : List Loc) (pc' : Nat) (ls' : Array Slot), Q r σ' → va_P (gD G) vwCl (wl G σ') H' → va_S A s.heap H' locs' → retD M pc' r → W p (gl G) e R s m args below meth c H' locs' cells slots Z (F0 m pc' ls' (r.toList.map (cv G)))) →
    W p (gl G) e R s m args below meth c H locs cells slots Z (F0 m pc ls (S.map (cv G)))
def cellA (c ty n : Nat) : Prop := c < KC ∧ shp c = .inr (ty, n)
def cellO (c ci : Nat) : Prop := c < KC ∧ shp c = .inl ci
section SWR
variable {G : GG} {d : Nat} {M : MM} {pc : Nat} {L : List (Option Value)} {S : List Value} {σ : Mem} {Q : Option Value → Mem → Prop}
theorem sw_iconst {n : Int} (hd : decode M.1 pc = .ok (.iconst n, 1))  (k : SW G d M (pc + 1) L (.int (Int32.ofInt n) :: S) σ Q) : SW G d M pc L (S) σ Q := by
  intro p e R s m args below meth c H locs cells slots A Z ls C hR hP hS hl hr
  exact lv_iconst C.2.1 C.2.2.1 hd rfl (k p e R s m args below meth c H locs cells slots A Z ls C hR hP hS hl hr)
theorem sw_bipush {n : Int} (hd : decode M.1 pc = .ok (.bipush n, 2))  (k : SW G d M (pc + 2) L (.int (Int8.ofInt n).toInt32 :: S) σ Q) : SW G d M pc L (S) σ Q := by
  intro p e R s m args below meth c H locs cells slots A Z ls C hR hP hS hl hr
  exact lv_bipush C.2.1 C.2.2.1 hd rfl (k p e R s m args below meth c H locs cells slots A Z ls C hR hP hS hl hr)
theorem sw_sipush {n : Int} (hd : decode M.1 pc = .ok (.sipush n, 3))  (k : SW G d M (pc + 3) L (.int (Int16.ofInt n).toInt32 :: S) σ Q) : SW G d M pc L (S) σ Q := by
  intro p e R s m args below meth c H locs cells slots A Z ls C hR hP hS hl hr
  exact lv_sipush C.2.1 C.2.2.1 hd rfl (k p e R s m args below meth c H locs cells slots A Z ls C hR hP hS hl hr)
theorem sw_lconst {n : Fin 2} (hd : decode M.1 pc = .ok (.lconst n, 1))  (k : SW G d M (pc + 1) L (.long (Int64.ofNat (n : Nat)) :: S) σ Q) : SW G d M pc L (S) σ Q := by
  intro p e R s m args below meth c H locs cells slots A Z ls C hR hP hS hl hr
  exact lv_lconst C.2.1 C.2.2.1 hd rfl (k p e R s m args below meth c H locs cells slots A Z ls C hR hP hS hl hr)
theorem sw_ldc2 {i : Nat} {v : Int64} (hd : decode M.1 pc = .ok (.ldc2_w i, 3)) (hc : Cond.constantLong M.2.2.1 i v ∈ TB) (k : SW G d M (pc + 3) L (.long v :: S) σ Q) : SW G d M pc L (S) σ Q := by
  intro p e R s m args below meth c H locs cells slots A Z ls C hR hP hS hl hr
  exact lv_ldc2 C.2.1 C.2.2.1 C.2.2.2.2.1 (C.2.2.2.2.2.1 _ hc) hd (k p e R s m args below meth c H locs cells slots A Z ls C hR hP hS hl hr)
theorem sw_iload {i : Nat} {x : Int32} (hd : decode M.1 pc = .ok (.iload i, 2)) (hv : lgt L i = some (.int x)) (k : SW G d M (pc + 2) L (.int x :: S) σ Q) : SW G d M pc L (S) σ Q := by
  intro p e R s m args below meth c H locs cells slots A Z ls C hR hP hS hl hr
  exact lv_iload C.2.1 C.2.2.1 hd (lvr_at hl hv) (k p e R s m args below meth c H locs cells slots A Z ls C hR hP hS hl hr)
theorem sw_iloadn {i : Fin 4} {x : Int32} (hd : decode M.1 pc = .ok (.iload_n i, 1)) (hv : lgt L (i : Nat) = some (.int x)) (k : SW G d M (pc + 1) L (.int x :: S) σ Q) : SW G d M pc L (S) σ Q := by
  intro p e R s m args below meth c H locs cells slots A Z ls C hR hP hS hl hr
  exact lv_iload_n C.2.1 C.2.2.1 hd rfl (lvr_at hl hv) (k p e R s m args below meth c H locs cells slots A Z ls C hR hP hS hl hr)
theorem sw_lload {i : Nat} {x : Int64} (hd : decode M.1 pc = .ok (.lload i, 2)) (hv : lgt L i = some (.long x)) (k : SW G d M (pc + 2) L (.long x :: S) σ Q) : SW G d M pc L (S) σ Q := by
  intro p e R s m args below meth c H locs cells slots A Z ls C hR hP hS hl hr
  exact lv_lload C.2.1 C.2.2.1 hd (lvr_at hl hv) (k p e R s m args below meth c H locs cells slots A Z ls C hR hP hS hl hr)
theorem sw_lloadn {i : Fin 4} {x : Int64} (hd : decode M.1 pc = .ok (.lload_n i, 1)) (hv : lgt L (i : Nat) = some (.long x)) (k : SW G d M (pc + 1) L (.long x :: S) σ Q) : SW G d M pc L (S) σ Q := by
  intro p e R s m args below meth c H locs cells slots A Z ls C hR hP hS hl hr
  exact lv_lload_n C.2.1 C.2.2.1 hd rfl (lvr_at hl hv) (k p e R s m args below meth c H locs cells slots A Z ls C hR hP hS hl hr)
theorem sw_aload {i : Nat} {x : Nat} (hd : decode M.1 pc = .ok (.aload i, 2)) (hv : lgt L i = some (.ref x)) (k : SW G d M (pc + 2) L (.ref x :: S) σ Q) : SW G d M pc L (S) σ Q := by
  intro p e R s m args below meth c H locs cells slots A Z ls C hR hP hS hl hr
  exact lv_aload C.2.1 C.2.2.1 hd (lvr_at hl hv) (k p e R s m args below meth c H locs cells slots A Z ls C hR hP hS hl hr)
theorem sw_aloadn {i : Fin 4} {x : Nat} (hd : decode M.1 pc = .ok (.aload_n i, 1)) (hv : lgt L (i : Nat) = some (.ref x)) (k : SW G d M (pc + 1) L (.ref x :: S) σ Q) : SW G d M pc L (S) σ Q := by
  intro p e R s m args below meth c H locs cells slots A Z ls C hR hP hS hl hr
  exact lv_aload_n C.2.1 C.2.2.1 hd rfl (lvr_at hl hv) (k p e R s m args below meth c H locs cells slots A Z ls C hR hP hS hl hr)
theorem sw_istore {i : Nat} {x : Int32} (hd : decode M.1 pc = .ok (.istore i, 2)) (hi : i < L.length) (k : SW G d M (pc + 2) (ls1 L i (.int x)) S σ Q) : SW G d M pc L (.int x :: S) σ Q := by
  intro p e R s m args below meth c H locs cells slots A Z ls C hR hP hS hl hr
  refine lv_istore C.2.1 C.2.2.1 hd hl.2 (hl.1 ▸ hi) rfl (fun ls' hl' => ?_)
  exact k p e R s m args below meth c H locs cells slots A Z ls' C hR hP hS (lvr_of1 (v := .int x) hl.1  hl') hr
theorem sw_istoren {i : Fin 4} {x : Int32} (hd : decode M.1 pc = .ok (.istore_n i, 1)) (hi : (i : Nat) < L.length) (k : SW G d M (pc + 1) (ls1 L (i : Nat) (.int x)) S σ Q) : SW G d M pc L (.int x :: S) σ Q := by
  intro p e R s m args below meth c H locs cells slots A Z ls C hR hP hS hl hr
  refine lv_istore_n C.2.1 C.2.2.1 hd rfl hl.2 (hl.1 ▸ hi) rfl (fun ls' hl' => ?_)
  exact k p e R s m args below meth c H locs cells slots A Z ls' C hR hP hS (lvr_of1 (v := .int x) hl.1  hl') hr
theorem sw_lstore {i : Nat} {x : Int64} (hd : decode M.1 pc = .ok (.lstore i, 2)) (hi : i + 1 < L.length) (k : SW G d M (pc + 2) (ls2 L i (.long x)) S σ Q) : SW G d M pc L (.long x :: S) σ Q := by
  intro p e R s m args below meth c H locs cells slots A Z ls C hR hP hS hl hr
  refine lv_lstore C.2.1 C.2.2.1 hd hl.2 (hl.1 ▸ hi) rfl (fun ls' hl' => ?_)
  exact k p e R s m args below meth c H locs cells slots A Z ls' C hR hP hS (lvr_of2 (v := .long x) hl.1 hi hl') hr
theorem sw_lstoren {i : Fin 4} {x : Int64} (hd : decode M.1 pc = .ok (.lstore_n i, 1)) (hi : (i : Nat) + 1 < L.length) (k : SW G d M (pc + 1) (ls2 L (i : Nat) (.long x)) S σ Q) : SW G d M pc L (.long x :: S) σ Q := by
  intro p e R s m args below meth c H locs cells slots A Z ls C hR hP hS hl hr
  refine lv_lstore_n C.2.1 C.2.2.1 hd rfl hl.2 (hl.1 ▸ hi) rfl (fun ls' hl' => ?_)
  exact k p e R s m args below meth c H locs cells slots A Z ls' C hR hP hS (lvr_of2 (v := .long x) hl.1 hi hl') hr
theorem sw_astore {i : Nat} {x : Nat} (hd : decode M.1 pc = .ok (.astore i, 2)) (hi : i < L.length) (k : SW G d M (pc + 2) (ls1 L i (.ref x)) S σ Q) : SW G d M pc L (.ref x :: S) σ Q := by
  intro p e R s m args below meth c H locs cells slots A Z ls C hR hP hS hl hr
  refine lv_astore C.2.1 C.2.2.1 hd hl.2 (hl.1 ▸ hi) rfl (fun ls' hl' => ?_)
  exact k p e R s m args below meth c H locs cells slots A Z ls' C hR hP hS (lvr_of1 (v := .ref x) hl.1  hl') hr
theorem sw_astoren {i : Fin 4} {x : Nat} (hd : decode M.1 pc = .ok (.astore_n i, 1)) (hi : (i : Nat) < L.length) (k : SW G d M (pc + 1) (ls1 L (i : Nat) (.ref x)) S σ Q) : SW G d M pc L (.ref x :: S) σ Q := by
  intro p e R s m args below meth c H locs cells slots A Z ls C hR hP hS hl hr
  refine lv_astore_n C.2.1 C.2.2.1 hd rfl hl.2 (hl.1 ▸ hi) rfl (fun ls' hl' => ?_)
  exact k p e R s m args below meth c H locs cells slots A Z ls' C hR hP hS (lvr_of1 (v := .ref x) hl.1  hl') hr
theorem sw_iinc {i : Nat} {n : Int} {x : Int32} (hd : decode M.1 pc = .ok (.iinc i n, 3)) (hv : lgt L i = some (.int x)) (k : SW G d M (pc + 3) (ls1 L i (.int (x + Int32.ofInt n))) S σ Q) : SW G d M pc L S σ Q := by
  intro p e R s m args below meth c H locs cells slots A Z ls C hR hP hS hl hr
  have h1 := lpr_in G L 0 i _ hv
  rw [Nat.zero_add] at h1
  obtain ⟨j, hj⟩ := List.getElem?_of_mem h1
  refine lv_iinc (k := j) (x := x) C.2.1 C.2.2.1 hd hl.2 hj rfl (hl.1 ▸ lvr_lt hv) rfl (fun ls' hl' => ?_)
  exact k p e R s m args below meth c H locs cells slots A Z ls' C hR hP hS (lvr_of1 (v := .int (x + Int32.ofInt n)) hl.1 hl') hr
theorem sw_iadd {x y : Int32} (hd : decode M.1 pc = .ok (.iadd, 1))  (k : SW G d M (pc + 1) L (.int (x + y) :: S) σ Q) : SW G d M pc L (.int y :: .int x :: S) σ Q := by
  intro p e R s m args below meth c H locs cells slots A Z ls C hR hP hS hl hr
  exact lv_iadd C.2.1 C.2.2.1 hd (k p e R s m args below meth c H locs cells slots A Z ls C hR hP hS hl hr)
theorem sw_isub {x y : Int32} (hd : decode M.1 pc = .ok (.isub, 1))  (k : SW G d M (pc + 1) L (.int (x - y) :: S) σ Q) : SW G d M pc L (.int y :: .int x :: S) σ Q := by
  intro p e R s m args below meth c H locs cells slots A Z ls C hR hP hS hl hr
  exact lv_isub C.2.1 C.2.2.1 hd (k p e R s m args below meth c H locs cells slots A Z ls C hR hP hS hl hr)
theorem sw_imul {x y : Int32} (hd : decode M.1 pc = .ok (.imul, 1))  (k : SW G d M (pc + 1) L (.int (x * y) :: S) σ Q) : SW G d M pc L (.int y :: .int x :: S) σ Q := by
  intro p e R s m args below meth c H locs cells slots A Z ls C hR hP hS hl hr
  exact lv_imul C.2.1 C.2.2.1 hd (k p e R s m args below meth c H locs cells slots A Z ls C hR hP hS hl hr)
theorem sw_iand {x y : Int32} (hd : decode M.1 pc = .ok (.iand, 1))  (k : SW G d M (pc + 1) L (.int (x &&& y) :: S) σ Q) : SW G d M pc L (.int y :: .int x :: S) σ Q := by
  intro p e R s m args below meth c H locs cells slots A Z ls C hR hP hS hl hr
  exact lv_iand C.2.1 C.2.2.1 hd (k p e R s m args below meth c H locs cells slots A Z ls C hR hP hS hl hr)
theorem sw_ior {x y : Int32} (hd : decode M.1 pc = .ok (.ior, 1))  (k : SW G d M (pc + 1) L (.int (x ||| y) :: S) σ Q) : SW G d M pc L (.int y :: .int x :: S) σ Q := by
  intro p e R s m args below meth c H locs cells slots A Z ls C hR hP hS hl hr
  exact lv_ior C.2.1 C.2.2.1 hd (k p e R s m args below meth c H locs cells slots A Z ls C hR hP hS hl hr)
theorem sw_ixor {x y : Int32} (hd : decode M.1 pc = .ok (.ixor, 1))  (k : SW G d M (pc + 1) L (.int (x ^^^ y) :: S) σ Q) : SW G d M pc L (.int y :: .int x :: S) σ Q := by
  intro p e R s m args below meth c H locs cells slots A Z ls C hR hP hS hl hr
  exact lv_ixor C.2.1 C.2.2.1 hd (k p e R s m args below meth c H locs cells slots A Z ls C hR hP hS hl hr)
theorem sw_ladd {x y : Int64} (hd : decode M.1 pc = .ok (.ladd, 1))  (k : SW G d M (pc + 1) L (.long (x + y) :: S) σ Q) : SW G d M pc L (.long y :: .long x :: S) σ Q := by
  intro p e R s m args below meth c H locs cells slots A Z ls C hR hP hS hl hr
  exact lv_ladd C.2.1 C.2.2.1 hd (k p e R s m args below meth c H locs cells slots A Z ls C hR hP hS hl hr)
theorem sw_lsub {x y : Int64} (hd : decode M.1 pc = .ok (.lsub, 1))  (k : SW G d M (pc + 1) L (.long (x - y) :: S) σ Q) : SW G d M pc L (.long y :: .long x :: S) σ Q := by
  intro p e R s m args below meth c H locs cells slots A Z ls C hR hP hS hl hr
  exact lv_lsub C.2.1 C.2.2.1 hd (k p e R s m args below meth c H locs cells slots A Z ls C hR hP hS hl hr)
theorem sw_lmul {x y : Int64} (hd : decode M.1 pc = .ok (.lmul, 1))  (k : SW G d M (pc + 1) L (.long (x * y) :: S) σ Q) : SW G d M pc L (.long y :: .long x :: S) σ Q := by
  intro p e R s m args below meth c H locs cells slots A Z ls C hR hP hS hl hr
  exact lv_lmul C.2.1 C.2.2.1 hd (k p e R s m args below meth c H locs cells slots A Z ls C hR hP hS hl hr)
theorem sw_land {x y : Int64} (hd : decode M.1 pc = .ok (.land, 1))  (k : SW G d M (pc + 1) L (.long (x &&& y) :: S) σ Q) : SW G d M pc L (.long y :: .long x :: S) σ Q := by
  intro p e R s m args below meth c H locs cells slots A Z ls C hR hP hS hl hr
  exact lv_land C.2.1 C.2.2.1 hd (k p e R s m args below meth c H locs cells slots A Z ls C hR hP hS hl hr)
theorem sw_lor {x y : Int64} (hd : decode M.1 pc = .ok (.lor, 1))  (k : SW G d M (pc + 1) L (.long (x ||| y) :: S) σ Q) : SW G d M pc L (.long y :: .long x :: S) σ Q := by
  intro p e R s m args below meth c H locs cells slots A Z ls C hR hP hS hl hr
  exact lv_lor C.2.1 C.2.2.1 hd (k p e R s m args below meth c H locs cells slots A Z ls C hR hP hS hl hr)
theorem sw_lxor {x y : Int64} (hd : decode M.1 pc = .ok (.lxor, 1))  (k : SW G d M (pc + 1) L (.long (x ^^^ y) :: S) σ Q) : SW G d M pc L (.long y :: .long x :: S) σ Q := by
  intro p e R s m args below meth c H locs cells slots A Z ls C hR hP hS hl hr
  exact lv_lxor C.2.1 C.2.2.1 hd (k p e R s m args below meth c H locs cells slots A Z ls C hR hP hS hl hr)
theorem sw_idiv {x y : Int32} (hd : decode M.1 pc = .ok (.idiv, 1)) (hy : ¬ y = 0) (k : SW G d M (pc + 1) L (.int (x / y) :: S) σ Q) : SW G d M pc L (.int y :: .int x :: S) σ Q := by
  intro p e R s m args below meth c H locs cells slots A Z ls C hR hP hS hl hr
  exact lv_idiv C.2.1 C.2.2.1 hd hy (k p e R s m args below meth c H locs cells slots A Z ls C hR hP hS hl hr)
theorem sw_irem {x y : Int32} (hd : decode M.1 pc = .ok (.irem, 1)) (hy : ¬ y = 0) (k : SW G d M (pc + 1) L (.int (x - x / y * y) :: S) σ Q) : SW G d M pc L (.int y :: .int x :: S) σ Q := by
  intro p e R s m args below meth c H locs cells slots A Z ls C hR hP hS hl hr
  exact lv_irem C.2.1 C.2.2.1 hd hy (k p e R s m args below meth c H locs cells slots A Z ls C hR hP hS hl hr)
theorem sw_ineg {x : Int32} (hd : decode M.1 pc = .ok (.ineg, 1))  (k : SW G d M (pc + 1) L (.int (-x) :: S) σ Q) : SW G d M pc L (.int x :: S) σ Q := by
  intro p e R s m args below meth c H locs cells slots A Z ls C hR hP hS hl hr
  exact lv_ineg C.2.1 C.2.2.1 hd (k p e R s m args below meth c H locs cells slots A Z ls C hR hP hS hl hr)
theorem sw_ishl {x y : Int32} (hd : decode M.1 pc = .ok (.ishl, 1))  (k : SW G d M (pc + 1) L (.int (x <<< (y &&& 31)) :: S) σ Q) : SW G d M pc L (.int y :: .int x :: S) σ Q := by
  intro p e R s m args below meth c H locs cells slots A Z ls C hR hP hS hl hr
  exact lv_ishl C.2.1 C.2.2.1 hd (k p e R s m args below meth c H locs cells slots A Z ls C hR hP hS hl hr)
theorem sw_ishr {x y : Int32} (hd : decode M.1 pc = .ok (.ishr, 1))  (k : SW G d M (pc + 1) L (.int (x >>> (y &&& 31)) :: S) σ Q) : SW G d M pc L (.int y :: .int x :: S) σ Q := by
  intro p e R s m args below meth c H locs cells slots A Z ls C hR hP hS hl hr
  exact lv_ishr C.2.1 C.2.2.1 hd (k p e R s m args below meth c H locs cells slots A Z ls C hR hP hS hl hr)
theorem sw_iushr {x y : Int32} (hd : decode M.1 pc = .ok (.iushr, 1))  (k : SW G d M (pc + 1) L (.int (x.toUInt32 >>> (y.toUInt32 &&& Int32.toUInt32 31)).toInt32 :: S) σ Q) : SW G d M pc L (.int y :: .int x :: S) σ Q := by
  intro p e R s m args below meth c H locs cells slots A Z ls C hR hP hS hl hr
  exact lv_iushr C.2.1 C.2.2.1 hd rfl (k p e R s m args below meth c H locs cells slots A Z ls C hR hP hS hl hr)
theorem sw_lshl {x : Int64} {y : Int32} (hd : decode M.1 pc = .ok (.lshl, 1))  (k : SW G d M (pc + 1) L (.long (x <<< (y.toInt64 &&& 63)) :: S) σ Q) : SW G d M pc L (.int y :: .long x :: S) σ Q := by
  intro p e R s m args below meth c H locs cells slots A Z ls C hR hP hS hl hr
  exact lv_lshl C.2.1 C.2.2.1 hd rfl (k p e R s m args below meth c H locs cells slots A Z ls C hR hP hS hl hr)
theorem sw_lshr {x : Int64} {y : Int32} (hd : decode M.1 pc = .ok (.lshr, 1))  (k : SW G d M (pc + 1) L (.long (x >>> (y.toInt64 &&& 63)) :: S) σ Q) : SW G d M pc L (.int y :: .long x :: S) σ Q := by
  intro p e R s m args below meth c H locs cells slots A Z ls C hR hP hS hl hr
  exact lv_lshr C.2.1 C.2.2.1 hd rfl (k p e R s m args below meth c H locs cells slots A Z ls C hR hP hS hl hr)
theorem sw_lushr {x : Int64} {y : Int32} (hd : decode M.1 pc = .ok (.lushr, 1))  (k : SW G d M (pc + 1) L (.long (x.toUInt64 >>> (y.toInt64.toUInt64 &&& Int64.toUInt64 63)).toInt64 :: S) σ Q) : SW G d M pc L (.int y :: .long x :: S) σ Q := by
  intro p e R s m args below meth c H locs cells slots A Z ls C hR hP hS hl hr
  exact lv_lushr C.2.1 C.2.2.1 hd rfl (k p e R s m args below meth c H locs cells slots A Z ls C hR hP hS hl hr)
theorem sw_i2l {x : Int32} (hd : decode M.1 pc = .ok (.i2l, 1))  (k : SW G d M (pc + 1) L (.long x.toInt64 :: S) σ Q) : SW G d M pc L (.int x :: S) σ Q := by
  intro p e R s m args below meth c H locs cells slots A Z ls C hR hP hS hl hr
  exact lv_i2l C.2.1 C.2.2.1 hd rfl (k p e R s m args below meth c H locs cells slots A Z ls C hR hP hS hl hr)
theorem sw_l2i {x : Int64} (hd : decode M.1 pc = .ok (.l2i, 1))  (k : SW G d M (pc + 1) L (.int x.toInt32 :: S) σ Q) : SW G d M pc L (.long x :: S) σ Q := by
  intro p e R s m args below meth c H locs cells slots A Z ls C hR hP hS hl hr
  exact lv_l2i C.2.1 C.2.2.1 hd rfl (k p e R s m args below meth c H locs cells slots A Z ls C hR hP hS hl hr)
theorem sw_i2b {x : Int32} (hd : decode M.1 pc = .ok (.i2b, 1))  (k : SW G d M (pc + 1) L (.int x.toInt8.toInt32 :: S) σ Q) : SW G d M pc L (.int x :: S) σ Q := by
  intro p e R s m args below meth c H locs cells slots A Z ls C hR hP hS hl hr
  exact lv_i2b C.2.1 C.2.2.1 hd rfl (k p e R s m args below meth c H locs cells slots A Z ls C hR hP hS hl hr)
theorem sw_lcmp {x y : Int64} (hd : decode M.1 pc = .ok (.lcmp, 1))  (k : SW G d M (pc + 1) L (.int (lg_cmp x y) :: S) σ Q) : SW G d M pc L (.long y :: .long x :: S) σ Q := by
  intro p e R s m args below meth c H locs cells slots A Z ls C hR hP hS hl hr
  exact W.lcmp C.2.1 C.2.2.1 hd (k p e R s m args below meth c H locs cells slots A Z ls C hR hP hS hl hr)
theorem sw_dup {v : Value} (hd : decode M.1 pc = .ok (.dup, 1)) (hv : v.category = 1) (k : SW G d M (pc + 1) L (v :: v :: S) σ Q) : SW G d M pc L (v :: S) σ Q := by
  intro p e R s m args below meth c H locs cells slots A Z ls C hR hP hS hl hr
  exact lv_dup C.2.1 C.2.2.1 hd (by rw [cv_cat]; exact hv) (k p e R s m args below meth c H locs cells slots A Z ls C hR hP hS hl hr)
theorem sw_dup2 {v u : Value} (hd : decode M.1 pc = .ok (.dup2, 1)) (hv : v.category = 1) (hu : u.category = 1) (k : SW G d M (pc + 1) L (v :: u :: v :: u :: S) σ Q) : SW G d M pc L (v :: u :: S) σ Q := by
  intro p e R s m args below meth c H locs cells slots A Z ls C hR hP hS hl hr
  exact lv_dup2_11 C.2.1 C.2.2.1 hd (by rw [cv_cat]; exact hv) (by rw [cv_cat]; exact hu) (k p e R s m args below meth c H locs cells slots A Z ls C hR hP hS hl hr)
-- branches
theorem sw_if_eq {x : Int32} {off : Int} {tgt : Nat} (hd : decode M.1 pc = .ok (.ifCond .eq off, 3)) (ht : (pc : Int) + off = (tgt : Int)) (kt : x = 0 → SW G d M tgt L S σ Q) (kf : ¬ x = 0 → SW G d M (pc + 3) L S σ Q) : SW G d M pc L (.int x :: S) σ Q := by
  intro p e R s m args below meth c H locs cells slots A Z ls C hR hP hS hl hr
  exact lv_if_eq C.2.1 C.2.2.1 hd ht (fun h => (kt (by first | exact h | exact Decidable.byContradiction h | omega) p e R s m args below meth c H locs cells slots A Z ls C hR hP hS hl hr)) (fun h => (kf (by first | exact h | exact Decidable.byContradiction h | omega) p e R s m args below meth c H locs cells slots A Z ls C hR hP hS hl hr))
theorem sw_if_ne {x : Int32} {off : Int} {tgt : Nat} (hd : decode M.1 pc = .ok (.ifCond .ne off, 3)) (ht : (pc : Int) + off = (tgt : Int)) (kt : ¬ x = 0 → SW G d M tgt L S σ Q) (kf : x = 0 → SW G d M (pc + 3) L S σ Q) : SW G d M pc L (.int x :: S) σ Q := by
  intro p e R s m args below meth c H locs cells slots A Z ls C hR hP hS hl hr
  exact lv_if_ne C.2.1 C.2.2.1 hd ht (fun h => (kt (by first | exact h | exact Decidable.byContradiction h | omega) p e R s m args below meth c H locs cells slots A Z ls C hR hP hS hl hr)) (fun h => (kf (by first | exact h | exact Decidable.byContradiction h | omega) p e R s m args below meth c H locs cells slots A Z ls C hR hP hS hl hr))
theorem sw_if_lt {x : Int32} {off : Int} {tgt : Nat} (hd : decode M.1 pc = .ok (.ifCond .lt off, 3)) (ht : (pc : Int) + off = (tgt : Int)) (kt : x < 0 → SW G d M tgt L S σ Q) (kf : ¬ x < 0 → SW G d M (pc + 3) L S σ Q) : SW G d M pc L (.int x :: S) σ Q := by
  intro p e R s m args below meth c H locs cells slots A Z ls C hR hP hS hl hr
  exact lv_if_lt C.2.1 C.2.2.1 hd ht (fun h => (kt (by first | exact h | exact Decidable.byContradiction h | omega) p e R s m args below meth c H locs cells slots A Z ls C hR hP hS hl hr)) (fun h => (kf (by first | exact h | exact Decidable.byContradiction h | omega) p e R s m args below meth c H locs cells slots A Z ls C hR hP hS hl hr))
theorem sw_if_ge {x : Int32} {off : Int} {tgt : Nat} (hd : decode M.1 pc = .ok (.ifCond .ge off, 3)) (ht : (pc : Int) + off = (tgt : Int)) (kt : 0 ≤ x → SW G d M tgt L S σ Q) (kf : ¬ 0 ≤ x → SW G d M (pc + 3) L S σ Q) : SW G d M pc L (.int x :: S) σ Q := by
  intro p e R s m args below meth c H locs cells slots A Z ls C hR hP hS hl hr
  exact lv_if_ge C.2.1 C.2.2.1 hd ht (fun h => (kt (by first | exact h | exact Decidable.byContradiction h | omega) p e R s m args below meth c H locs cells slots A Z ls C hR hP hS hl hr)) (fun h => (kf (by first | exact h | exact Decidable.byContradiction h | omega) p e R s m args below meth c H locs cells slots A Z ls C hR hP hS hl hr))
theorem sw_if_gt {x : Int32} {off : Int} {tgt : Nat} (hd : decode M.1 pc = .ok (.ifCond .gt off, 3)) (ht : (pc : Int) + off = (tgt : Int)) (kt : 0 < x → SW G d M tgt L S σ Q) (kf : ¬ 0 < x → SW G d M (pc + 3) L S σ Q) : SW G d M pc L (.int x :: S) σ Q := by
  intro p e R s m args below meth c H locs cells slots A Z ls C hR hP hS hl hr
  exact lv_if_gt C.2.1 C.2.2.1 hd ht (fun h => (kt (by first | exact h | exact Decidable.byContradiction h | omega) p e R s m args below meth c H locs cells slots A Z ls C hR hP hS hl hr)) (fun h => (kf (by first | exact h | exact Decidable.byContradiction h | omega) p e R s m args below meth c H locs cells slots A Z ls C hR hP hS hl hr))
theorem sw_if_le {x : Int32} {off : Int} {tgt : Nat} (hd : decode M.1 pc = .ok (.ifCond .le off, 3)) (ht : (pc : Int) + off = (tgt : Int)) (kt : x ≤ 0 → SW G d M tgt L S σ Q) (kf : ¬ x ≤ 0 → SW G d M (pc + 3) L S σ Q) : SW G d M pc L (.int x :: S) σ Q := by
  intro p e R s m args below meth c H locs cells slots A Z ls C hR hP hS hl hr
  exact lv_if_le C.2.1 C.2.2.1 hd ht (fun h => (kt (by first | exact h | exact Decidable.byContradiction h | omega) p e R s m args below meth c H locs cells slots A Z ls C hR hP hS hl hr)) (fun h => (kf (by first | exact h | exact Decidable.byContradiction h | omega) p e R s m args below meth c H locs cells slots A Z ls C hR hP hS hl hr))
theorem sw_icmp_eq {x y : Int32} {off : Int} {tgt : Nat} (hd : decode M.1 pc = .ok (.if_icmp .eq off, 3)) (ht : (pc : Int) + off = (tgt : Int)) (kt : x = y → SW G d M tgt L S σ Q) (kf : ¬ x = y → SW G d M (pc + 3) L S σ Q) : SW G d M pc L (.int y :: .int x :: S) σ Q := by
  intro p e R s m args below meth c H locs cells slots A Z ls C hR hP hS hl hr
  exact lv_icmp_eq C.2.1 C.2.2.1 hd ht (fun h => (kt (by first | exact h | exact Decidable.byContradiction h | omega) p e R s m args below meth c H locs cells slots A Z ls C hR hP hS hl hr)) (fun h => (kf (by first | exact h | exact Decidable.byContradiction h | omega) p e R s m args below meth c H locs cells slots A Z ls C hR hP hS hl hr))
theorem sw_icmp_ne {x y : Int32} {off : Int} {tgt : Nat} (hd : decode M.1 pc = .ok (.if_icmp .ne off, 3)) (ht : (pc : Int) + off = (tgt : Int)) (kt : ¬ x = y → SW G d M tgt L S σ Q) (kf : x = y → SW G d M (pc + 3) L S σ Q) : SW G d M pc L (.int y :: .int x :: S) σ Q := by
  intro p e R s m args below meth c H locs cells slots A Z ls C hR hP hS hl hr
  exact lv_icmp_ne C.2.1 C.2.2.1 hd ht (fun h => (kt (by first | exact h | exact Decidable.byContradiction h | omega) p e R s m args below meth c H locs cells slots A Z ls C hR hP hS hl hr)) (fun h => (kf (by first | exact h | exact Decidable.byContradiction h | omega) p e R s m args below meth c H locs cells slots A Z ls C hR hP hS hl hr))
theorem sw_icmp_lt {x y : Int32} {off : Int} {tgt : Nat} (hd : decode M.1 pc = .ok (.if_icmp .lt off, 3)) (ht : (pc : Int) + off = (tgt : Int)) (kt : x < y → SW G d M tgt L S σ Q) (kf : ¬ x < y → SW G d M (pc + 3) L S σ Q) : SW G d M pc L (.int y :: .int x :: S) σ Q := by
  intro p e R s m args below meth c H locs cells slots A Z ls C hR hP hS hl hr
  exact lv_icmp_lt C.2.1 C.2.2.1 hd ht (fun h => (kt (by first | exact h | exact Decidable.byContradiction h | omega) p e R s m args below meth c H locs cells slots A Z ls C hR hP hS hl hr)) (fun h => (kf (by first | exact h | exact Decidable.byContradiction h | omega) p e R s m args below meth c H locs cells slots A Z ls C hR hP hS hl hr))
theorem sw_icmp_ge {x y : Int32} {off : Int} {tgt : Nat} (hd : decode M.1 pc = .ok (.if_icmp .ge off, 3)) (ht : (pc : Int) + off = (tgt : Int)) (kt : y ≤ x → SW G d M tgt L S σ Q) (kf : ¬ y ≤ x → SW G d M (pc + 3) L S σ Q) : SW G d M pc L (.int y :: .int x :: S) σ Q := by
  intro p e R s m args below meth c H locs cells slots A Z ls C hR hP hS hl hr
  exact lv_icmp_ge C.2.1 C.2.2.1 hd ht (fun h => (kt (by first | exact h | exact Decidable.byContradiction h | omega) p e R s m args below meth c H locs cells slots A Z ls C hR hP hS hl hr)) (fun h => (kf (by first | exact h | exact Decidable.byContradiction h | omega) p e R s m args below meth c H locs cells slots A Z ls C hR hP hS hl hr))
theorem sw_icmp_gt {x y : Int32} {off : Int} {tgt : Nat} (hd : decode M.1 pc = .ok (.if_icmp .gt off, 3)) (ht : (pc : Int) + off = (tgt : Int)) (kt : y < x → SW G d M tgt L S σ Q) (kf : ¬ y < x → SW G d M (pc + 3) L S σ Q) : SW G d M pc L (.int y :: .int x :: S) σ Q := by
  intro p e R s m args below meth c H locs cells slots A Z ls C hR hP hS hl hr
  exact lv_icmp_gt C.2.1 C.2.2.1 hd ht (fun h => (kt (by first | exact h | exact Decidable.byContradiction h | omega) p e R s m args below meth c H locs cells slots A Z ls C hR hP hS hl hr)) (fun h => (kf (by first | exact h | exact Decidable.byContradiction h | omega) p e R s m args below meth c H locs cells slots A Z ls C hR hP hS hl hr))
theorem sw_icmp_le {x y : Int32} {off : Int} {tgt : Nat} (hd : decode M.1 pc = .ok (.if_icmp .le off, 3)) (ht : (pc : Int) + off = (tgt : Int)) (kt : x ≤ y → SW G d M tgt L S σ Q) (kf : ¬ x ≤ y → SW G d M (pc + 3) L S σ Q) : SW G d M pc L (.int y :: .int x :: S) σ Q := by
  intro p e R s m args below meth c H locs cells slots A Z ls C hR hP hS hl hr
  exact lv_icmp_le C.2.1 C.2.2.1 hd ht (fun h => (kt (by first | exact h | exact Decidable.byContradiction h | omega) p e R s m args below meth c H locs cells slots A Z ls C hR hP hS hl hr)) (fun h => (kf (by first | exact h | exact Decidable.byContradiction h | omega) p e R s m args below meth c H locs cells slots A Z ls C hR hP hS hl hr))
theorem sw_goto {off : Int} {tgt : Nat} (hd : decode M.1 pc = .ok (.goto off, 3)) (ht : (pc : Int) + off = (tgt : Int)) (k : SW G d M tgt L S σ Q) : SW G d M pc L S σ Q := by
  intro p e R s m args below meth c H locs cells slots A Z ls C hR hP hS hl hr
  exact lv_goto C.2.1 C.2.2.1 hd ht (k p e R s m args below meth c H locs cells slots A Z ls C hR hP hS hl hr)
theorem sw_tabOut {dflt lo hi : Int} {offs : Array Int} {len : Nat} {x : Int32} {tgt : Nat} (hd : decode M.1 pc = .ok (.tableswitch dflt lo hi offs, len)) (h : x.toInt < lo ∨ hi < x.toInt) (ht : (pc : Int) + dflt = (tgt : Int)) (k : SW G d M tgt L S σ Q) : SW G d M pc L (.int x :: S) σ Q := by
  intro p e R s m args below meth c H locs cells slots A Z ls C hR hP hS hl hr
  exact lv_tableOut C.2.1 C.2.2.1 hd h ht (k p e R s m args below meth c H locs cells slots A Z ls C hR hP hS hl hr)
theorem sw_tabIn {dflt lo hi : Int} {offs : Array Int} {len : Nat} {x : Int32} {off : Int} {tgt : Nat} (hd : decode M.1 pc = .ok (.tableswitch dflt lo hi offs, len)) (h1 : ¬ x.toInt < lo) (h2 : ¬ hi < x.toInt) (ho : offs[(x.toInt - lo).toNat]? = some off) (ht : (pc : Int) + off = (tgt : Int)) (k : SW G d M tgt L S σ Q) : SW G d M pc L (.int x :: S) σ Q := by
  intro p e R s m args below meth c H locs cells slots A Z ls C hR hP hS hl hr
  exact lv_tableIn C.2.1 C.2.2.1 hd h1 h2 ho ht (k p e R s m args below meth c H locs cells slots A Z ls C hR hP hS hl hr)
theorem sw_lookup {dflt : Int} {ps : Array (Int × Int)} {len : Nat} {x : Int32} {off : Int} {tgt : Nat} (hd : decode M.1 pc = .ok (.lookupswitch dflt ps, len)) (hp : (ps.toList.zip (ps.toList.drop 1)).all (fun (a, next) => a.1 < next.1) = true) (ho : Op.lookupswitch.offset ps.toList dflt x.toInt = off) (ht : (pc : Int) + off = (tgt : Int)) (k : SW G d M tgt L S σ Q) : SW G d M pc L (.int x :: S) σ Q := by
  intro p e R s m args below meth c H locs cells slots A Z ls C hR hP hS hl hr
  exact lv_lookup C.2.1 C.2.2.1 hd hp ho ht (k p e R s m args below meth c H locs cells slots A Z ls C hR hP hS hl hr)
theorem sw_nmI {x : Int32} (k : ∀ y : Int32, y = x → SW G d M pc L (.int y :: S) σ Q) : SW G d M pc L (.int x :: S) σ Q := k x rfl
theorem sw_nmJ {x : Int64} (k : ∀ y : Int64, y = x → SW G d M pc L (.long y :: S) σ Q) : SW G d M pc L (.long x :: S) σ Q := k x rfl
theorem sw_topI {x y : Int32} (h : x = y) (k : SW G d M pc L (.int y :: S) σ Q) : SW G d M pc L (.int x :: S) σ Q := h ▸ k
theorem sw_topJ {x y : Int64} (h : x = y) (k : SW G d M pc L (.long y :: S) σ Q) : SW G d M pc L (.long x :: S) σ Q := h ▸ k
theorem sw_mem {σ' : Mem} (h : σ = σ') (k : SW G d M pc L S σ' Q) : SW G d M pc L S σ Q := h ▸ k
theorem sw_loc {L' : List (Option Value)} (h : L = L') (k : SW G d M pc L' S σ Q) : SW G d M pc L S σ Q := h ▸ k
theorem sw_mono {Q' : Option Value → Mem → Prop} (h : ∀ r σ', Q' r σ' → Q r σ') (k : SW G d M pc L S σ Q') : SW G d M pc L S σ Q := by
  intro p e R s m args below meth c H locs cells slots A Z ls C hR hP hS hl hr
  exact k p e R s m args below meth c H locs cells slots A Z ls C hR hP hS hl (fun r σ' H' locs' pc' ls' hq => hr r σ' H' locs' pc' ls' (h r σ' hq))
theorem sw_deep {d' : Nat} (h : d' ≤ d) (k : SW G d' M pc L S σ Q) : SW G d M pc L S σ Q := by
  intro p e R s m args below meth c H locs cells slots A Z ls C hR hP hS hl hr
  exact k p e R s m args below meth c H locs cells slots A Z ls C ⟨by omega, by omega, hR.2.2.1, hR.2.2.2⟩ hP hS hl hr
theorem sw_ret0 (hd : decode M.1 pc = .ok (.return_, 1)) (ht : M.2.2.2.2 = none) (h : Q none σ) : SW G d M pc L [] σ Q := by
  intro p e R s m args below meth c H locs cells slots A Z ls C hR hP hS hl hr
  exact hr none σ H locs pc ls h hP hS ⟨hd, ht⟩
theorem sw_reti {x : Int32} (hd : decode M.1 pc = .ok (.ireturn, 1)) (ht : M.2.2.2.2 = some .int) (h : Q (some (.int x)) σ) : SW G d M pc L [.int x] σ Q := by
  intro p e R s m args below meth c H locs cells slots A Z ls C hR hP hS hl hr
  exact hr (some (.int x)) σ H locs pc ls h hP hS ⟨hd, _, ht, rfl⟩
theorem sw_retz {x : Int32} (hd : decode M.1 pc = .ok (.ireturn, 1)) (ht : M.2.2.2.2 = some .boolean) (hx : x = 0 ∨ x = 1) (h : Q (some (.int x)) σ) : SW G d M pc L [.int x] σ Q := by
  intro p e R s m args below meth c H locs cells slots A Z ls C hR hP hS hl hr
  exact hr (some (.int x)) σ H locs pc ls h hP hS ⟨hd, _, ht, by rcases hx with rfl | rfl <;> decide⟩
theorem sw_retl {x : Int64} (hd : decode M.1 pc = .ok (.lreturn, 1)) (ht : M.2.2.2.2 = some .long) (h : Q (some (.long x)) σ) : SW G d M pc L [.long x] σ Q := by
  intro p e R s m args below meth c H locs cells slots A Z ls C hR hP hS hl hr
  exact hr (some (.long x)) σ H locs pc ls h hP hS ⟨hd, ht⟩
theorem sw_iald {i : Int32} {c n : Nat} (hd : decode M.1 pc = .ok (.iaload, 1)) (hc : cellA c 0 n) (hi : vp_in i n) (k : SW G d M (pc + 1) L (.int (σ.1 c i.toNatClampNeg) :: S) σ Q) : SW G d M pc L (.int i :: .ref c :: S) σ Q := by
  intro p e R s m args below meth cd H locs cells slots A Z ls C hR hP hS hl hr
  exact va_iald C.2.1 C.2.2.1 C.2.2.2.2.2.2.2.1 hP c 0 (wl_arrI G σ hc.1 hc.2 (by decide)) rfl hi hd (k p e R s m args below meth cd H locs cells slots A Z ls C hR hP hS hl hr)
theorem sw_bald {i : Int32} {c n : Nat} (hd : decode M.1 pc = .ok (.baload, 1)) (hc : cellA c 2 n) (hi : vp_in i n) (k : SW G d M (pc + 1) L (.int (σ.1 c i.toNatClampNeg) :: S) σ Q) : SW G d M pc L (.int i :: .ref c :: S) σ Q := by
  intro p e R s m args below meth cd H locs cells slots A Z ls C hR hP hS hl hr
  exact va_bald C.2.1 C.2.2.1 C.2.2.2.2.2.2.2.1 hP c 2 (wl_arrI G σ hc.1 hc.2 (by decide)) rfl hi hd (k p e R s m args below meth cd H locs cells slots A Z ls C hR hP hS hl hr)
theorem sw_zald {i : Int32} {c n : Nat} (hd : decode M.1 pc = .ok (.baload, 1)) (hc : cellA c 3 n) (hi : vp_in i n) (k : SW G d M (pc + 1) L (.int (σ.1 c i.toNatClampNeg) :: S) σ Q) : SW G d M pc L (.int i :: .ref c :: S) σ Q := by
  intro p e R s m args below meth cd H locs cells slots A Z ls C hR hP hS hl hr
  exact va_zald C.2.1 C.2.2.1 C.2.2.2.2.2.2.2.1 hP c 3 (wl_arrI G σ hc.1 hc.2 (by decide)) rfl hi hd (k p e R s m args below meth cd H locs cells slots A Z ls C hR hP hS hl hr)
theorem sw_lald {i : Int32} {c n : Nat} (hd : decode M.1 pc = .ok (.laload, 1)) (hc : cellA c 1 n) (hi : vp_in i n) (k : SW G d M (pc + 1) L (.long (σ.2 c i.toNatClampNeg) :: S) σ Q) : SW G d M pc L (.int i :: .ref c :: S) σ Q := by
  intro p e R s m args below meth cd H locs cells slots A Z ls C hR hP hS hl hr
  exact va_lald C.2.1 C.2.2.1 C.2.2.2.2.2.2.2.1 hP c 1 (wl_arrJ G σ hc.1 hc.2) rfl hi hd (k p e R s m args below meth cd H locs cells slots A Z ls C hR hP hS hl hr)
theorem sw_iast {i x : Int32} {c n : Nat} (hd : decode M.1 pc = .ok (.iastore, 1)) (hc : cellA c 0 n) (hi : vp_in i n) (k : SW G d M (pc + 1) L S (setI σ c i.toNatClampNeg (x)) Q) : SW G d M pc L (.int x :: .int i :: .ref c :: S) σ Q := by
  intro p e R s m args below meth cd H locs cells slots A Z ls C hR hP hS hl hr
  refine va_iast C.2.1 C.2.2.1 C.2.2.2.2.2.2.2.1 hP (wl_D G σ C.1.1 C.2.2.2.2.2.2.2.2.2.1) hS c 0 (wl_arrI G σ hc.1 hc.2 (by decide)) rfl hi hd (fun H1 locs1 hP1 _ hS1 => ?_)
  rw [wl_set G σ (setI σ c i.toNatClampNeg (x)) _ hc.1 (cont_setI_a G σ _ _ hc.2 (by decide)) (fun j hj => cont_setI_ne G σ _ _ hj)] at hP1
  exact k p e R s m args below meth cd H1 locs1 cells slots A Z ls C hR hP1 hS1 hl hr
theorem sw_bast {i x : Int32} {c n : Nat} (hd : decode M.1 pc = .ok (.bastore, 1)) (hc : cellA c 2 n) (hi : vp_in i n) (k : SW G d M (pc + 1) L S (setI σ c i.toNatClampNeg (vp_nar .byte x)) Q) : SW G d M pc L (.int x :: .int i :: .ref c :: S) σ Q := by
  intro p e R s m args below meth cd H locs cells slots A Z ls C hR hP hS hl hr
  refine va_bast C.2.1 C.2.2.1 C.2.2.2.2.2.2.2.1 hP (wl_D G σ C.1.1 C.2.2.2.2.2.2.2.2.2.1) hS c 2 (wl_arrI G σ hc.1 hc.2 (by decide)) rfl hi hd (fun H1 locs1 hP1 _ hS1 => ?_)
  rw [wl_set G σ (setI σ c i.toNatClampNeg (vp_nar .byte x)) _ hc.1 (cont_setI_a G σ _ _ hc.2 (by decide)) (fun j hj => cont_setI_ne G σ _ _ hj)] at hP1
  exact k p e R s m args below meth cd H1 locs1 cells slots A Z ls C hR hP1 hS1 hl hr
theorem sw_zast {i x : Int32} {c n : Nat} (hd : decode M.1 pc = .ok (.bastore, 1)) (hc : cellA c 3 n) (hi : vp_in i n) (k : SW G d M (pc + 1) L S (setI σ c i.toNatClampNeg (vp_nar .boolean x)) Q) : SW G d M pc L (.int x :: .int i :: .ref c :: S) σ Q := by
  intro p e R s m args below meth cd H locs cells slots A Z ls C hR hP hS hl hr
  refine va_zast C.2.1 C.2.2.1 C.2.2.2.2.2.2.2.1 hP (wl_D G σ C.1.1 C.2.2.2.2.2.2.2.2.2.1) hS c 3 (wl_arrI G σ hc.1 hc.2 (by decide)) rfl hi hd (fun H1 locs1 hP1 _ hS1 => ?_)
  rw [wl_set G σ (setI σ c i.toNatClampNeg (vp_nar .boolean x)) _ hc.1 (cont_setI_a G σ _ _ hc.2 (by decide)) (fun j hj => cont_setI_ne G σ _ _ hj)] at hP1
  exact k p e R s m args below meth cd H1 locs1 cells slots A Z ls C hR hP1 hS1 hl hr
theorem sw_last {i : Int32} {x : Int64} {c n : Nat} (hd : decode M.1 pc = .ok (.lastore, 1)) (hc : cellA c 1 n) (hi : vp_in i n) (k : SW G d M (pc + 1) L S (setJ σ c i.toNatClampNeg x) Q) : SW G d M pc L (.long x :: .int i :: .ref c :: S) σ Q := by
  intro p e R s m args below meth cd H locs cells slots A Z ls C hR hP hS hl hr
  refine va_last C.2.1 C.2.2.1 C.2.2.2.2.2.2.2.1 hP (wl_D G σ C.1.1 C.2.2.2.2.2.2.2.2.2.1) hS c 1 (wl_arrJ G σ hc.1 hc.2) rfl hi hd (fun H1 locs1 hP1 _ hS1 => ?_)
  rw [wl_set G σ (setJ σ c i.toNatClampNeg x) _ hc.1 (cont_setJ_a G σ _ _ hc.2) (fun j hj => cont_setJ_ne G σ _ _ hj)] at hP1
  exact k p e R s m args below meth cd H1 locs1 cells slots A Z ls C hR hP1 hS1 hl hr
theorem sw_alen {c ty n : Nat} (hd : decode M.1 pc = .ok (.arraylength, 1)) (hc : cellA c ty n) (hty : ty < 4) (k : SW G d M (pc + 1) L (.int (Int32.ofNat n) :: S) σ Q) : SW G d M pc L (.ref c :: S) σ Q := by
  intro p e R s m args below meth cd H locs cells slots A Z ls C hR hP hS hl hr
  have h1 := wl_at G σ hc.1
  simp only [cont, hc.2] at h1
  have ht : ∃ T, (tyl G)[ty]? = some (gc G ty, T) := by
    rcases (show ty = 0 ∨ ty = 1 ∨ ty = 2 ∨ ty = 3 by omega) with rfl | rfl | rfl | rfl <;> exact ⟨_, rfl⟩
  obtain ⟨T, hT⟩ := ht
  exact va_alen C.2.1 C.2.2.1 C.2.2.2.2.2.2.2.1 hP c ty h1 hT rfl hd (k p e R s m args below meth cd H locs cells slots A Z ls C hR hP hS hl hr)
end SWR
