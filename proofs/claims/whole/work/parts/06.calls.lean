/-! ===== fields ===== -/
def ClsOk (ci : Nat) (C : String) (T : u_T) (N : Nat) (ty : Nat → FieldType) : Prop := vwCl[ci]? = some (C, T, N) ∧ (∀ w ∈ u_ws C T N, w ∈ TB) ∧ (∀ k, k < N → parseFieldDescriptor (T k).2.2.1 = some (ty k)) ∧ (∀ a, a < N → ∀ b, b < N → a ≠ b → (T a).2.1 ≠ (T b).2.1) ∧ nfd ci = N
/-- a field's place in the code of class own: pool number idx is field k of class ci, of kind kd, final or not -/
def FS (own : String) (idx ci k kd : Nat) (f : Bool) : Prop := ∃ (C : String) (T : u_T) (N : Nat) (ty : Nat → FieldType), ClsOk ci C T N ty ∧ k < N ∧ (T k).1 = C ∧ (T k).2.2.2 = f ∧ fkd ci k = kd ∧ (kd = 0 → ty k = .int) ∧ (kd = 1 → ty k = .long) ∧ (kd = 3 → ty k = .boolean) ∧ (Cond.fieldLink own idx C (T k).2.1 (T k).2.2.1 ∈ TB ∨ ∃ host, Cond.fieldLinkNest own idx C (T k).2.1 (T k).2.2.1 host ∈ NT)
section SWF
variable {G : GG} {d : Nat} {M : MM} {pc : Nat} {L : List (Option Value)} {S : List Value} {σ : Mem} {Q : Option Value → Mem → Prop}
theorem sw_getV {c idx ci k kd : Nat} {f : Bool} (hd : decode M.1 pc = .ok (.getfield idx, 3)) (hf : FS M.2.2.1 idx ci k kd f) (hc : cellO c ci) {v : Value} (hv : fldV G σ c ci k = cv G v) (kk : SW G d M (pc + 3) L (v :: S) σ Q) : SW G d M pc L (.ref c :: S) σ Q := by
  intro p e R s m args below meth cd H locs cells slots A Z ls C hR hP hS hl hr
  obtain ⟨C0, T, N, ty, ⟨h1, h2, h3, h4, h5⟩, hk, e1, -, -, -, -, -, hl0⟩ := hf
  have hfs : ((List.range (nfd ci)).map (fldV G σ c ci))[k]? = some (fldV G σ c ci k) := by
    rw [List.getElem?_map, List.getElem?_range (by omega)]; rfl
  have kk := kk p e R s m args below meth cd H locs cells slots A Z ls C hR hP hS hl hr
  have kk : W p (gl G) e R s m args below meth cd H locs cells slots Z (F0 m (pc + 3) ls (fldV G σ c ci k :: S.map (cv G))) := by rw [hv]; exact kk
  rcases hl0 with hl1 | ⟨host, hl1⟩
  · exact va_get C.2.1 C.2.2.1 C.2.2.2.2.2.1 h2 C.2.2.2.2.1 C.2.2.2.2.2.2.2.1 hP c (wl_obj G σ hc.1 hc.2) h1 k hk (C.2.2.2.2.2.1 _ hl1) (fun x hx => by rw [e1] at hx; exact hx) hfs hd kk
  · exact va_getN C.2.1 C.2.2.1 C.2.2.2.2.2.1 h2 C.2.2.2.2.1 C.2.2.2.2.2.2.2.1 hP c (wl_obj G σ hc.1 hc.2) h1 k hk (va_Nw.use rfl (C.2.2.2.2.2.2.1 _ hl1)) (fun x hx => by rw [e1] at hx; exact hx) hfs hd kk
theorem sw_getI {c idx ci k : Nat} {f : Bool} (hd : decode M.1 pc = .ok (.getfield idx, 3)) (hf : FS M.2.2.1 idx ci k 0 f) (hc : cellO c ci) (kk : SW G d M (pc + 3) L (.int (σ.1 c k) :: S) σ Q) : SW G d M pc L (.ref c :: S) σ Q := by
  have e : fkd ci k = 0 := by obtain ⟨_, _, _, _, -, -, -, -, e, -⟩ := hf; exact e
  exact sw_getV hd hf hc (v := .int (σ.1 c k)) (by simp [fldV, e, cv]) kk
theorem sw_getZ {c idx ci k : Nat} {f : Bool} (hd : decode M.1 pc = .ok (.getfield idx, 3)) (hf : FS M.2.2.1 idx ci k 3 f) (hc : cellO c ci) (kk : SW G d M (pc + 3) L (.int (σ.1 c k) :: S) σ Q) : SW G d M pc L (.ref c :: S) σ Q := by
  have e : fkd ci k = 3 := by obtain ⟨_, _, _, _, -, -, -, -, e, -⟩ := hf; exact e
  exact sw_getV hd hf hc (v := .int (σ.1 c k)) (by simp [fldV, e, cv]) kk
theorem sw_getJ {c idx ci k : Nat} {f : Bool} (hd : decode M.1 pc = .ok (.getfield idx, 3)) (hf : FS M.2.2.1 idx ci k 1 f) (hc : cellO c ci) (kk : SW G d M (pc + 3) L (.long (σ.2 c k) :: S) σ Q) : SW G d M pc L (.ref c :: S) σ Q := by
  have e : fkd ci k = 1 := by obtain ⟨_, _, _, _, -, -, -, -, e, -⟩ := hf; exact e
  exact sw_getV hd hf hc (v := .long (σ.2 c k)) (by simp [fldV, e, cv]) kk
theorem sw_getR {c idx ci k t : Nat} {f : Bool} (hd : decode M.1 pc = .ok (.getfield idx, 3)) (hf : FS M.2.2.1 idx ci k 2 f) (hc : cellO c ci) (ht : rfc c k = t) (kk : SW G d M (pc + 3) L (.ref t :: S) σ Q) : SW G d M pc L (.ref c :: S) σ Q := by
  have e : fkd ci k = 2 := by obtain ⟨_, _, _, _, -, -, -, -, e, -⟩ := hf; exact e
  exact sw_getV hd hf hc (v := .ref t) (by simp [fldV, e, cv, ht]) kk
theorem sw_putI {c idx ci k : Nat} {v : Int32} (hd : decode M.1 pc = .ok (.putfield idx, 3)) (hf : FS M.2.2.1 idx ci k 0 false) (hc : cellO c ci) (kk : SW G d M (pc + 3) L S (setI σ c k v) Q) : SW G d M pc L (.int v :: .ref c :: S) σ Q := by
  intro p e R s m args below meth cd H locs cells slots A Z ls C hR hP hS hl hr
  obtain ⟨C0, T, N, ty, ⟨h1, h2, h3, h4, h5⟩, hk, e1, e2, e3, e4, -, -, hl0⟩ := hf
  have hK := C.2.2.2.2.2.2.2.1
  have hD := wl_D G σ C.1.1 C.2.2.2.2.2.2.2.2.2.1
  have go : ∀ (H1 : Heap) (locs1 : List Loc), va_P (gD G) vwCl ((wl G σ).set c (ga G c, .inr (ci, ((List.range (nfd ci)).map (fldV G σ c ci)).set k (.int v)))) H1 → va_D A ((wl G σ).set c (ga G c, .inr (ci, ((List.range (nfd ci)).map (fldV G σ c ci)).set k (.int v)))) → va_S A s.heap H1 locs1 → W p (gl G) e R s m args below meth cd H1 locs1 cells slots Z (F0 m (pc + 3) ls (S.map (cv G))) := by
    intro H1 locs1 hP1 _ hS1
    rw [wl_set G σ (setI σ c k v) _ hc.1 (cont_setI_f G σ v hc.2 (by omega) (Or.inl e3)) (fun j hj => cont_setI_ne G σ _ _ hj)] at hP1
    exact kk p e R s m args below meth cd H1 locs1 cells slots A Z ls C hR hP1 hS1 hl hr
  rcases hl0 with hl1 | ⟨host, hl1⟩
  · exact va_put C.2.1 C.2.2.1 C.2.2.2.2.2.1 h2 ty h3 h4 C.2.2.2.2.1 hK hP hD hS c (wl_obj G σ hc.1 hc.2) h1 k hk (C.2.2.2.2.2.1 _ hl1) (fun x hx => by rw [e1] at hx; exact hx) e2 ((h3 k hk).trans (by rw [e4 rfl])) (vp_nar_int v) rfl (by simp; omega) hd go
  · exact va_putN C.2.1 C.2.2.1 C.2.2.2.2.2.1 h2 ty h3 h4 C.2.2.2.2.1 hK hP hD hS c (wl_obj G σ hc.1 hc.2) h1 k hk (va_Nw.use rfl (C.2.2.2.2.2.2.1 _ hl1)) (fun x hx => by rw [e1] at hx; exact hx) e2 ((h3 k hk).trans (by rw [e4 rfl])) (vp_nar_int v) rfl (by simp; omega) hd go
theorem sw_putZ {c idx ci k : Nat} {v : Int32} (hd : decode M.1 pc = .ok (.putfield idx, 3)) (hf : FS M.2.2.1 idx ci k 3 false) (hc : cellO c ci) (hv : v = 0 ∨ v = 1) (kk : SW G d M (pc + 3) L S (setI σ c k v) Q) : SW G d M pc L (.int v :: .ref c :: S) σ Q := by
  intro p e R s m args below meth cd H locs cells slots A Z ls C hR hP hS hl hr
  obtain ⟨C0, T, N, ty, ⟨h1, h2, h3, h4, h5⟩, hk, e1, e2, e3, -, -, e4, hl0⟩ := hf
  have hK := C.2.2.2.2.2.2.2.1
  have hD := wl_D G σ C.1.1 C.2.2.2.2.2.2.2.2.2.1
  have n1 : narrow .boolean (.int v) = .int v := by rcases hv with rfl | rfl <;> decide
  have n2 : fits .boolean (.int v) = true := by rcases hv with rfl | rfl <;> decide
  have go : ∀ (H1 : Heap) (locs1 : List Loc), va_P (gD G) vwCl ((wl G σ).set c (ga G c, .inr (ci, ((List.range (nfd ci)).map (fldV G σ c ci)).set k (.int v)))) H1 → va_D A ((wl G σ).set c (ga G c, .inr (ci, ((List.range (nfd ci)).map (fldV G σ c ci)).set k (.int v)))) → va_S A s.heap H1 locs1 → W p (gl G) e R s m args below meth cd H1 locs1 cells slots Z (F0 m (pc + 3) ls (S.map (cv G))) := by
    intro H1 locs1 hP1 _ hS1
    rw [wl_set G σ (setI σ c k v) _ hc.1 (cont_setI_f G σ v hc.2 (by omega) (Or.inr e3)) (fun j hj => cont_setI_ne G σ _ _ hj)] at hP1
    exact kk p e R s m args below meth cd H1 locs1 cells slots A Z ls C hR hP1 hS1 hl hr
  rcases hl0 with hl1 | ⟨host, hl1⟩
  · exact va_put C.2.1 C.2.2.1 C.2.2.2.2.2.1 h2 ty h3 h4 C.2.2.2.2.1 hK hP hD hS c (wl_obj G σ hc.1 hc.2) h1 k hk (C.2.2.2.2.2.1 _ hl1) (fun x hx => by rw [e1] at hx; exact hx) e2 ((h3 k hk).trans (by rw [e4 rfl])) n1 n2 (by simp; omega) hd go
  · exact va_putN C.2.1 C.2.2.1 C.2.2.2.2.2.1 h2 ty h3 h4 C.2.2.2.2.1 hK hP hD hS c (wl_obj G σ hc.1 hc.2) h1 k hk (va_Nw.use rfl (C.2.2.2.2.2.2.1 _ hl1)) (fun x hx => by rw [e1] at hx; exact hx) e2 ((h3 k hk).trans (by rw [e4 rfl])) n1 n2 (by simp; omega) hd go
theorem sw_putJ {c idx ci k : Nat} {v : Int64} (hd : decode M.1 pc = .ok (.putfield idx, 3)) (hf : FS M.2.2.1 idx ci k 1 false) (hc : cellO c ci) (kk : SW G d M (pc + 3) L S (setJ σ c k v) Q) : SW G d M pc L (.long v :: .ref c :: S) σ Q := by
  intro p e R s m args below meth cd H locs cells slots A Z ls C hR hP hS hl hr
  obtain ⟨C0, T, N, ty, ⟨h1, h2, h3, h4, h5⟩, hk, e1, e2, e3, -, e4, -, hl0⟩ := hf
  have hK := C.2.2.2.2.2.2.2.1
  have hD := wl_D G σ C.1.1 C.2.2.2.2.2.2.2.2.2.1
  have go : ∀ (H1 : Heap) (locs1 : List Loc), va_P (gD G) vwCl ((wl G σ).set c (ga G c, .inr (ci, ((List.range (nfd ci)).map (fldV G σ c ci)).set k (.long v)))) H1 → va_D A ((wl G σ).set c (ga G c, .inr (ci, ((List.range (nfd ci)).map (fldV G σ c ci)).set k (.long v)))) → va_S A s.heap H1 locs1 → W p (gl G) e R s m args below meth cd H1 locs1 cells slots Z (F0 m (pc + 3) ls (S.map (cv G))) := by
    intro H1 locs1 hP1 _ hS1
    rw [wl_set G σ (setJ σ c k v) _ hc.1 (cont_setJ_f G σ v hc.2 (by omega) e3) (fun j hj => cont_setJ_ne G σ _ _ hj)] at hP1
    exact kk p e R s m args below meth cd H1 locs1 cells slots A Z ls C hR hP1 hS1 hl hr
  rcases hl0 with hl1 | ⟨host, hl1⟩
  · exact va_put C.2.1 C.2.2.1 C.2.2.2.2.2.1 h2 ty h3 h4 C.2.2.2.2.1 hK hP hD hS c (wl_obj G σ hc.1 hc.2) h1 k hk (C.2.2.2.2.2.1 _ hl1) (fun x hx => by rw [e1] at hx; exact hx) e2 ((h3 k hk).trans (by rw [e4 rfl])) rfl rfl (by simp; omega) hd go
  · exact va_putN C.2.1 C.2.2.1 C.2.2.2.2.2.1 h2 ty h3 h4 C.2.2.2.2.1 hK hP hD hS c (wl_obj G σ hc.1 hc.2) h1 k hk (va_Nw.use rfl (C.2.2.2.2.2.2.1 _ hl1)) (fun x hx => by rw [e1] at hx; exact hx) e2 ((h3 k hk).trans (by rw [e4 rfl])) rfl rfl (by simp; omega) hd go
end SWF
/-! ===== calls ===== -/
/-- the room of a method that calls d deep -/
def rmD (d : Nat) : Room := { frames := d, cells := 0, slots := 0, locals := 31 * d }
def PcW (G : GG) (σ : Mem) (U : State) : Prop := va_P (gD G) vwCl (wl G σ) U.heap ∧ va_K (gD G) vwCl (tyl G) U ∧ (∀ w ∈ NT, va_Nw w U) ∧ gm G (AK G) U
def QcW (G : GG) (Q : Option Value → Mem → Prop) : Array Value → State → Outcome → State → Prop := fun _ st o t => (∃ (r : Option Value) (σ' : Mem), o = .returned (r.map (cv G)) ∧ Q r σ' ∧ va_P (gD G) vwCl (wl G σ') t.heap) ∧ va_F (AK G) st t
def wsM (M : MM) : List Cond := .code M.2.1 M.1 M.2.2.2.1 M.2.2.2.2 :: TB
/-- what is asked of a method that is called -/
def MOk (M : MM) : Prop := plainName M.2.1.cls = true ∧ M.2.1.cls = M.2.2.1 ∧ Cond.code M.2.1 M.1 M.2.2.2.1 M.2.2.2.2 ∈ TB ∧ Cond.initialized M.2.1.cls ∈ TB ∧ (M.2.1.cls ≠ "java/lang/invoke/MethodHandle" ∧ M.2.1.cls ≠ "java/lang/invoke/VarHandle") ∧ M.2.2.2.1 ≤ 12
theorem sw_met {G : GG} {d : Nat} {M : MM} {vs : List Value} {σ : Mem} {Q : Option Value → Mem → Prop} (hG : Wok G) (hM : MOk M) (hw : wds vs ≤ M.2.2.2.1) (h : SW G d M 0 (ent M.2.2.2.1 vs) [] σ Q) : Met (gl G) M.2.1 (wsM M) (rmD d) (va_Pc (vs.map (cv G)) (PcW G σ)) (QcW G Q) 0 0 (AK G) := by
  refine Met.ofW (cc := M.1) (maxL := M.2.2.2.1) (ret := M.2.2.2.2) hM.1 rfl ?_
  intro p e s m args below meth c s₁ B hml hv
  obtain ⟨rfl, hP, hK, hN, hg⟩ := hv
  have hts := atoms_spec (ws := wsM M) B.pre
  have hown : s.vm.findClass M.2.1.cls = some m.cls := findClass_of_methodNamed B.named
  rw [hM.2.1] at hown
  rw [lg_entry_eq]
  have key := h p e (rmD d) s m (vs.map (cv G)).toArray below meth c s.heap [] 0 0 (AK G) (MQ below (QcW G Q) (vs.map (cv G)).toArray s 0 0 (AK G)) _ ⟨hG, B.exec, B.bytes, hml, hown, fun w hw => hts w (List.mem_cons_of_mem _ hw), hN, hK, hg, fun _ h => h, B.returns, B.notSynchronized⟩ ⟨Nat.le_refl _, Nat.le_refl _, Nat.le_refl _, Nat.le_refl _⟩ hP va_S.rf (ent_ok G hw) ?_
  · exact key
  intro r σ' H' locs' pc' ls' hq hP' hS' hret
  have hpost : ∀ (t : State), t.heap = H' → QcW G Q (vs.map (cv G)).toArray s (.returned (r.map (cv G))) t := fun t ht => ⟨⟨r, σ', rfl, hq, by rw [ht]; exact hP'⟩, hS'.F ht⟩
  cases r with
  | none => exact W.vret B.exec B.bytes (B.returns.trans hret.2) (fun t ht _ => hpost t ht) hS'.2.2 hret.1 B.notSynchronized
  | some v =>
    cases v with
    | int v =>
      obtain ⟨h1, ty, h2, h3⟩ := hret
      exact W.zret B.exec B.bytes (B.returns.trans h2) h3 (fun t ht _ => hpost t ht) hS'.2.2 h1 B.notSynchronized
    | long v =>
      obtain ⟨h1, h2⟩ := hret
      exact W.lret B.exec B.bytes (B.returns.trans h2) (fun t ht _ => hpost t ht) hS'.2.2 h1 B.notSynchronized
    | _ => exact hret.elim
theorem pcw_blind {G : GG} (hG : Wok G) {σ : Mem} {vs : List Value} : FrameBlind (va_Pc vs (PcW G σ)) := by
  intro a U g mk q
  obtain ⟨q0, qP, qK, qN, qg⟩ := q
  exact ⟨q0, qP, va_K.moved (u := U) (U := U.calling g mk a) (Vm.Alike.refl U.vm) qK, fun w hw => va_Nw.same (u := U) (U := U.calling g mk a) (nt_tab hw) rfl (qN w hw), hG.2.2 _ U _ rfl rfl qg⟩
def LK (own : String) (idx : Nat) (y : MethodName) : Prop := Cond.methodLink own idx y ∈ TB ∨ ∃ host, Cond.methodLinkNest own idx y host ∈ NT
def VOk (M : MM) (n ci : Nat) : Prop := Cond.instanceMethod M.2.1 ∈ TB ∧ Cond.selects M.2.2.1 M.2.1 M.2.1 ∈ TB ∧ (parseMethodDescriptor M.2.1.desc).map (fun d => d.parameters.length) = some n ∧ ∃ (T : u_T) (N : Nat), vwCl[ci]? = some (M.2.2.1, T, N)
def SOk (M : MM) (n : Nat) : Prop := Cond.static M.2.1 ∈ TB ∧ (parseMethodDescriptor M.2.1.desc).map (fun d => d.parameters.length) = some n
theorem wsM_good {M : MM} (h : MOk M) : GoodIn TB (wsM M) := by
  intro w hw
  rcases List.mem_cons.mp hw with rfl | hw
  · exact tb_good _ h.2.2.1
  · exact tb_good _ hw
theorem sw_after {G : GG} {d : Nat} {M : MM} {pc : Nat} {L : List (Option Value)} {S : List Value} {Q : Option Value → Mem → Prop} {p : Program} {e : Env} {R : Room} {s : State} {m : MethodId} {args : Array Value} {below : List Frame} {meth : Method} {c : Code} {H : Heap} {locs : List Loc} {cells slots : Nat} {A : Nat → Prop} {Z : State → Prop} {ls : Array Slot} {a : Array Value} {st0 : List Value}
    (hrun : va_Run p (gl G) e R s m args below meth c H locs cells slots 0 0 (F0 m pc ls st0) (S.map (cv G)) (QcW G (fun r σ' => SW G d M (pc + 3) L (r.toList ++ S) σ' Q) a) (AK G))
    (C : Cx G M p s m args meth c A) (hR : d ≤ R.frames ∧ 31 * d ≤ R.locals ∧ cells ≤ R.cells ∧ slots ≤ R.slots) (hS : va_S A s.heap H locs) (hl : lvr G ls M.2.2.2.1 L)
    (hr : ∀ (r : Option Value) (σ' : Mem) (H' : Heap) (locs' : List Loc) (pc' : Nat) (ls' : Array Slot), Q r σ' → va_P (gD G) vwCl (wl G σ') H' → va_S A s.heap H' locs' → retD M pc' r → W p (gl G) e R s m args below meth c H' locs' cells slots Z (F0 m pc' ls' (r.toList.map (cv G)))) :
    W p (gl G) e R s m args below meth c H locs cells slots Z (F0 m pc ls st0) := by
  intro T hT X
  obtain ⟨v, st₀, t, T', Lc, h0, X', hL, e1, e2, ⟨⟨r, σ', hv, hq, hp⟩, hz, hk⟩, st⟩ := hrun T hT X
  have hv : v = r.map (cv G) := by injection hv
  subst hv
  rw [h0] at hz hk
  have hA := C.2.2.2.2.2.2.2.2.2.1
  have hS' : va_S A s.heap T'.heap (locs ++ Lc) := by
    refine ⟨Nat.le_trans hS.1 (by rw [e1]; exact hz), fun q h1 h2 => ?_, fun q hq => ?_⟩
    · rw [e1, hk q (Nat.lt_of_lt_of_le h1 hS.1) (fun z => h2 (hA q z))]
      exact hS.2.1 q h1 h2
    · rcases List.mem_append.mp hq with h | h
      · exact hS.2.2 q h
      · exact hA _ (hL q h)
  have hst : (r.toList ++ S).map (cv G) = (r.map (cv G)).toList ++ S.map (cv G) := by cases r <;> rfl
  have key := hq p e R s m args below meth c T'.heap (locs ++ Lc) cells slots A Z ls C hR (by rw [e1]; exact hp) hS' hl hr
  rw [hst] at key
  obtain ⟨t2, a1, b1⟩ := key T' rfl X'
  exact ⟨t2, st t2 a1, b1⟩
theorem pcw_at {G : GG} {M : MM} {p : Program} {s : State} {m : MethodId} {args : Array Value} {meth : Method} {c : Code} {A : Nat → Prop} {σ : Mem} {H : Heap} {locs : List Loc} (C : Cx G M p s m args meth c A) (hP : va_P (gD G) vwCl (wl G σ) H) (hS : va_S A s.heap H locs) {vs : List Value} : ∀ U : State, U.heap = H → s.WarmedH U.vm → va_Pc vs (PcW G σ) vs.toArray U := by
  intro U hU hW
  refine ⟨rfl, by rw [hU]; exact hP, va_K.moved hW.alike C.2.2.2.2.2.2.2.1, nt_warm hW C.2.2.2.2.2.2.1, C.1.2.1 A s U C.2.2.2.2.2.2.2.2.2.1 C.2.2.2.2.2.2.2.2.1 hW (by rw [hU]; exact hS.1) (fun q h1 h2 => by rw [hU]; exact hS.2.1 q h1 h2)⟩
theorem cats (G : GG) (S : List Value) : ((S.map (cv G)).map fun v => v.category).sum = (S.map Value.category).sum := by
  rw [List.map_map]
  congr 1
  apply List.map_congr_left
  intro v _
  exact cv_cat G v
theorem sw_inv {G : GG} {d : Nat} {M M' : MM} {pc : Nat} {L : List (Option Value)} {S : List Value} {σ : Mem} {Q : Option Value → Mem → Prop} {b ci n idx : Nat} (As : List Value) (hd : decode M.1 pc = .ok (.invokevirtual idx, 3)) (hM : MOk M') (hV : VOk M' n ci) (hk : LK M.2.2.1 idx M'.2.1) (hc : cellO b ci) (hn : As.length = n) (hw : wds (.ref b :: As) ≤ M'.2.2.2.1) (hs : (S.map Value.category).sum ≤ 8)
    (h : SW G d M' 0 (ent M'.2.2.2.1 (.ref b :: As)) [] σ (fun r σ' => SW G (d + 1) M (pc + 3) L (r.toList ++ S) σ' Q)) : SW G (d + 1) M pc L (As.reverse ++ .ref b :: S) σ Q := by
  intro p e R s m args below meth c H locs cells slots A Z ls C hR hP hS hl hr
  have hMet := sw_met C.1 hM hw h
  obtain ⟨v1, v2, v3, T, N, v4⟩ := hV
  have ht := C.2.2.2.2.2.1
  have hroom : (rmD d).frames + 1 ≤ R.frames ∧ 8 + (M'.2.2.2.1 + 11) + (rmD d).locals ≤ R.locals := by
    have h1 := hM.2.2.2.2.2
    have h2 := hR.1
    have h3 := hR.2.1
    refine ⟨h2, ?_⟩
    show 8 + (M'.2.2.2.1 + 11) + 31 * d ≤ R.locals
    omega
  have hpre : PreV s H M'.2.2.1 (ga G b) (va_Pc ((Value.ref b :: As).map (cv G)) (PcW G σ)) (As.map (cv G)) :=
    ⟨pcw_blind C.1, va_recv C.2.2.2.2.2.2.2.1 hP (ci := ci) (q0 := b) v4 (wl_obj G σ hc.1 hc.2), pcw_at C hP hS⟩
  have hstk : ((As.reverse ++ .ref b :: S).map (cv G)) = (As.map (cv G)).reverse ++ .ref (ga G b) :: S.map (cv G) := by simp [cv]
  rw [hstk]
  refine sw_after (S := S) ?_ C hR hS hl hr (a := (Value.ref (ga G b) :: As.map (cv G)).toArray)
  rcases hk with hk | ⟨host, hk⟩
  · exact va_runV ⟨C.2.1, C.2.2.1, C.2.2.2.1, C.2.2.2.2.1, ht⟩ hMet ⟨callB_of n ht (wsM_good hM) rfl rfl rfl (ht _ hM.2.2.2.1) (ht _ hk) ⟨hM.2.2.2.2.1.1, hM.2.2.2.2.1.2, v3⟩ hroom, ht _ v1, ht _ v2⟩ hpre rfl (by simpa using hn) hl.2.1 rfl (lv_room (by rw [cats]; exact hs)) hd ⟨by have := hR.2.2.1; omega, by have := hR.2.2.2; omega⟩
  · exact va_runVN (host := host) ⟨C.2.1, C.2.2.1, C.2.2.2.1, C.2.2.2.2.1, ht⟩ hMet ⟨va_cnB n ht (wsM_good hM) rfl rfl rfl (C.2.2.2.2.2.2.1 _ hk) (ht _ hM.2.2.2.1) ⟨hM.2.2.2.2.1.1, hM.2.2.2.2.1.2, v3⟩ hroom, ht _ v1, ht _ v2⟩ hpre rfl (by simpa using hn) hl.2.1 rfl (lv_room (by rw [cats]; exact hs)) hd ⟨by have := hR.2.2.1; omega, by have := hR.2.2.2; omega⟩
theorem sw_ins {G : GG} {d : Nat} {M M' : MM} {pc : Nat} {L : List (Option Value)} {S : List Value} {σ : Mem} {Q : Option Value → Mem → Prop} {n idx : Nat} (As : List Value) (hd : decode M.1 pc = .ok (.invokestatic idx, 3)) (hM : MOk M') (hV : SOk M' n) (hk : LK M.2.2.1 idx M'.2.1) (hn : As.length = n) (hw : wds As ≤ M'.2.2.2.1) (hs : (S.map Value.category).sum ≤ 8)
    (h : SW G d M' 0 (ent M'.2.2.2.1 As) [] σ (fun r σ' => SW G (d + 1) M (pc + 3) L (r.toList ++ S) σ' Q)) : SW G (d + 1) M pc L (As.reverse ++ S) σ Q := by
  intro p e R s m args below meth c H locs cells slots A Z ls C hR hP hS hl hr
  have hMet := sw_met C.1 hM hw h
  obtain ⟨v1, v3⟩ := hV
  have ht := C.2.2.2.2.2.1
  have hroom : (rmD d).frames + 1 ≤ R.frames ∧ 8 + (M'.2.2.2.1 + 11) + (rmD d).locals ≤ R.locals := by
    have h1 := hM.2.2.2.2.2
    have h2 := hR.1
    have h3 := hR.2.1
    refine ⟨h2, ?_⟩
    show 8 + (M'.2.2.2.1 + 11) + 31 * d ≤ R.locals
    omega
  have hpre : PreS s H (va_Pc (As.map (cv G)) (PcW G σ)) (As.map (cv G)) := ⟨pcw_blind C.1, pcw_at C hP hS⟩
  have hstk : ((As.reverse ++ S).map (cv G)) = (As.map (cv G)).reverse ++ S.map (cv G) := by simp
  rw [hstk]
  refine sw_after (S := S) ?_ C hR hS hl hr (a := (As.map (cv G)).toArray)
  rcases hk with hk | ⟨host, hk⟩
  · exact va_runS ⟨C.2.1, C.2.2.1, C.2.2.2.1, C.2.2.2.2.1, ht⟩ hMet ⟨callB_of n ht (wsM_good hM) rfl rfl rfl (ht _ hM.2.2.2.1) (ht _ hk) ⟨hM.2.2.2.2.1.1, hM.2.2.2.2.1.2, v3⟩ hroom, ht _ v1⟩ hpre rfl (by simpa using hn) hl.2.1 rfl (lv_room (by rw [cats]; exact hs)) hd ⟨by have := hR.2.2.1; omega, by have := hR.2.2.2; omega⟩
  · exact va_runSN (host := host) ⟨C.2.1, C.2.2.1, C.2.2.2.1, C.2.2.2.2.1, ht⟩ hMet ⟨va_cnB n ht (wsM_good hM) rfl rfl rfl (C.2.2.2.2.2.2.1 _ hk) (ht _ hM.2.2.2.1) ⟨hM.2.2.2.2.1.1, hM.2.2.2.2.1.2, v3⟩ hroom, ht _ v1, trivial⟩ hpre rfl (by simpa using hn) hl.2.1 rfl (lv_room (by rw [cats]; exact hs)) hd ⟨by have := hR.2.2.1; omega, by have := hR.2.2.2; omega⟩
