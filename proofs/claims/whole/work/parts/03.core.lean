/-! ===== words: the good ones, and those of nest mates ===== -/
def TB : List Cond := lw_tbl.filter goodWord
def isNest : Cond → Bool
  | .fieldLinkNest .. => true
  | .methodLinkNest .. => true
  | _ => false
def NT : List Cond := lw_tbl.filter isNest
theorem tb_of {w : Cond} (h : w ∈ lw_tbl) (g : goodWord w = true) : w ∈ TB := List.mem_filter.mpr ⟨h, g⟩
theorem nt_of {w : Cond} (h : w ∈ lw_tbl) (g : isNest w = true) : w ∈ NT := List.mem_filter.mpr ⟨h, g⟩
theorem tb_good : GoodIn TB TB := fun w h => ⟨h, good_of_word (List.mem_filter.mp h).2⟩
theorem nt_warm {s U : State} (hW : s.WarmedH U.vm) (h : ∀ w ∈ NT, va_Nw w s) : ∀ w ∈ NT, va_Nw w U := by
  intro w hw
  have h1 := h w hw
  have h2 := (List.mem_filter.mp hw).2
  cases w <;> first | exact va_Nw.warmF hW h1 | exact va_Nw.warmM hW h1 | (simp [isNest] at h2)
theorem nt_tab {w : Cond} (hw : w ∈ NT) : w.onTables = true := by
  have h2 := (List.mem_filter.mp hw).2
  cases w <;> first | rfl | (simp [isNest] at h2)
/-! ===== the memory: what each cell holds, by its number ===== -/
abbrev Mem : Type := (Nat → Nat → Int32) × (Nat → Nat → Int64)
def setI (σ : Mem) (c k : Nat) (v : Int32) : Mem := (fun x => if x = c then upd (σ.1 c) k v else σ.1 x, σ.2)
def setJ (σ : Mem) (c k : Nat) (v : Int64) : Mem := (σ.1, fun x => if x = c then vp_updL (σ.2 c) k v else σ.2 x)
/-- the number of a class of an object; the kind (0 int, 1 long, 2 byte, 3 boolean) and length of an array -/
def shp : Nat → Nat ⊕ (Nat × Nat) := fun c => SHAPES.getD c (.inr (0, 0))
def fkd : Nat → Nat → Nat := fun ci k => (KINDS.getD ci []).getD k 9
def nfd : Nat → Nat := fun ci => (KINDS.getD ci []).length
def rfc : Nat → Nat → Nat := fun c k => (REFS.getD c []).getD k 99
/-- launch, class tables, addresses, array classes, what else holds of a state outside some cells -/
abbrev GG : Type := Launch × va_G × (Nat → Nat) × (Nat → ClassId) × ((Nat → Prop) → State → Prop)
abbrev gl (G : GG) : Launch := G.1
abbrev gD (G : GG) : va_G := G.2.1
abbrev ga (G : GG) : Nat → Nat := G.2.2.1
abbrev gc (G : GG) : Nat → ClassId := G.2.2.2.1
abbrev gm (G : GG) : (Nat → Prop) → State → Prop := G.2.2.2.2
def fldV (G : GG) (σ : Mem) (c ci k : Nat) : Value := match fkd ci k with
  | 0 => .int (σ.1 c k)
  | 1 => .long (σ.2 c k)
  | 3 => .int (σ.1 c k)
  | _ => .ref (ga G (rfc c k))
def cont (G : GG) (σ : Mem) (c : Nat) : va_E := match shp c with
  | .inl ci => .inr (ci, (List.range (nfd ci)).map (fldV G σ c ci))
  | .inr (ty, n) => .inl (gc G ty, n, if ty = 1 then .inr (.inl (σ.2 c)) else .inl (σ.1 c))
def wl (G : GG) (σ : Mem) : va_W := (List.range KC).map (fun c => (ga G c, cont G σ c))
def tyl (G : GG) : List (ClassId × FieldType) := [(gc G 0, .int), (gc G 1, .long), (gc G 2, .byte), (gc G 3, .boolean)]
def AK (G : GG) : Nat → Prop := fun q => ∃ c, c < KC ∧ ga G c = q
def Wok (G : GG) : Prop := (∀ i j, i < KC → j < KC → ga G i = ga G j → i = j) ∧ (∀ (A : Nat → Prop) (s U : State), (∀ q, AK G q → A q) → gm G A s → s.WarmedH U.vm → s.heap.size ≤ U.heap.size → (∀ q : Nat, q < s.heap.size → ¬ A q → U.heap[q]? = s.heap[q]?) → gm G (AK G) U) ∧ (∀ (A : Nat → Prop) (s U : State), U.vm = s.vm → U.heap = s.heap → gm G A s → gm G A U)
theorem wl_at (G : GG) (σ : Mem) {c : Nat} (h : c < KC) : (wl G σ)[c]? = some (ga G c, cont G σ c) := by
  simp [wl, h]
theorem wl_len (G : GG) (σ : Mem) : (wl G σ).length = KC := by simp [wl]
theorem wl_obj (G : GG) (σ : Mem) {c ci : Nat} (h : c < KC) (hs : shp c = .inl ci) : (wl G σ)[c]? = some (ga G c, .inr (ci, (List.range (nfd ci)).map (fldV G σ c ci))) := by
  rw [wl_at G σ h]; simp only [cont, hs]
theorem wl_arrI (G : GG) (σ : Mem) {c ty n : Nat} (h : c < KC) (hs : shp c = .inr (ty, n)) (ht : ty ≠ 1) : (wl G σ)[c]? = some (ga G c, .inl (gc G ty, n, .inl (σ.1 c))) := by
  rw [wl_at G σ h]; simp only [cont, hs, if_neg ht]
theorem wl_arrJ (G : GG) (σ : Mem) {c n : Nat} (h : c < KC) (hs : shp c = .inr (1, n)) : (wl G σ)[c]? = some (ga G c, .inl (gc G 1, n, .inr (.inl (σ.2 c)))) := by
  rw [wl_at G σ h]; simp only [cont, hs, if_true]
theorem wl_D (G : GG) (σ : Mem) (hG : ∀ i j, i < KC → j < KC → ga G i = ga G j → i = j) {A : Nat → Prop} (hA : ∀ q, AK G q → A q) : va_D A (wl G σ) := by
  have key : ∀ (k : Nat) (q : Nat × va_E), (wl G σ)[k]? = some q → k < KC ∧ q.1 = ga G k := by
    intro k q hk
    have hl : k < KC := by
      have := (List.getElem?_eq_some_iff.mp hk).1
      rwa [wl_len] at this
    rw [wl_at G σ hl] at hk
    cases hk
    exact ⟨hl, rfl⟩
  refine ⟨fun i j p q hi hj e => ?_, fun k q hk => ?_⟩
  · obtain ⟨h1, h2⟩ := key i p hi
    obtain ⟨h3, h4⟩ := key j q hj
    exact hG i j h1 h3 (by rw [← h2, ← h4]; exact e)
  · obtain ⟨h1, h2⟩ := key k q hk
    exact hA _ ⟨k, h1, h2.symm⟩
theorem wl_set (G : GG) (σ σ' : Mem) {c : Nat} (x : va_E) (h : c < KC) (hx : cont G σ' c = x) (ho : ∀ j, j ≠ c → cont G σ' j = cont G σ j) : (wl G σ).set c (ga G c, x) = wl G σ' := by
  apply List.ext_getElem?
  intro j
  by_cases hj : j < KC
  · rw [wl_at G σ' hj]
    by_cases e : c = j
    · subst e
      rw [List.getElem?_set_self (by rw [wl_len]; exact h), hx]
    · rw [List.getElem?_set_ne e, wl_at G σ hj, ho j (fun q => e q.symm)]
  · rw [List.getElem?_eq_none (by rw [List.length_set, wl_len]; omega), List.getElem?_eq_none (by rw [wl_len]; omega)]
theorem cont_setI_ne (G : GG) (σ : Mem) {c j : Nat} (k : Nat) (v : Int32) (h : j ≠ c) : cont G (setI σ c k v) j = cont G σ j := by
  have e1 : (setI σ c k v).1 j = σ.1 j := if_neg h
  have e2 : (setI σ c k v).2 j = σ.2 j := rfl
  unfold cont
  cases shp j with
  | inl ci =>
    have : fldV G (setI σ c k v) j ci = fldV G σ j ci := by
      funext x
      unfold fldV
      split <;> simp [e1, e2]
    simp only [this]
  | inr q => simp only [e1, e2]
theorem cont_setJ_ne (G : GG) (σ : Mem) {c j : Nat} (k : Nat) (v : Int64) (h : j ≠ c) : cont G (setJ σ c k v) j = cont G σ j := by
  have e1 : (setJ σ c k v).2 j = σ.2 j := if_neg h
  have e2 : (setJ σ c k v).1 j = σ.1 j := rfl
  unfold cont
  cases shp j with
  | inl ci =>
    have : fldV G (setJ σ c k v) j ci = fldV G σ j ci := by
      funext x
      unfold fldV
      split <;> simp [e1, e2]
    simp only [this]
  | inr q => simp only [e1, e2]
theorem cont_setI_f (G : GG) (σ : Mem) {c ci k : Nat} (v : Int32) (hs : shp c = .inl ci) (hk : k < nfd ci) (hd : fkd ci k = 0 ∨ fkd ci k = 3) : cont G (setI σ c k v) c = .inr (ci, ((List.range (nfd ci)).map (fldV G σ c ci)).set k (.int v)) := by
  simp only [cont, hs]
  congr 2
  apply List.ext_getElem?
  intro j
  by_cases e : k = j
  · subst e
    rw [List.getElem?_set_self (by simpa using hk)]
    simp only [List.getElem?_map, List.getElem?_range hk, Option.map_some]
    rcases hd with h | h <;> simp [fldV, h, setI, upd]
  · rw [List.getElem?_set_ne e]
    simp only [List.getElem?_map]
    by_cases hj : j < nfd ci
    · simp only [List.getElem?_range hj, Option.map_some]
      have : (setI σ c k v).1 c j = σ.1 c j := by simp [setI, upd, Ne.symm e]
      unfold fldV
      split <;> first | rfl | (simp only [this])
    · rw [List.getElem?_eq_none (by simpa using hj)]; rfl
theorem cont_setJ_f (G : GG) (σ : Mem) {c ci k : Nat} (v : Int64) (hs : shp c = .inl ci) (hk : k < nfd ci) (hd : fkd ci k = 1) : cont G (setJ σ c k v) c = .inr (ci, ((List.range (nfd ci)).map (fldV G σ c ci)).set k (.long v)) := by
  simp only [cont, hs]
  congr 2
  apply List.ext_getElem?
  intro j
  by_cases e : k = j
  · subst e
    rw [List.getElem?_set_self (by simpa using hk)]
    simp only [List.getElem?_map, List.getElem?_range hk, Option.map_some]
    simp [fldV, hd, setJ, vp_updL]
  · rw [List.getElem?_set_ne e]
    simp only [List.getElem?_map]
    by_cases hj : j < nfd ci
    · simp only [List.getElem?_range hj, Option.map_some]
      have : (setJ σ c k v).2 c j = σ.2 c j := by simp [setJ, vp_updL, Ne.symm e]
      unfold fldV
      split <;> first | rfl | (simp only [this])
    · rw [List.getElem?_eq_none (by simpa using hj)]; rfl
theorem cont_setI_a (G : GG) (σ : Mem) {c ty n : Nat} (k : Nat) (v : Int32) (hs : shp c = .inr (ty, n)) (ht : ty ≠ 1) : cont G (setI σ c k v) c = .inl (gc G ty, n, .inl (upd (σ.1 c) k v)) := by
  simp [cont, hs, if_neg ht, setI]
theorem cont_setJ_a (G : GG) (σ : Mem) {c n : Nat} (k : Nat) (v : Int64) (hs : shp c = .inr (1, n)) : cont G (setJ σ c k v) c = .inl (gc G 1, n, .inr (.inl (vp_updL (σ.2 c) k v))) := by
  simp [cont, hs, setJ]
