/-! ===== what else holds while the law runs: the script, the constants, the words of a throw ===== -/
def fR : Nat → Value := fun j => .int ((([[114, 111, 111, 109]] : List (List Int32)).getD 0 []).getD j 0)
def fD : Nat → Value := fun j => .int ((([[100, 111, 111, 114]] : List (List Int32)).getD 0 []).getD j 0)
def StO (t b : Nat) (f : Nat → Value) (A : Nat → Prop) (U : State) (H : Heap) : Prop := va_O RJ0 t A U H ∧ va_OF RJ0 "coder" "B" (.int 0) t A U H ∧ va_OF RJ0 "value" "[B" (.ref b) t A U H ∧ va_T .byte b 4 f A U H
def GMd (a : Nat → Nat) (n : Nat) (xs : Nat → Int32) (v : Value) (A : Nat → Prop) (s : State) : Prop :=
  (va_X (a 76) n xs s s.heap ∧ a 76 < s.heap.size ∧ ¬ A (a 76)) ∧ StO (a 77) (a 79) fR A s s.heap ∧ StO (a 78) (a 80) fD A s s.heap ∧
  (vk_R RX8 140 "room" (a 77) s ∧ vk_R RX8 146 "door" (a 78) s ∧ vk_R RX7 133 "no such card, tick or room" (a 82) s) ∧
  (va_Z RJ0 "COMPACT_STRINGS" "Z" (.int 1) A s s.heap ∧ va_Z RJ3 "SIOOBE_FORMATTER" "Ljava/util/function/BiFunction;" v A s s.heap) ∧
  (vx_Zq Bundle.tN "UNASSIGNED_STACK" Bundle.steD A s s.heap ∧ vx_Zq Bundle.tN "SUPPRESSED_SENTINEL" Bundle.listD A s s.heap) ∧ ∀ w ∈ xB, va_Nw w s
theorem StO.warm {t b : Nat} {f : Nat → Value} {A B : Nat → Prop} {s U : State} {H H1 : Heap} (hAB : ∀ q, B q → A q) (hv : s.vm.Alike U.vm) (hq : ∀ q : Nat, q < H.size → ¬ A q → H1[q]? = H[q]?) (h : StO t b f A s H) : StO t b f B U H1 :=
  ⟨((va_O.moved hv h.1).kept hq).narrow hAB, ((va_OF.moved hv h.2.1).kept hq).narrow hAB, ((va_OF.moved hv h.2.2.1).kept hq).narrow hAB, ((va_T.moved hv h.2.2.2).kept hq).narrow hAB⟩
theorem xB_warm {s U : State} (hW : s.WarmedH U.vm) (h : ∀ w ∈ xB, va_Nw w s) : ∀ w ∈ xB, va_Nw w U := by
  intro w hw
  have h1 := h w hw
  rcases List.mem_cons.mp hw with rfl | hw
  · exact va_Nw.warmC hW h1
  rcases List.mem_cons.mp hw with rfl | hw
  · exact va_Nw.warmD hW h1
  rcases List.mem_cons.mp hw with rfl | hw
  · exact va_Nw.warmD hW h1
  rcases List.mem_cons.mp hw with rfl | hw
  · exact va_Nw.warmD hW h1
  cases hw
theorem GMd.warm {a : Nat → Nat} {n : Nat} {xs : Nat → Int32} {v : Value} {A B : Nat → Prop} {s U : State} (hAB : ∀ q, B q → A q) (hW : s.WarmedH U.vm) (hz : s.heap.size ≤ U.heap.size) (hq : ∀ q : Nat, q < s.heap.size → ¬ A q → U.heap[q]? = s.heap[q]?) (h : GMd a n xs v A s) : GMd a n xs v B U := by
  have hv := hW.alike
  obtain ⟨⟨x1, x2, x3⟩, y1, y2, ⟨r1, r2, r3⟩, ⟨z1, z2⟩, ⟨w1, w2⟩, hN⟩ := h
  exact ⟨⟨(va_X.moved hv x1).kept (hq _ x2 x3), Nat.lt_of_lt_of_le x2 hz, fun hB => x3 (hAB _ hB)⟩, y1.warm hAB hv hq, y2.warm hAB hv hq, ⟨r1.warm hW, r2.warm hW, r3.warm hW⟩,
    ⟨((va_Z.moved hv z1).kept hq).narrow hAB, ((va_Z.moved hv z2).kept hq).narrow hAB⟩, ⟨((vx_Zq.moved hv w1).kept hq).narrow hAB, ((vx_Zq.moved hv w2).kept hq).narrow hAB⟩, xB_warm hW hN⟩
theorem GMd.same {a : Nat → Nat} {n : Nat} {xs : Nat → Int32} {v : Value} {A : Nat → Prop} {s U : State} (hv : U.vm = s.vm) (hh : U.heap = s.heap) (h : GMd a n xs v A s) : GMd a n xs v A U := by
  have hk : s.vm.Alike U.vm := by rw [hv]; exact Vm.Alike.refl _
  have hq : ∀ q : Nat, q < s.heap.size → ¬ A q → U.heap[q]? = s.heap[q]? := fun q _ _ => by rw [hh]
  obtain ⟨⟨x1, x2, x3⟩, y1, y2, ⟨r1, r2, r3⟩, ⟨z1, z2⟩, ⟨w1, w2⟩, hN⟩ := h
  exact ⟨⟨(va_X.moved hk x1).kept (hq _ x2 x3), by rw [hh]; exact x2, x3⟩, y1.warm (fun _ h => h) hk hq, y2.warm (fun _ h => h) hk hq, ⟨r1.same hv, r2.same hv, r3.same hv⟩,
    ⟨(va_Z.moved hk z1).kept hq, (va_Z.moved hk z2).kept hq⟩, ⟨(vx_Zq.moved hk w1).kept hq, (vx_Zq.moved hk w2).kept hq⟩, fun w hw => va_Nw.same (xB_t w hw) hv.symm (hN w hw)⟩
section AMB
variable {l : Launch} {D : va_G} {a : Nat → Nat} {k : Nat → ClassId} {n : Nat} {xs : Nat → Int32} {v : Value}
theorem amb_ok (hi : ∀ i j, i < KC → j < KC → a i = a j → i = j) : Wok (l, D, a, k, GMd a n xs v) := ⟨hi, fun A s U hA h hW hz hq => GMd.warm hA hW hz hq h, fun A s U hv hh h => GMd.same hv hh h⟩
theorem amb_scr : Scr (l, D, a, k, GMd a n xs v) n xs := fun A s h => h.1
theorem amb_exc (hl : l.stackTraces = false) : Exc (l, D, a, k, GMd a n xs v) := ⟨hl, fun A s h => ⟨h.2.2.2.1.2.2, h.2.2.2.2.2.2, h.2.2.2.2.2.1.1, h.2.2.2.2.2.1.2⟩⟩
theorem fR_w : ∀ j, j < 4 → fR j = .int (wR j) := by
  intro j hj
  rcases (show j = 0 ∨ j = 1 ∨ j = 2 ∨ j = 3 by omega) with rfl | rfl | rfl | rfl <;> rfl
theorem fD_w : ∀ j, j < 4 → fD j = .int (wD j) := by
  intro j hj
  rcases (show j = 0 ∨ j = 1 ∨ j = 2 ∨ j = 3 by omega) with rfl | rfl | rfl | rfl <;> rfl
theorem amb_str (hv : v = .null ∨ v = .ref (a 81)) : Str (l, D, a, k, GMd a n xs v) := by
  refine ⟨⟨fun A s h => h.2.1.1, fun A s h => h.2.1.2.1, fun A s h => h.2.1.2.2.1, fR, fR_w, fun A s h => h.2.1.2.2.2⟩, ⟨fun A s h => h.2.2.1.1, fun A s h => h.2.2.1.2.1, fun A s h => h.2.2.1.2.2.1, fD, fD_w, fun A s h => h.2.2.1.2.2.2⟩, fun A s h => h.2.2.2.1.1, fun A s h => h.2.2.2.1.2.1, fun A s h => h.2.2.2.2.1.1, ?_⟩
  rcases hv with rfl | rfl
  · exact ⟨.null, rfl, ⟨_, rfl⟩, Or.inl rfl, fun A s h => h.2.2.2.2.1.2⟩
  · exact ⟨.ref 81, rfl, ⟨_, rfl⟩, Or.inr rfl, fun A s h => h.2.2.2.2.1.2⟩
end AMB
theorem st_of {args : Array Value} {s : State} {A : Nat → Prop} {own : String} {k : Nat} {bs : List Int32} (hex : (Cond.exactly (.string own k) "java/lang/String").before args s = true) (hco : (Cond.eq (.field (.string own k) "java/lang/String" "coder" "B") (.int 0)).before args s = true) (har : (Cond.arrayOf (.field (.string own k) "java/lang/String" "value" "[B") .byte).before args s = true) (hle : (Cond.eq (.length (.field (.string own k) "java/lang/String" "value" "[B")) (.int 4)).before args s = true)
    (hel : ∀ j : Nat, j < 4 → (Cond.eq (.elem (.field (.string own k) "java/lang/String" "value" "[B") (.int (Int32.ofNat j))) (.int ((([bs] : List (List Int32)).getD 0 []).getD j 0))).before args s = true) (hA : ∀ a : Nat, a < s.heap.size → ¬ A a) :
    ∃ t b : Nat, (Term.string own k).eval args s none [] s = some (.ref t) ∧ StO t b (fun j => .int ((([bs] : List (List Int32)).getD 0 []).getD j 0)) A s s.heap := by
  have h1 : ∀ {i : Nat}, i < 1 → i = 0 := fun h => by omega
  obtain ⟨aK, aV, h, he⟩ := vk_Sof (args := args) (s := s) (N := 1) (tm := fun _ => .string own k) (len := [4]) (byt := [bs]) (A := A) (fun i hi => by cases h1 hi; decide) (fun _ _ => hex) (fun _ _ => hco) (fun _ _ => har) (fun i hi => by cases h1 hi; exact hle) (fun i hi j hj => by cases h1 hi; exact hel j hj) (fun i j hi hj hn => absurd ((h1 hi).trans (h1 hj).symm) hn) hA
  exact ⟨aK 0, aV 0, he 0 (by decide), h.1 0 (by decide)⟩
