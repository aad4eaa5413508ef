/-! ===== the ambient facts at the law's entry ===== -/
theorem lt4 {j : Nat} (h : j < 4) : j = 0 ∨ j = 1 ∨ j = 2 ∨ j = 3 := by omega
theorem amb_of {s : State} {b n : Nat} {xs : Nat → Int32} {args : Array Value} (hts : ∀ w ∈ lw_tbl, w.before args s = true) (hX : va_X b n xs s s.heap) (hbl : b < s.heap.size) (hgv : (Jvm.Cond.and given_1 narrow_1).before args s = true) :
    ∃ (g1 g2 g3 g4 g5 g6 : Nat) (v : Value), (v = .null ∨ v = .ref g5) ∧ ∀ a : Nat → Nat, a 76 = b → a 77 = g1 → a 78 = g2 → a 79 = g3 → a 80 = g4 → a 82 = g6 → GMd a n xs v (fun q => s.heap.size ≤ q) s := by
  have hs := flat_of_before _ hgv
  have hA : ∀ a : Nat, a < s.heap.size → ¬ s.heap.size ≤ a := fun a h => Nat.not_le.mpr h
  obtain ⟨g1, g3, e1, h1⟩ := st_of (own := "DoorReaderModel") (k := 140) (bs := [114, 111, 111, 109]) (A := fun q => s.heap.size ≤ q) (hs _ (by decide +kernel)) (hs _ (by decide +kernel)) (hs _ (by decide +kernel)) (hs _ (by decide +kernel)) (fun j hj => by rcases lt4 hj with rfl | rfl | rfl | rfl <;> exact hs _ (by decide +kernel)) hA
  obtain ⟨g2, g4, e2, h2⟩ := st_of (own := "DoorReaderModel") (k := 146) (bs := [100, 111, 111, 114]) (A := fun q => s.heap.size ≤ q) (hs _ (by decide +kernel)) (hs _ (by decide +kernel)) (hs _ (by decide +kernel)) (hs _ (by decide +kernel)) (fun j hj => by rcases lt4 hj with rfl | rfl | rfl | rfl <;> exact hs _ (by decide +kernel)) hA
  obtain ⟨g6, -, -, -, e6, -⟩ := Cond.exactly_spec (args := args) (first := s) (o := none) (s := s) (idx := []) (t := .string "DoorReader" 133) (cls := "java/lang/String") (hs _ (by decide +kernel))
  have z1 : va_Z RJ0 "COMPACT_STRINGS" "Z" (.int 1) (fun q => s.heap.size ≤ q) s s.heap := va_Zof (args := args) (hts _ (by decide +kernel)) (hts _ (by decide +kernel)) (va_eqi (hs _ (by decide +kernel))) hA
  have z2 : va_Zq RJ3 "SIOOBE_FORMATTER" "Ljava/util/function/BiFunction;" (fun q => s.heap.size ≤ q) s s.heap := va_Zqof (args := args) (hts _ (by decide +kernel)) (hts _ (by decide +kernel)) (hs _ (by decide +kernel)) hA
  have w1 : vx_Zq Bundle.tN "UNASSIGNED_STACK" Bundle.steD (fun q => s.heap.size ≤ q) s s.heap := vx_Zqof (args := args) (hts _ (by decide +kernel)) (hts _ (by decide +kernel)) (hs _ (by decide +kernel)) hA
  have w2 : vx_Zq Bundle.tN "SUPPRESSED_SENTINEL" Bundle.listD (fun q => s.heap.size ≤ q) s s.heap := vx_Zqof (args := args) (hts _ (by decide +kernel)) (hts _ (by decide +kernel)) (hs _ (by decide +kernel)) hA
  have hN : ∀ w ∈ xB, va_Nw w s := fun w hw => va_Nw.of (xB_t w hw) (hts w ((show ∀ w ∈ xB, w ∈ lw_tbl by decide +kernel) w hw))
  have r1 : vk_R RX8 140 "room" g1 s := vk_R.of (A := args) (hts (.stringRef RX8 140 "room") (by decide +kernel)) e1
  have r2 : vk_R RX8 146 "door" g2 s := vk_R.of (A := args) (hts (.stringRef RX8 146 "door") (by decide +kernel)) e2
  have r6 : vk_R RX7 133 "no such card, tick or room" g6 s := vk_R.of (A := args) (hts (.stringRef RX7 133 "no such card, tick or room") (by decide +kernel)) e6
  have hv : ∃ (g5 : Nat) (v : Value), (v = .null ∨ v = .ref g5) ∧ va_Z RJ3 "SIOOBE_FORMATTER" "Ljava/util/function/BiFunction;" v (fun q => s.heap.size ≤ q) s s.heap := by
    rcases z2 with h | ⟨t, h⟩
    · exact ⟨0, .null, Or.inl rfl, h⟩
    · exact ⟨t, .ref t, Or.inr rfl, h⟩
  obtain ⟨g5, v, hv, z2⟩ := hv
  refine ⟨g1, g2, g3, g4, g5, g6, v, hv, fun a a0 a1 a2 a3 a4 a6 => ?_⟩
  unfold GMd
  rw [a0, a1, a2, a3, a4, a6]
  exact ⟨⟨hX, hbl, Nat.not_le.mpr hbl⟩, h1, h2, ⟨r1, r2, r6⟩, ⟨z1, z2⟩, ⟨w1, w2⟩, hN⟩
