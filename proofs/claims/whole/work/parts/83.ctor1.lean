set_option maxRecDepth 100000 in
set_option maxHeartbeats 4000000 in
theorem n_X5 (l : Launch) (D : va_G) (k0 k1 k2 k3 : ClassId) (h0 sz a1 : Nat) : Met l yX5_init (wsM M_X5_init) ({ frames := 2, cells := 0, slots := 0, locals := 62 } : Room) (va_Pc [.ref h0, .ref a1] (fun U => U.heap.size = sz ∧ va_P D vwCl [(h0, .inr (5, [.null, .int 0, .int 0, .int 0, .int 0, .int 0, .long 0, .int 0, .int 0]))] U.heap ∧ va_K D vwCl (TYk k0 k1 k2 k3) U ∧ va_D (fun _ => True) [(h0, .inr (5, [.null, .int 0, .int 0, .int 0, .int 0, .int 0, .long 0, .int 0, .int 0]))])) (va_Qv (fun _ : Nat → Nat => True) (fun u t => va_P D vwCl [(h0, .inr (5, [.ref a1, .int 0, .int 0, .int 0, .int 0, .int 0, .long 0, .int 0, .int 0]))] t.heap ∧ va_K D vwCl (TYk k0 k1 k2 k3) t ∧ va_D (va_A [(h0, .inr (5, [.null, .int 0, .int 0, .int 0, .int 0, .int 0, .long 0, .int 0, .int 0]))] sz) [(h0, .inr (5, [.ref a1, .int 0, .int 0, .int 0, .int 0, .int 0, .long 0, .int 0, .int 0]))]) (va_A [(h0, .inr (5, [.null, .int 0, .int 0, .int 0, .int 0, .int 0, .long 0, .int 0, .int 0]))] sz)) 0 0 (va_A [(h0, .inr (5, [.null, .int 0, .int 0, .int 0, .int 0, .int 0, .long 0, .int 0, .int 0]))] sz) := by
  refine Met.ofW (cc := cX5_init) (maxL := 2) (ret := none) (by decide +kernel) rfl ?_
  intro p e s m args below meth c s₁ B hml hv
  obtain ⟨rfl, hsz, hP, hK, hD0⟩ := hv
  have hx := B.exec
  have hb := B.bytes
  have hr := B.returns
  have hts0 := atoms_spec (ws := wsM M_X5_init) B.pre
  have hts : ∀ w ∈ TB, w.before ([.ref h0, .ref a1] : List Value).toArray s = true := fun w hw => hts0 w (List.mem_cons_of_mem _ hw)
  have hown : s.vm.findClass RX5 = some m.cls := findClass_of_methodNamed B.named
  have hin : meth.name = "<init>" := (name_of_methodNamed B.named B.method).1
  subst hsz
  have hD := hD0.self (sz := s.heap.size)
  generalize hAe : va_A [(h0, .inr (5, [.null, .int 0, .int 0, .int 0, .int 0, .int 0, .long 0, .int 0, .int 0]))] s.heap.size = A at hD ⊢
  have hA : ∀ q : Nat, s.heap.size ≤ q → A q := fun q h => by rw [← hAe]; exact Or.inr h
  have hS : va_S A s.heap s.heap [] := va_S.rf
  have hl := lv_entry ([.ref h0, .ref a1]) (n := 2) (Nat.le_of_ble_eq_true rfl)
  rw [lg_entry_eq]
  generalize (lg_sl ([.ref h0, .ref a1]) ++ List.replicate (2 - (lg_sl ([.ref h0, .ref a1])).length) Slot.unset).toArray = ls at hl ⊢
  have hl : lv_has ls 2 [(0, .ref h0), (1, .ref a1)] := hl
  refine lv_aload_n hx hb dX5_init_0 rfl (lv_at hl 0 rfl) ?_
  refine W.objInit hx hb hown (hts _ oi_5) (hts _ oi_i) (hts _ oi_c) rfl (by rw [hml]; exact hl.1) rfl dX5_init_1 (Nat.le_of_ble_eq_true rfl) (Nat.le_of_ble_eq_true rfl) ?_
  refine W.eq (g2 := F0 m 4 ls []) rfl ?_
  refine lv_aload_n hx hb dX5_init_4 rfl (lv_at hl 0 rfl) ?_
  refine lv_aload_n hx hb dX5_init_5 rfl (lv_at hl 1 rfl) ?_
  refine va_putF (D := D) (ci := 5) (v := .ref a1) (ty := (.array .byte)) (C := RX5) (T := TX5) (N := 9) hx hb hts in5 tyX5 tyX5_ok nmX5 hown hK hP hD hS 0 rfl rfl 0 (by decide) (hts _ fi_X5_9) (fun _ h9 => h9) rfl hin rfl (by decide +kernel) rfl rfl (Nat.le_of_ble_eq_true rfl) dX5_init_6 (fun H locs hP hD hS => ?_)
  have hP : va_P D vwCl [(h0, .inr (5, [.ref a1, .int 0, .int 0, .int 0, .int 0, .int 0, .long 0, .int 0, .int 0]))] H := hP
  have hD : va_D A [(h0, .inr (5, [.ref a1, .int 0, .int 0, .int 0, .int 0, .int 0, .long 0, .int 0, .int 0]))] := hD
  refine W.widen (k := 0) (n := 0) (Nat.le_of_ble_eq_true rfl) (Nat.le_of_ble_eq_true rfl) ?_
  exact W.vret hx hb hr (fun t ht hW => ⟨⟨fun k => ([] : List Nat).getD k 0, rfl, trivial, by rw [ht]; exact hP, va_K.moved hW.alike hK, hD⟩, hS.F ht⟩) hS.2.2 dX5_init_9 B.notSynchronized
set_option maxRecDepth 100000 in
set_option maxHeartbeats 4000000 in
theorem n_X0 (l : Launch) (D : va_G) (k0 k1 k2 k3 : ClassId) (h0 sz a1 a2 : Nat) : Met l yX0_init (wsM M_X0_init) ({ frames := 2, cells := 1, slots := 8, locals := 62 } : Room) (va_Pc [.ref h0, .ref a1, .ref a2] (fun U => U.heap.size = sz ∧ va_P D vwCl [(h0, .inr (0, [.null, .null, .null]))] U.heap ∧ va_K D vwCl (TYk k0 k1 k2 k3) U ∧ va_D (fun _ => True) [(h0, .inr (0, [.null, .null, .null]))])) (va_Qv (fun _ : Nat → Nat => True) (fun u t => va_P D vwCl [(h0, .inr (0, [.ref a1, .ref a2, .ref (u 0)])), ((u 0), .inl (k0, 8, .inl (fun _ => 0)))] t.heap ∧ va_K D vwCl (TYk k0 k1 k2 k3) t ∧ va_D (va_A [(h0, .inr (0, [.null, .null, .null]))] sz) [(h0, .inr (0, [.ref a1, .ref a2, .ref (u 0)])), ((u 0), .inl (k0, 8, .inl (fun _ => 0)))]) (va_A [(h0, .inr (0, [.null, .null, .null]))] sz)) 1 8 (va_A [(h0, .inr (0, [.null, .null, .null]))] sz) := by
  refine Met.ofW (cc := cX0_init) (maxL := 3) (ret := none) (by decide +kernel) rfl ?_
  intro p e s m args below meth c s₁ B hml hv
  obtain ⟨rfl, hsz, hP, hK, hD0⟩ := hv
  have hx := B.exec
  have hb := B.bytes
  have hr := B.returns
  have hts0 := atoms_spec (ws := wsM M_X0_init) B.pre
  have hts : ∀ w ∈ TB, w.before ([.ref h0, .ref a1, .ref a2] : List Value).toArray s = true := fun w hw => hts0 w (List.mem_cons_of_mem _ hw)
  have hown : s.vm.findClass RX0 = some m.cls := findClass_of_methodNamed B.named
  have hin : meth.name = "<init>" := (name_of_methodNamed B.named B.method).1
  subst hsz
  have hD := hD0.self (sz := s.heap.size)
  generalize hAe : va_A [(h0, .inr (0, [.null, .null, .null]))] s.heap.size = A at hD ⊢
  have hA : ∀ q : Nat, s.heap.size ≤ q → A q := fun q h => by rw [← hAe]; exact Or.inr h
  have hS : va_S A s.heap s.heap [] := va_S.rf
  have hl := lv_entry ([.ref h0, .ref a1, .ref a2]) (n := 3) (Nat.le_of_ble_eq_true rfl)
  rw [lg_entry_eq]
  generalize (lg_sl ([.ref h0, .ref a1, .ref a2]) ++ List.replicate (3 - (lg_sl ([.ref h0, .ref a1, .ref a2])).length) Slot.unset).toArray = ls at hl ⊢
  have hl : lv_has ls 3 [(0, .ref h0), (1, .ref a1), (2, .ref a2)] := hl
  refine lv_aload_n hx hb dX0_init_0 rfl (lv_at hl 0 rfl) ?_
  refine W.objInit hx hb hown (hts _ oi_0) (hts _ oi_i) (hts _ oi_c) rfl (by rw [hml]; exact hl.1) rfl dX0_init_1 (Nat.le_of_ble_eq_true rfl) (Nat.le_of_ble_eq_true rfl) ?_
  refine W.eq (g2 := F0 m 4 ls []) rfl ?_
  refine lv_aload_n hx hb dX0_init_4 rfl (lv_at hl 0 rfl) ?_
  refine lv_bipush (v := (8 : Int32)) hx hb dX0_init_5 (by decide) ?_
  refine nw_newa (atype := .int) (ty := .int) (N' := 8) (a0 := (8, .inl (fun _ => 0))) hx hb (hts _ ar_int) rfl hK 0 (cT := k0) rfl (fun _ _ h => h) hP hD hS hA (fun _ => rfl) (by decide) (by decide) (by decide) (Nat.le_of_ble_eq_true rfl) (Nat.le_of_ble_eq_true rfl) dX0_init_7 (fun q7 H hP hD hS => ?_)
  have hP : va_P D vwCl [(h0, .inr (0, [.null, .null, .null])), (q7, .inl (k0, 8, .inl (fun _ => 0)))] H := hP
  have hD : va_D A [(h0, .inr (0, [.null, .null, .null])), (q7, .inl (k0, 8, .inl (fun _ => 0)))] := hD
  refine va_putF (D := D) (ci := 0) (v := .ref q7) (ty := (.array .int)) (C := RX0) (T := TX0) (N := 3) hx hb hts in0 tyX0 tyX0_ok nmX0 hown hK hP hD hS 0 rfl rfl 2 (by decide) (hts _ fi_X0_9) (fun _ h9 => h9) rfl hin rfl (by decide +kernel) rfl rfl (Nat.le_of_ble_eq_true rfl) dX0_init_9 (fun H locs hP hD hS => ?_)
  have hP : va_P D vwCl [(h0, .inr (0, [.null, .null, .ref q7])), (q7, .inl (k0, 8, .inl (fun _ => 0)))] H := hP
  have hD : va_D A [(h0, .inr (0, [.null, .null, .ref q7])), (q7, .inl (k0, 8, .inl (fun _ => 0)))] := hD
  refine lv_aload_n hx hb dX0_init_12 rfl (lv_at hl 0 rfl) ?_
  refine lv_aload_n hx hb dX0_init_13 rfl (lv_at hl 1 rfl) ?_
  refine va_putF (D := D) (ci := 0) (v := .ref a1) (ty := (.object "DoorReader$Plan")) (C := RX0) (T := TX0) (N := 3) hx hb hts in0 tyX0 tyX0_ok nmX0 hown hK hP hD hS 0 rfl rfl 0 (by decide) (hts _ fi_X0_15) (fun _ h9 => h9) rfl hin rfl (by decide +kernel) rfl rfl (Nat.le_of_ble_eq_true rfl) dX0_init_14 (fun H locs hP hD hS => ?_)
  have hP : va_P D vwCl [(h0, .inr (0, [.ref a1, .null, .ref q7])), (q7, .inl (k0, 8, .inl (fun _ => 0)))] H := hP
  have hD : va_D A [(h0, .inr (0, [.ref a1, .null, .ref q7])), (q7, .inl (k0, 8, .inl (fun _ => 0)))] := hD
  refine lv_aload_n hx hb dX0_init_17 rfl (lv_at hl 0 rfl) ?_
  refine lv_aload_n hx hb dX0_init_18 rfl (lv_at hl 2 rfl) ?_
  refine va_putF (D := D) (ci := 0) (v := .ref a2) (ty := (.object "DoorReader$LogBook")) (C := RX0) (T := TX0) (N := 3) hx hb hts in0 tyX0 tyX0_ok nmX0 hown hK hP hD hS 0 rfl rfl 1 (by decide) (hts _ fi_X0_19) (fun _ h9 => h9) rfl hin rfl (by decide +kernel) rfl rfl (Nat.le_of_ble_eq_true rfl) dX0_init_19 (fun H locs hP hD hS => ?_)
  have hP : va_P D vwCl [(h0, .inr (0, [.ref a1, .ref a2, .ref q7])), (q7, .inl (k0, 8, .inl (fun _ => 0)))] H := hP
  have hD : va_D A [(h0, .inr (0, [.ref a1, .ref a2, .ref q7])), (q7, .inl (k0, 8, .inl (fun _ => 0)))] := hD
  refine W.widen (k := 1) (n := 8) (Nat.le_of_ble_eq_true rfl) (Nat.le_of_ble_eq_true rfl) ?_
  exact W.vret hx hb hr (fun t ht hW => ⟨⟨fun k => ([q7] : List Nat).getD k 0, rfl, trivial, by rw [ht]; exact hP, va_K.moved hW.alike hK, hD⟩, hS.F ht⟩) hS.2.2 dX0_init_22 B.notSynchronized
set_option maxRecDepth 100000 in
set_option maxHeartbeats 4000000 in
theorem n_X2 (l : Launch) (D : va_G) (k0 k1 k2 k3 : ClassId) (h0 sz : Nat) : Met l yX2_init (wsM M_X2_init) ({ frames := 2, cells := 5, slots := 500, locals := 62 } : Room) (va_Pc [.ref h0] (fun U => U.heap.size = sz ∧ va_P D vwCl [(h0, .inr (2, [.int 0, .null, .null, .null, .null, .null]))] U.heap ∧ va_K D vwCl (TYk k0 k1 k2 k3) U ∧ va_D (fun _ => True) [(h0, .inr (2, [.int 0, .null, .null, .null, .null, .null]))])) (va_Qv (fun _ : Nat → Nat => True) (fun u t => va_P D vwCl [(h0, .inr (2, [.int 0, .ref (u 0), .ref (u 1), .ref (u 2), .ref (u 3), .ref (u 4)])), ((u 0), .inl (k0, 100, .inl (fun _ => 0))), ((u 1), .inl (k0, 100, .inl (fun _ => 0))), ((u 2), .inl (k0, 100, .inl (fun _ => 0))), ((u 3), .inl (k0, 100, .inl (fun _ => 0))), ((u 4), .inl (k0, 100, .inl (fun _ => 0)))] t.heap ∧ va_K D vwCl (TYk k0 k1 k2 k3) t ∧ va_D (va_A [(h0, .inr (2, [.int 0, .null, .null, .null, .null, .null]))] sz) [(h0, .inr (2, [.int 0, .ref (u 0), .ref (u 1), .ref (u 2), .ref (u 3), .ref (u 4)])), ((u 0), .inl (k0, 100, .inl (fun _ => 0))), ((u 1), .inl (k0, 100, .inl (fun _ => 0))), ((u 2), .inl (k0, 100, .inl (fun _ => 0))), ((u 3), .inl (k0, 100, .inl (fun _ => 0))), ((u 4), .inl (k0, 100, .inl (fun _ => 0)))]) (va_A [(h0, .inr (2, [.int 0, .null, .null, .null, .null, .null]))] sz)) 5 500 (va_A [(h0, .inr (2, [.int 0, .null, .null, .null, .null, .null]))] sz) := by
  refine Met.ofW (cc := cX2_init) (maxL := 1) (ret := none) (by decide +kernel) rfl ?_
  intro p e s m args below meth c s₁ B hml hv
  obtain ⟨rfl, hsz, hP, hK, hD0⟩ := hv
  have hx := B.exec
  have hb := B.bytes
  have hr := B.returns
  have hts0 := atoms_spec (ws := wsM M_X2_init) B.pre
  have hts : ∀ w ∈ TB, w.before ([.ref h0] : List Value).toArray s = true := fun w hw => hts0 w (List.mem_cons_of_mem _ hw)
  have hown : s.vm.findClass RX2 = some m.cls := findClass_of_methodNamed B.named
  have hin : meth.name = "<init>" := (name_of_methodNamed B.named B.method).1
  subst hsz
  have hD := hD0.self (sz := s.heap.size)
  generalize hAe : va_A [(h0, .inr (2, [.int 0, .null, .null, .null, .null, .null]))] s.heap.size = A at hD ⊢
  have hA : ∀ q : Nat, s.heap.size ≤ q → A q := fun q h => by rw [← hAe]; exact Or.inr h
  have hS : va_S A s.heap s.heap [] := va_S.rf
  have hl := lv_entry ([.ref h0]) (n := 1) (Nat.le_of_ble_eq_true rfl)
  rw [lg_entry_eq]
  generalize (lg_sl ([.ref h0]) ++ List.replicate (1 - (lg_sl ([.ref h0])).length) Slot.unset).toArray = ls at hl ⊢
  have hl : lv_has ls 1 [(0, .ref h0)] := hl
  refine lv_aload_n hx hb dX2_init_0 rfl (lv_at hl 0 rfl) ?_
  refine W.objInit hx hb hown (hts _ oi_2) (hts _ oi_i) (hts _ oi_c) rfl (by rw [hml]; exact hl.1) rfl dX2_init_1 (Nat.le_of_ble_eq_true rfl) (Nat.le_of_ble_eq_true rfl) ?_
  refine W.eq (g2 := F0 m 4 ls []) rfl ?_
  refine lv_aload_n hx hb dX2_init_4 rfl (lv_at hl 0 rfl) ?_
  refine lv_bipush (v := (100 : Int32)) hx hb dX2_init_5 (by decide) ?_
  refine nw_newa (atype := .int) (ty := .int) (N' := 100) (a0 := (100, .inl (fun _ => 0))) hx hb (hts _ ar_int) rfl hK 0 (cT := k0) rfl (fun _ _ h => h) hP hD hS hA (fun _ => rfl) (by decide) (by decide) (by decide) (Nat.le_of_ble_eq_true rfl) (Nat.le_of_ble_eq_true rfl) dX2_init_7 (fun q7 H hP hD hS => ?_)
  have hP : va_P D vwCl [(h0, .inr (2, [.int 0, .null, .null, .null, .null, .null])), (q7, .inl (k0, 100, .inl (fun _ => 0)))] H := hP
  have hD : va_D A [(h0, .inr (2, [.int 0, .null, .null, .null, .null, .null])), (q7, .inl (k0, 100, .inl (fun _ => 0)))] := hD
  refine va_putF (D := D) (ci := 2) (v := .ref q7) (ty := (.array .int)) (C := RX2) (T := TX2) (N := 6) hx hb hts in2 tyX2 tyX2_ok nmX2 hown hK hP hD hS 0 rfl rfl 1 (by decide) (hts _ fi_X2_9) (fun _ h9 => h9) rfl hin rfl (by decide +kernel) rfl rfl (Nat.le_of_ble_eq_true rfl) dX2_init_9 (fun H locs hP hD hS => ?_)
  have hP : va_P D vwCl [(h0, .inr (2, [.int 0, .ref q7, .null, .null, .null, .null])), (q7, .inl (k0, 100, .inl (fun _ => 0)))] H := hP
  have hD : va_D A [(h0, .inr (2, [.int 0, .ref q7, .null, .null, .null, .null])), (q7, .inl (k0, 100, .inl (fun _ => 0)))] := hD
  refine lv_aload_n hx hb dX2_init_12 rfl (lv_at hl 0 rfl) ?_
  refine lv_bipush (v := (100 : Int32)) hx hb dX2_init_13 (by decide) ?_
  refine nw_newa (atype := .int) (ty := .int) (N' := 100) (a0 := (100, .inl (fun _ => 0))) hx hb (hts _ ar_int) rfl hK 0 (cT := k0) rfl (fun _ _ h => h) hP hD hS hA (fun _ => rfl) (by decide) (by decide) (by decide) (Nat.le_of_ble_eq_true rfl) (Nat.le_of_ble_eq_true rfl) dX2_init_15 (fun q15 H hP hD hS => ?_)
  have hP : va_P D vwCl [(h0, .inr (2, [.int 0, .ref q7, .null, .null, .null, .null])), (q7, .inl (k0, 100, .inl (fun _ => 0))), (q15, .inl (k0, 100, .inl (fun _ => 0)))] H := hP
  have hD : va_D A [(h0, .inr (2, [.int 0, .ref q7, .null, .null, .null, .null])), (q7, .inl (k0, 100, .inl (fun _ => 0))), (q15, .inl (k0, 100, .inl (fun _ => 0)))] := hD
  refine va_putF (D := D) (ci := 2) (v := .ref q15) (ty := (.array .int)) (C := RX2) (T := TX2) (N := 6) hx hb hts in2 tyX2 tyX2_ok nmX2 hown hK hP hD hS 0 rfl rfl 2 (by decide) (hts _ fi_X2_15) (fun _ h9 => h9) rfl hin rfl (by decide +kernel) rfl rfl (Nat.le_of_ble_eq_true rfl) dX2_init_17 (fun H locs hP hD hS => ?_)
  have hP : va_P D vwCl [(h0, .inr (2, [.int 0, .ref q7, .ref q15, .null, .null, .null])), (q7, .inl (k0, 100, .inl (fun _ => 0))), (q15, .inl (k0, 100, .inl (fun _ => 0)))] H := hP
  have hD : va_D A [(h0, .inr (2, [.int 0, .ref q7, .ref q15, .null, .null, .null])), (q7, .inl (k0, 100, .inl (fun _ => 0))), (q15, .inl (k0, 100, .inl (fun _ => 0)))] := hD
  refine lv_aload_n hx hb dX2_init_20 rfl (lv_at hl 0 rfl) ?_
  refine lv_bipush (v := (100 : Int32)) hx hb dX2_init_21 (by decide) ?_
  refine nw_newa (atype := .int) (ty := .int) (N' := 100) (a0 := (100, .inl (fun _ => 0))) hx hb (hts _ ar_int) rfl hK 0 (cT := k0) rfl (fun _ _ h => h) hP hD hS hA (fun _ => rfl) (by decide) (by decide) (by decide) (Nat.le_of_ble_eq_true rfl) (Nat.le_of_ble_eq_true rfl) dX2_init_23 (fun q23 H hP hD hS => ?_)
  have hP : va_P D vwCl [(h0, .inr (2, [.int 0, .ref q7, .ref q15, .null, .null, .null])), (q7, .inl (k0, 100, .inl (fun _ => 0))), (q15, .inl (k0, 100, .inl (fun _ => 0))), (q23, .inl (k0, 100, .inl (fun _ => 0)))] H := hP
  have hD : va_D A [(h0, .inr (2, [.int 0, .ref q7, .ref q15, .null, .null, .null])), (q7, .inl (k0, 100, .inl (fun _ => 0))), (q15, .inl (k0, 100, .inl (fun _ => 0))), (q23, .inl (k0, 100, .inl (fun _ => 0)))] := hD
  refine va_putF (D := D) (ci := 2) (v := .ref q23) (ty := (.array .int)) (C := RX2) (T := TX2) (N := 6) hx hb hts in2 tyX2 tyX2_ok nmX2 hown hK hP hD hS 0 rfl rfl 3 (by decide) (hts _ fi_X2_18) (fun _ h9 => h9) rfl hin rfl (by decide +kernel) rfl rfl (Nat.le_of_ble_eq_true rfl) dX2_init_25 (fun H locs hP hD hS => ?_)
  have hP : va_P D vwCl [(h0, .inr (2, [.int 0, .ref q7, .ref q15, .ref q23, .null, .null])), (q7, .inl (k0, 100, .inl (fun _ => 0))), (q15, .inl (k0, 100, .inl (fun _ => 0))), (q23, .inl (k0, 100, .inl (fun _ => 0)))] H := hP
  have hD : va_D A [(h0, .inr (2, [.int 0, .ref q7, .ref q15, .ref q23, .null, .null])), (q7, .inl (k0, 100, .inl (fun _ => 0))), (q15, .inl (k0, 100, .inl (fun _ => 0))), (q23, .inl (k0, 100, .inl (fun _ => 0)))] := hD
  refine lv_aload_n hx hb dX2_init_28 rfl (lv_at hl 0 rfl) ?_
  refine lv_bipush (v := (100 : Int32)) hx hb dX2_init_29 (by decide) ?_
  refine nw_newa (atype := .int) (ty := .int) (N' := 100) (a0 := (100, .inl (fun _ => 0))) hx hb (hts _ ar_int) rfl hK 0 (cT := k0) rfl (fun _ _ h => h) hP hD hS hA (fun _ => rfl) (by decide) (by decide) (by decide) (Nat.le_of_ble_eq_true rfl) (Nat.le_of_ble_eq_true rfl) dX2_init_31 (fun q31 H hP hD hS => ?_)
  have hP : va_P D vwCl [(h0, .inr (2, [.int 0, .ref q7, .ref q15, .ref q23, .null, .null])), (q7, .inl (k0, 100, .inl (fun _ => 0))), (q15, .inl (k0, 100, .inl (fun _ => 0))), (q23, .inl (k0, 100, .inl (fun _ => 0))), (q31, .inl (k0, 100, .inl (fun _ => 0)))] H := hP
  have hD : va_D A [(h0, .inr (2, [.int 0, .ref q7, .ref q15, .ref q23, .null, .null])), (q7, .inl (k0, 100, .inl (fun _ => 0))), (q15, .inl (k0, 100, .inl (fun _ => 0))), (q23, .inl (k0, 100, .inl (fun _ => 0))), (q31, .inl (k0, 100, .inl (fun _ => 0)))] := hD
  refine va_putF (D := D) (ci := 2) (v := .ref q31) (ty := (.array .int)) (C := RX2) (T := TX2) (N := 6) hx hb hts in2 tyX2 tyX2_ok nmX2 hown hK hP hD hS 0 rfl rfl 4 (by decide) (hts _ fi_X2_21) (fun _ h9 => h9) rfl hin rfl (by decide +kernel) rfl rfl (Nat.le_of_ble_eq_true rfl) dX2_init_33 (fun H locs hP hD hS => ?_)
  have hP : va_P D vwCl [(h0, .inr (2, [.int 0, .ref q7, .ref q15, .ref q23, .ref q31, .null])), (q7, .inl (k0, 100, .inl (fun _ => 0))), (q15, .inl (k0, 100, .inl (fun _ => 0))), (q23, .inl (k0, 100, .inl (fun _ => 0))), (q31, .inl (k0, 100, .inl (fun _ => 0)))] H := hP
  have hD : va_D A [(h0, .inr (2, [.int 0, .ref q7, .ref q15, .ref q23, .ref q31, .null])), (q7, .inl (k0, 100, .inl (fun _ => 0))), (q15, .inl (k0, 100, .inl (fun _ => 0))), (q23, .inl (k0, 100, .inl (fun _ => 0))), (q31, .inl (k0, 100, .inl (fun _ => 0)))] := hD
  refine lv_aload_n hx hb dX2_init_36 rfl (lv_at hl 0 rfl) ?_
  refine lv_bipush (v := (100 : Int32)) hx hb dX2_init_37 (by decide) ?_
  refine nw_newa (atype := .int) (ty := .int) (N' := 100) (a0 := (100, .inl (fun _ => 0))) hx hb (hts _ ar_int) rfl hK 0 (cT := k0) rfl (fun _ _ h => h) hP hD hS hA (fun _ => rfl) (by decide) (by decide) (by decide) (Nat.le_of_ble_eq_true rfl) (Nat.le_of_ble_eq_true rfl) dX2_init_39 (fun q39 H hP hD hS => ?_)
  have hP : va_P D vwCl [(h0, .inr (2, [.int 0, .ref q7, .ref q15, .ref q23, .ref q31, .null])), (q7, .inl (k0, 100, .inl (fun _ => 0))), (q15, .inl (k0, 100, .inl (fun _ => 0))), (q23, .inl (k0, 100, .inl (fun _ => 0))), (q31, .inl (k0, 100, .inl (fun _ => 0))), (q39, .inl (k0, 100, .inl (fun _ => 0)))] H := hP
  have hD : va_D A [(h0, .inr (2, [.int 0, .ref q7, .ref q15, .ref q23, .ref q31, .null])), (q7, .inl (k0, 100, .inl (fun _ => 0))), (q15, .inl (k0, 100, .inl (fun _ => 0))), (q23, .inl (k0, 100, .inl (fun _ => 0))), (q31, .inl (k0, 100, .inl (fun _ => 0))), (q39, .inl (k0, 100, .inl (fun _ => 0)))] := hD
  refine va_putF (D := D) (ci := 2) (v := .ref q39) (ty := (.array .int)) (C := RX2) (T := TX2) (N := 6) hx hb hts in2 tyX2 tyX2_ok nmX2 hown hK hP hD hS 0 rfl rfl 5 (by decide) (hts _ fi_X2_24) (fun _ h9 => h9) rfl hin rfl (by decide +kernel) rfl rfl (Nat.le_of_ble_eq_true rfl) dX2_init_41 (fun H locs hP hD hS => ?_)
  have hP : va_P D vwCl [(h0, .inr (2, [.int 0, .ref q7, .ref q15, .ref q23, .ref q31, .ref q39])), (q7, .inl (k0, 100, .inl (fun _ => 0))), (q15, .inl (k0, 100, .inl (fun _ => 0))), (q23, .inl (k0, 100, .inl (fun _ => 0))), (q31, .inl (k0, 100, .inl (fun _ => 0))), (q39, .inl (k0, 100, .inl (fun _ => 0)))] H := hP
  have hD : va_D A [(h0, .inr (2, [.int 0, .ref q7, .ref q15, .ref q23, .ref q31, .ref q39])), (q7, .inl (k0, 100, .inl (fun _ => 0))), (q15, .inl (k0, 100, .inl (fun _ => 0))), (q23, .inl (k0, 100, .inl (fun _ => 0))), (q31, .inl (k0, 100, .inl (fun _ => 0))), (q39, .inl (k0, 100, .inl (fun _ => 0)))] := hD
  refine W.widen (k := 5) (n := 500) (Nat.le_of_ble_eq_true rfl) (Nat.le_of_ble_eq_true rfl) ?_
  exact W.vret hx hb hr (fun t ht hW => ⟨⟨fun k => ([q7, q15, q23, q31, q39] : List Nat).getD k 0, rfl, trivial, by rw [ht]; exact hP, va_K.moved hW.alike hK, hD⟩, hS.F ht⟩) hS.2.2 dX2_init_44 B.notSynchronized
set_option maxRecDepth 100000 in
set_option maxHeartbeats 4000000 in
theorem n_X4 (l : Launch) (D : va_G) (k0 k1 k2 k3 : ClassId) (h0 sz : Nat) : Met l yX4_init (wsM M_X4_init) ({ frames := 2, cells := 5, slots := 500, locals := 62 } : Room) (va_Pc [.ref h0] (fun U => U.heap.size = sz ∧ va_P D vwCl [(h0, .inr (4, [.int 0, .null, .null, .null, .null, .null]))] U.heap ∧ va_K D vwCl (TYk k0 k1 k2 k3) U ∧ va_D (fun _ => True) [(h0, .inr (4, [.int 0, .null, .null, .null, .null, .null]))])) (va_Qv (fun _ : Nat → Nat => True) (fun u t => va_P D vwCl [(h0, .inr (4, [.int 0, .ref (u 0), .ref (u 1), .ref (u 2), .ref (u 3), .ref (u 4)])), ((u 0), .inl (k0, 100, .inl (fun _ => 0))), ((u 1), .inl (k0, 100, .inl (fun _ => 0))), ((u 2), .inl (k0, 100, .inl (fun _ => 0))), ((u 3), .inl (k0, 100, .inl (fun _ => 0))), ((u 4), .inl (k3, 100, .inl (fun _ => 0)))] t.heap ∧ va_K D vwCl (TYk k0 k1 k2 k3) t ∧ va_D (va_A [(h0, .inr (4, [.int 0, .null, .null, .null, .null, .null]))] sz) [(h0, .inr (4, [.int 0, .ref (u 0), .ref (u 1), .ref (u 2), .ref (u 3), .ref (u 4)])), ((u 0), .inl (k0, 100, .inl (fun _ => 0))), ((u 1), .inl (k0, 100, .inl (fun _ => 0))), ((u 2), .inl (k0, 100, .inl (fun _ => 0))), ((u 3), .inl (k0, 100, .inl (fun _ => 0))), ((u 4), .inl (k3, 100, .inl (fun _ => 0)))]) (va_A [(h0, .inr (4, [.int 0, .null, .null, .null, .null, .null]))] sz)) 5 500 (va_A [(h0, .inr (4, [.int 0, .null, .null, .null, .null, .null]))] sz) := by
  refine Met.ofW (cc := cX4_init) (maxL := 1) (ret := none) (by decide +kernel) rfl ?_
  intro p e s m args below meth c s₁ B hml hv
  obtain ⟨rfl, hsz, hP, hK, hD0⟩ := hv
  have hx := B.exec
  have hb := B.bytes
  have hr := B.returns
  have hts0 := atoms_spec (ws := wsM M_X4_init) B.pre
  have hts : ∀ w ∈ TB, w.before ([.ref h0] : List Value).toArray s = true := fun w hw => hts0 w (List.mem_cons_of_mem _ hw)
  have hown : s.vm.findClass RX4 = some m.cls := findClass_of_methodNamed B.named
  have hin : meth.name = "<init>" := (name_of_methodNamed B.named B.method).1
  subst hsz
  have hD := hD0.self (sz := s.heap.size)
  generalize hAe : va_A [(h0, .inr (4, [.int 0, .null, .null, .null, .null, .null]))] s.heap.size = A at hD ⊢
  have hA : ∀ q : Nat, s.heap.size ≤ q → A q := fun q h => by rw [← hAe]; exact Or.inr h
  have hS : va_S A s.heap s.heap [] := va_S.rf
  have hl := lv_entry ([.ref h0]) (n := 1) (Nat.le_of_ble_eq_true rfl)
  rw [lg_entry_eq]
  generalize (lg_sl ([.ref h0]) ++ List.replicate (1 - (lg_sl ([.ref h0])).length) Slot.unset).toArray = ls at hl ⊢
  have hl : lv_has ls 1 [(0, .ref h0)] := hl
  refine lv_aload_n hx hb dX4_init_0 rfl (lv_at hl 0 rfl) ?_
  refine W.objInit hx hb hown (hts _ oi_4) (hts _ oi_i) (hts _ oi_c) rfl (by rw [hml]; exact hl.1) rfl dX4_init_1 (Nat.le_of_ble_eq_true rfl) (Nat.le_of_ble_eq_true rfl) ?_
  refine W.eq (g2 := F0 m 4 ls []) rfl ?_
  refine lv_aload_n hx hb dX4_init_4 rfl (lv_at hl 0 rfl) ?_
  refine lv_bipush (v := (100 : Int32)) hx hb dX4_init_5 (by decide) ?_
  refine nw_newa (atype := .int) (ty := .int) (N' := 100) (a0 := (100, .inl (fun _ => 0))) hx hb (hts _ ar_int) rfl hK 0 (cT := k0) rfl (fun _ _ h => h) hP hD hS hA (fun _ => rfl) (by decide) (by decide) (by decide) (Nat.le_of_ble_eq_true rfl) (Nat.le_of_ble_eq_true rfl) dX4_init_7 (fun q7 H hP hD hS => ?_)
  have hP : va_P D vwCl [(h0, .inr (4, [.int 0, .null, .null, .null, .null, .null])), (q7, .inl (k0, 100, .inl (fun _ => 0)))] H := hP
  have hD : va_D A [(h0, .inr (4, [.int 0, .null, .null, .null, .null, .null])), (q7, .inl (k0, 100, .inl (fun _ => 0)))] := hD
  refine va_putF (D := D) (ci := 4) (v := .ref q7) (ty := (.array .int)) (C := RX4) (T := TX4) (N := 6) hx hb hts in4 tyX4 tyX4_ok nmX4 hown hK hP hD hS 0 rfl rfl 1 (by decide) (hts _ fi_X4_9) (fun _ h9 => h9) rfl hin rfl (by decide +kernel) rfl rfl (Nat.le_of_ble_eq_true rfl) dX4_init_9 (fun H locs hP hD hS => ?_)
  have hP : va_P D vwCl [(h0, .inr (4, [.int 0, .ref q7, .null, .null, .null, .null])), (q7, .inl (k0, 100, .inl (fun _ => 0)))] H := hP
  have hD : va_D A [(h0, .inr (4, [.int 0, .ref q7, .null, .null, .null, .null])), (q7, .inl (k0, 100, .inl (fun _ => 0)))] := hD
  refine lv_aload_n hx hb dX4_init_12 rfl (lv_at hl 0 rfl) ?_
  refine lv_bipush (v := (100 : Int32)) hx hb dX4_init_13 (by decide) ?_
  refine nw_newa (atype := .int) (ty := .int) (N' := 100) (a0 := (100, .inl (fun _ => 0))) hx hb (hts _ ar_int) rfl hK 0 (cT := k0) rfl (fun _ _ h => h) hP hD hS hA (fun _ => rfl) (by decide) (by decide) (by decide) (Nat.le_of_ble_eq_true rfl) (Nat.le_of_ble_eq_true rfl) dX4_init_15 (fun q15 H hP hD hS => ?_)
  have hP : va_P D vwCl [(h0, .inr (4, [.int 0, .ref q7, .null, .null, .null, .null])), (q7, .inl (k0, 100, .inl (fun _ => 0))), (q15, .inl (k0, 100, .inl (fun _ => 0)))] H := hP
  have hD : va_D A [(h0, .inr (4, [.int 0, .ref q7, .null, .null, .null, .null])), (q7, .inl (k0, 100, .inl (fun _ => 0))), (q15, .inl (k0, 100, .inl (fun _ => 0)))] := hD
  refine va_putF (D := D) (ci := 4) (v := .ref q15) (ty := (.array .int)) (C := RX4) (T := TX4) (N := 6) hx hb hts in4 tyX4 tyX4_ok nmX4 hown hK hP hD hS 0 rfl rfl 2 (by decide) (hts _ fi_X4_15) (fun _ h9 => h9) rfl hin rfl (by decide +kernel) rfl rfl (Nat.le_of_ble_eq_true rfl) dX4_init_17 (fun H locs hP hD hS => ?_)
  have hP : va_P D vwCl [(h0, .inr (4, [.int 0, .ref q7, .ref q15, .null, .null, .null])), (q7, .inl (k0, 100, .inl (fun _ => 0))), (q15, .inl (k0, 100, .inl (fun _ => 0)))] H := hP
  have hD : va_D A [(h0, .inr (4, [.int 0, .ref q7, .ref q15, .null, .null, .null])), (q7, .inl (k0, 100, .inl (fun _ => 0))), (q15, .inl (k0, 100, .inl (fun _ => 0)))] := hD
  refine lv_aload_n hx hb dX4_init_20 rfl (lv_at hl 0 rfl) ?_
  refine lv_bipush (v := (100 : Int32)) hx hb dX4_init_21 (by decide) ?_
  refine nw_newa (atype := .int) (ty := .int) (N' := 100) (a0 := (100, .inl (fun _ => 0))) hx hb (hts _ ar_int) rfl hK 0 (cT := k0) rfl (fun _ _ h => h) hP hD hS hA (fun _ => rfl) (by decide) (by decide) (by decide) (Nat.le_of_ble_eq_true rfl) (Nat.le_of_ble_eq_true rfl) dX4_init_23 (fun q23 H hP hD hS => ?_)
  have hP : va_P D vwCl [(h0, .inr (4, [.int 0, .ref q7, .ref q15, .null, .null, .null])), (q7, .inl (k0, 100, .inl (fun _ => 0))), (q15, .inl (k0, 100, .inl (fun _ => 0))), (q23, .inl (k0, 100, .inl (fun _ => 0)))] H := hP
  have hD : va_D A [(h0, .inr (4, [.int 0, .ref q7, .ref q15, .null, .null, .null])), (q7, .inl (k0, 100, .inl (fun _ => 0))), (q15, .inl (k0, 100, .inl (fun _ => 0))), (q23, .inl (k0, 100, .inl (fun _ => 0)))] := hD
  refine va_putF (D := D) (ci := 4) (v := .ref q23) (ty := (.array .int)) (C := RX4) (T := TX4) (N := 6) hx hb hts in4 tyX4 tyX4_ok nmX4 hown hK hP hD hS 0 rfl rfl 3 (by decide) (hts _ fi_X4_18) (fun _ h9 => h9) rfl hin rfl (by decide +kernel) rfl rfl (Nat.le_of_ble_eq_true rfl) dX4_init_25 (fun H locs hP hD hS => ?_)
  have hP : va_P D vwCl [(h0, .inr (4, [.int 0, .ref q7, .ref q15, .ref q23, .null, .null])), (q7, .inl (k0, 100, .inl (fun _ => 0))), (q15, .inl (k0, 100, .inl (fun _ => 0))), (q23, .inl (k0, 100, .inl (fun _ => 0)))] H := hP
  have hD : va_D A [(h0, .inr (4, [.int 0, .ref q7, .ref q15, .ref q23, .null, .null])), (q7, .inl (k0, 100, .inl (fun _ => 0))), (q15, .inl (k0, 100, .inl (fun _ => 0))), (q23, .inl (k0, 100, .inl (fun _ => 0)))] := hD
  refine lv_aload_n hx hb dX4_init_28 rfl (lv_at hl 0 rfl) ?_
  refine lv_bipush (v := (100 : Int32)) hx hb dX4_init_29 (by decide) ?_
  refine nw_newa (atype := .int) (ty := .int) (N' := 100) (a0 := (100, .inl (fun _ => 0))) hx hb (hts _ ar_int) rfl hK 0 (cT := k0) rfl (fun _ _ h => h) hP hD hS hA (fun _ => rfl) (by decide) (by decide) (by decide) (Nat.le_of_ble_eq_true rfl) (Nat.le_of_ble_eq_true rfl) dX4_init_31 (fun q31 H hP hD hS => ?_)
  have hP : va_P D vwCl [(h0, .inr (4, [.int 0, .ref q7, .ref q15, .ref q23, .null, .null])), (q7, .inl (k0, 100, .inl (fun _ => 0))), (q15, .inl (k0, 100, .inl (fun _ => 0))), (q23, .inl (k0, 100, .inl (fun _ => 0))), (q31, .inl (k0, 100, .inl (fun _ => 0)))] H := hP
  have hD : va_D A [(h0, .inr (4, [.int 0, .ref q7, .ref q15, .ref q23, .null, .null])), (q7, .inl (k0, 100, .inl (fun _ => 0))), (q15, .inl (k0, 100, .inl (fun _ => 0))), (q23, .inl (k0, 100, .inl (fun _ => 0))), (q31, .inl (k0, 100, .inl (fun _ => 0)))] := hD
  refine va_putF (D := D) (ci := 4) (v := .ref q31) (ty := (.array .int)) (C := RX4) (T := TX4) (N := 6) hx hb hts in4 tyX4 tyX4_ok nmX4 hown hK hP hD hS 0 rfl rfl 4 (by decide) (hts _ fi_X4_21) (fun _ h9 => h9) rfl hin rfl (by decide +kernel) rfl rfl (Nat.le_of_ble_eq_true rfl) dX4_init_33 (fun H locs hP hD hS => ?_)
  have hP : va_P D vwCl [(h0, .inr (4, [.int 0, .ref q7, .ref q15, .ref q23, .ref q31, .null])), (q7, .inl (k0, 100, .inl (fun _ => 0))), (q15, .inl (k0, 100, .inl (fun _ => 0))), (q23, .inl (k0, 100, .inl (fun _ => 0))), (q31, .inl (k0, 100, .inl (fun _ => 0)))] H := hP
  have hD : va_D A [(h0, .inr (4, [.int 0, .ref q7, .ref q15, .ref q23, .ref q31, .null])), (q7, .inl (k0, 100, .inl (fun _ => 0))), (q15, .inl (k0, 100, .inl (fun _ => 0))), (q23, .inl (k0, 100, .inl (fun _ => 0))), (q31, .inl (k0, 100, .inl (fun _ => 0)))] := hD
  refine lv_aload_n hx hb dX4_init_36 rfl (lv_at hl 0 rfl) ?_
  refine lv_bipush (v := (100 : Int32)) hx hb dX4_init_37 (by decide) ?_
  refine nw_newa (atype := .boolean) (ty := .boolean) (N' := 100) (a0 := (100, .inl (fun _ => 0))) hx hb (hts _ ar_boolean) rfl hK 3 (cT := k3) rfl (fun _ _ h => h) hP hD hS hA (fun _ => rfl) (by decide) (by decide) (by decide) (Nat.le_of_ble_eq_true rfl) (Nat.le_of_ble_eq_true rfl) dX4_init_39 (fun q39 H hP hD hS => ?_)
  have hP : va_P D vwCl [(h0, .inr (4, [.int 0, .ref q7, .ref q15, .ref q23, .ref q31, .null])), (q7, .inl (k0, 100, .inl (fun _ => 0))), (q15, .inl (k0, 100, .inl (fun _ => 0))), (q23, .inl (k0, 100, .inl (fun _ => 0))), (q31, .inl (k0, 100, .inl (fun _ => 0))), (q39, .inl (k3, 100, .inl (fun _ => 0)))] H := hP
  have hD : va_D A [(h0, .inr (4, [.int 0, .ref q7, .ref q15, .ref q23, .ref q31, .null])), (q7, .inl (k0, 100, .inl (fun _ => 0))), (q15, .inl (k0, 100, .inl (fun _ => 0))), (q23, .inl (k0, 100, .inl (fun _ => 0))), (q31, .inl (k0, 100, .inl (fun _ => 0))), (q39, .inl (k3, 100, .inl (fun _ => 0)))] := hD
  refine va_putF (D := D) (ci := 4) (v := .ref q39) (ty := (.array .boolean)) (C := RX4) (T := TX4) (N := 6) hx hb hts in4 tyX4 tyX4_ok nmX4 hown hK hP hD hS 0 rfl rfl 5 (by decide) (hts _ fi_X4_24) (fun _ h9 => h9) rfl hin rfl (by decide +kernel) rfl rfl (Nat.le_of_ble_eq_true rfl) dX4_init_41 (fun H locs hP hD hS => ?_)
  have hP : va_P D vwCl [(h0, .inr (4, [.int 0, .ref q7, .ref q15, .ref q23, .ref q31, .ref q39])), (q7, .inl (k0, 100, .inl (fun _ => 0))), (q15, .inl (k0, 100, .inl (fun _ => 0))), (q23, .inl (k0, 100, .inl (fun _ => 0))), (q31, .inl (k0, 100, .inl (fun _ => 0))), (q39, .inl (k3, 100, .inl (fun _ => 0)))] H := hP
  have hD : va_D A [(h0, .inr (4, [.int 0, .ref q7, .ref q15, .ref q23, .ref q31, .ref q39])), (q7, .inl (k0, 100, .inl (fun _ => 0))), (q15, .inl (k0, 100, .inl (fun _ => 0))), (q23, .inl (k0, 100, .inl (fun _ => 0))), (q31, .inl (k0, 100, .inl (fun _ => 0))), (q39, .inl (k3, 100, .inl (fun _ => 0)))] := hD
  refine W.widen (k := 5) (n := 500) (Nat.le_of_ble_eq_true rfl) (Nat.le_of_ble_eq_true rfl) ?_
  exact W.vret hx hb hr (fun t ht hW => ⟨⟨fun k => ([q7, q15, q23, q31, q39] : List Nat).getD k 0, rfl, trivial, by rw [ht]; exact hP, va_K.moved hW.alike hK, hD⟩, hS.F ht⟩) hS.2.2 dX4_init_44 B.notSynchronized
set_option maxRecDepth 100000 in
set_option maxHeartbeats 4000000 in
theorem n_X3 (l : Launch) (D : va_G) (k0 k1 k2 k3 : ClassId) (h0 sz : Nat) : Met l yX3_init (wsM M_X3_init) ({ frames := 2, cells := 6, slots := 56, locals := 62 } : Room) (va_Pc [.ref h0] (fun U => U.heap.size = sz ∧ va_P D vwCl [(h0, .inr (3, [.int 0, .int 0, .null, .null, .null, .null, .null, .null]))] U.heap ∧ va_K D vwCl (TYk k0 k1 k2 k3) U ∧ va_D (fun _ => True) [(h0, .inr (3, [.int 0, .int 0, .null, .null, .null, .null, .null, .null]))])) (va_Qv (fun _ : Nat → Nat => True) (fun u t => va_P D vwCl [(h0, .inr (3, [.int 0, .int 0, .ref (u 0), .ref (u 1), .ref (u 2), .ref (u 3), .ref (u 4), .ref (u 5)])), ((u 0), .inl (k1, 8, .inr (.inl (fun _ => 0)))), ((u 1), .inl (k0, 8, .inl (fun _ => 0))), ((u 2), .inl (k1, 10, .inr (.inl (fun _ => 0)))), ((u 3), .inl (k0, 10, .inl (fun _ => 0))), ((u 4), .inl (k0, 10, .inl (fun _ => 0))), ((u 5), .inl (k0, 10, .inl (fun _ => 0)))] t.heap ∧ va_K D vwCl (TYk k0 k1 k2 k3) t ∧ va_D (va_A [(h0, .inr (3, [.int 0, .int 0, .null, .null, .null, .null, .null, .null]))] sz) [(h0, .inr (3, [.int 0, .int 0, .ref (u 0), .ref (u 1), .ref (u 2), .ref (u 3), .ref (u 4), .ref (u 5)])), ((u 0), .inl (k1, 8, .inr (.inl (fun _ => 0)))), ((u 1), .inl (k0, 8, .inl (fun _ => 0))), ((u 2), .inl (k1, 10, .inr (.inl (fun _ => 0)))), ((u 3), .inl (k0, 10, .inl (fun _ => 0))), ((u 4), .inl (k0, 10, .inl (fun _ => 0))), ((u 5), .inl (k0, 10, .inl (fun _ => 0)))]) (va_A [(h0, .inr (3, [.int 0, .int 0, .null, .null, .null, .null, .null, .null]))] sz)) 6 56 (va_A [(h0, .inr (3, [.int 0, .int 0, .null, .null, .null, .null, .null, .null]))] sz) := by
  refine Met.ofW (cc := cX3_init) (maxL := 1) (ret := none) (by decide +kernel) rfl ?_
  intro p e s m args below meth c s₁ B hml hv
  obtain ⟨rfl, hsz, hP, hK, hD0⟩ := hv
  have hx := B.exec
  have hb := B.bytes
  have hr := B.returns
  have hts0 := atoms_spec (ws := wsM M_X3_init) B.pre
  have hts : ∀ w ∈ TB, w.before ([.ref h0] : List Value).toArray s = true := fun w hw => hts0 w (List.mem_cons_of_mem _ hw)
  have hown : s.vm.findClass RX3 = some m.cls := findClass_of_methodNamed B.named
  have hin : meth.name = "<init>" := (name_of_methodNamed B.named B.method).1
  subst hsz
  have hD := hD0.self (sz := s.heap.size)
  generalize hAe : va_A [(h0, .inr (3, [.int 0, .int 0, .null, .null, .null, .null, .null, .null]))] s.heap.size = A at hD ⊢
  have hA : ∀ q : Nat, s.heap.size ≤ q → A q := fun q h => by rw [← hAe]; exact Or.inr h
  have hS : va_S A s.heap s.heap [] := va_S.rf
  have hl := lv_entry ([.ref h0]) (n := 1) (Nat.le_of_ble_eq_true rfl)
  rw [lg_entry_eq]
  generalize (lg_sl ([.ref h0]) ++ List.replicate (1 - (lg_sl ([.ref h0])).length) Slot.unset).toArray = ls at hl ⊢
  have hl : lv_has ls 1 [(0, .ref h0)] := hl
  refine lv_aload_n hx hb dX3_init_0 rfl (lv_at hl 0 rfl) ?_
  refine W.objInit hx hb hown (hts _ oi_3) (hts _ oi_i) (hts _ oi_c) rfl (by rw [hml]; exact hl.1) rfl dX3_init_1 (Nat.le_of_ble_eq_true rfl) (Nat.le_of_ble_eq_true rfl) ?_
  refine W.eq (g2 := F0 m 4 ls []) rfl ?_
  refine lv_aload_n hx hb dX3_init_4 rfl (lv_at hl 0 rfl) ?_
  refine lv_bipush (v := (8 : Int32)) hx hb dX3_init_5 (by decide) ?_
  refine nw_newa (atype := .long) (ty := .long) (N' := 8) (a0 := (8, .inr (.inl (fun _ => 0)))) hx hb (hts _ ar_long) rfl hK 1 (cT := k1) rfl (fun _ _ h => h) hP hD hS hA (fun _ => rfl) (by decide) (by decide) (by decide) (Nat.le_of_ble_eq_true rfl) (Nat.le_of_ble_eq_true rfl) dX3_init_7 (fun q7 H hP hD hS => ?_)
  have hP : va_P D vwCl [(h0, .inr (3, [.int 0, .int 0, .null, .null, .null, .null, .null, .null])), (q7, .inl (k1, 8, .inr (.inl (fun _ => 0))))] H := hP
  have hD : va_D A [(h0, .inr (3, [.int 0, .int 0, .null, .null, .null, .null, .null, .null])), (q7, .inl (k1, 8, .inr (.inl (fun _ => 0))))] := hD
  refine va_putF (D := D) (ci := 3) (v := .ref q7) (ty := (.array .long)) (C := RX3) (T := TX3) (N := 8) hx hb hts in3 tyX3 tyX3_ok nmX3 hown hK hP hD hS 0 rfl rfl 2 (by decide) (hts _ fi_X3_9) (fun _ h9 => h9) rfl hin rfl (by decide +kernel) rfl rfl (Nat.le_of_ble_eq_true rfl) dX3_init_9 (fun H locs hP hD hS => ?_)
  have hP : va_P D vwCl [(h0, .inr (3, [.int 0, .int 0, .ref q7, .null, .null, .null, .null, .null])), (q7, .inl (k1, 8, .inr (.inl (fun _ => 0))))] H := hP
  have hD : va_D A [(h0, .inr (3, [.int 0, .int 0, .ref q7, .null, .null, .null, .null, .null])), (q7, .inl (k1, 8, .inr (.inl (fun _ => 0))))] := hD
  refine lv_aload_n hx hb dX3_init_12 rfl (lv_at hl 0 rfl) ?_
  refine lv_bipush (v := (8 : Int32)) hx hb dX3_init_13 (by decide) ?_
  refine nw_newa (atype := .int) (ty := .int) (N' := 8) (a0 := (8, .inl (fun _ => 0))) hx hb (hts _ ar_int) rfl hK 0 (cT := k0) rfl (fun _ _ h => h) hP hD hS hA (fun _ => rfl) (by decide) (by decide) (by decide) (Nat.le_of_ble_eq_true rfl) (Nat.le_of_ble_eq_true rfl) dX3_init_15 (fun q15 H hP hD hS => ?_)
  have hP : va_P D vwCl [(h0, .inr (3, [.int 0, .int 0, .ref q7, .null, .null, .null, .null, .null])), (q7, .inl (k1, 8, .inr (.inl (fun _ => 0)))), (q15, .inl (k0, 8, .inl (fun _ => 0)))] H := hP
  have hD : va_D A [(h0, .inr (3, [.int 0, .int 0, .ref q7, .null, .null, .null, .null, .null])), (q7, .inl (k1, 8, .inr (.inl (fun _ => 0)))), (q15, .inl (k0, 8, .inl (fun _ => 0)))] := hD
  refine va_putF (D := D) (ci := 3) (v := .ref q15) (ty := (.array .int)) (C := RX3) (T := TX3) (N := 8) hx hb hts in3 tyX3 tyX3_ok nmX3 hown hK hP hD hS 0 rfl rfl 3 (by decide) (hts _ fi_X3_15) (fun _ h9 => h9) rfl hin rfl (by decide +kernel) rfl rfl (Nat.le_of_ble_eq_true rfl) dX3_init_17 (fun H locs hP hD hS => ?_)
  have hP : va_P D vwCl [(h0, .inr (3, [.int 0, .int 0, .ref q7, .ref q15, .null, .null, .null, .null])), (q7, .inl (k1, 8, .inr (.inl (fun _ => 0)))), (q15, .inl (k0, 8, .inl (fun _ => 0)))] H := hP
  have hD : va_D A [(h0, .inr (3, [.int 0, .int 0, .ref q7, .ref q15, .null, .null, .null, .null])), (q7, .inl (k1, 8, .inr (.inl (fun _ => 0)))), (q15, .inl (k0, 8, .inl (fun _ => 0)))] := hD
  refine lv_aload_n hx hb dX3_init_20 rfl (lv_at hl 0 rfl) ?_
  refine lv_bipush (v := (10 : Int32)) hx hb dX3_init_21 (by decide) ?_
  refine nw_newa (atype := .long) (ty := .long) (N' := 10) (a0 := (10, .inr (.inl (fun _ => 0)))) hx hb (hts _ ar_long) rfl hK 1 (cT := k1) rfl (fun _ _ h => h) hP hD hS hA (fun _ => rfl) (by decide) (by decide) (by decide) (Nat.le_of_ble_eq_true rfl) (Nat.le_of_ble_eq_true rfl) dX3_init_23 (fun q23 H hP hD hS => ?_)
  have hP : va_P D vwCl [(h0, .inr (3, [.int 0, .int 0, .ref q7, .ref q15, .null, .null, .null, .null])), (q7, .inl (k1, 8, .inr (.inl (fun _ => 0)))), (q15, .inl (k0, 8, .inl (fun _ => 0))), (q23, .inl (k1, 10, .inr (.inl (fun _ => 0))))] H := hP
  have hD : va_D A [(h0, .inr (3, [.int 0, .int 0, .ref q7, .ref q15, .null, .null, .null, .null])), (q7, .inl (k1, 8, .inr (.inl (fun _ => 0)))), (q15, .inl (k0, 8, .inl (fun _ => 0))), (q23, .inl (k1, 10, .inr (.inl (fun _ => 0))))] := hD
  refine va_putF (D := D) (ci := 3) (v := .ref q23) (ty := (.array .long)) (C := RX3) (T := TX3) (N := 8) hx hb hts in3 tyX3 tyX3_ok nmX3 hown hK hP hD hS 0 rfl rfl 4 (by decide) (hts _ fi_X3_19) (fun _ h9 => h9) rfl hin rfl (by decide +kernel) rfl rfl (Nat.le_of_ble_eq_true rfl) dX3_init_25 (fun H locs hP hD hS => ?_)
  have hP : va_P D vwCl [(h0, .inr (3, [.int 0, .int 0, .ref q7, .ref q15, .ref q23, .null, .null, .null])), (q7, .inl (k1, 8, .inr (.inl (fun _ => 0)))), (q15, .inl (k0, 8, .inl (fun _ => 0))), (q23, .inl (k1, 10, .inr (.inl (fun _ => 0))))] H := hP
  have hD : va_D A [(h0, .inr (3, [.int 0, .int 0, .ref q7, .ref q15, .ref q23, .null, .null, .null])), (q7, .inl (k1, 8, .inr (.inl (fun _ => 0)))), (q15, .inl (k0, 8, .inl (fun _ => 0))), (q23, .inl (k1, 10, .inr (.inl (fun _ => 0))))] := hD
  refine lv_aload_n hx hb dX3_init_28 rfl (lv_at hl 0 rfl) ?_
  refine lv_bipush (v := (10 : Int32)) hx hb dX3_init_29 (by decide) ?_
  refine nw_newa (atype := .int) (ty := .int) (N' := 10) (a0 := (10, .inl (fun _ => 0))) hx hb (hts _ ar_int) rfl hK 0 (cT := k0) rfl (fun _ _ h => h) hP hD hS hA (fun _ => rfl) (by decide) (by decide) (by decide) (Nat.le_of_ble_eq_true rfl) (Nat.le_of_ble_eq_true rfl) dX3_init_31 (fun q31 H hP hD hS => ?_)
  have hP : va_P D vwCl [(h0, .inr (3, [.int 0, .int 0, .ref q7, .ref q15, .ref q23, .null, .null, .null])), (q7, .inl (k1, 8, .inr (.inl (fun _ => 0)))), (q15, .inl (k0, 8, .inl (fun _ => 0))), (q23, .inl (k1, 10, .inr (.inl (fun _ => 0)))), (q31, .inl (k0, 10, .inl (fun _ => 0)))] H := hP
  have hD : va_D A [(h0, .inr (3, [.int 0, .int 0, .ref q7, .ref q15, .ref q23, .null, .null, .null])), (q7, .inl (k1, 8, .inr (.inl (fun _ => 0)))), (q15, .inl (k0, 8, .inl (fun _ => 0))), (q23, .inl (k1, 10, .inr (.inl (fun _ => 0)))), (q31, .inl (k0, 10, .inl (fun _ => 0)))] := hD
  refine va_putF (D := D) (ci := 3) (v := .ref q31) (ty := (.array .int)) (C := RX3) (T := TX3) (N := 8) hx hb hts in3 tyX3 tyX3_ok nmX3 hown hK hP hD hS 0 rfl rfl 5 (by decide) (hts _ fi_X3_22) (fun _ h9 => h9) rfl hin rfl (by decide +kernel) rfl rfl (Nat.le_of_ble_eq_true rfl) dX3_init_33 (fun H locs hP hD hS => ?_)
  have hP : va_P D vwCl [(h0, .inr (3, [.int 0, .int 0, .ref q7, .ref q15, .ref q23, .ref q31, .null, .null])), (q7, .inl (k1, 8, .inr (.inl (fun _ => 0)))), (q15, .inl (k0, 8, .inl (fun _ => 0))), (q23, .inl (k1, 10, .inr (.inl (fun _ => 0)))), (q31, .inl (k0, 10, .inl (fun _ => 0)))] H := hP
  have hD : va_D A [(h0, .inr (3, [.int 0, .int 0, .ref q7, .ref q15, .ref q23, .ref q31, .null, .null])), (q7, .inl (k1, 8, .inr (.inl (fun _ => 0)))), (q15, .inl (k0, 8, .inl (fun _ => 0))), (q23, .inl (k1, 10, .inr (.inl (fun _ => 0)))), (q31, .inl (k0, 10, .inl (fun _ => 0)))] := hD
  refine lv_aload_n hx hb dX3_init_36 rfl (lv_at hl 0 rfl) ?_
  refine lv_bipush (v := (10 : Int32)) hx hb dX3_init_37 (by decide) ?_
  refine nw_newa (atype := .int) (ty := .int) (N' := 10) (a0 := (10, .inl (fun _ => 0))) hx hb (hts _ ar_int) rfl hK 0 (cT := k0) rfl (fun _ _ h => h) hP hD hS hA (fun _ => rfl) (by decide) (by decide) (by decide) (Nat.le_of_ble_eq_true rfl) (Nat.le_of_ble_eq_true rfl) dX3_init_39 (fun q39 H hP hD hS => ?_)
  have hP : va_P D vwCl [(h0, .inr (3, [.int 0, .int 0, .ref q7, .ref q15, .ref q23, .ref q31, .null, .null])), (q7, .inl (k1, 8, .inr (.inl (fun _ => 0)))), (q15, .inl (k0, 8, .inl (fun _ => 0))), (q23, .inl (k1, 10, .inr (.inl (fun _ => 0)))), (q31, .inl (k0, 10, .inl (fun _ => 0))), (q39, .inl (k0, 10, .inl (fun _ => 0)))] H := hP
  have hD : va_D A [(h0, .inr (3, [.int 0, .int 0, .ref q7, .ref q15, .ref q23, .ref q31, .null, .null])), (q7, .inl (k1, 8, .inr (.inl (fun _ => 0)))), (q15, .inl (k0, 8, .inl (fun _ => 0))), (q23, .inl (k1, 10, .inr (.inl (fun _ => 0)))), (q31, .inl (k0, 10, .inl (fun _ => 0))), (q39, .inl (k0, 10, .inl (fun _ => 0)))] := hD
  refine va_putF (D := D) (ci := 3) (v := .ref q39) (ty := (.array .int)) (C := RX3) (T := TX3) (N := 8) hx hb hts in3 tyX3 tyX3_ok nmX3 hown hK hP hD hS 0 rfl rfl 6 (by decide) (hts _ fi_X3_25) (fun _ h9 => h9) rfl hin rfl (by decide +kernel) rfl rfl (Nat.le_of_ble_eq_true rfl) dX3_init_41 (fun H locs hP hD hS => ?_)
  have hP : va_P D vwCl [(h0, .inr (3, [.int 0, .int 0, .ref q7, .ref q15, .ref q23, .ref q31, .ref q39, .null])), (q7, .inl (k1, 8, .inr (.inl (fun _ => 0)))), (q15, .inl (k0, 8, .inl (fun _ => 0))), (q23, .inl (k1, 10, .inr (.inl (fun _ => 0)))), (q31, .inl (k0, 10, .inl (fun _ => 0))), (q39, .inl (k0, 10, .inl (fun _ => 0)))] H := hP
  have hD : va_D A [(h0, .inr (3, [.int 0, .int 0, .ref q7, .ref q15, .ref q23, .ref q31, .ref q39, .null])), (q7, .inl (k1, 8, .inr (.inl (fun _ => 0)))), (q15, .inl (k0, 8, .inl (fun _ => 0))), (q23, .inl (k1, 10, .inr (.inl (fun _ => 0)))), (q31, .inl (k0, 10, .inl (fun _ => 0))), (q39, .inl (k0, 10, .inl (fun _ => 0)))] := hD
  refine lv_aload_n hx hb dX3_init_44 rfl (lv_at hl 0 rfl) ?_
  refine lv_bipush (v := (10 : Int32)) hx hb dX3_init_45 (by decide) ?_
  refine nw_newa (atype := .int) (ty := .int) (N' := 10) (a0 := (10, .inl (fun _ => 0))) hx hb (hts _ ar_int) rfl hK 0 (cT := k0) rfl (fun _ _ h => h) hP hD hS hA (fun _ => rfl) (by decide) (by decide) (by decide) (Nat.le_of_ble_eq_true rfl) (Nat.le_of_ble_eq_true rfl) dX3_init_47 (fun q47 H hP hD hS => ?_)
  have hP : va_P D vwCl [(h0, .inr (3, [.int 0, .int 0, .ref q7, .ref q15, .ref q23, .ref q31, .ref q39, .null])), (q7, .inl (k1, 8, .inr (.inl (fun _ => 0)))), (q15, .inl (k0, 8, .inl (fun _ => 0))), (q23, .inl (k1, 10, .inr (.inl (fun _ => 0)))), (q31, .inl (k0, 10, .inl (fun _ => 0))), (q39, .inl (k0, 10, .inl (fun _ => 0))), (q47, .inl (k0, 10, .inl (fun _ => 0)))] H := hP
  have hD : va_D A [(h0, .inr (3, [.int 0, .int 0, .ref q7, .ref q15, .ref q23, .ref q31, .ref q39, .null])), (q7, .inl (k1, 8, .inr (.inl (fun _ => 0)))), (q15, .inl (k0, 8, .inl (fun _ => 0))), (q23, .inl (k1, 10, .inr (.inl (fun _ => 0)))), (q31, .inl (k0, 10, .inl (fun _ => 0))), (q39, .inl (k0, 10, .inl (fun _ => 0))), (q47, .inl (k0, 10, .inl (fun _ => 0)))] := hD
  refine va_putF (D := D) (ci := 3) (v := .ref q47) (ty := (.array .int)) (C := RX3) (T := TX3) (N := 8) hx hb hts in3 tyX3 tyX3_ok nmX3 hown hK hP hD hS 0 rfl rfl 7 (by decide) (hts _ fi_X3_28) (fun _ h9 => h9) rfl hin rfl (by decide +kernel) rfl rfl (Nat.le_of_ble_eq_true rfl) dX3_init_49 (fun H locs hP hD hS => ?_)
  have hP : va_P D vwCl [(h0, .inr (3, [.int 0, .int 0, .ref q7, .ref q15, .ref q23, .ref q31, .ref q39, .ref q47])), (q7, .inl (k1, 8, .inr (.inl (fun _ => 0)))), (q15, .inl (k0, 8, .inl (fun _ => 0))), (q23, .inl (k1, 10, .inr (.inl (fun _ => 0)))), (q31, .inl (k0, 10, .inl (fun _ => 0))), (q39, .inl (k0, 10, .inl (fun _ => 0))), (q47, .inl (k0, 10, .inl (fun _ => 0)))] H := hP
  have hD : va_D A [(h0, .inr (3, [.int 0, .int 0, .ref q7, .ref q15, .ref q23, .ref q31, .ref q39, .ref q47])), (q7, .inl (k1, 8, .inr (.inl (fun _ => 0)))), (q15, .inl (k0, 8, .inl (fun _ => 0))), (q23, .inl (k1, 10, .inr (.inl (fun _ => 0)))), (q31, .inl (k0, 10, .inl (fun _ => 0))), (q39, .inl (k0, 10, .inl (fun _ => 0))), (q47, .inl (k0, 10, .inl (fun _ => 0)))] := hD
  refine W.widen (k := 6) (n := 56) (Nat.le_of_ble_eq_true rfl) (Nat.le_of_ble_eq_true rfl) ?_
  exact W.vret hx hb hr (fun t ht hW => ⟨⟨fun k => ([q7, q15, q23, q31, q39, q47] : List Nat).getD k 0, rfl, trivial, by rw [ht]; exact hP, va_K.moved hW.alike hK, hD⟩, hS.F ht⟩) hS.2.2 dX3_init_52 B.notSynchronized
set_option maxRecDepth 100000 in
set_option maxHeartbeats 4000000 in
theorem n_X1 (l : Launch) (D : va_G) (k0 k1 k2 k3 : ClassId) (h0 sz a1 a2 : Nat) : Met l yX1_init (wsM M_X1_init) ({ frames := 2, cells := 3, slots := 2210, locals := 62 } : Room) (va_Pc [.ref h0, .ref a1, .ref a2] (fun U => U.heap.size = sz ∧ va_P D vwCl [(h0, .inr (1, [.null, .null, .null, .null, .int 0, .int 0, .int 0, .int 0, .int 0, .null]))] U.heap ∧ va_K D vwCl (TYk k0 k1 k2 k3) U ∧ va_D (fun _ => True) [(h0, .inr (1, [.null, .null, .null, .null, .int 0, .int 0, .int 0, .int 0, .int 0, .null]))])) (va_Qv (fun _ : Nat → Nat => True) (fun u t => va_P D vwCl [(h0, .inr (1, [.ref a1, .ref a2, .ref (u 0), .ref (u 1), .int (-1), .int 0, .int 0, .int 0, .int 0, .ref (u 2)])), ((u 0), .inl (k0, 10, .inl (fun _ => 0))), ((u 1), .inl (k0, 2000, .inl (fun _ => 0))), ((u 2), .inl (k0, 200, .inl (fun _ => 0)))] t.heap ∧ va_K D vwCl (TYk k0 k1 k2 k3) t ∧ va_D (va_A [(h0, .inr (1, [.null, .null, .null, .null, .int 0, .int 0, .int 0, .int 0, .int 0, .null]))] sz) [(h0, .inr (1, [.ref a1, .ref a2, .ref (u 0), .ref (u 1), .int (-1), .int 0, .int 0, .int 0, .int 0, .ref (u 2)])), ((u 0), .inl (k0, 10, .inl (fun _ => 0))), ((u 1), .inl (k0, 2000, .inl (fun _ => 0))), ((u 2), .inl (k0, 200, .inl (fun _ => 0)))]) (va_A [(h0, .inr (1, [.null, .null, .null, .null, .int 0, .int 0, .int 0, .int 0, .int 0, .null]))] sz)) 3 2210 (va_A [(h0, .inr (1, [.null, .null, .null, .null, .int 0, .int 0, .int 0, .int 0, .int 0, .null]))] sz) := by
  refine Met.ofW (cc := cX1_init) (maxL := 3) (ret := none) (by decide +kernel) rfl ?_
  intro p e s m args below meth c s₁ B hml hv
  obtain ⟨rfl, hsz, hP, hK, hD0⟩ := hv
  have hx := B.exec
  have hb := B.bytes
  have hr := B.returns
  have hts0 := atoms_spec (ws := wsM M_X1_init) B.pre
  have hts : ∀ w ∈ TB, w.before ([.ref h0, .ref a1, .ref a2] : List Value).toArray s = true := fun w hw => hts0 w (List.mem_cons_of_mem _ hw)
  have hown : s.vm.findClass RX1 = some m.cls := findClass_of_methodNamed B.named
  have hin : meth.name = "<init>" := (name_of_methodNamed B.named B.method).1
  subst hsz
  have hD := hD0.self (sz := s.heap.size)
  generalize hAe : va_A [(h0, .inr (1, [.null, .null, .null, .null, .int 0, .int 0, .int 0, .int 0, .int 0, .null]))] s.heap.size = A at hD ⊢
  have hA : ∀ q : Nat, s.heap.size ≤ q → A q := fun q h => by rw [← hAe]; exact Or.inr h
  have hS : va_S A s.heap s.heap [] := va_S.rf
  have hl := lv_entry ([.ref h0, .ref a1, .ref a2]) (n := 3) (Nat.le_of_ble_eq_true rfl)
  rw [lg_entry_eq]
  generalize (lg_sl ([.ref h0, .ref a1, .ref a2]) ++ List.replicate (3 - (lg_sl ([.ref h0, .ref a1, .ref a2])).length) Slot.unset).toArray = ls at hl ⊢
  have hl : lv_has ls 3 [(0, .ref h0), (1, .ref a1), (2, .ref a2)] := hl
  refine lv_aload_n hx hb dX1_init_0 rfl (lv_at hl 0 rfl) ?_
  refine W.objInit hx hb hown (hts _ oi_1) (hts _ oi_i) (hts _ oi_c) rfl (by rw [hml]; exact hl.1) rfl dX1_init_1 (Nat.le_of_ble_eq_true rfl) (Nat.le_of_ble_eq_true rfl) ?_
  refine W.eq (g2 := F0 m 4 ls []) rfl ?_
  refine lv_aload_n hx hb dX1_init_4 rfl (lv_at hl 0 rfl) ?_
  refine lv_bipush (v := (10 : Int32)) hx hb dX1_init_5 (by decide) ?_
  refine nw_newa (atype := .int) (ty := .int) (N' := 10) (a0 := (10, .inl (fun _ => 0))) hx hb (hts _ ar_int) rfl hK 0 (cT := k0) rfl (fun _ _ h => h) hP hD hS hA (fun _ => rfl) (by decide) (by decide) (by decide) (Nat.le_of_ble_eq_true rfl) (Nat.le_of_ble_eq_true rfl) dX1_init_7 (fun q7 H hP hD hS => ?_)
  have hP : va_P D vwCl [(h0, .inr (1, [.null, .null, .null, .null, .int 0, .int 0, .int 0, .int 0, .int 0, .null])), (q7, .inl (k0, 10, .inl (fun _ => 0)))] H := hP
  have hD : va_D A [(h0, .inr (1, [.null, .null, .null, .null, .int 0, .int 0, .int 0, .int 0, .int 0, .null])), (q7, .inl (k0, 10, .inl (fun _ => 0)))] := hD
  refine va_putF (D := D) (ci := 1) (v := .ref q7) (ty := (.array .int)) (C := RX1) (T := TX1) (N := 10) hx hb hts in1 tyX1 tyX1_ok nmX1 hown hK hP hD hS 0 rfl rfl 2 (by decide) (hts _ fi_X1_9) (fun _ h9 => h9) rfl hin rfl (by decide +kernel) rfl rfl (Nat.le_of_ble_eq_true rfl) dX1_init_9 (fun H locs hP hD hS => ?_)
  have hP : va_P D vwCl [(h0, .inr (1, [.null, .null, .ref q7, .null, .int 0, .int 0, .int 0, .int 0, .int 0, .null])), (q7, .inl (k0, 10, .inl (fun _ => 0)))] H := hP
  have hD : va_D A [(h0, .inr (1, [.null, .null, .ref q7, .null, .int 0, .int 0, .int 0, .int 0, .int 0, .null])), (q7, .inl (k0, 10, .inl (fun _ => 0)))] := hD
  refine lv_aload_n hx hb dX1_init_12 rfl (lv_at hl 0 rfl) ?_
  refine lv_sipush (v := (2000 : Int32)) hx hb dX1_init_13 (by decide) ?_
  refine nw_newa (atype := .int) (ty := .int) (N' := 2000) (a0 := (2000, .inl (fun _ => 0))) hx hb (hts _ ar_int) rfl hK 0 (cT := k0) rfl (fun _ _ h => h) hP hD hS hA (fun _ => rfl) (by decide) (by decide) (by decide) (Nat.le_of_ble_eq_true rfl) (Nat.le_of_ble_eq_true rfl) dX1_init_16 (fun q16 H hP hD hS => ?_)
  have hP : va_P D vwCl [(h0, .inr (1, [.null, .null, .ref q7, .null, .int 0, .int 0, .int 0, .int 0, .int 0, .null])), (q7, .inl (k0, 10, .inl (fun _ => 0))), (q16, .inl (k0, 2000, .inl (fun _ => 0)))] H := hP
  have hD : va_D A [(h0, .inr (1, [.null, .null, .ref q7, .null, .int 0, .int 0, .int 0, .int 0, .int 0, .null])), (q7, .inl (k0, 10, .inl (fun _ => 0))), (q16, .inl (k0, 2000, .inl (fun _ => 0)))] := hD
  refine va_putF (D := D) (ci := 1) (v := .ref q16) (ty := (.array .int)) (C := RX1) (T := TX1) (N := 10) hx hb hts in1 tyX1 tyX1_ok nmX1 hown hK hP hD hS 0 rfl rfl 3 (by decide) (hts _ fi_X1_15) (fun _ h9 => h9) rfl hin rfl (by decide +kernel) rfl rfl (Nat.le_of_ble_eq_true rfl) dX1_init_18 (fun H locs hP hD hS => ?_)
  have hP : va_P D vwCl [(h0, .inr (1, [.null, .null, .ref q7, .ref q16, .int 0, .int 0, .int 0, .int 0, .int 0, .null])), (q7, .inl (k0, 10, .inl (fun _ => 0))), (q16, .inl (k0, 2000, .inl (fun _ => 0)))] H := hP
  have hD : va_D A [(h0, .inr (1, [.null, .null, .ref q7, .ref q16, .int 0, .int 0, .int 0, .int 0, .int 0, .null])), (q7, .inl (k0, 10, .inl (fun _ => 0))), (q16, .inl (k0, 2000, .inl (fun _ => 0)))] := hD
  refine lv_aload_n hx hb dX1_init_21 rfl (lv_at hl 0 rfl) ?_
  refine lv_iconst (v := (-1 : Int32)) hx hb dX1_init_22 (by decide) ?_
  refine va_put (D := D) (ci := 1) (v := .int (-1)) (ty := .int) (C := RX1) (T := TX1) (N := 10) hx hb hts in1 tyX1 tyX1_ok nmX1 hown hK hP hD hS 0 rfl rfl 4 (by decide) (hts _ fi_X1_18) (fun _ h9 => h9) rfl (by decide +kernel) rfl rfl (Nat.le_of_ble_eq_true rfl) dX1_init_23 (fun H locs hP hD hS => ?_)
  have hP : va_P D vwCl [(h0, .inr (1, [.null, .null, .ref q7, .ref q16, .int (-1), .int 0, .int 0, .int 0, .int 0, .null])), (q7, .inl (k0, 10, .inl (fun _ => 0))), (q16, .inl (k0, 2000, .inl (fun _ => 0)))] H := hP
  have hD : va_D A [(h0, .inr (1, [.null, .null, .ref q7, .ref q16, .int (-1), .int 0, .int 0, .int 0, .int 0, .null])), (q7, .inl (k0, 10, .inl (fun _ => 0))), (q16, .inl (k0, 2000, .inl (fun _ => 0)))] := hD
  refine lv_aload_n hx hb dX1_init_26 rfl (lv_at hl 0 rfl) ?_
  refine lv_sipush (v := (200 : Int32)) hx hb dX1_init_27 (by decide) ?_
  refine nw_newa (atype := .int) (ty := .int) (N' := 200) (a0 := (200, .inl (fun _ => 0))) hx hb (hts _ ar_int) rfl hK 0 (cT := k0) rfl (fun _ _ h => h) hP hD hS hA (fun _ => rfl) (by decide) (by decide) (by decide) (Nat.le_of_ble_eq_true rfl) (Nat.le_of_ble_eq_true rfl) dX1_init_30 (fun q30 H hP hD hS => ?_)
  have hP : va_P D vwCl [(h0, .inr (1, [.null, .null, .ref q7, .ref q16, .int (-1), .int 0, .int 0, .int 0, .int 0, .null])), (q7, .inl (k0, 10, .inl (fun _ => 0))), (q16, .inl (k0, 2000, .inl (fun _ => 0))), (q30, .inl (k0, 200, .inl (fun _ => 0)))] H := hP
  have hD : va_D A [(h0, .inr (1, [.null, .null, .ref q7, .ref q16, .int (-1), .int 0, .int 0, .int 0, .int 0, .null])), (q7, .inl (k0, 10, .inl (fun _ => 0))), (q16, .inl (k0, 2000, .inl (fun _ => 0))), (q30, .inl (k0, 200, .inl (fun _ => 0)))] := hD
  refine va_putF (D := D) (ci := 1) (v := .ref q30) (ty := (.array .int)) (C := RX1) (T := TX1) (N := 10) hx hb hts in1 tyX1 tyX1_ok nmX1 hown hK hP hD hS 0 rfl rfl 9 (by decide) (hts _ fi_X1_22) (fun _ h9 => h9) rfl hin rfl (by decide +kernel) rfl rfl (Nat.le_of_ble_eq_true rfl) dX1_init_32 (fun H locs hP hD hS => ?_)
  have hP : va_P D vwCl [(h0, .inr (1, [.null, .null, .ref q7, .ref q16, .int (-1), .int 0, .int 0, .int 0, .int 0, .ref q30])), (q7, .inl (k0, 10, .inl (fun _ => 0))), (q16, .inl (k0, 2000, .inl (fun _ => 0))), (q30, .inl (k0, 200, .inl (fun _ => 0)))] H := hP
  have hD : va_D A [(h0, .inr (1, [.null, .null, .ref q7, .ref q16, .int (-1), .int 0, .int 0, .int 0, .int 0, .ref q30])), (q7, .inl (k0, 10, .inl (fun _ => 0))), (q16, .inl (k0, 2000, .inl (fun _ => 0))), (q30, .inl (k0, 200, .inl (fun _ => 0)))] := hD
  refine lv_aload_n hx hb dX1_init_35 rfl (lv_at hl 0 rfl) ?_
  refine lv_aload_n hx hb dX1_init_36 rfl (lv_at hl 1 rfl) ?_
  refine va_putF (D := D) (ci := 1) (v := .ref a1) (ty := (.object "DoorReader$LogBook")) (C := RX1) (T := TX1) (N := 10) hx hb hts in1 tyX1 tyX1_ok nmX1 hown hK hP hD hS 0 rfl rfl 0 (by decide) (hts _ fi_X1_25) (fun _ h9 => h9) rfl hin rfl (by decide +kernel) rfl rfl (Nat.le_of_ble_eq_true rfl) dX1_init_37 (fun H locs hP hD hS => ?_)
  have hP : va_P D vwCl [(h0, .inr (1, [.ref a1, .null, .ref q7, .ref q16, .int (-1), .int 0, .int 0, .int 0, .int 0, .ref q30])), (q7, .inl (k0, 10, .inl (fun _ => 0))), (q16, .inl (k0, 2000, .inl (fun _ => 0))), (q30, .inl (k0, 200, .inl (fun _ => 0)))] H := hP
  have hD : va_D A [(h0, .inr (1, [.ref a1, .null, .ref q7, .ref q16, .int (-1), .int 0, .int 0, .int 0, .int 0, .ref q30])), (q7, .inl (k0, 10, .inl (fun _ => 0))), (q16, .inl (k0, 2000, .inl (fun _ => 0))), (q30, .inl (k0, 200, .inl (fun _ => 0)))] := hD
  refine lv_aload_n hx hb dX1_init_40 rfl (lv_at hl 0 rfl) ?_
  refine lv_aload_n hx hb dX1_init_41 rfl (lv_at hl 2 rfl) ?_
  refine va_putF (D := D) (ci := 1) (v := .ref a2) (ty := (.object "DoorReader$Walks")) (C := RX1) (T := TX1) (N := 10) hx hb hts in1 tyX1 tyX1_ok nmX1 hown hK hP hD hS 0 rfl rfl 1 (by decide) (hts _ fi_X1_29) (fun _ h9 => h9) rfl hin rfl (by decide +kernel) rfl rfl (Nat.le_of_ble_eq_true rfl) dX1_init_42 (fun H locs hP hD hS => ?_)
  have hP : va_P D vwCl [(h0, .inr (1, [.ref a1, .ref a2, .ref q7, .ref q16, .int (-1), .int 0, .int 0, .int 0, .int 0, .ref q30])), (q7, .inl (k0, 10, .inl (fun _ => 0))), (q16, .inl (k0, 2000, .inl (fun _ => 0))), (q30, .inl (k0, 200, .inl (fun _ => 0)))] H := hP
  have hD : va_D A [(h0, .inr (1, [.ref a1, .ref a2, .ref q7, .ref q16, .int (-1), .int 0, .int 0, .int 0, .int 0, .ref q30])), (q7, .inl (k0, 10, .inl (fun _ => 0))), (q16, .inl (k0, 2000, .inl (fun _ => 0))), (q30, .inl (k0, 200, .inl (fun _ => 0)))] := hD
  refine W.widen (k := 3) (n := 2210) (Nat.le_of_ble_eq_true rfl) (Nat.le_of_ble_eq_true rfl) ?_
  exact W.vret hx hb hr (fun t ht hW => ⟨⟨fun k => ([q7, q16, q30] : List Nat).getD k 0, rfl, trivial, by rw [ht]; exact hP, va_K.moved hW.alike hK, hD⟩, hS.F ht⟩) hS.2.2 dX1_init_45 B.notSynchronized
set_option maxRecDepth 100000 in
set_option maxHeartbeats 4000000 in
theorem n_X6 (l : Launch) (D : va_G) (k0 k1 k2 k3 : ClassId) (h0 sz a1 a2 : Nat) : Met l yX6_init (wsM M_X6_init) ({ frames := 2, cells := 10, slots := 3081, locals := 62 } : Room) (va_Pc [.ref h0, .ref a1, .ref a2] (fun U => U.heap.size = sz ∧ va_P D vwCl [(h0, .inr (6, [.null, .null, .int 0, .null, .null, .null, .null, .null, .int 0, .null, .null, .null, .null, .null]))] U.heap ∧ va_K D vwCl (TYk k0 k1 k2 k3) U ∧ va_D (fun _ => True) [(h0, .inr (6, [.null, .null, .int 0, .null, .null, .null, .null, .null, .int 0, .null, .null, .null, .null, .null]))])) (va_Qv (fun _ : Nat → Nat => True) (fun u t => va_P D vwCl [(h0, .inr (6, [.ref a1, .ref a2, .int 0, .ref (u 0), .ref (u 1), .ref (u 2), .ref (u 3), .ref (u 4), .int (-1), .ref (u 5), .ref (u 6), .ref (u 7), .ref (u 8), .ref (u 9)])), ((u 0), .inl (k0, 12, .inl (fun _ => 0))), ((u 1), .inl (k0, 12, .inl (fun _ => 0))), ((u 2), .inl (k0, 12, .inl (fun _ => 0))), ((u 3), .inl (k0, 12, .inl (fun _ => 0))), ((u 4), .inl (k0, 12, .inl (fun _ => 0))), ((u 5), .inl (k0, 200, .inl (fun _ => 0))), ((u 6), .inl (k1, 200, .inr (.inl (fun _ => 0)))), ((u 7), .inl (k1, 8, .inr (.inl (fun _ => 0)))), ((u 8), .inl (k1, 2600, .inr (.inl (fun _ => 0)))), ((u 9), .inl (k1, 13, .inr (.inl (fun _ => 0))))] t.heap ∧ va_K D vwCl (TYk k0 k1 k2 k3) t ∧ va_D (va_A [(h0, .inr (6, [.null, .null, .int 0, .null, .null, .null, .null, .null, .int 0, .null, .null, .null, .null, .null]))] sz) [(h0, .inr (6, [.ref a1, .ref a2, .int 0, .ref (u 0), .ref (u 1), .ref (u 2), .ref (u 3), .ref (u 4), .int (-1), .ref (u 5), .ref (u 6), .ref (u 7), .ref (u 8), .ref (u 9)])), ((u 0), .inl (k0, 12, .inl (fun _ => 0))), ((u 1), .inl (k0, 12, .inl (fun _ => 0))), ((u 2), .inl (k0, 12, .inl (fun _ => 0))), ((u 3), .inl (k0, 12, .inl (fun _ => 0))), ((u 4), .inl (k0, 12, .inl (fun _ => 0))), ((u 5), .inl (k0, 200, .inl (fun _ => 0))), ((u 6), .inl (k1, 200, .inr (.inl (fun _ => 0)))), ((u 7), .inl (k1, 8, .inr (.inl (fun _ => 0)))), ((u 8), .inl (k1, 2600, .inr (.inl (fun _ => 0)))), ((u 9), .inl (k1, 13, .inr (.inl (fun _ => 0))))]) (va_A [(h0, .inr (6, [.null, .null, .int 0, .null, .null, .null, .null, .null, .int 0, .null, .null, .null, .null, .null]))] sz)) 10 3081 (va_A [(h0, .inr (6, [.null, .null, .int 0, .null, .null, .null, .null, .null, .int 0, .null, .null, .null, .null, .null]))] sz) := by
  refine Met.ofW (cc := cX6_init) (maxL := 3) (ret := none) (by decide +kernel) rfl ?_
  intro p e s m args below meth c s₁ B hml hv
  obtain ⟨rfl, hsz, hP, hK, hD0⟩ := hv
  have hx := B.exec
  have hb := B.bytes
  have hr := B.returns
  have hts0 := atoms_spec (ws := wsM M_X6_init) B.pre
  have hts : ∀ w ∈ TB, w.before ([.ref h0, .ref a1, .ref a2] : List Value).toArray s = true := fun w hw => hts0 w (List.mem_cons_of_mem _ hw)
  have hown : s.vm.findClass RX6 = some m.cls := findClass_of_methodNamed B.named
  have hin : meth.name = "<init>" := (name_of_methodNamed B.named B.method).1
  subst hsz
  have hD := hD0.self (sz := s.heap.size)
  generalize hAe : va_A [(h0, .inr (6, [.null, .null, .int 0, .null, .null, .null, .null, .null, .int 0, .null, .null, .null, .null, .null]))] s.heap.size = A at hD ⊢
  have hA : ∀ q : Nat, s.heap.size ≤ q → A q := fun q h => by rw [← hAe]; exact Or.inr h
  have hS : va_S A s.heap s.heap [] := va_S.rf
  have hl := lv_entry ([.ref h0, .ref a1, .ref a2]) (n := 3) (Nat.le_of_ble_eq_true rfl)
  rw [lg_entry_eq]
  generalize (lg_sl ([.ref h0, .ref a1, .ref a2]) ++ List.replicate (3 - (lg_sl ([.ref h0, .ref a1, .ref a2])).length) Slot.unset).toArray = ls at hl ⊢
  have hl : lv_has ls 3 [(0, .ref h0), (1, .ref a1), (2, .ref a2)] := hl
  refine lv_aload_n hx hb dX6_init_0 rfl (lv_at hl 0 rfl) ?_
  refine W.objInit hx hb hown (hts _ oi_6) (hts _ oi_i) (hts _ oi_c) rfl (by rw [hml]; exact hl.1) rfl dX6_init_1 (Nat.le_of_ble_eq_true rfl) (Nat.le_of_ble_eq_true rfl) ?_
  refine W.eq (g2 := F0 m 4 ls []) rfl ?_
  refine lv_aload_n hx hb dX6_init_4 rfl (lv_at hl 0 rfl) ?_
  refine lv_bipush (v := (12 : Int32)) hx hb dX6_init_5 (by decide) ?_
  refine nw_newa (atype := .int) (ty := .int) (N' := 12) (a0 := (12, .inl (fun _ => 0))) hx hb (hts _ ar_int) rfl hK 0 (cT := k0) rfl (fun _ _ h => h) hP hD hS hA (fun _ => rfl) (by decide) (by decide) (by decide) (Nat.le_of_ble_eq_true rfl) (Nat.le_of_ble_eq_true rfl) dX6_init_7 (fun q7 H hP hD hS => ?_)
  have hP : va_P D vwCl [(h0, .inr (6, [.null, .null, .int 0, .null, .null, .null, .null, .null, .int 0, .null, .null, .null, .null, .null])), (q7, .inl (k0, 12, .inl (fun _ => 0)))] H := hP
  have hD : va_D A [(h0, .inr (6, [.null, .null, .int 0, .null, .null, .null, .null, .null, .int 0, .null, .null, .null, .null, .null])), (q7, .inl (k0, 12, .inl (fun _ => 0)))] := hD
  refine va_putF (D := D) (ci := 6) (v := .ref q7) (ty := (.array .int)) (C := RX6) (T := TX6) (N := 14) hx hb hts in6 tyX6 tyX6_ok nmX6 hown hK hP hD hS 0 rfl rfl 3 (by decide) (hts _ fi_X6_9) (fun _ h9 => h9) rfl hin rfl (by decide +kernel) rfl rfl (Nat.le_of_ble_eq_true rfl) dX6_init_9 (fun H locs hP hD hS => ?_)
  have hP : va_P D vwCl [(h0, .inr (6, [.null, .null, .int 0, .ref q7, .null, .null, .null, .null, .int 0, .null, .null, .null, .null, .null])), (q7, .inl (k0, 12, .inl (fun _ => 0)))] H := hP
  have hD : va_D A [(h0, .inr (6, [.null, .null, .int 0, .ref q7, .null, .null, .null, .null, .int 0, .null, .null, .null, .null, .null])), (q7, .inl (k0, 12, .inl (fun _ => 0)))] := hD
  refine lv_aload_n hx hb dX6_init_12 rfl (lv_at hl 0 rfl) ?_
  refine lv_bipush (v := (12 : Int32)) hx hb dX6_init_13 (by decide) ?_
  refine nw_newa (atype := .int) (ty := .int) (N' := 12) (a0 := (12, .inl (fun _ => 0))) hx hb (hts _ ar_int) rfl hK 0 (cT := k0) rfl (fun _ _ h => h) hP hD hS hA (fun _ => rfl) (by decide) (by decide) (by decide) (Nat.le_of_ble_eq_true rfl) (Nat.le_of_ble_eq_true rfl) dX6_init_15 (fun q15 H hP hD hS => ?_)
  have hP : va_P D vwCl [(h0, .inr (6, [.null, .null, .int 0, .ref q7, .null, .null, .null, .null, .int 0, .null, .null, .null, .null, .null])), (q7, .inl (k0, 12, .inl (fun _ => 0))), (q15, .inl (k0, 12, .inl (fun _ => 0)))] H := hP
  have hD : va_D A [(h0, .inr (6, [.null, .null, .int 0, .ref q7, .null, .null, .null, .null, .int 0, .null, .null, .null, .null, .null])), (q7, .inl (k0, 12, .inl (fun _ => 0))), (q15, .inl (k0, 12, .inl (fun _ => 0)))] := hD
  refine va_putF (D := D) (ci := 6) (v := .ref q15) (ty := (.array .int)) (C := RX6) (T := TX6) (N := 14) hx hb hts in6 tyX6 tyX6_ok nmX6 hown hK hP hD hS 0 rfl rfl 4 (by decide) (hts _ fi_X6_15) (fun _ h9 => h9) rfl hin rfl (by decide +kernel) rfl rfl (Nat.le_of_ble_eq_true rfl) dX6_init_17 (fun H locs hP hD hS => ?_)
  have hP : va_P D vwCl [(h0, .inr (6, [.null, .null, .int 0, .ref q7, .ref q15, .null, .null, .null, .int 0, .null, .null, .null, .null, .null])), (q7, .inl (k0, 12, .inl (fun _ => 0))), (q15, .inl (k0, 12, .inl (fun _ => 0)))] H := hP
  have hD : va_D A [(h0, .inr (6, [.null, .null, .int 0, .ref q7, .ref q15, .null, .null, .null, .int 0, .null, .null, .null, .null, .null])), (q7, .inl (k0, 12, .inl (fun _ => 0))), (q15, .inl (k0, 12, .inl (fun _ => 0)))] := hD
  refine lv_aload_n hx hb dX6_init_20 rfl (lv_at hl 0 rfl) ?_
  refine lv_bipush (v := (12 : Int32)) hx hb dX6_init_21 (by decide) ?_
  refine nw_newa (atype := .int) (ty := .int) (N' := 12) (a0 := (12, .inl (fun _ => 0))) hx hb (hts _ ar_int) rfl hK 0 (cT := k0) rfl (fun _ _ h => h) hP hD hS hA (fun _ => rfl) (by decide) (by decide) (by decide) (Nat.le_of_ble_eq_true rfl) (Nat.le_of_ble_eq_true rfl) dX6_init_23 (fun q23 H hP hD hS => ?_)
  have hP : va_P D vwCl [(h0, .inr (6, [.null, .null, .int 0, .ref q7, .ref q15, .null, .null, .null, .int 0, .null, .null, .null, .null, .null])), (q7, .inl (k0, 12, .inl (fun _ => 0))), (q15, .inl (k0, 12, .inl (fun _ => 0))), (q23, .inl (k0, 12, .inl (fun _ => 0)))] H := hP
  have hD : va_D A [(h0, .inr (6, [.null, .null, .int 0, .ref q7, .ref q15, .null, .null, .null, .int 0, .null, .null, .null, .null, .null])), (q7, .inl (k0, 12, .inl (fun _ => 0))), (q15, .inl (k0, 12, .inl (fun _ => 0))), (q23, .inl (k0, 12, .inl (fun _ => 0)))] := hD
  refine va_putF (D := D) (ci := 6) (v := .ref q23) (ty := (.array .int)) (C := RX6) (T := TX6) (N := 14) hx hb hts in6 tyX6 tyX6_ok nmX6 hown hK hP hD hS 0 rfl rfl 5 (by decide) (hts _ fi_X6_18) (fun _ h9 => h9) rfl hin rfl (by decide +kernel) rfl rfl (Nat.le_of_ble_eq_true rfl) dX6_init_25 (fun H locs hP hD hS => ?_)
  have hP : va_P D vwCl [(h0, .inr (6, [.null, .null, .int 0, .ref q7, .ref q15, .ref q23, .null, .null, .int 0, .null, .null, .null, .null, .null])), (q7, .inl (k0, 12, .inl (fun _ => 0))), (q15, .inl (k0, 12, .inl (fun _ => 0))), (q23, .inl (k0, 12, .inl (fun _ => 0)))] H := hP
  have hD : va_D A [(h0, .inr (6, [.null, .null, .int 0, .ref q7, .ref q15, .ref q23, .null, .null, .int 0, .null, .null, .null, .null, .null])), (q7, .inl (k0, 12, .inl (fun _ => 0))), (q15, .inl (k0, 12, .inl (fun _ => 0))), (q23, .inl (k0, 12, .inl (fun _ => 0)))] := hD
  refine lv_aload_n hx hb dX6_init_28 rfl (lv_at hl 0 rfl) ?_
  refine lv_bipush (v := (12 : Int32)) hx hb dX6_init_29 (by decide) ?_
  refine nw_newa (atype := .int) (ty := .int) (N' := 12) (a0 := (12, .inl (fun _ => 0))) hx hb (hts _ ar_int) rfl hK 0 (cT := k0) rfl (fun _ _ h => h) hP hD hS hA (fun _ => rfl) (by decide) (by decide) (by decide) (Nat.le_of_ble_eq_true rfl) (Nat.le_of_ble_eq_true rfl) dX6_init_31 (fun q31 H hP hD hS => ?_)
  have hP : va_P D vwCl [(h0, .inr (6, [.null, .null, .int 0, .ref q7, .ref q15, .ref q23, .null, .null, .int 0, .null, .null, .null, .null, .null])), (q7, .inl (k0, 12, .inl (fun _ => 0))), (q15, .inl (k0, 12, .inl (fun _ => 0))), (q23, .inl (k0, 12, .inl (fun _ => 0))), (q31, .inl (k0, 12, .inl (fun _ => 0)))] H := hP
  have hD : va_D A [(h0, .inr (6, [.null, .null, .int 0, .ref q7, .ref q15, .ref q23, .null, .null, .int 0, .null, .null, .null, .null, .null])), (q7, .inl (k0, 12, .inl (fun _ => 0))), (q15, .inl (k0, 12, .inl (fun _ => 0))), (q23, .inl (k0, 12, .inl (fun _ => 0))), (q31, .inl (k0, 12, .inl (fun _ => 0)))] := hD
  refine va_putF (D := D) (ci := 6) (v := .ref q31) (ty := (.array .int)) (C := RX6) (T := TX6) (N := 14) hx hb hts in6 tyX6 tyX6_ok nmX6 hown hK hP hD hS 0 rfl rfl 6 (by decide) (hts _ fi_X6_21) (fun _ h9 => h9) rfl hin rfl (by decide +kernel) rfl rfl (Nat.le_of_ble_eq_true rfl) dX6_init_33 (fun H locs hP hD hS => ?_)
  have hP : va_P D vwCl [(h0, .inr (6, [.null, .null, .int 0, .ref q7, .ref q15, .ref q23, .ref q31, .null, .int 0, .null, .null, .null, .null, .null])), (q7, .inl (k0, 12, .inl (fun _ => 0))), (q15, .inl (k0, 12, .inl (fun _ => 0))), (q23, .inl (k0, 12, .inl (fun _ => 0))), (q31, .inl (k0, 12, .inl (fun _ => 0)))] H := hP
  have hD : va_D A [(h0, .inr (6, [.null, .null, .int 0, .ref q7, .ref q15, .ref q23, .ref q31, .null, .int 0, .null, .null, .null, .null, .null])), (q7, .inl (k0, 12, .inl (fun _ => 0))), (q15, .inl (k0, 12, .inl (fun _ => 0))), (q23, .inl (k0, 12, .inl (fun _ => 0))), (q31, .inl (k0, 12, .inl (fun _ => 0)))] := hD
  refine lv_aload_n hx hb dX6_init_36 rfl (lv_at hl 0 rfl) ?_
  refine lv_bipush (v := (12 : Int32)) hx hb dX6_init_37 (by decide) ?_
  refine nw_newa (atype := .int) (ty := .int) (N' := 12) (a0 := (12, .inl (fun _ => 0))) hx hb (hts _ ar_int) rfl hK 0 (cT := k0) rfl (fun _ _ h => h) hP hD hS hA (fun _ => rfl) (by decide) (by decide) (by decide) (Nat.le_of_ble_eq_true rfl) (Nat.le_of_ble_eq_true rfl) dX6_init_39 (fun q39 H hP hD hS => ?_)
  have hP : va_P D vwCl [(h0, .inr (6, [.null, .null, .int 0, .ref q7, .ref q15, .ref q23, .ref q31, .null, .int 0, .null, .null, .null, .null, .null])), (q7, .inl (k0, 12, .inl (fun _ => 0))), (q15, .inl (k0, 12, .inl (fun _ => 0))), (q23, .inl (k0, 12, .inl (fun _ => 0))), (q31, .inl (k0, 12, .inl (fun _ => 0))), (q39, .inl (k0, 12, .inl (fun _ => 0)))] H := hP
  have hD : va_D A [(h0, .inr (6, [.null, .null, .int 0, .ref q7, .ref q15, .ref q23, .ref q31, .null, .int 0, .null, .null, .null, .null, .null])), (q7, .inl (k0, 12, .inl (fun _ => 0))), (q15, .inl (k0, 12, .inl (fun _ => 0))), (q23, .inl (k0, 12, .inl (fun _ => 0))), (q31, .inl (k0, 12, .inl (fun _ => 0))), (q39, .inl (k0, 12, .inl (fun _ => 0)))] := hD
  refine va_putF (D := D) (ci := 6) (v := .ref q39) (ty := (.array .int)) (C := RX6) (T := TX6) (N := 14) hx hb hts in6 tyX6 tyX6_ok nmX6 hown hK hP hD hS 0 rfl rfl 7 (by decide) (hts _ fi_X6_24) (fun _ h9 => h9) rfl hin rfl (by decide +kernel) rfl rfl (Nat.le_of_ble_eq_true rfl) dX6_init_41 (fun H locs hP hD hS => ?_)
  have hP : va_P D vwCl [(h0, .inr (6, [.null, .null, .int 0, .ref q7, .ref q15, .ref q23, .ref q31, .ref q39, .int 0, .null, .null, .null, .null, .null])), (q7, .inl (k0, 12, .inl (fun _ => 0))), (q15, .inl (k0, 12, .inl (fun _ => 0))), (q23, .inl (k0, 12, .inl (fun _ => 0))), (q31, .inl (k0, 12, .inl (fun _ => 0))), (q39, .inl (k0, 12, .inl (fun _ => 0)))] H := hP
  have hD : va_D A [(h0, .inr (6, [.null, .null, .int 0, .ref q7, .ref q15, .ref q23, .ref q31, .ref q39, .int 0, .null, .null, .null, .null, .null])), (q7, .inl (k0, 12, .inl (fun _ => 0))), (q15, .inl (k0, 12, .inl (fun _ => 0))), (q23, .inl (k0, 12, .inl (fun _ => 0))), (q31, .inl (k0, 12, .inl (fun _ => 0))), (q39, .inl (k0, 12, .inl (fun _ => 0)))] := hD
  refine lv_aload_n hx hb dX6_init_44 rfl (lv_at hl 0 rfl) ?_
  refine lv_iconst (v := (-1 : Int32)) hx hb dX6_init_45 (by decide) ?_
  refine va_put (D := D) (ci := 6) (v := .int (-1)) (ty := .int) (C := RX6) (T := TX6) (N := 14) hx hb hts in6 tyX6 tyX6_ok nmX6 hown hK hP hD hS 0 rfl rfl 8 (by decide) (hts _ fi_X6_27) (fun _ h9 => h9) rfl (by decide +kernel) rfl rfl (Nat.le_of_ble_eq_true rfl) dX6_init_46 (fun H locs hP hD hS => ?_)
  have hP : va_P D vwCl [(h0, .inr (6, [.null, .null, .int 0, .ref q7, .ref q15, .ref q23, .ref q31, .ref q39, .int (-1), .null, .null, .null, .null, .null])), (q7, .inl (k0, 12, .inl (fun _ => 0))), (q15, .inl (k0, 12, .inl (fun _ => 0))), (q23, .inl (k0, 12, .inl (fun _ => 0))), (q31, .inl (k0, 12, .inl (fun _ => 0))), (q39, .inl (k0, 12, .inl (fun _ => 0)))] H := hP
  have hD : va_D A [(h0, .inr (6, [.null, .null, .int 0, .ref q7, .ref q15, .ref q23, .ref q31, .ref q39, .int (-1), .null, .null, .null, .null, .null])), (q7, .inl (k0, 12, .inl (fun _ => 0))), (q15, .inl (k0, 12, .inl (fun _ => 0))), (q23, .inl (k0, 12, .inl (fun _ => 0))), (q31, .inl (k0, 12, .inl (fun _ => 0))), (q39, .inl (k0, 12, .inl (fun _ => 0)))] := hD
  refine lv_aload_n hx hb dX6_init_49 rfl (lv_at hl 0 rfl) ?_
  refine lv_sipush (v := (200 : Int32)) hx hb dX6_init_50 (by decide) ?_
  refine nw_newa (atype := .int) (ty := .int) (N' := 200) (a0 := (200, .inl (fun _ => 0))) hx hb (hts _ ar_int) rfl hK 0 (cT := k0) rfl (fun _ _ h => h) hP hD hS hA (fun _ => rfl) (by decide) (by decide) (by decide) (Nat.le_of_ble_eq_true rfl) (Nat.le_of_ble_eq_true rfl) dX6_init_53 (fun q53 H hP hD hS => ?_)
  have hP : va_P D vwCl [(h0, .inr (6, [.null, .null, .int 0, .ref q7, .ref q15, .ref q23, .ref q31, .ref q39, .int (-1), .null, .null, .null, .null, .null])), (q7, .inl (k0, 12, .inl (fun _ => 0))), (q15, .inl (k0, 12, .inl (fun _ => 0))), (q23, .inl (k0, 12, .inl (fun _ => 0))), (q31, .inl (k0, 12, .inl (fun _ => 0))), (q39, .inl (k0, 12, .inl (fun _ => 0))), (q53, .inl (k0, 200, .inl (fun _ => 0)))] H := hP
  have hD : va_D A [(h0, .inr (6, [.null, .null, .int 0, .ref q7, .ref q15, .ref q23, .ref q31, .ref q39, .int (-1), .null, .null, .null, .null, .null])), (q7, .inl (k0, 12, .inl (fun _ => 0))), (q15, .inl (k0, 12, .inl (fun _ => 0))), (q23, .inl (k0, 12, .inl (fun _ => 0))), (q31, .inl (k0, 12, .inl (fun _ => 0))), (q39, .inl (k0, 12, .inl (fun _ => 0))), (q53, .inl (k0, 200, .inl (fun _ => 0)))] := hD
  refine va_putF (D := D) (ci := 6) (v := .ref q53) (ty := (.array .int)) (C := RX6) (T := TX6) (N := 14) hx hb hts in6 tyX6 tyX6_ok nmX6 hown hK hP hD hS 0 rfl rfl 9 (by decide) (hts _ fi_X6_31) (fun _ h9 => h9) rfl hin rfl (by decide +kernel) rfl rfl (Nat.le_of_ble_eq_true rfl) dX6_init_55 (fun H locs hP hD hS => ?_)
  have hP : va_P D vwCl [(h0, .inr (6, [.null, .null, .int 0, .ref q7, .ref q15, .ref q23, .ref q31, .ref q39, .int (-1), .ref q53, .null, .null, .null, .null])), (q7, .inl (k0, 12, .inl (fun _ => 0))), (q15, .inl (k0, 12, .inl (fun _ => 0))), (q23, .inl (k0, 12, .inl (fun _ => 0))), (q31, .inl (k0, 12, .inl (fun _ => 0))), (q39, .inl (k0, 12, .inl (fun _ => 0))), (q53, .inl (k0, 200, .inl (fun _ => 0)))] H := hP
  have hD : va_D A [(h0, .inr (6, [.null, .null, .int 0, .ref q7, .ref q15, .ref q23, .ref q31, .ref q39, .int (-1), .ref q53, .null, .null, .null, .null])), (q7, .inl (k0, 12, .inl (fun _ => 0))), (q15, .inl (k0, 12, .inl (fun _ => 0))), (q23, .inl (k0, 12, .inl (fun _ => 0))), (q31, .inl (k0, 12, .inl (fun _ => 0))), (q39, .inl (k0, 12, .inl (fun _ => 0))), (q53, .inl (k0, 200, .inl (fun _ => 0)))] := hD
  refine lv_aload_n hx hb dX6_init_58 rfl (lv_at hl 0 rfl) ?_
  refine lv_sipush (v := (200 : Int32)) hx hb dX6_init_59 (by decide) ?_
  refine nw_newa (atype := .long) (ty := .long) (N' := 200) (a0 := (200, .inr (.inl (fun _ => 0)))) hx hb (hts _ ar_long) rfl hK 1 (cT := k1) rfl (fun _ _ h => h) hP hD hS hA (fun _ => rfl) (by decide) (by decide) (by decide) (Nat.le_of_ble_eq_true rfl) (Nat.le_of_ble_eq_true rfl) dX6_init_62 (fun q62 H hP hD hS => ?_)
  have hP : va_P D vwCl [(h0, .inr (6, [.null, .null, .int 0, .ref q7, .ref q15, .ref q23, .ref q31, .ref q39, .int (-1), .ref q53, .null, .null, .null, .null])), (q7, .inl (k0, 12, .inl (fun _ => 0))), (q15, .inl (k0, 12, .inl (fun _ => 0))), (q23, .inl (k0, 12, .inl (fun _ => 0))), (q31, .inl (k0, 12, .inl (fun _ => 0))), (q39, .inl (k0, 12, .inl (fun _ => 0))), (q53, .inl (k0, 200, .inl (fun _ => 0))), (q62, .inl (k1, 200, .inr (.inl (fun _ => 0))))] H := hP
  have hD : va_D A [(h0, .inr (6, [.null, .null, .int 0, .ref q7, .ref q15, .ref q23, .ref q31, .ref q39, .int (-1), .ref q53, .null, .null, .null, .null])), (q7, .inl (k0, 12, .inl (fun _ => 0))), (q15, .inl (k0, 12, .inl (fun _ => 0))), (q23, .inl (k0, 12, .inl (fun _ => 0))), (q31, .inl (k0, 12, .inl (fun _ => 0))), (q39, .inl (k0, 12, .inl (fun _ => 0))), (q53, .inl (k0, 200, .inl (fun _ => 0))), (q62, .inl (k1, 200, .inr (.inl (fun _ => 0))))] := hD
  refine va_putF (D := D) (ci := 6) (v := .ref q62) (ty := (.array .long)) (C := RX6) (T := TX6) (N := 14) hx hb hts in6 tyX6 tyX6_ok nmX6 hown hK hP hD hS 0 rfl rfl 10 (by decide) (hts _ fi_X6_34) (fun _ h9 => h9) rfl hin rfl (by decide +kernel) rfl rfl (Nat.le_of_ble_eq_true rfl) dX6_init_64 (fun H locs hP hD hS => ?_)
  have hP : va_P D vwCl [(h0, .inr (6, [.null, .null, .int 0, .ref q7, .ref q15, .ref q23, .ref q31, .ref q39, .int (-1), .ref q53, .ref q62, .null, .null, .null])), (q7, .inl (k0, 12, .inl (fun _ => 0))), (q15, .inl (k0, 12, .inl (fun _ => 0))), (q23, .inl (k0, 12, .inl (fun _ => 0))), (q31, .inl (k0, 12, .inl (fun _ => 0))), (q39, .inl (k0, 12, .inl (fun _ => 0))), (q53, .inl (k0, 200, .inl (fun _ => 0))), (q62, .inl (k1, 200, .inr (.inl (fun _ => 0))))] H := hP
  have hD : va_D A [(h0, .inr (6, [.null, .null, .int 0, .ref q7, .ref q15, .ref q23, .ref q31, .ref q39, .int (-1), .ref q53, .ref q62, .null, .null, .null])), (q7, .inl (k0, 12, .inl (fun _ => 0))), (q15, .inl (k0, 12, .inl (fun _ => 0))), (q23, .inl (k0, 12, .inl (fun _ => 0))), (q31, .inl (k0, 12, .inl (fun _ => 0))), (q39, .inl (k0, 12, .inl (fun _ => 0))), (q53, .inl (k0, 200, .inl (fun _ => 0))), (q62, .inl (k1, 200, .inr (.inl (fun _ => 0))))] := hD
  refine lv_aload_n hx hb dX6_init_67 rfl (lv_at hl 0 rfl) ?_
  refine lv_bipush (v := (8 : Int32)) hx hb dX6_init_68 (by decide) ?_
  refine nw_newa (atype := .long) (ty := .long) (N' := 8) (a0 := (8, .inr (.inl (fun _ => 0)))) hx hb (hts _ ar_long) rfl hK 1 (cT := k1) rfl (fun _ _ h => h) hP hD hS hA (fun _ => rfl) (by decide) (by decide) (by decide) (Nat.le_of_ble_eq_true rfl) (Nat.le_of_ble_eq_true rfl) dX6_init_70 (fun q70 H hP hD hS => ?_)
  have hP : va_P D vwCl [(h0, .inr (6, [.null, .null, .int 0, .ref q7, .ref q15, .ref q23, .ref q31, .ref q39, .int (-1), .ref q53, .ref q62, .null, .null, .null])), (q7, .inl (k0, 12, .inl (fun _ => 0))), (q15, .inl (k0, 12, .inl (fun _ => 0))), (q23, .inl (k0, 12, .inl (fun _ => 0))), (q31, .inl (k0, 12, .inl (fun _ => 0))), (q39, .inl (k0, 12, .inl (fun _ => 0))), (q53, .inl (k0, 200, .inl (fun _ => 0))), (q62, .inl (k1, 200, .inr (.inl (fun _ => 0)))), (q70, .inl (k1, 8, .inr (.inl (fun _ => 0))))] H := hP
  have hD : va_D A [(h0, .inr (6, [.null, .null, .int 0, .ref q7, .ref q15, .ref q23, .ref q31, .ref q39, .int (-1), .ref q53, .ref q62, .null, .null, .null])), (q7, .inl (k0, 12, .inl (fun _ => 0))), (q15, .inl (k0, 12, .inl (fun _ => 0))), (q23, .inl (k0, 12, .inl (fun _ => 0))), (q31, .inl (k0, 12, .inl (fun _ => 0))), (q39, .inl (k0, 12, .inl (fun _ => 0))), (q53, .inl (k0, 200, .inl (fun _ => 0))), (q62, .inl (k1, 200, .inr (.inl (fun _ => 0)))), (q70, .inl (k1, 8, .inr (.inl (fun _ => 0))))] := hD
  refine va_putF (D := D) (ci := 6) (v := .ref q70) (ty := (.array .long)) (C := RX6) (T := TX6) (N := 14) hx hb hts in6 tyX6 tyX6_ok nmX6 hown hK hP hD hS 0 rfl rfl 11 (by decide) (hts _ fi_X6_38) (fun _ h9 => h9) rfl hin rfl (by decide +kernel) rfl rfl (Nat.le_of_ble_eq_true rfl) dX6_init_72 (fun H locs hP hD hS => ?_)
  have hP : va_P D vwCl [(h0, .inr (6, [.null, .null, .int 0, .ref q7, .ref q15, .ref q23, .ref q31, .ref q39, .int (-1), .ref q53, .ref q62, .ref q70, .null, .null])), (q7, .inl (k0, 12, .inl (fun _ => 0))), (q15, .inl (k0, 12, .inl (fun _ => 0))), (q23, .inl (k0, 12, .inl (fun _ => 0))), (q31, .inl (k0, 12, .inl (fun _ => 0))), (q39, .inl (k0, 12, .inl (fun _ => 0))), (q53, .inl (k0, 200, .inl (fun _ => 0))), (q62, .inl (k1, 200, .inr (.inl (fun _ => 0)))), (q70, .inl (k1, 8, .inr (.inl (fun _ => 0))))] H := hP
  have hD : va_D A [(h0, .inr (6, [.null, .null, .int 0, .ref q7, .ref q15, .ref q23, .ref q31, .ref q39, .int (-1), .ref q53, .ref q62, .ref q70, .null, .null])), (q7, .inl (k0, 12, .inl (fun _ => 0))), (q15, .inl (k0, 12, .inl (fun _ => 0))), (q23, .inl (k0, 12, .inl (fun _ => 0))), (q31, .inl (k0, 12, .inl (fun _ => 0))), (q39, .inl (k0, 12, .inl (fun _ => 0))), (q53, .inl (k0, 200, .inl (fun _ => 0))), (q62, .inl (k1, 200, .inr (.inl (fun _ => 0)))), (q70, .inl (k1, 8, .inr (.inl (fun _ => 0))))] := hD
  refine lv_aload_n hx hb dX6_init_75 rfl (lv_at hl 0 rfl) ?_
  refine lv_sipush (v := (2600 : Int32)) hx hb dX6_init_76 (by decide) ?_
  refine nw_newa (atype := .long) (ty := .long) (N' := 2600) (a0 := (2600, .inr (.inl (fun _ => 0)))) hx hb (hts _ ar_long) rfl hK 1 (cT := k1) rfl (fun _ _ h => h) hP hD hS hA (fun _ => rfl) (by decide) (by decide) (by decide) (Nat.le_of_ble_eq_true rfl) (Nat.le_of_ble_eq_true rfl) dX6_init_79 (fun q79 H hP hD hS => ?_)
  have hP : va_P D vwCl [(h0, .inr (6, [.null, .null, .int 0, .ref q7, .ref q15, .ref q23, .ref q31, .ref q39, .int (-1), .ref q53, .ref q62, .ref q70, .null, .null])), (q7, .inl (k0, 12, .inl (fun _ => 0))), (q15, .inl (k0, 12, .inl (fun _ => 0))), (q23, .inl (k0, 12, .inl (fun _ => 0))), (q31, .inl (k0, 12, .inl (fun _ => 0))), (q39, .inl (k0, 12, .inl (fun _ => 0))), (q53, .inl (k0, 200, .inl (fun _ => 0))), (q62, .inl (k1, 200, .inr (.inl (fun _ => 0)))), (q70, .inl (k1, 8, .inr (.inl (fun _ => 0)))), (q79, .inl (k1, 2600, .inr (.inl (fun _ => 0))))] H := hP
  have hD : va_D A [(h0, .inr (6, [.null, .null, .int 0, .ref q7, .ref q15, .ref q23, .ref q31, .ref q39, .int (-1), .ref q53, .ref q62, .ref q70, .null, .null])), (q7, .inl (k0, 12, .inl (fun _ => 0))), (q15, .inl (k0, 12, .inl (fun _ => 0))), (q23, .inl (k0, 12, .inl (fun _ => 0))), (q31, .inl (k0, 12, .inl (fun _ => 0))), (q39, .inl (k0, 12, .inl (fun _ => 0))), (q53, .inl (k0, 200, .inl (fun _ => 0))), (q62, .inl (k1, 200, .inr (.inl (fun _ => 0)))), (q70, .inl (k1, 8, .inr (.inl (fun _ => 0)))), (q79, .inl (k1, 2600, .inr (.inl (fun _ => 0))))] := hD
  refine va_putF (D := D) (ci := 6) (v := .ref q79) (ty := (.array .long)) (C := RX6) (T := TX6) (N := 14) hx hb hts in6 tyX6 tyX6_ok nmX6 hown hK hP hD hS 0 rfl rfl 12 (by decide) (hts _ fi_X6_41) (fun _ h9 => h9) rfl hin rfl (by decide +kernel) rfl rfl (Nat.le_of_ble_eq_true rfl) dX6_init_81 (fun H locs hP hD hS => ?_)
  have hP : va_P D vwCl [(h0, .inr (6, [.null, .null, .int 0, .ref q7, .ref q15, .ref q23, .ref q31, .ref q39, .int (-1), .ref q53, .ref q62, .ref q70, .ref q79, .null])), (q7, .inl (k0, 12, .inl (fun _ => 0))), (q15, .inl (k0, 12, .inl (fun _ => 0))), (q23, .inl (k0, 12, .inl (fun _ => 0))), (q31, .inl (k0, 12, .inl (fun _ => 0))), (q39, .inl (k0, 12, .inl (fun _ => 0))), (q53, .inl (k0, 200, .inl (fun _ => 0))), (q62, .inl (k1, 200, .inr (.inl (fun _ => 0)))), (q70, .inl (k1, 8, .inr (.inl (fun _ => 0)))), (q79, .inl (k1, 2600, .inr (.inl (fun _ => 0))))] H := hP
  have hD : va_D A [(h0, .inr (6, [.null, .null, .int 0, .ref q7, .ref q15, .ref q23, .ref q31, .ref q39, .int (-1), .ref q53, .ref q62, .ref q70, .ref q79, .null])), (q7, .inl (k0, 12, .inl (fun _ => 0))), (q15, .inl (k0, 12, .inl (fun _ => 0))), (q23, .inl (k0, 12, .inl (fun _ => 0))), (q31, .inl (k0, 12, .inl (fun _ => 0))), (q39, .inl (k0, 12, .inl (fun _ => 0))), (q53, .inl (k0, 200, .inl (fun _ => 0))), (q62, .inl (k1, 200, .inr (.inl (fun _ => 0)))), (q70, .inl (k1, 8, .inr (.inl (fun _ => 0)))), (q79, .inl (k1, 2600, .inr (.inl (fun _ => 0))))] := hD
  refine lv_aload_n hx hb dX6_init_84 rfl (lv_at hl 0 rfl) ?_
  refine lv_bipush (v := (13 : Int32)) hx hb dX6_init_85 (by decide) ?_
  refine nw_newa (atype := .long) (ty := .long) (N' := 13) (a0 := (13, .inr (.inl (fun _ => 0)))) hx hb (hts _ ar_long) rfl hK 1 (cT := k1) rfl (fun _ _ h => h) hP hD hS hA (fun _ => rfl) (by decide) (by decide) (by decide) (Nat.le_of_ble_eq_true rfl) (Nat.le_of_ble_eq_true rfl) dX6_init_87 (fun q87 H hP hD hS => ?_)
  have hP : va_P D vwCl [(h0, .inr (6, [.null, .null, .int 0, .ref q7, .ref q15, .ref q23, .ref q31, .ref q39, .int (-1), .ref q53, .ref q62, .ref q70, .ref q79, .null])), (q7, .inl (k0, 12, .inl (fun _ => 0))), (q15, .inl (k0, 12, .inl (fun _ => 0))), (q23, .inl (k0, 12, .inl (fun _ => 0))), (q31, .inl (k0, 12, .inl (fun _ => 0))), (q39, .inl (k0, 12, .inl (fun _ => 0))), (q53, .inl (k0, 200, .inl (fun _ => 0))), (q62, .inl (k1, 200, .inr (.inl (fun _ => 0)))), (q70, .inl (k1, 8, .inr (.inl (fun _ => 0)))), (q79, .inl (k1, 2600, .inr (.inl (fun _ => 0)))), (q87, .inl (k1, 13, .inr (.inl (fun _ => 0))))] H := hP
  have hD : va_D A [(h0, .inr (6, [.null, .null, .int 0, .ref q7, .ref q15, .ref q23, .ref q31, .ref q39, .int (-1), .ref q53, .ref q62, .ref q70, .ref q79, .null])), (q7, .inl (k0, 12, .inl (fun _ => 0))), (q15, .inl (k0, 12, .inl (fun _ => 0))), (q23, .inl (k0, 12, .inl (fun _ => 0))), (q31, .inl (k0, 12, .inl (fun _ => 0))), (q39, .inl (k0, 12, .inl (fun _ => 0))), (q53, .inl (k0, 200, .inl (fun _ => 0))), (q62, .inl (k1, 200, .inr (.inl (fun _ => 0)))), (q70, .inl (k1, 8, .inr (.inl (fun _ => 0)))), (q79, .inl (k1, 2600, .inr (.inl (fun _ => 0)))), (q87, .inl (k1, 13, .inr (.inl (fun _ => 0))))] := hD
  refine va_putF (D := D) (ci := 6) (v := .ref q87) (ty := (.array .long)) (C := RX6) (T := TX6) (N := 14) hx hb hts in6 tyX6 tyX6_ok nmX6 hown hK hP hD hS 0 rfl rfl 13 (by decide) (hts _ fi_X6_44) (fun _ h9 => h9) rfl hin rfl (by decide +kernel) rfl rfl (Nat.le_of_ble_eq_true rfl) dX6_init_89 (fun H locs hP hD hS => ?_)
  have hP : va_P D vwCl [(h0, .inr (6, [.null, .null, .int 0, .ref q7, .ref q15, .ref q23, .ref q31, .ref q39, .int (-1), .ref q53, .ref q62, .ref q70, .ref q79, .ref q87])), (q7, .inl (k0, 12, .inl (fun _ => 0))), (q15, .inl (k0, 12, .inl (fun _ => 0))), (q23, .inl (k0, 12, .inl (fun _ => 0))), (q31, .inl (k0, 12, .inl (fun _ => 0))), (q39, .inl (k0, 12, .inl (fun _ => 0))), (q53, .inl (k0, 200, .inl (fun _ => 0))), (q62, .inl (k1, 200, .inr (.inl (fun _ => 0)))), (q70, .inl (k1, 8, .inr (.inl (fun _ => 0)))), (q79, .inl (k1, 2600, .inr (.inl (fun _ => 0)))), (q87, .inl (k1, 13, .inr (.inl (fun _ => 0))))] H := hP
  have hD : va_D A [(h0, .inr (6, [.null, .null, .int 0, .ref q7, .ref q15, .ref q23, .ref q31, .ref q39, .int (-1), .ref q53, .ref q62, .ref q70, .ref q79, .ref q87])), (q7, .inl (k0, 12, .inl (fun _ => 0))), (q15, .inl (k0, 12, .inl (fun _ => 0))), (q23, .inl (k0, 12, .inl (fun _ => 0))), (q31, .inl (k0, 12, .inl (fun _ => 0))), (q39, .inl (k0, 12, .inl (fun _ => 0))), (q53, .inl (k0, 200, .inl (fun _ => 0))), (q62, .inl (k1, 200, .inr (.inl (fun _ => 0)))), (q70, .inl (k1, 8, .inr (.inl (fun _ => 0)))), (q79, .inl (k1, 2600, .inr (.inl (fun _ => 0)))), (q87, .inl (k1, 13, .inr (.inl (fun _ => 0))))] := hD
  refine lv_aload_n hx hb dX6_init_92 rfl (lv_at hl 0 rfl) ?_
  refine lv_aload_n hx hb dX6_init_93 rfl (lv_at hl 1 rfl) ?_
  refine va_putF (D := D) (ci := 6) (v := .ref a1) (ty := (.object "DoorReader$Plan")) (C := RX6) (T := TX6) (N := 14) hx hb hts in6 tyX6 tyX6_ok nmX6 hown hK hP hD hS 0 rfl rfl 0 (by decide) (hts _ fi_X6_47) (fun _ h9 => h9) rfl hin rfl (by decide +kernel) rfl rfl (Nat.le_of_ble_eq_true rfl) dX6_init_94 (fun H locs hP hD hS => ?_)
  have hP : va_P D vwCl [(h0, .inr (6, [.ref a1, .null, .int 0, .ref q7, .ref q15, .ref q23, .ref q31, .ref q39, .int (-1), .ref q53, .ref q62, .ref q70, .ref q79, .ref q87])), (q7, .inl (k0, 12, .inl (fun _ => 0))), (q15, .inl (k0, 12, .inl (fun _ => 0))), (q23, .inl (k0, 12, .inl (fun _ => 0))), (q31, .inl (k0, 12, .inl (fun _ => 0))), (q39, .inl (k0, 12, .inl (fun _ => 0))), (q53, .inl (k0, 200, .inl (fun _ => 0))), (q62, .inl (k1, 200, .inr (.inl (fun _ => 0)))), (q70, .inl (k1, 8, .inr (.inl (fun _ => 0)))), (q79, .inl (k1, 2600, .inr (.inl (fun _ => 0)))), (q87, .inl (k1, 13, .inr (.inl (fun _ => 0))))] H := hP
  have hD : va_D A [(h0, .inr (6, [.ref a1, .null, .int 0, .ref q7, .ref q15, .ref q23, .ref q31, .ref q39, .int (-1), .ref q53, .ref q62, .ref q70, .ref q79, .ref q87])), (q7, .inl (k0, 12, .inl (fun _ => 0))), (q15, .inl (k0, 12, .inl (fun _ => 0))), (q23, .inl (k0, 12, .inl (fun _ => 0))), (q31, .inl (k0, 12, .inl (fun _ => 0))), (q39, .inl (k0, 12, .inl (fun _ => 0))), (q53, .inl (k0, 200, .inl (fun _ => 0))), (q62, .inl (k1, 200, .inr (.inl (fun _ => 0)))), (q70, .inl (k1, 8, .inr (.inl (fun _ => 0)))), (q79, .inl (k1, 2600, .inr (.inl (fun _ => 0)))), (q87, .inl (k1, 13, .inr (.inl (fun _ => 0))))] := hD
  refine lv_aload_n hx hb dX6_init_97 rfl (lv_at hl 0 rfl) ?_
  refine lv_aload_n hx hb dX6_init_98 rfl (lv_at hl 2 rfl) ?_
  refine va_putF (D := D) (ci := 6) (v := .ref a2) (ty := (.object "DoorReader$LogBook")) (C := RX6) (T := TX6) (N := 14) hx hb hts in6 tyX6 tyX6_ok nmX6 hown hK hP hD hS 0 rfl rfl 1 (by decide) (hts _ fi_X6_51) (fun _ h9 => h9) rfl hin rfl (by decide +kernel) rfl rfl (Nat.le_of_ble_eq_true rfl) dX6_init_99 (fun H locs hP hD hS => ?_)
  have hP : va_P D vwCl [(h0, .inr (6, [.ref a1, .ref a2, .int 0, .ref q7, .ref q15, .ref q23, .ref q31, .ref q39, .int (-1), .ref q53, .ref q62, .ref q70, .ref q79, .ref q87])), (q7, .inl (k0, 12, .inl (fun _ => 0))), (q15, .inl (k0, 12, .inl (fun _ => 0))), (q23, .inl (k0, 12, .inl (fun _ => 0))), (q31, .inl (k0, 12, .inl (fun _ => 0))), (q39, .inl (k0, 12, .inl (fun _ => 0))), (q53, .inl (k0, 200, .inl (fun _ => 0))), (q62, .inl (k1, 200, .inr (.inl (fun _ => 0)))), (q70, .inl (k1, 8, .inr (.inl (fun _ => 0)))), (q79, .inl (k1, 2600, .inr (.inl (fun _ => 0)))), (q87, .inl (k1, 13, .inr (.inl (fun _ => 0))))] H := hP
  have hD : va_D A [(h0, .inr (6, [.ref a1, .ref a2, .int 0, .ref q7, .ref q15, .ref q23, .ref q31, .ref q39, .int (-1), .ref q53, .ref q62, .ref q70, .ref q79, .ref q87])), (q7, .inl (k0, 12, .inl (fun _ => 0))), (q15, .inl (k0, 12, .inl (fun _ => 0))), (q23, .inl (k0, 12, .inl (fun _ => 0))), (q31, .inl (k0, 12, .inl (fun _ => 0))), (q39, .inl (k0, 12, .inl (fun _ => 0))), (q53, .inl (k0, 200, .inl (fun _ => 0))), (q62, .inl (k1, 200, .inr (.inl (fun _ => 0)))), (q70, .inl (k1, 8, .inr (.inl (fun _ => 0)))), (q79, .inl (k1, 2600, .inr (.inl (fun _ => 0)))), (q87, .inl (k1, 13, .inr (.inl (fun _ => 0))))] := hD
  refine W.widen (k := 10) (n := 3081) (Nat.le_of_ble_eq_true rfl) (Nat.le_of_ble_eq_true rfl) ?_
  exact W.vret hx hb hr (fun t ht hW => ⟨⟨fun k => ([q7, q15, q23, q31, q39, q53, q62, q70, q79, q87] : List Nat).getD k 0, rfl, trivial, by rw [ht]; exact hP, va_K.moved hW.alike hK, hD⟩, hS.F ht⟩) hS.2.2 dX6_init_102 B.notSynchronized
