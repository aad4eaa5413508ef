/-! ===== the law's own way: it calls the class's, and catches what that throws ===== -/
def M_L_way : MM := (cL_way, yL_way, RL, 7, some .int)
abbrev hhW : List (Nat × Nat × Nat × Nat) := [(0, 14, 17, 13)]
def wsLW : List Cond := .codeWith yL_way cL_way 7 (some .int) hhW :: TB
section LWAY
variable {G : GG} {d : Nat} {σ : Mem} {p : Program} {e : Env} {R : Room} {s : State} {m : MethodId} {args : Array Value} {below : List Frame} {meth : Method} {c : Code} {H : Heap} {locs : List Loc} {cells slots : Nat} {A : Nat → Prop} {Z : State → Prop} {ls : Array Slot}
theorem lw_afterX {M : MM} {pc : Nat} {S : List Value} {f : Int32 → Mem → Prop} {fx : Mem → Prop} {a : Array Value} {st0 : List Value}
    (hrun : vx_Run p (gl G) e R s m args below meth c H locs cells slots 1 6 (F0 m pc ls st0) (S.map (cv G)) (QcW G (RI f) a) (xcW G fx) (AK G))
    (C : Cx G M p s m args meth c A) (hS : va_S A s.heap H locs)
    (kk : ∀ (x : Int32) (σ' : Mem) (H' : Heap) (locs' : List Loc), f x σ' → va_P (gD G) vwCl (wl G σ') H' → va_S A s.heap H' locs' → W p (gl G) e R s m args below meth c H' locs' (cells + 1) (slots + 6) Z (F0 m (pc + 3) ls ((Value.int x :: S).map (cv G))))
    (kx : ∀ (σ' : Mem) (H' : Heap) (locs' : List Loc) (q : Addr) (ce : Cell), fx σ' → va_P (gD G) vwCl (wl G σ') H' → va_S A s.heap H' locs' → H'[q]? = some ce → ce.vm = .none → s.vm.findClass NSE = some ce.cls → vx_W p (gl G) e R s m args below meth c H' locs' (cells + 1) (slots + 6) Z (F0 m pc ls (S.map (cv G))) q) :
    W p (gl G) e R s m args below meth c H locs cells slots Z (F0 m pc ls st0) := by
  intro T hT X
  have hA := C.2.2.2.2.2.2.2.2.2.1
  have sS : ∀ {st₀ t T' : State} {Lc : List Loc}, st₀.heap = H → T'.heap = t.heap → (∀ q ∈ Lc, AK G q.base) → va_F (AK G) st₀ t → va_S A s.heap T'.heap (locs ++ Lc) := by
    intro st₀ t T' Lc h0 e1 hL hF
    obtain ⟨hz, hk⟩ := hF
    rw [h0] at hz hk
    refine ⟨Nat.le_trans hS.1 (by rw [e1]; exact hz), fun q h1 h2 => ?_, fun q hq => ?_⟩
    · rw [e1, hk q (Nat.lt_of_lt_of_le h1 hS.1) (fun z => h2 (hA q z))]
      exact hS.2.1 q h1 h2
    · rcases List.mem_append.mp hq with h | h
      · exact hS.2.2 q h
      · exact hA _ (hL q h)
  rcases hrun T hT X with ⟨v, st₀, t, T', Lc, h0, X', hL, e1, e2, ⟨⟨r, σ', hv, ⟨x, hr, hq⟩, hp⟩, hF⟩, st⟩ | ⟨q, st₀, t, T', Lc, E, ce, h0, X', hL, e1, e2, ⟨σ', hq, ⟨rfl, hp⟩, hF⟩, hce, hcv, hcl, st⟩
  · subst hr
    have hv : v = some (.int x) := by injection hv
    subst hv
    obtain ⟨t2, a1, b1⟩ := kk x σ' T'.heap (locs ++ Lc) hq (by rw [e1]; exact hp) (sS h0 e1 hL hF) T' rfl X'
    exact ⟨t2, st t2 a1, b1⟩
  · obtain ⟨t2, a1, b1⟩ := kx σ' T'.heap (locs ++ Lc) q ce hq (by rw [e1]; exact hp) (sS h0 e1 hL hF) (by rw [e1]; exact hce) hcv hcl T' rfl X'
    exact ⟨t2, st.trans a1, b1⟩
/-- at pc 9 -/
def At9 (G : GG) (σ : Mem) (L : List (Option Value)) (S : List Value) : PSI := fun p e R s m args below meth c cells slots A Z => ∀ (H' : Heap) (locs' : List Loc) (ls' : Array Slot), va_P (gD G) vwCl (wl G σ) H' → va_S A s.heap H' locs' → lvr G ls' 7 L → W p (gl G) e R s m args below meth c H' locs' cells slots Z (F0 m 9 ls' (S.map (cv G)))
theorem z_lway0 {x t r u : Int32} : SZ G d M_L_way 0 [some (.ref 0), some (.int x), some (.int t), some (.int r), some (.int u), some (.ref 75), none] [] σ (At9 G σ [some (.ref 0), some (.int x), some (.int t), some (.int r), some (.int u), some (.ref 75), none] [.int u, .int r, .int t, .int x, .ref 0, .int (nI 0), .ref 75]) := by
  refine sz_aload dL_way_0 rfl ?_
  refine sy_iconst (v := nI 0) dL_way_2 (by decide) ?_
  refine sz_aloadn dL_way_3 rfl ?_
  refine sz_iloadn dL_way_4 rfl ?_
  refine sz_iloadn dL_way_5 rfl ?_
  refine sz_iloadn dL_way_6 rfl ?_
  refine sz_iload dL_way_7 rfl ?_
  intro p e R s m args below meth c H locs cells slots A Z ls C hR hP hS hl hr
  exact hr H locs ls hP hS hl
/-- at the return -/
def AtR (G : GG) (fL : Int32 → Mem → Prop) : PSI := fun p e R s m args below meth c cells slots A Z => ∀ (x : Int32) (σ' : Mem) (H' : Heap) (locs' : List Loc) (ls' : Array Slot), fL x σ' → va_P (gD G) vwCl (wl G σ') H' → va_S A s.heap H' locs' → W p (gl G) e R s m args below meth c H' locs' cells slots Z (F0 m 22 ls' [.int x])
theorem z_lway12 {x : Int32} {L : List (Option Value)} {fL : Int32 → Mem → Prop} (h : fL (nI 0) (setJ σ 75 0 x.toInt64)) : SZ G d M_L_way 12 L [.int x, .int (nI 0), .ref 75] σ (AtR G fL) := by
  refine sz_i2l dL_way_12 ?_
  refine sy_last 0 dL_way_13 a75 rfl (by decide) (by decide) ?_
  refine sz_goto (tgt := 21) dL_way_14 (by decide) ?_
  refine sy_iconst (v := nI 0) dL_way_21 (by decide) ?_
  intro p e R s m args below meth c H locs cells slots A Z ls C hR hP hS hl hr
  exact hr (nI 0) _ H locs ls h hP hS
theorem lw_cl : Cond.classLink RL 13 "java/util/NoSuchElementException" ∈ TB := tb_of (by decide +kernel) (by decide +kernel)
theorem lw_tab : tableOf hhW = [{ startPc := 0, endPc := 14, handlerPc := 17, catchType := 13 }] := by first | rfl | decide
theorem lway_met {x t r u : Int32} {f : Int32 → Mem → Prop} {fx : Mem → Prop} {fL : Int32 → Mem → Prop} (hG : Wok G) (hX : Exc G) (hd : 6 ≤ d) (hway : SZ G d M_X7_way 0 [some (.ref 0), some (.int x), some (.int t), some (.int r), some (.int u)] [] σ (WayS G f fx)) (hf : ∀ y σ', f y σ' → fL (nI 0) (setJ σ' 75 0 y.toInt64)) (hfx : ∀ σ', fx σ' → fL (nI 1) σ') :
    vx_Met (gl G) yL_way wsLW (rmE (d + 1)) (va_Pc ([Value.ref 0, .int x, .int t, .int r, .int u, .ref 75].map (cv G)) (PcW G σ)) (QcW G (RI fL)) (xcW G (fun _ => False)) 1 6 (AK G) := by
  refine vx_ofWH (cc := cL_way) (maxL := 7) (ret := some .int) (hh := hhW) (by decide +kernel) rfl ?_
  intro p e s m args below meth c s₁ B hml hv
  obtain ⟨rfl, hP, hK, hN, hg⟩ := hv
  have hts := atoms_spec (ws := wsLW) B.pre
  have hT : ∀ w ∈ TB, w.before ([Value.ref 0, .int x, .int t, .int r, .int u, .ref 75].map (cv G)).toArray s = true := fun w hw => hts w (List.mem_cons_of_mem _ hw)
  have hcw := hts _ List.mem_cons_self
  have htab := (vx_table (x := yL_way) B hcw).trans lw_tab
  have hown : s.vm.findClass RL = some m.cls := findClass_of_methodNamed B.named
  rw [lg_entry_eq]
  have C : Cx G M_L_way p s m ([Value.ref 0, .int x, .int t, .int r, .int u, .ref 75].map (cv G)).toArray meth c (AK G) := ⟨hG, B.exec, B.bytes, hml, hown, hT, hN, hK, hg, fun _ h => h, B.returns, B.notSynchronized⟩
  have back : ∀ (y : Int32) (σ' : Mem) (H' : Heap) (locs' : List Loc) (pc' : Nat) (ls' : Array Slot), decode cL_way pc' = .ok (.ireturn, 1) → fL y σ' → va_P (gD G) vwCl (wl G σ') H' → va_S (AK G) s.heap H' locs' → W p (gl G) e (rmE (d + 1)) s m ([Value.ref 0, .int x, .int t, .int r, .int u, .ref 75].map (cv G)).toArray below meth c H' locs' 1 6 (vx_MQ below (QcW G (RI fL)) (xcW G (fun _ => False)) ([Value.ref 0, .int x, .int t, .int r, .int u, .ref 75].map (cv G)).toArray s 1 6 (AK G)) (F0 m pc' ls' [.int y]) := by
    intro y σ' H' locs' pc' ls' hdec hq hP' hS'
    refine vx_ret ?_
    exact W.zret B.exec B.bytes (B.returns.trans rfl) rfl (fun t ht _ => ⟨⟨some (.int y), σ', rfl, ⟨y, rfl, hq⟩, by rw [ht]; exact hP'⟩, hS'.F ht⟩) hS'.2.2 hdec B.notSynchronized
  have key := z_lway0 (G := G) (d := d + 1) (σ := σ) (x := x) (t := t) (r := r) (u := u) p e (rmE (d + 1)) s m ([Value.ref 0, .int x, .int t, .int r, .int u, .ref 75].map (cv G)).toArray below meth c s.heap [] 0 0 (AK G) (vx_MQ below (QcW G (RI fL)) (xcW G (fun _ => False)) ([Value.ref 0, .int x, .int t, .int r, .int u, .ref 75].map (cv G)).toArray s 1 6 (AK G)) _ C ⟨Nat.le_refl _, Nat.le_refl _, Nat.zero_le _, Nat.zero_le _⟩ hP va_S.rf (ent_ok G (n := 7) (vs := [Value.ref 0, .int x, .int t, .int r, .int u, .ref 75]) (Nat.le_of_ble_eq_true rfl)) ?_
  · exact key
  intro H' locs' ls' hP' hS' hl'
  have hroom : (rmE d).frames + 1 ≤ (rmE (d + 1)).frames ∧ 8 + (M_X7_way.2.2.2.1 + 11) + (rmE d).locals ≤ (rmE (d + 1)).locals := by
    refine ⟨Nat.le_refl _, ?_⟩
    show 8 + (5 + 11) + 31 * d ≤ 31 * (d + 1)
    omega
  obtain ⟨v1, v2, v3, TT, NN, v4⟩ := vk_X7_way
  have hMet := way_met (vs := [Value.ref 0, .int x, .int t, .int r, .int u]) hG hX hd (Nat.le_of_ble_eq_true rfl) hway
  have hpre : PreV s H' M_X7_way.2.2.1 (ga G 0) (va_Pc ([Value.ref 0, .int x, .int t, .int r, .int u].map (cv G)) (PcW G σ)) ([Value.int x, .int t, .int r, .int u].map (cv G)) :=
    ⟨pcw_blind hG, va_recv hK hP' (ci := 7) (q0 := 0) v4 (wl_obj G σ o0.1 o0.2), pcw_at C hP' hS'⟩
  have hlk : Cond.methodLink RL 7 M_X7_way.2.1 ∈ TB := by
    rcases lk_L_7 with h | ⟨host, h⟩
    · exact h
    · exact tb_of (by decide +kernel) (by decide +kernel)
  refine lw_afterX (M := M_L_way) (S := [.int (nI 0), .ref 75]) (f := f) (fx := fx) (A := AK G) (vx_runV (As := [Value.int x, .int t, .int r, .int u].map (cv G)) ⟨B.exec, B.bytes, hml, hown, hT⟩ hMet ⟨callB_of 4 hT (wsM_good mk_X7_way) rfl rfl rfl (hT _ mk_X7_way.2.2.2.1) (hT _ hlk) ⟨mk_X7_way.2.2.2.2.1.1, mk_X7_way.2.2.2.2.1.2, v3⟩ hroom, hT _ v1, hT _ v2⟩ hpre rfl rfl hl'.2.1 rfl (lv_room (by rw [cats]; decide)) dL_way_9 ⟨Nat.le_refl _, Nat.le_refl _⟩) C hS' ?_ ?_
  · intro y σ' H2 locs2 hq hP2 hS2
    exact z_lway12 (G := G) (d := d + 1) (σ := σ') (x := y) (fL := fL) (hf y σ' hq) p e (rmE (d + 1)) s m _ below meth c H2 locs2 1 6 (AK G) _ ls' C ⟨Nat.le_refl _, Nat.le_refl _, Nat.le_refl _, Nat.le_refl _⟩ hP2 hS2 hl' (fun y2 σ2 H3 locs3 ls3 h1 h2 h3 => back y2 σ2 H3 locs3 22 ls3 dL_way_22 h1 h2 h3)
  · intro σ' H2 locs2 q ce hq hP2 hS2 hce hcv hcl
    refine ct_catch (own := RL) (name := NSE) (E := NSE) hown htab (by decide) (by decide) (hT _ lw_cl) (va_Nw.use rfl ((hX.2 _ _ hg).2.1 _ List.mem_cons_self)) hce hcv hcl ?_
    refine lv_astore (lv' := [(6, .ref q)]) B.exec B.bytes dL_way_17 (⟨hl'.2.1, hl'.2.2.1, fun z hz => nomatch hz⟩ : lv_has ls' 7 []) (by decide) rfl (fun ls3 hl3 => ?_)
    refine lv_iconst (v := nI 1) B.exec B.bytes dL_way_19 (by decide) ?_
    exact back (nI 1) σ' H2 locs2 20 ls3 dL_way_20 (hfx σ' hq) hP2 hS2
end LWAY
