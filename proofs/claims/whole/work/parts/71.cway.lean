/-! ===== way of the class: it answers, or throws ===== -/
/-- what is asked where way ends: at its return, and where the throw begins -/
def WayS (G : GG) (f : Int32 → Mem → Prop) (fx : Mem → Prop) : PSI := fun p e R s m args below meth c cells slots A Z =>
  (∀ (x : Int32) (σ' : Mem) (H' : Heap) (locs' : List Loc) (ls' : Array Slot), f x σ' → va_P (gD G) vwCl (wl G σ') H' → va_S A s.heap H' locs' → W p (gl G) e R s m args below meth c H' locs' cells slots Z (F0 m 55 ls' [.int x])) ∧
  (∀ (σ' : Mem) (H' : Heap) (locs' : List Loc) (ls' : Array Slot), fx σ' → va_P (gD G) vwCl (wl G σ') H' → va_S A s.heap H' locs' → ls'.size = 5 → W p (gl G) e R s m args below meth c H' locs' cells slots Z (F0 m 33 ls' []))
section CWAY
variable {G : GG} {d : Nat} {σ : Mem} {L : List (Option Value)} {f : Int32 → Mem → Prop} {fx : Mem → Prop}
theorem zw55 {x : Int32} (h : f x σ) : SZ G d M_X7_way 55 L [.int x] σ (WayS G f fx) := by
  intro p e R s m args below meth c H locs cells slots A Z ls C hR hP hS hl hr
  exact hr.1 x σ H locs ls h hP hS
theorem zw33 (h : fx σ) : SZ G d M_X7_way 33 L [] σ (WayS G f fx) := by
  intro p e R s m args below meth c H locs cells slots A Z ls C hR hP hS hl hr
  exact hr.2 σ H locs ls h hP hS hl.2.1
theorem z_way {P : PL} {nc nr n : Nat} {x t r u : Int32} (hc : σ.1 0 3 = nI nc) (hcb : nc ≤ 10) (hr : σ.1 2 0 = nI nr) (hrb : nr ≤ 8) (hS : 0 < nc → Std σ P nc n)
    (k1 : ∀ c t0 r0 u0, c < nc → t0 < 200 → r0 < nr → u0 < 200 → x = nI c → t = nI t0 → r = nI r0 → u = nI u0 → ∀ ρ : Nat → Nat, (∀ t, t < 200 → leastAt P (wkW P (lgC σ) (nI c) n t0 r0) ρ t ∧ ρ t < pR P) → ∀ τ, fr 31 45 σ τ → Std τ P nc n → f (nI (ρ u0)) τ)
    (k2 : ∀ c t0 r0 u0, c < nc → t0 < 200 → r0 < nr → u0 < 200 → x = nI c → t = nI t0 → r = nI r0 → u = nI u0 → ¬ hop0 P (wkW P (lgC σ) (nI c) n t0 r0) → ∀ τ, fr 31 45 σ τ → Std τ P nc n → f (-1) τ)
    (k0 : ¬ okWay nc nr x t r u → fx σ) : SZ G (d + 5) M_X7_way 0 [some (.ref 0), some (.int x), some (.int t), some (.int r), some (.int u)] [] σ (WayS G f fx) := by
  refine sz_aloadn dX7_way_0 rfl ?_
  refine sz_iloadn dX7_way_1 rfl ?_
  refine sy_invI1 dX7_way_2 mk_X7_hasCard vk_X7_hasCard lk_X7_100 o0 (Nat.le_of_ble_eq_true rfl) (Nat.le_of_ble_eq_true rfl) ?_
  refine c_X7_hasCard hc hcb (fun h2 => ?_) (fun h2 => ?_)
  · skip
    refine sz_if_eq (tgt := 33) dX7_way_5 (by decide) (fun h5 => ?_) (fun h5 => ?_)
    · exact absurd h5 (by decide)
    · skip
      refine sz_aloadn dX7_way_8 rfl ?_
      refine sz_iloadn dX7_way_9 rfl ?_
      refine sy_invI1 dX7_way_10 mk_X7_isTick vk_X7_isTick lk_X7_107 o0 (Nat.le_of_ble_eq_true rfl) (Nat.le_of_ble_eq_true rfl) ?_
      refine c_X7_isTick (fun h10 => ?_) (fun h10 => ?_)
      · skip
        refine sz_if_eq (tgt := 33) dX7_way_13 (by decide) (fun h13 => ?_) (fun h13 => ?_)
        · exact absurd h13 (by decide)
        · skip
          refine sz_aloadn dX7_way_16 rfl ?_
          refine sz_iloadn dX7_way_17 rfl ?_
          refine sy_invI1 dX7_way_18 mk_X7_hasRoom vk_X7_hasRoom lk_X7_118 o0 (Nat.le_of_ble_eq_true rfl) (Nat.le_of_ble_eq_true rfl) ?_
          refine c_X7_hasRoom hr (by omega) (fun h18 => ?_) (fun h18 => ?_)
          · skip
            refine sz_if_eq (tgt := 33) dX7_way_21 (by decide) (fun h21 => ?_) (fun h21 => ?_)
            · exact absurd h21 (by decide)
            · skip
              refine sz_aloadn dX7_way_24 rfl ?_
              refine sz_iload dX7_way_25 rfl ?_
              refine sy_invI1 dX7_way_27 mk_X7_isTick vk_X7_isTick lk_X7_107 o0 (Nat.le_of_ble_eq_true rfl) (Nat.le_of_ble_eq_true rfl) ?_
              refine c_X7_isTick (fun h27 => ?_) (fun h27 => ?_)
              · skip
                refine sz_if_ne (tgt := 43) dX7_way_30 (by decide) (fun h30 => ?_) (fun h30 => ?_)
                · skip
                  obtain ⟨c, c1, rfl⟩ := h2
                  obtain ⟨t0, t1, rfl⟩ := h10
                  obtain ⟨r0, r1, rfl⟩ := h18
                  obtain ⟨u0, u1, rfl⟩ := h27
                  have hS := hS (by omega)
                  have hpr : pR P = nr := nI_inj (by have := hS.2.1.1; omega) (by omega) (hS.1.1.symm.trans hr)
                  refine sz_aloadn dX7_way_43 rfl ?_
                  refine sz_getR dX7_way_44 fs_X7_67 o0 r0_10 ?_
                  refine sz_iloadn dX7_way_47 rfl ?_
                  refine sz_iloadn dX7_way_48 rfl ?_
                  refine sz_iloadn dX7_way_49 rfl ?_
                  refine sz_iload dX7_way_50 rfl ?_
                  refine sy_invI4 dX7_way_52 mk_X1_roomOnFirstWay vk_X1_roomOnFirstWay lk_X7_138 o31 (Nat.le_of_ble_eq_true rfl) (Nat.le_of_ble_eq_true rfl) ?_
                  refine c_roomOnFirstWay (f := fun x σ' => SZ G (d + 5) M_X7_way 55 [some (.ref 0), some (.int (nI c)), some (.int (nI t0)), some (.int (nI r0)), some (.int (nI u0))] [.int x] σ' (WayS G f fx)) hS (by omega) t1 (by omega) u1 (fun ρ hρ τ hf hτ => zw55 (k1 c t0 r0 u0 c1 t1 r1 u1 rfl rfl rfl rfl ρ hρ τ hf hτ)) (fun hh τ hf hτ => zw55 (k2 c t0 r0 u0 c1 t1 r1 u1 rfl rfl rfl rfl hh τ hf hτ))
                  skip
                · exact absurd h30 (by decide)
              · skip
                refine sz_if_ne (tgt := 43) dX7_way_30 (by decide) (fun h30 => ?_) (fun h30 => ?_)
                · exact absurd h30 (by decide)
                · skip
                  first
                    | exact zw33 (k0 (fun q => h2 q.1))
                    | exact zw33 (k0 (fun q => h10 q.2.1))
                    | exact zw33 (k0 (fun q => h18 q.2.2.1))
                    | exact zw33 (k0 (fun q => h27 q.2.2.2))
          · skip
            refine sz_if_eq (tgt := 33) dX7_way_21 (by decide) (fun h21 => ?_) (fun h21 => ?_)
            · skip
              first
                | exact zw33 (k0 (fun q => h2 q.1))
                | exact zw33 (k0 (fun q => h10 q.2.1))
                | exact zw33 (k0 (fun q => h18 q.2.2.1))
                | exact zw33 (k0 (fun q => h27 q.2.2.2))
            · exact absurd h21 (by decide)
      · skip
        refine sz_if_eq (tgt := 33) dX7_way_13 (by decide) (fun h13 => ?_) (fun h13 => ?_)
        · skip
          first
            | exact zw33 (k0 (fun q => h2 q.1))
            | exact zw33 (k0 (fun q => h10 q.2.1))
            | exact zw33 (k0 (fun q => h18 q.2.2.1))
            | exact zw33 (k0 (fun q => h27 q.2.2.2))
        · exact absurd h13 (by decide)
  · skip
    refine sz_if_eq (tgt := 33) dX7_way_5 (by decide) (fun h5 => ?_) (fun h5 => ?_)
    · skip
      first
        | exact zw33 (k0 (fun q => h2 q.1))
        | exact zw33 (k0 (fun q => h10 q.2.1))
        | exact zw33 (k0 (fun q => h18 q.2.2.1))
        | exact zw33 (k0 (fun q => h27 q.2.2.2))
    · exact absurd h5 (by decide)
end CWAY
/-! ===== the throw ===== -/
abbrev NSE : String := "java/util/NoSuchElementException"
abbrev xB : List Cond := [Cond.castable "java/util/NoSuchElementException" "java/util/NoSuchElementException", Cond.declares ⟨"java/lang/RuntimeException", "<init>", "(Ljava/lang/String;)V"⟩, Cond.declares ⟨"java/lang/Exception", "<init>", "(Ljava/lang/String;)V"⟩, Cond.declares ⟨"java/lang/Throwable", "<init>", "(Ljava/lang/String;)V"⟩]
/-- what the ambient facts say for a throw -/
def Exc (G : GG) : Prop := (gl G).stackTraces = false ∧ ∀ (A : Nat → Prop) (s : State), gm G A s → vk_R RX7 133 "no such card, tick or room" (ga G 82) s ∧ (∀ w ∈ xB, va_Nw w s) ∧ vx_Zq Bundle.tN "UNASSIGNED_STACK" Bundle.steD A s s.heap ∧ vx_Zq Bundle.tN "SUPPRESSED_SENTINEL" Bundle.listD A s s.heap
theorem xB_t : ∀ w ∈ xB, w.onTables = true := by decide +kernel
theorem at_good : ∀ w ∈ ((twA RX7 135 "java/util/NoSuchElementException" "java/lang/RuntimeException" ["java/lang/Exception"]).filter vx_no).filter goodWord, w ∈ lw_tbl := by decide +kernel
theorem at_rest : ∀ w ∈ ((twA RX7 135 "java/util/NoSuchElementException" "java/lang/RuntimeException" ["java/lang/Exception"]).filter vx_no).filter (fun w => !goodWord w), w ∈ xB := by decide +kernel
theorem at_ot : ∀ w ∈ Cond.classLink RX7 131 "java/util/NoSuchElementException" :: Cond.initialized "java/util/NoSuchElementException" :: (twA RX7 135 "java/util/NoSuchElementException" "java/lang/RuntimeException" ["java/lang/Exception"]).filter vx_no, vx_ot w = true := by decide +kernel
theorem at_cl : Cond.classLink RX7 131 NSE ∈ TB := tb_of (by decide +kernel) (by decide +kernel)
theorem at_in : Cond.initialized NSE ∈ TB := tb_of (by decide +kernel) (by decide +kernel)
def rmE (d : Nat) : Room := { frames := d, cells := 1, slots := 6, locals := 31 * d }
def xcW (G : GG) (fx : Mem → Prop) : String → State → State → Prop := vx_X fx (fun E σ' t => E = NSE ∧ va_P (gD G) vwCl (wl G σ') t.heap) (AK G)
theorem way_met {G : GG} {d : Nat} {σ : Mem} {f : Int32 → Mem → Prop} {fx : Mem → Prop} {vs : List Value} (hG : Wok G) (hX : Exc G) (hd : 6 ≤ d) (hw : wds vs ≤ 5) (h : SZ G d M_X7_way 0 (ent 5 vs) [] σ (WayS G f fx)) :
    vx_Met (gl G) yX7_way (wsM M_X7_way) (rmE d) (va_Pc (vs.map (cv G)) (PcW G σ)) (QcW G (RI f)) (xcW G fx) 1 6 (AK G) := by
  refine vx_ofW (cc := M_X7_way.1) (maxL := 5) (ret := some .int) mk_X7_way.1 rfl ?_
  intro p e s m args below meth c s₁ B hml htab hv
  obtain ⟨rfl, hP, hK, hN, hg⟩ := hv
  have hts := atoms_spec (ws := wsM M_X7_way) B.pre
  have hT : ∀ w ∈ TB, w.before (vs.map (cv G)).toArray s = true := fun w hw => hts w (List.mem_cons_of_mem _ hw)
  have hown : s.vm.findClass M_X7_way.2.1.cls = some m.cls := findClass_of_methodNamed B.named
  rw [mk_X7_way.2.1] at hown
  rw [lg_entry_eq]
  have key := h p e (rmE d) s m (vs.map (cv G)).toArray below meth c s.heap [] 0 0 (AK G) (vx_MQ below (QcW G (RI f)) (xcW G fx) (vs.map (cv G)).toArray s 1 6 (AK G)) _ ⟨hG, B.exec, B.bytes, hml, hown, hT, hN, hK, hg, fun _ h => h, B.returns, B.notSynchronized⟩ ⟨Nat.le_refl _, Nat.le_refl _, Nat.zero_le _, Nat.zero_le _⟩ hP va_S.rf (ent_ok G hw) ?_
  · exact key
  constructor
  · intro x σ' H' locs' ls' hq hP' hS'
    refine W.widen (k := 1) (n := 6) (Nat.zero_le _) (Nat.zero_le _) ?_
    refine vx_ret ?_
    exact W.zret B.exec B.bytes (B.returns.trans rfl) rfl (fun t ht _ => ⟨⟨some (.int x), σ', rfl, ⟨x, rfl, hq⟩, by rw [ht]; exact hP'⟩, hS'.F ht⟩) hS'.2.2 dX7_way_55 B.notSynchronized
  · intro σ' H' locs' ls' hq hP' hS' hsz
    obtain ⟨x1, x2, x3, x4⟩ := hX.2 _ _ hg
    refine tw_throw (own := RX7) (cls := NSE) (Y0 := "java/lang/RuntimeException") (r := ["java/lang/Exception"]) (text := "no such card, tick or room") (ik := 131) (is := 133) (ic := 135) (sa := ga G 82) (A := AK G) B.exec B.bytes hX.1 hown (by decide +kernel) (by decide +kernel) (by decide +kernel) (hT _ at_cl) (hT _ at_in) x1 (vx_hat (fun w hw => hT w (tb_of (at_good w hw) (List.mem_filter.mp hw).2)) at_rest (fun w hw => va_Nw.use (xB_t w hw) (x2 w hw))) at_ot x3 x4 hS' (hsz.trans hml.symm) dX7_way_33 dX7_way_36 dX7_way_37 dX7_way_39 dX7_way_42 (fun x hx => (htab x hx).elim) (by show 1 + 4 < d; omega) (by show 0 + (13 * (1 + 2) + 43) ≤ 31 * d; omega) (Nat.le_refl _) (Nat.le_refl _) B.notSynchronized ?_ hS'.2.2 (Nat.le_refl _) (Nat.le_refl _)
    intro t hal hsz1 hkept
    refine ⟨σ', hq, ⟨rfl, hP'.kept (fun k q hk => hkept _ (vx_lt hP' hk))⟩, Nat.le_trans hS'.1 hsz1, fun q h1 h2 => ?_⟩
    rw [hkept q (Nat.lt_of_lt_of_le h1 hS'.1)]
    exact hS'.2.1 q h1 h2
