/-! ===== the model's things ===== -/
def frT (σ τ : Mem) : Prop := (∀ c, (c < 46 ∨ c = 47 ∨ 53 < c) → τ.1 c = σ.1 c) ∧ τ.2 = σ.2 ∧ (∀ k, (k < 3 ∨ 13 < k ∨ (8 < k ∧ k < 12)) → τ.1 46 k = σ.1 46 k)
theorem frT_rf {σ : Mem} : frT σ σ := ⟨fun _ _ => rfl, rfl, fun _ _ => rfl⟩
theorem frT_tr {σ τ ρ : Mem} (h : frT σ τ) (g : frT τ ρ) : frT σ ρ := ⟨fun c hc => (g.1 c hc).trans (h.1 c hc), g.2.1.trans h.2.1, fun c hc => (g.2.2 c hc).trans (h.2.2 c hc)⟩
theorem frT_m {σ τ : Mem} (h : frm σ τ) : frT σ τ := ⟨fun c hc => h.1 c (by omega), h.2.1, fun k hk => h.2.2 k (by omega)⟩
theorem frT_N {k : Nat} {σ τ : Mem} (h : frN k σ τ) : frT σ τ := ⟨fun c hc => h.1 c (by omega) (by omega) (by omega), h.2.1, fun k hk => h.2.2.1 k (by omega)⟩
theorem frT_I {σ τ : Mem} (h : frT σ τ) {c k : Nat} {v : Int32} (hc : 48 ≤ c ∧ c ≤ 53) : frT σ (setI τ c k v) := frT_tr h ⟨fun x hx => setI_ne _ _ _ (by omega), rfl, fun j _ => by rw [setI_ne _ _ _ (by omega)]⟩
theorem frT_46 {σ τ : Mem} (h : frT σ τ) {k : Nat} {v : Int32} (hk : k = 12 ∨ k = 13) : frT σ (setI τ 46 k v) := frT_tr h ⟨fun x hx => setI_ne _ _ _ (by omega), rfl, fun j hj => by rw [setI_at, upd_ne _ _ (by omega)]⟩
section MBUILD
variable {G : GG} {d : Nat} {σ : Mem} {T : Nat → Int32} {N s : Nat} {D : DR}
theorem MDr_N {k : Nat} {τ : Mem} (hk : (k = pR D.1 ∧ pR D.1 < 8) ∨ k = 8 + pD D.1) (hD : GD T N D) (hf : frN k σ τ) (h : MDr T N D σ) : MDr T N D τ := by
  obtain ⟨a1, a2, a3, a4, a5, a6, a7, a8⟩ := h
  have p1 := hD.1.1
  have nm : ∀ j r, j ≠ k → lS T N r ≤ 8 → nmM T N σ j r → nmM T N τ j r := fun j r hj hr g => ⟨(hf.2.2.2.1 j hj).trans g.1, fun i hi => (hf.2.2.2.2 _ (by omega)).trans (g.2 i hi)⟩
  refine ⟨(hf.2.2.1 12 (by omega)).trans a1, (hf.2.2.1 13 (by omega)).trans a2, fun j hj => nm j _ (by omega) (hD.2.1 j hj).2.1 (a3 j hj), ?_, fun j hj => nm (8 + j) _ (by omega) (hD.2.2 j hj).2.1 (a5 j hj), ?_, ?_, ?_⟩
  · rw [hf.1 50 (by decide) (by decide) (by decide)]; exact a4
  · rw [hf.1 51 (by decide) (by decide) (by decide)]; exact a6
  · rw [hf.1 52 (by decide) (by decide) (by decide)]; exact a7
  · rw [hf.1 53 (by decide) (by decide) (by decide)]; exact a8
theorem upd_out {f : Nat → Int32} {n : Nat} {x : Int32} {P : Nat → Int32 → Prop} (h : ∀ k, k < n → P k (f k)) : ∀ k, k < n → P k (upd f n x k) := fun k hk => by rw [upd_ne _ _ (by omega)]; exact h k hk
theorem MDr_50 {v : Int32} (h : MDr T N D σ) : MDr T N D (setI σ 50 (pR D.1) v) := by
  obtain ⟨a1, a2, a3, a4, a5, a6, a7, a8⟩ := h
  exact ⟨a1, a2, a3, upd_out (P := fun k x => x = nI (pW D.1 k)) a4, a5, a6, a7, a8⟩
theorem MDr_51 {v : Int32} (h : MDr T N D σ) : MDr T N D (setI σ 51 (pD D.1) v) := by
  obtain ⟨a1, a2, a3, a4, a5, a6, a7, a8⟩ := h
  exact ⟨a1, a2, a3, a4, a5, upd_out (P := fun k x => x = nI (pF D.1 k)) a6, a7, a8⟩
theorem MDr_52 {v : Int32} (h : MDr T N D σ) : MDr T N D (setI σ 52 (pD D.1) v) := by
  obtain ⟨a1, a2, a3, a4, a5, a6, a7, a8⟩ := h
  exact ⟨a1, a2, a3, a4, a5, a6, upd_out (P := fun k x => x = nI (pS D.1 k)) a7, a8⟩
theorem MDr_53 {v : Int32} (h : MDr T N D σ) : MDr T N D (setI σ 53 (pD D.1) v) := by
  obtain ⟨a1, a2, a3, a4, a5, a6, a7, a8⟩ := h
  exact ⟨a1, a2, a3, a4, a5, a6, a7, upd_out (P := fun k x => x = nI (pE D.1 k)) a8⟩
theorem ext_N {n w : Nat} {g : Nat → Nat} {P : Nat → Nat → Prop} (h0 : P n w) (h : ∀ k, k < n → P k (g k)) : ∀ k, k < n + 1 → P k (updN g n w k) := by
  intro k hk
  rcases Nat.lt_or_ge k n with z | z
  · rw [updN_ne _ _ (by omega)]; exact h k z
  · obtain rfl : k = n := by omega
    rw [updN_at]; exact h0
theorem MDr_R {w : Nat} (hn : nmM T N σ (pR D.1) s) (hw : σ.1 50 (pR D.1) = nI w) (h : MDr T N D σ) : MDr T N (adR D s w) (setI σ 46 12 (nI (pR D.1 + 1))) := by
  obtain ⟨a1, a2, a3, a4, a5, a6, a7, a8⟩ := h
  exact ⟨rfl, a2, ext_N (P := fun k r => nmM T N (setI σ 46 12 (nI (pR D.1 + 1))) k r) hn a3, ext_N (P := fun k x => σ.1 50 k = nI x) hw a4, a5, a6, a7, a8⟩
theorem MDr_D {a b e : Nat} (hn : nmM T N σ (8 + pD D.1) s) (ha : σ.1 51 (pD D.1) = nI a) (hb : σ.1 52 (pD D.1) = nI b) (he : σ.1 53 (pD D.1) = nI e) (h : MDr T N D σ) : MDr T N (adD D s a b e) (setI σ 46 13 (nI (pD D.1 + 1))) := by
  obtain ⟨a1, a2, a3, a4, a5, a6, a7, a8⟩ := h
  exact ⟨a1, rfl, a3, a4, ext_N (P := fun k r => nmM T N (setI σ 46 13 (nI (pD D.1 + 1))) (8 + k) r) hn a5, ext_N (P := fun k x => σ.1 51 k = nI x) ha a6, ext_N (P := fun k x => σ.1 52 k = nI x) hb a7, ext_N (P := fun k x => σ.1 53 k = nI x) he a8⟩
theorem m_thing {f : Mem → Prop} (hG : Str G) (hb : N ≤ 600) (hk : MTk T N s (0, 0) σ) (hD : GD T N D) (hd : MDr T N D σ)
    (h : ∀ τ, frT σ τ → FM τ (tng T N D s).1 → ((tng T N D s).1.1 = 0 → MTk T N (tng T N D s).2.2 (0, 0) τ ∧ MDr T N (tng T N D s).2.1 τ) → f τ) : SW G (d + 7) M_X8_thing 0 [some (.ref 46)] [] σ (RV f) := by
  have p1 := hD.1.1
  have p2 := hD.1.2.1
  have ht := hk.2.2 rfl
  refine sw_aloadn dX8_thing_0 rfl ?_
  refine sw_ldcS hG.2.2.1 dX8_thing_1 ?_
  refine sx_invI1 dX8_thing_3 mk_X8_isWord vk_X8_isWord lk_X8_142 o46 (Nat.le_of_ble_eq_true rfl) (Nat.le_of_ble_eq_true rfl) ?_
  refine m_isWord hG hG.1 wR_c hk.1 hb ht (fun h3 => ?_) (fun h3 => ?_)
  · skip
    refine sw_if_eq (tgt := 67) dX8_thing_6 (by decide) (fun h6 => ?_) (fun h6 => ?_)
    · exact absurd h6 (by decide)
    · skip
      have eG : tng T N D s = rmT T N D s := if_pos (dB_t.mpr h3)
      refine sw_aloadn dX8_thing_9 rfl ?_
      refine sw_getI dX8_thing_10 fs_X8_154 o46 ?_
      rw [hd.1]
      refine sx_bipush (v := nI 8) dX8_thing_13 (by decide) ?_
      refine sw_icmp_ne (tgt := 24) dX8_thing_15 (by decide) (fun h15 => ?_) (fun h15 => ?_)
      · skip
        have l8 : pR D.1 < 8 := by have : ¬ pR D.1 = 8 := fun q => h15 (by rw [q]); omega
        have eT : tng T N D s = _ := eG.trans (if_neg (by omega))
        refine sw_aloadn dX8_thing_24 rfl ?_
        refine sx_invV0 dX8_thing_25 mk_X8_next vk_X8_next lk_X8_180 o46 (Nat.le_of_ble_eq_true rfl) (Nat.le_of_ble_eq_true rfl) ?_
        refine m_nextT hb rfl hk (fun τ1 f1 k1 => ?_)
        have d1 := MDr_fr f1 hd
        refine sw_aloadn dX8_thing_28 rfl ?_
        refine sw_aloadn dX8_thing_29 rfl ?_
        refine sw_getI dX8_thing_30 fs_X8_154 o46 ?_
        rw [d1.1]
        refine sx_invV1 dX8_thing_33 mk_X8_newName vk_X8_newName lk_X8_183 o46 (Nat.le_of_ble_eq_true rfl) (Nat.le_of_ble_eq_true rfl) ?_
        refine m_newName hG hb (by omega) k1 hD d1 (fun τ2 f2 k2 n2 => ?_)
        have d2 := MDr_N (Or.inl ⟨rfl, l8⟩) hD f2 d1
        refine sw_aloadn dX8_thing_36 rfl ?_
        refine sw_getR dX8_thing_37 fs_X8_27 o46 r46_14 ?_
        refine sw_aloadn dX8_thing_40 rfl ?_
        refine sw_getI dX8_thing_41 fs_X8_154 o46 ?_
        rw [d2.1]
        refine sw_aloadn dX8_thing_44 rfl ?_
        refine sx_iconst (v := nI 4) dX8_thing_45 (by decide) ?_
        refine sx_invI1 dX8_thing_46 mk_X8_number vk_X8_number lk_X8_186 o46 (Nat.le_of_ble_eq_true rfl) (Nat.le_of_ble_eq_true rfl) ?_
        refine m_number (m := 4) (by omega) hb k2 (fun τ3 r3 f3 k3 g3 => ?_)
        have d3 := MDr_fr f3 d2
        refine sx_iast (pR D.1) dX8_thing_49 a50 (rfl) (by omega) (by decide) ?_
        refine sw_aloadn dX8_thing_50 rfl ?_
        refine sx_invV0 dX8_thing_51 mk_X8_ends vk_X8_ends lk_X8_189 o46 (Nat.le_of_ble_eq_true rfl) (Nat.le_of_ble_eq_true rfl) ?_
        refine m_ends hb (MTk_cg (σ := τ3) rfl (fun _ _ => rfl) k3) (fun τ4 f4 k4 => ?_)
        have d4 := MDr_fr f4 (MDr_50 (v := r3) d3)
        have hfr := frT_tr (frT_I (frT_tr (frT_tr (frT_m f1) (frT_N f2)) (frT_m f3)) (c := 50) (k := pR D.1) (v := r3) (by omega)) (frT_m f4)
        generalize hA : fh (fh (fh (0, 0) (ckN T N D (nS T N s)) (nS T N s)) (ckV T N 4 (nS T N (nS T N s))) (nS T N (nS T N s))) (ckS T N (nS T N (nS T N (nS T N s)))) (nS T N (nS T N (nS T N s))) = A at *
        refine sw_aloadn dX8_thing_54 rfl ?_
        refine sw_dup dX8_thing_55 rfl ?_
        refine sw_getI dX8_thing_56 fs_X8_154 o46 ?_
        rw [d4.1]
        refine sx_iconst (v := nI 1) dX8_thing_59 (by decide) ?_
        refine sw_iadd dX8_thing_60 ?_
        refine sw_topI (y := nI (pR D.1 + 1)) (nI_inc _) ?_
        refine sw_putI dX8_thing_61 fs_X8_154 o46 ?_
        refine sw_goto (tgt := 179) dX8_thing_64 (by decide) ?_
        refine sx_ret0 dX8_thing_179 rfl ?_
        first
          | (have eT : tng T N D s = ((1, s), D, s) := by unfold tng; rw [if_neg (dB_f.mpr h3), if_neg (dB_f.mpr h70)]
             refine h _ (frT_m hf) ?_ (fun q => ?_)
             · rw [eT]; exact hr.2.1
             · rw [eT] at q; cases q)
          | (refine h _ (frT_46 hfr (Or.inl rfl)) ?_ (fun q => ?_)
             · rw [eT]; exact ⟨by rw [setI_at, upd_ne _ _ (by decide)]; exact k4.2.1.1, k4.2.1.2.1, fun q => by rw [setI_at, upd_ne _ _ (by decide)]; exact k4.2.1.2.2 q⟩
             · rw [eT] at q
               have a0 : A.1 = 0 := q
               have z0 := a0
               rw [← hA] at z0
               have z1 := (fh_0.mp z0).1
               have z2 := (fh_0.mp z1).1
               have e0 : A = (0, 0) := by rw [← hA, fh_ok z0, fh_ok z1, fh_ok z2]
               have n4 : nmM T N τ4 (pR D.1) (nS T N s) := nmM_fr ((f4.1 49 (by decide)).trans (f3.1 49 (by decide))) ((f4.1 48 (by decide)).trans (f3.1 48 (by decide))) (n2 (fh_0.mp z2).2)
               have w4 : τ4.1 50 (pR D.1) = nI (nvS T N (nS T N (nS T N s))) := by rw [f4.1 50 (by decide), setI_at, upd_same]; exact g3 z1
               rw [eT]
               exact ⟨MTk_cg (σ := τ4) rfl (fun j hj => by rw [setI_at, upd_ne _ _ (by omega)]) (e0 ▸ k4), MDr_R n4 w4 d4⟩)
          | (refine h _ (frT_46 hfr (Or.inr rfl)) ?_ (fun q => ?_)
             · rw [eT]; exact ⟨by rw [setI_at, upd_ne _ _ (by decide)]; exact k6.2.1.1, k6.2.1.2.1, fun q => by rw [setI_at, upd_ne _ _ (by decide)]; exact k6.2.1.2.2 q⟩
             · rw [eT] at q
               have a0 : A.1 = 0 := q
               have z0 := a0
               rw [← hA] at z0
               have z1 := (fh_0.mp z0).1
               have z2 := (fh_0.mp z1).1
               have z3 := (fh_0.mp z2).1
               have z4 := (fh_0.mp z3).1
               have e0 : A = (0, 0) := by rw [← hA, fh_ok z0, fh_ok z1, fh_ok z2, fh_ok z3, fh_ok z4]
               have n6 : nmM T N τ6 (8 + pD D.1) (nS T N s) := nmM_fr ((f6.1 49 (by decide)).trans ((f5.1 49 (by decide)).trans ((f4.1 49 (by decide)).trans (f3.1 49 (by decide))))) ((f6.1 48 (by decide)).trans ((f5.1 48 (by decide)).trans ((f4.1 48 (by decide)).trans (f3.1 48 (by decide))))) (n2 (fh_0.mp z4).2)
               have w1 : τ6.1 51 (pD D.1) = nI (rmX T N D (nS T N (nS T N s))) := by rw [f6.1 51 (by decide), setI_ne _ _ _ (by decide), f5.1 51 (by decide), setI_ne _ _ _ (by decide), f4.1 51 (by decide), setI_at, upd_same]; exact g3 z3
               have w2 : τ6.1 52 (pD D.1) = nI (rmX T N D (nS T N (nS T N (nS T N s)))) := by rw [f6.1 52 (by decide), setI_ne _ _ _ (by decide), f5.1 52 (by decide), setI_at, upd_same]; exact g4 z2
               have w3 : τ6.1 53 (pD D.1) = nI (nvS T N (nS T N (nS T N (nS T N (nS T N s))))) := by rw [f6.1 53 (by decide), setI_at, upd_same]; exact g5 z1
               rw [eT]
               exact ⟨MTk_cg (σ := τ6) rfl (fun j hj => by rw [setI_at, upd_ne _ _ (by omega)]) (e0 ▸ k6), MDr_D n6 w1 w2 w3 d6⟩)
      · skip
        have e8 : pR D.1 = 8 := nI_inj (by omega) (by omega) h15
        have eT : tng T N D s = ((2, s), D, s) := eG.trans (if_pos e8)
        refine sw_aloadn dX8_thing_18 rfl ?_
        refine sx_iconst (v := nI 2) dX8_thing_19 (by decide) ?_
        refine sx_invV1 dX8_thing_20 mk_X8_fails vk_X8_fails lk_X8_167 o46 (Nat.le_of_ble_eq_true rfl) (Nat.le_of_ble_eq_true rfl) ?_
        refine m_fails (c := 2) (by omega) hk (fun τ hf hr => ?_)
        refine sx_ret0 dX8_thing_23 rfl ?_
        refine h _ (frT_m hf) ?_ (fun q => ?_)
        · rw [eT]; exact hr.2.1
        · rw [eT] at q; cases q
  · skip
    refine sw_if_eq (tgt := 67) dX8_thing_6 (by decide) (fun h6 => ?_) (fun h6 => ?_)
    · skip
      refine sw_aloadn dX8_thing_67 rfl ?_
      refine sw_ldcS hG.2.2.2.1 dX8_thing_68 ?_
      refine sx_invI1 dX8_thing_70 mk_X8_isWord vk_X8_isWord lk_X8_142 o46 (Nat.le_of_ble_eq_true rfl) (Nat.le_of_ble_eq_true rfl) ?_
      refine m_isWord hG hG.2.1 wD_c hk.1 hb ht (fun h70 => ?_) (fun h70 => ?_)
      · skip
        refine sw_if_eq (tgt := 174) dX8_thing_73 (by decide) (fun h73 => ?_) (fun h73 => ?_)
        · exact absurd h73 (by decide)
        · skip
          have eG : tng T N D s = drT T N D s := by unfold tng; rw [if_neg (dB_f.mpr h3), if_pos (dB_t.mpr h70)]
          refine sw_aloadn dX8_thing_76 rfl ?_
          refine sw_getI dX8_thing_77 fs_X8_160 o46 ?_
          rw [hd.2.1]
          refine sx_bipush (v := nI 10) dX8_thing_80 (by decide) ?_
          refine sw_icmp_ne (tgt := 91) dX8_thing_82 (by decide) (fun h82 => ?_) (fun h82 => ?_)
          · skip
            have l8 : pD D.1 < 10 := by have : ¬ pD D.1 = 10 := fun q => h82 (by rw [q]); omega
            have eT : tng T N D s = _ := eG.trans (if_neg (by omega))
            refine sw_aloadn dX8_thing_91 rfl ?_
            refine sx_invV0 dX8_thing_92 mk_X8_next vk_X8_next lk_X8_180 o46 (Nat.le_of_ble_eq_true rfl) (Nat.le_of_ble_eq_true rfl) ?_
            refine m_nextT hb rfl hk (fun τ1 f1 k1 => ?_)
            have d1 := MDr_fr f1 hd
            refine sw_aloadn dX8_thing_95 rfl ?_
            refine sx_bipush (v := nI 8) dX8_thing_96 (by decide) ?_
            refine sw_aloadn dX8_thing_98 rfl ?_
            refine sw_getI dX8_thing_99 fs_X8_160 o46 ?_
            rw [d1.2.1]
            refine sw_iadd dX8_thing_102 ?_
            refine sw_topI (y := nI (8 + pD D.1)) (nI_add _ _) ?_
            refine sx_invV1 dX8_thing_103 mk_X8_newName vk_X8_newName lk_X8_183 o46 (Nat.le_of_ble_eq_true rfl) (Nat.le_of_ble_eq_true rfl) ?_
            refine m_newName hG hb (by omega) k1 hD d1 (fun τ2 f2 k2 n2 => ?_)
            have d2 := MDr_N (Or.inr rfl) hD f2 d1
            refine sw_aloadn dX8_thing_106 rfl ?_
            refine sw_getR dX8_thing_107 fs_X8_30 o46 r46_15 ?_
            refine sw_aloadn dX8_thing_110 rfl ?_
            refine sw_getI dX8_thing_111 fs_X8_160 o46 ?_
            rw [d2.2.1]
            refine sw_aloadn dX8_thing_114 rfl ?_
            refine sx_iconst (v := (-1)) dX8_thing_115 (by decide) ?_
            refine sx_invI1 dX8_thing_116 mk_X8_roomTold vk_X8_roomTold lk_X8_192 o46 (Nat.le_of_ble_eq_true rfl) (Nat.le_of_ble_eq_true rfl) ?_
            refine m_roomTold (o := 99) hG hb k2 hD d2 (fun _ j hj => ⟨fun q => absurd q (nI_nm1 (by omega)), fun q => by omega⟩) (fun τ3 r3 f3 k3 g3 => ?_)
            have d3 := MDr_51 (v := r3) (MDr_fr f3 d2)
            refine sx_iast (pD D.1) dX8_thing_119 a51 (rfl) (by omega) (by decide) ?_
            refine sw_aloadn dX8_thing_120 rfl ?_
            refine sw_getR dX8_thing_121 fs_X8_33 o46 r46_16 ?_
            refine sw_aloadn dX8_thing_124 rfl ?_
            refine sw_getI dX8_thing_125 fs_X8_160 o46 ?_
            rw [d3.2.1]
            refine sw_aloadn dX8_thing_128 rfl ?_
            refine sw_aloadn dX8_thing_129 rfl ?_
            refine sw_getR dX8_thing_130 fs_X8_30 o46 r46_15 ?_
            refine sw_aloadn dX8_thing_133 rfl ?_
            refine sw_getI dX8_thing_134 fs_X8_160 o46 ?_
            rw [d3.2.1]
            refine sx_iald (pD D.1) dX8_thing_137 a51 (rfl) (by omega) (by decide) ?_
            rw [setI_at, upd_same]
            refine sx_invI1 dX8_thing_138 mk_X8_roomTold vk_X8_roomTold lk_X8_192 o46 (Nat.le_of_ble_eq_true rfl) (Nat.le_of_ble_eq_true rfl) ?_
            refine m_roomTold (o := rmX T N D (nS T N (nS T N s))) hG hb (MTk_cg (σ := τ3) rfl (fun _ _ => rfl) k3) hD d3 (fun q j hj => ⟨fun z => nI_inj (by omega) (by have := rmX_le (T := T) (N := N) D (nS T N (nS T N s)); omega) (z.trans (g3 q)), fun z => by rw [z]; exact (g3 q).symm⟩) (fun τ4 r4 f4 k4 g4 => ?_)
            have d4 := MDr_52 (v := r4) (MDr_fr f4 d3)
            refine sx_iast (pD D.1) dX8_thing_141 a52 (rfl) (by omega) (by decide) ?_
            refine sw_aloadn dX8_thing_142 rfl ?_
            refine sw_getR dX8_thing_143 fs_X8_36 o46 r46_17 ?_
            refine sw_aloadn dX8_thing_146 rfl ?_
            refine sw_getI dX8_thing_147 fs_X8_160 o46 ?_
            rw [d4.2.1]
            refine sw_aloadn dX8_thing_150 rfl ?_
            refine sx_bipush (v := nI 6) dX8_thing_151 (by decide) ?_
            refine sx_invI1 dX8_thing_153 mk_X8_number vk_X8_number lk_X8_186 o46 (Nat.le_of_ble_eq_true rfl) (Nat.le_of_ble_eq_true rfl) ?_
            refine m_number (m := 6) (by omega) hb (MTk_cg (σ := τ4) rfl (fun _ _ => rfl) k4) (fun τ5 r5 f5 k5 g5 => ?_)
            have d5 := MDr_53 (v := r5) (MDr_fr f5 d4)
            refine sx_iast (pD D.1) dX8_thing_156 a53 (rfl) (by omega) (by decide) ?_
            refine sw_aloadn dX8_thing_157 rfl ?_
            refine sx_invV0 dX8_thing_158 mk_X8_ends vk_X8_ends lk_X8_189 o46 (Nat.le_of_ble_eq_true rfl) (Nat.le_of_ble_eq_true rfl) ?_
            refine m_ends hb (MTk_cg (σ := τ5) rfl (fun _ _ => rfl) k5) (fun τ6 f6 k6 => ?_)
            have d6 := MDr_fr f6 d5
            have hfr := frT_tr (frT_I (frT_tr (frT_I (frT_tr (frT_I (frT_tr (frT_tr (frT_m f1) (frT_N f2)) (frT_m f3)) (c := 51) (k := pD D.1) (v := r3) (by omega)) (frT_m f4)) (c := 52) (k := pD D.1) (v := r4) (by omega)) (frT_m f5)) (c := 53) (k := pD D.1) (v := r5) (by omega)) (frT_m f6)
            generalize hA : fh (fh (fh (fh (fh (0, 0) (ckN T N D (nS T N s)) (nS T N s)) (ckR T N D (nS T N (nS T N s)) 99) (nS T N (nS T N s))) (ckR T N D (nS T N (nS T N (nS T N s))) (rmX T N D (nS T N (nS T N s)))) (nS T N (nS T N (nS T N s)))) (ckV T N 6 (nS T N (nS T N (nS T N (nS T N s))))) (nS T N (nS T N (nS T N (nS T N s))))) (ckS T N (nS T N (nS T N (nS T N (nS T N (nS T N s)))))) (nS T N (nS T N (nS T N (nS T N (nS T N s))))) = A at *
            refine sw_aloadn dX8_thing_161 rfl ?_
            refine sw_dup dX8_thing_162 rfl ?_
            refine sw_getI dX8_thing_163 fs_X8_160 o46 ?_
            rw [d6.2.1]
            refine sx_iconst (v := nI 1) dX8_thing_166 (by decide) ?_
            refine sw_iadd dX8_thing_167 ?_
            refine sw_topI (y := nI (pD D.1 + 1)) (nI_inc _) ?_
            refine sw_putI dX8_thing_168 fs_X8_160 o46 ?_
            refine sw_goto (tgt := 179) dX8_thing_171 (by decide) ?_
            refine sx_ret0 dX8_thing_179 rfl ?_
            first
              | (have eT : tng T N D s = ((1, s), D, s) := by unfold tng; rw [if_neg (dB_f.mpr h3), if_neg (dB_f.mpr h70)]
                 refine h _ (frT_m hf) ?_ (fun q => ?_)
                 · rw [eT]; exact hr.2.1
                 · rw [eT] at q; cases q)
              | (refine h _ (frT_46 hfr (Or.inl rfl)) ?_ (fun q => ?_)
                 · rw [eT]; exact ⟨by rw [setI_at, upd_ne _ _ (by decide)]; exact k4.2.1.1, k4.2.1.2.1, fun q => by rw [setI_at, upd_ne _ _ (by decide)]; exact k4.2.1.2.2 q⟩
                 · rw [eT] at q
                   have a0 : A.1 = 0 := q
                   have z0 := a0
                   rw [← hA] at z0
                   have z1 := (fh_0.mp z0).1
                   have z2 := (fh_0.mp z1).1
                   have e0 : A = (0, 0) := by rw [← hA, fh_ok z0, fh_ok z1, fh_ok z2]
                   have n4 : nmM T N τ4 (pR D.1) (nS T N s) := nmM_fr ((f4.1 49 (by decide)).trans (f3.1 49 (by decide))) ((f4.1 48 (by decide)).trans (f3.1 48 (by decide))) (n2 (fh_0.mp z2).2)
                   have w4 : τ4.1 50 (pR D.1) = nI (nvS T N (nS T N (nS T N s))) := by rw [f4.1 50 (by decide), setI_at, upd_same]; exact g3 z1
                   rw [eT]
                   exact ⟨MTk_cg (σ := τ4) rfl (fun j hj => by rw [setI_at, upd_ne _ _ (by omega)]) (e0 ▸ k4), MDr_R n4 w4 d4⟩)
              | (refine h _ (frT_46 hfr (Or.inr rfl)) ?_ (fun q => ?_)
                 · rw [eT]; exact ⟨by rw [setI_at, upd_ne _ _ (by decide)]; exact k6.2.1.1, k6.2.1.2.1, fun q => by rw [setI_at, upd_ne _ _ (by decide)]; exact k6.2.1.2.2 q⟩
                 · rw [eT] at q
                   have a0 : A.1 = 0 := q
                   have z0 := a0
                   rw [← hA] at z0
                   have z1 := (fh_0.mp z0).1
                   have z2 := (fh_0.mp z1).1
                   have z3 := (fh_0.mp z2).1
                   have z4 := (fh_0.mp z3).1
                   have e0 : A = (0, 0) := by rw [← hA, fh_ok z0, fh_ok z1, fh_ok z2, fh_ok z3, fh_ok z4]
                   have n6 : nmM T N τ6 (8 + pD D.1) (nS T N s) := nmM_fr ((f6.1 49 (by decide)).trans ((f5.1 49 (by decide)).trans ((f4.1 49 (by decide)).trans (f3.1 49 (by decide))))) ((f6.1 48 (by decide)).trans ((f5.1 48 (by decide)).trans ((f4.1 48 (by decide)).trans (f3.1 48 (by decide))))) (n2 (fh_0.mp z4).2)
                   have w1 : τ6.1 51 (pD D.1) = nI (rmX T N D (nS T N (nS T N s))) := by rw [f6.1 51 (by decide), setI_ne _ _ _ (by decide), f5.1 51 (by decide), setI_ne _ _ _ (by decide), f4.1 51 (by decide), setI_at, upd_same]; exact g3 z3
                   have w2 : τ6.1 52 (pD D.1) = nI (rmX T N D (nS T N (nS T N (nS T N s)))) := by rw [f6.1 52 (by decide), setI_ne _ _ _ (by decide), f5.1 52 (by decide), setI_at, upd_same]; exact g4 z2
                   have w3 : τ6.1 53 (pD D.1) = nI (nvS T N (nS T N (nS T N (nS T N (nS T N s))))) := by rw [f6.1 53 (by decide), setI_at, upd_same]; exact g5 z1
                   rw [eT]
                   exact ⟨MTk_cg (σ := τ6) rfl (fun j hj => by rw [setI_at, upd_ne _ _ (by omega)]) (e0 ▸ k6), MDr_D n6 w1 w2 w3 d6⟩)
          · skip
            have e8 : pD D.1 = 10 := nI_inj (by omega) (by omega) h82
            have eT : tng T N D s = ((2, s), D, s) := eG.trans (if_pos e8)
            refine sw_aloadn dX8_thing_85 rfl ?_
            refine sx_iconst (v := nI 2) dX8_thing_86 (by decide) ?_
            refine sx_invV1 dX8_thing_87 mk_X8_fails vk_X8_fails lk_X8_167 o46 (Nat.le_of_ble_eq_true rfl) (Nat.le_of_ble_eq_true rfl) ?_
            refine m_fails (c := 2) (by omega) hk (fun τ hf hr => ?_)
            refine sx_ret0 dX8_thing_90 rfl ?_
            refine h _ (frT_m hf) ?_ (fun q => ?_)
            · rw [eT]; exact hr.2.1
            · rw [eT] at q; cases q
      · skip
        refine sw_if_eq (tgt := 174) dX8_thing_73 (by decide) (fun h73 => ?_) (fun h73 => ?_)
        · skip
          refine sw_aloadn dX8_thing_174 rfl ?_
          refine sx_iconst (v := nI 1) dX8_thing_175 (by decide) ?_
          refine sx_invV1 dX8_thing_176 mk_X8_fails vk_X8_fails lk_X8_167 o46 (Nat.le_of_ble_eq_true rfl) (Nat.le_of_ble_eq_true rfl) ?_
          refine m_fails (c := 1) (by omega) hk (fun τ hf hr => ?_)
          refine sx_ret0 dX8_thing_179 rfl ?_
          first
            | (have eT : tng T N D s = ((1, s), D, s) := by unfold tng; rw [if_neg (dB_f.mpr h3), if_neg (dB_f.mpr h70)]
               refine h _ (frT_m hf) ?_ (fun q => ?_)
               · rw [eT]; exact hr.2.1
               · rw [eT] at q; cases q)
            | (refine h _ (frT_46 hfr (Or.inl rfl)) ?_ (fun q => ?_)
               · rw [eT]; exact ⟨by rw [setI_at, upd_ne _ _ (by decide)]; exact k4.2.1.1, k4.2.1.2.1, fun q => by rw [setI_at, upd_ne _ _ (by decide)]; exact k4.2.1.2.2 q⟩
               · rw [eT] at q
                 have a0 : A.1 = 0 := q
                 have z0 := a0
                 rw [← hA] at z0
                 have z1 := (fh_0.mp z0).1
                 have z2 := (fh_0.mp z1).1
                 have e0 : A = (0, 0) := by rw [← hA, fh_ok z0, fh_ok z1, fh_ok z2]
                 have n4 : nmM T N τ4 (pR D.1) (nS T N s) := nmM_fr ((f4.1 49 (by decide)).trans (f3.1 49 (by decide))) ((f4.1 48 (by decide)).trans (f3.1 48 (by decide))) (n2 (fh_0.mp z2).2)
                 have w4 : τ4.1 50 (pR D.1) = nI (nvS T N (nS T N (nS T N s))) := by rw [f4.1 50 (by decide), setI_at, upd_same]; exact g3 z1
                 rw [eT]
                 exact ⟨MTk_cg (σ := τ4) rfl (fun j hj => by rw [setI_at, upd_ne _ _ (by omega)]) (e0 ▸ k4), MDr_R n4 w4 d4⟩)
            | (refine h _ (frT_46 hfr (Or.inr rfl)) ?_ (fun q => ?_)
               · rw [eT]; exact ⟨by rw [setI_at, upd_ne _ _ (by decide)]; exact k6.2.1.1, k6.2.1.2.1, fun q => by rw [setI_at, upd_ne _ _ (by decide)]; exact k6.2.1.2.2 q⟩
               · rw [eT] at q
                 have a0 : A.1 = 0 := q
                 have z0 := a0
                 rw [← hA] at z0
                 have z1 := (fh_0.mp z0).1
                 have z2 := (fh_0.mp z1).1
                 have z3 := (fh_0.mp z2).1
                 have z4 := (fh_0.mp z3).1
                 have e0 : A = (0, 0) := by rw [← hA, fh_ok z0, fh_ok z1, fh_ok z2, fh_ok z3, fh_ok z4]
                 have n6 : nmM T N τ6 (8 + pD D.1) (nS T N s) := nmM_fr ((f6.1 49 (by decide)).trans ((f5.1 49 (by decide)).trans ((f4.1 49 (by decide)).trans (f3.1 49 (by decide))))) ((f6.1 48 (by decide)).trans ((f5.1 48 (by decide)).trans ((f4.1 48 (by decide)).trans (f3.1 48 (by decide))))) (n2 (fh_0.mp z4).2)
                 have w1 : τ6.1 51 (pD D.1) = nI (rmX T N D (nS T N (nS T N s))) := by rw [f6.1 51 (by decide), setI_ne _ _ _ (by decide), f5.1 51 (by decide), setI_ne _ _ _ (by decide), f4.1 51 (by decide), setI_at, upd_same]; exact g3 z3
                 have w2 : τ6.1 52 (pD D.1) = nI (rmX T N D (nS T N (nS T N (nS T N s)))) := by rw [f6.1 52 (by decide), setI_ne _ _ _ (by decide), f5.1 52 (by decide), setI_at, upd_same]; exact g4 z2
                 have w3 : τ6.1 53 (pD D.1) = nI (nvS T N (nS T N (nS T N (nS T N (nS T N s))))) := by rw [f6.1 53 (by decide), setI_at, upd_same]; exact g5 z1
                 rw [eT]
                 exact ⟨MTk_cg (σ := τ6) rfl (fun j hj => by rw [setI_at, upd_ne _ _ (by omega)]) (e0 ▸ k6), MDr_D n6 w1 w2 w3 d6⟩)
        · exact absurd h73 (by decide)
    · exact absurd h6 (by decide)
end MBUILD
