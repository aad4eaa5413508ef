/-! ===== the class's TextReader: rooms, doors, the whole text ===== -/
def frD (σ τ : Mem) : Prop := (∀ c, (c < 9 ∨ 16 < c) → τ.1 c = σ.1 c) ∧ (∀ c, (c < 9 ∨ 16 < c) → τ.2 c = σ.2 c)
theorem frD_rf {σ : Mem} : frD σ σ := ⟨fun _ _ => rfl, fun _ _ => rfl⟩
theorem frD_tr {σ τ ρ : Mem} (h : frD σ τ) (g : frD τ ρ) : frD σ ρ := ⟨fun c hc => (g.1 c hc).trans (h.1 c hc), fun c hc => (g.2 c hc).trans (h.2 c hc)⟩
theorem frD_16 {σ τ : Mem} (h : fr16 σ τ) : frD σ τ := ⟨fun c hc => h.1 c (by omega), fun c hc => h.2 c (by omega)⟩
theorem frD_I {σ τ : Mem} (h : frD σ τ) {c k : Nat} {v : Int32} (hc : 9 ≤ c ∧ c ≤ 16) : frD σ (setI τ c k v) := frD_tr h ⟨fun x hx => setI_ne _ _ _ (by omega), fun _ _ => rfl⟩
theorem frD_J {σ τ : Mem} (h : frD σ τ) {c k : Nat} {v : Int64} (hc : 9 ≤ c ∧ c ≤ 16) : frD σ (setJ τ c k v) := frD_tr h ⟨fun _ _ => rfl, fun x hx => setJ_ne _ _ _ (by omega)⟩
theorem CTk_cg {T : Nat → Int32} {N s : Nat} {a : Nat × Nat} {σ τ : Mem} (h1 : τ.1 1 = σ.1 1) (h2 : τ.1 16 = σ.1 16) (h3 : τ.2 16 = σ.2 16) (h : CTk T N s a σ) : CTk T N s a τ := by
  unfold CTk FC at h ⊢
  rw [h1, h2, h3]
  exact h
section CREAD
variable {G : GG} {d : Nat} {σ : Mem} {T : Nat → Int32} {N s : Nat} {D : DR}
theorem c_X3_addRoom {f : Mem → Prop} {v : Int64} {w : Int32} {n : Nat} (hn : σ.1 9 0 = nI n) (hb : n < 8) (h : f (setI (setI (setJ σ 10 n v) 11 n w) 9 0 (nI (n + 1)))) : SW G d M_X3_addRoom 0 [some (.ref 9), some (.long v), none, some (.int w)] [] σ (RV f) := by
  refine sw_aloadn dX3_addRoom_0 rfl ?_
  refine sw_getI dX3_addRoom_1 fs_X3_31 o9 ?_
  rw [hn]
  refine sx_bipush (v := nI 8) dX3_addRoom_4 (by decide) ?_
  refine sw_icmp_ge (tgt := 39) dX3_addRoom_6 (by decide) (fun h6 => ?_) (fun h6 => ?_)
  · exact absurd h6 ((by rw [nI_le' (by omega) (by omega)]; omega))
  · skip
    refine sw_aloadn dX3_addRoom_9 rfl ?_
    refine sw_getR dX3_addRoom_10 fs_X3_9 o9 r9_2 ?_
    refine sw_aloadn dX3_addRoom_13 rfl ?_
    refine sw_getI dX3_addRoom_14 fs_X3_31 o9 ?_
    rw [hn]
    refine sw_lloadn dX3_addRoom_17 rfl ?_
    refine sx_last (n) dX3_addRoom_18 a10 (rfl) (by omega) (by decide) ?_
    refine sw_aloadn dX3_addRoom_19 rfl ?_
    refine sw_getR dX3_addRoom_20 fs_X3_15 o9 r9_3 ?_
    refine sw_aloadn dX3_addRoom_23 rfl ?_
    refine sw_getI dX3_addRoom_24 fs_X3_31 o9 ?_
    rw [show (setJ σ 10 n v).1 9 0 = nI n from hn]
    refine sw_iloadn dX3_addRoom_27 rfl ?_
    refine sx_iast (n) dX3_addRoom_28 a11 (rfl) (by omega) (by decide) ?_
    refine sw_aloadn dX3_addRoom_29 rfl ?_
    refine sw_dup dX3_addRoom_30 rfl ?_
    refine sw_getI dX3_addRoom_31 fs_X3_31 o9 ?_
    rw [show (setI (setJ σ 10 n v) 11 n w).1 9 0 = nI n from hn]
    refine sx_iconst (v := nI 1) dX3_addRoom_34 (by decide) ?_
    refine sw_iadd dX3_addRoom_35 ?_
    refine sw_topI (y := nI (n + 1)) (nI_inc _) ?_
    refine sw_putI dX3_addRoom_36 fs_X3_31 o9 ?_
    refine sx_ret0 dX3_addRoom_39 rfl ?_
    exact h
theorem c_X3_addDoor {f : Mem → Prop} {v : Int64} {x y z : Int32} {n : Nat} (hn : σ.1 9 1 = nI n) (hb : n < 10) (h : f (setI (setI (setI (setI (setJ σ 12 n v) 13 n x) 14 n y) 15 n z) 9 1 (nI (n + 1)))) : SW G d M_X3_addDoor 0 [some (.ref 9), some (.long v), none, some (.int x), some (.int y), some (.int z)] [] σ (RV f) := by
  refine sw_aloadn dX3_addDoor_0 rfl ?_
  refine sw_getI dX3_addDoor_1 fs_X3_35 o9 ?_
  rw [hn]
  refine sx_bipush (v := nI 10) dX3_addDoor_4 (by decide) ?_
  refine sw_icmp_ge (tgt := 61) dX3_addDoor_6 (by decide) (fun h6 => ?_) (fun h6 => ?_)
  · exact absurd h6 ((by rw [nI_le' (by omega) (by omega)]; omega))
  · skip
    refine sw_aloadn dX3_addDoor_9 rfl ?_
    refine sw_getR dX3_addDoor_10 fs_X3_19 o9 r9_4 ?_
    refine sw_aloadn dX3_addDoor_13 rfl ?_
    refine sw_getI dX3_addDoor_14 fs_X3_35 o9 ?_
    rw [hn]
    refine sw_lloadn dX3_addDoor_17 rfl ?_
    refine sx_last (n) dX3_addDoor_18 a12 (rfl) (by omega) (by decide) ?_
    refine sw_aloadn dX3_addDoor_19 rfl ?_
    refine sw_getR dX3_addDoor_20 fs_X3_22 o9 r9_5 ?_
    refine sw_aloadn dX3_addDoor_23 rfl ?_
    refine sw_getI dX3_addDoor_24 fs_X3_35 o9 ?_
    rw [show (setJ σ 12 n v).1 9 1 = nI n from hn]
    refine sw_iloadn dX3_addDoor_27 rfl ?_
    refine sx_iast (n) dX3_addDoor_28 a13 (rfl) (by omega) (by decide) ?_
    refine sw_aloadn dX3_addDoor_29 rfl ?_
    refine sw_getR dX3_addDoor_30 fs_X3_25 o9 r9_6 ?_
    refine sw_aloadn dX3_addDoor_33 rfl ?_
    refine sw_getI dX3_addDoor_34 fs_X3_35 o9 ?_
    rw [show (setI (setJ σ 12 n v) 13 n x).1 9 1 = nI n from hn]
    refine sw_iload dX3_addDoor_37 rfl ?_
    refine sx_iast (n) dX3_addDoor_39 a14 (rfl) (by omega) (by decide) ?_
    refine sw_aloadn dX3_addDoor_40 rfl ?_
    refine sw_getR dX3_addDoor_41 fs_X3_28 o9 r9_7 ?_
    refine sw_aloadn dX3_addDoor_44 rfl ?_
    refine sw_getI dX3_addDoor_45 fs_X3_35 o9 ?_
    rw [show (setI (setI (setJ σ 12 n v) 13 n x) 14 n y).1 9 1 = nI n from hn]
    refine sw_iload dX3_addDoor_48 rfl ?_
    refine sx_iast (n) dX3_addDoor_50 a15 (rfl) (by omega) (by decide) ?_
    refine sw_aloadn dX3_addDoor_51 rfl ?_
    refine sw_dup dX3_addDoor_52 rfl ?_
    refine sw_getI dX3_addDoor_53 fs_X3_35 o9 ?_
    rw [show (setI (setI (setI (setJ σ 12 n v) 13 n x) 14 n y) 15 n z).1 9 1 = nI n from hn]
    refine sx_iconst (v := nI 1) dX3_addDoor_56 (by decide) ?_
    refine sw_iadd dX3_addDoor_57 ?_
    refine sw_topI (y := nI (n + 1)) (nI_inc _) ?_
    refine sw_putI dX3_addDoor_58 fs_X3_35 o9 ?_
    refine sx_ret0 dX3_addDoor_61 rfl ?_
    exact h
theorem updI_k {f : Nat → Int32} {g : Nat → Nat} {n w : Nat} {x : Int32} (hx : x = nI w) (h : ∀ k, k < n → f k = nI (g k)) : ∀ k, k < n + 1 → upd f n x k = nI (updN g n w k) := by
  intro k hk
  rcases Nat.lt_or_ge k n with z | z
  · rw [upd_ne _ _ (by omega), updN_ne _ _ (by omega)]; exact h k z
  · obtain rfl : k = n := by omega
    rw [upd_same, updN_at]; exact hx
theorem updJ_k {f : Nat → Int64} {g : Nat → Nat} {n w : Nat} {x : Int64} {V : Nat → Int64} (hx : x = V w) (h : ∀ k, k < n → f k = V (g k)) : ∀ k, k < n + 1 → vp_updL f n x k = V (updN g n w k) := by
  intro k hk
  rcases Nat.lt_or_ge k n with z | z
  · rw [updL_ne _ _ (by omega), updN_ne _ _ (by omega)]; exact h k z
  · obtain rfl : k = n := by omega
    rw [updL_same, updN_at]; exact hx
theorem CDr_R {w : Nat} {x : Int32} (hx : x = nI w) (h : CDr T N D σ) : CDr T N (adR D s w) (setI (setI (setJ σ 10 (pR D.1) (vS T N s)) 11 (pR D.1) x) 9 0 (nI (pR D.1 + 1))) := by
  obtain ⟨a1, a2, a3, a4, a5, a6, a7, a8⟩ := h
  exact ⟨rfl, a2, updJ_k rfl a3, updI_k hx a4, a5, a6, a7, a8⟩
theorem CDr_D {x y z : Int32} {a b e : Nat} (hx : x = nI a) (hy : y = nI b) (hz : z = nI e) (h : CDr T N D σ) : CDr T N (adD D s a b e) (setI (setI (setI (setI (setJ σ 12 (pD D.1) (vS T N s)) 13 (pD D.1) x) 14 (pD D.1) y) 15 (pD D.1) z) 9 1 (nI (pD D.1 + 1))) := by
  obtain ⟨a1, a2, a3, a4, a5, a6, a7, a8⟩ := h
  exact ⟨a1, rfl, a3, a4, updJ_k rfl a5, updI_k hx a6, updI_k hy a7, updI_k hz a8⟩
theorem c_X5_readRoom {f : Mem → Prop} (hb : N ≤ 600) (hk : CTk T N s (0, 0) σ) (hD : GD T N D) (hd : CDr T N D σ)
    (h : ∀ τ, frD σ τ → FC τ (rmT T N D s).1 → τ.1 16 4 = τ.1 16 4 → ((rmT T N D s).1.1 = 0 → CTk T N (rmT T N D s).2.2 (0, 0) τ ∧ CDr T N (rmT T N D s).2.1 τ) → f τ) : SW G (d + 4) M_X5_readRoom 0 [some (.ref 16), some (.ref 9), none, none, none] [] σ (RV f) := by
  have p1 := hD.1.1
  refine sw_aloadn dX5_readRoom_0 rfl ?_
  refine sw_getI dX5_readRoom_1 fs_X5_64 o9 ?_
  rw [hd.1]
  refine sx_bipush (v := nI 8) dX5_readRoom_4 (by decide) ?_
  refine sw_icmp_lt (tgt := 15) dX5_readRoom_6 (by decide) (fun h6 => ?_) (fun h6 => ?_)
  · skip
    have l8 : pR D.1 < 8 := (nI_lt' (by omega) (by omega)).mp h6
    have eT : rmT T N D s = _ := if_neg (by omega)
    refine sw_aloadn dX5_readRoom_15 rfl ?_
    refine sx_invV0 dX5_readRoom_16 mk_X5_nextToken vk_X5_nextToken lk_X5_39 o16 (Nat.le_of_ble_eq_true rfl) (Nat.le_of_ble_eq_true rfl) ?_
    refine c_next hb hk (fun τ1 f1 k1 => ?_)
    refine sw_aloadn dX5_readRoom_19 rfl ?_
    refine sw_aloadn dX5_readRoom_20 rfl ?_
    refine sx_invJ1 dX5_readRoom_21 mk_X5_takeNewName vk_X5_takeNewName lk_X5_67 o16 (Nat.le_of_ble_eq_true rfl) (Nat.le_of_ble_eq_true rfl) ?_
    refine c_X5_takeNewName hb k1 hD (CDr_fr f1 hd) (fun τ2 f2 k2 => ?_)
    refine sw_lstoren dX5_readRoom_24 (Nat.le_of_ble_eq_true rfl) ?_
    refine sw_aloadn dX5_readRoom_25 rfl ?_
    refine sx_iconst (v := nI 4) dX5_readRoom_26 (by decide) ?_
    refine sx_invI1 dX5_readRoom_27 mk_X5_takeNumber vk_X5_takeNumber lk_X5_71 o16 (Nat.le_of_ble_eq_true rfl) (Nat.le_of_ble_eq_true rfl) ?_
    refine c_X5_takeNumber (m := 4) (by omega) hb k2 (fun τ3 r3 f3 k3 g3 => ?_)
    refine sw_istore dX5_readRoom_30 (Nat.le_of_ble_eq_true rfl) ?_
    refine sw_aloadn dX5_readRoom_32 rfl ?_
    refine sx_invV0 dX5_readRoom_33 mk_X5_takeSign vk_X5_takeSign lk_X5_75 o16 (Nat.le_of_ble_eq_true rfl) (Nat.le_of_ble_eq_true rfl) ?_
    refine c_X5_takeSign hb k3 (fun τ4 f4 k4 => ?_)
    have f14 := fr16_tr (fr16_tr (fr16_tr f1 f2) f3) f4
    have d4 := CDr_fr f14 hd
    generalize hA : fh (fh (fh (0, 0) (ckN T N D (nS T N s)) (nS T N s)) (ckV T N 4 (nS T N (nS T N s))) (nS T N (nS T N s))) (ckS T N (nS T N (nS T N (nS T N s)))) (nS T N (nS T N (nS T N s))) = A at *
    have kF := k4.2.2.2.2.2.2.2.2
    refine sw_aloadn dX5_readRoom_36 rfl ?_
    refine sw_getI dX5_readRoom_37 fs_X5_33 o16 ?_
    rw [kF.1]
    refine sw_if_ne (tgt := 50) dX5_readRoom_40 (by decide) (fun h40 => ?_) (fun h40 => ?_)
    · skip
      refine sx_ret0 dX5_readRoom_50 rfl ?_
      first
        | (refine h _ (frD_16 f14) ?_ rfl (fun q => ?_)
           · rw [eT]; exact kF
           · rw [eT] at q; exact absurd (congrArg nI q) h40)
        | (have a0 : A.1 = 0 := nI_inj (by have := kF.2.1; omega) (by omega) h40
           have z0 := a0
           rw [← hA] at z0
           have z1 := (fh_0.mp z0).1
           have e0 : A = (0, 0) := by rw [← hA, fh_ok z0, fh_ok z1, fh_ok (fh_0.mp z1).1]
           have hc := CDr_R (s := nS T N s) (g3 z1) d4
           refine h _ (frD_I (frD_I (frD_J (frD_16 f14) (by omega)) (by omega)) (by omega)) ?_ rfl (fun q => ?_)
           · rw [eT]; exact kF
           · rw [eT]; exact ⟨CTk_cg rfl rfl rfl (e0 ▸ k4), hc⟩)
    · skip
      refine sw_aloadn dX5_readRoom_43 rfl ?_
      refine sw_lloadn dX5_readRoom_44 rfl ?_
      refine sw_iload dX5_readRoom_45 rfl ?_
      refine sx_invV2 dX5_readRoom_47 mk_X3_addRoom vk_X3_addRoom lk_X5_78 o9 (Nat.le_of_ble_eq_true rfl) (Nat.le_of_ble_eq_true rfl) ?_
      refine c_X3_addRoom (n := pR D.1) d4.1 l8 ?_
      refine sx_ret0 dX5_readRoom_50 rfl ?_
      first
        | (refine h _ (frD_16 f14) ?_ rfl (fun q => ?_)
           · rw [eT]; exact kF
           · rw [eT] at q; exact absurd (congrArg nI q) h40)
        | (have a0 : A.1 = 0 := nI_inj (by have := kF.2.1; omega) (by omega) h40
           have z0 := a0
           rw [← hA] at z0
           have z1 := (fh_0.mp z0).1
           have e0 : A = (0, 0) := by rw [← hA, fh_ok z0, fh_ok z1, fh_ok (fh_0.mp z1).1]
           have hc := CDr_R (s := nS T N s) (g3 z1) d4
           refine h _ (frD_I (frD_I (frD_J (frD_16 f14) (by omega)) (by omega)) (by omega)) ?_ rfl (fun q => ?_)
           · rw [eT]; exact kF
           · rw [eT]; exact ⟨CTk_cg rfl rfl rfl (e0 ▸ k4), hc⟩)
  · skip
    have e8 : pR D.1 = 8 := by have := mt (nI_lt' (by omega) (by omega)).mpr h6; omega
    have eT : rmT T N D s = ((2, s), D, s) := if_pos e8
    refine sw_aloadn dX5_readRoom_9 rfl ?_
    refine sx_iconst (v := nI 2) dX5_readRoom_10 (by decide) ?_
    refine sx_invV1 dX5_readRoom_11 mk_X5_faultHere vk_X5_faultHere lk_X5_60 o16 (Nat.le_of_ble_eq_true rfl) (Nat.le_of_ble_eq_true rfl) ?_
    refine c_X5_faultHere (c := 2) (by omega) hk (fun τ hf hr => ?_)
    refine sx_ret0 dX5_readRoom_14 rfl ?_
    refine h _ (frD_16 hf) ?_ rfl (fun q => ?_)
    · rw [eT]; exact hr.2.2.2.2.2.2.2.2
    · rw [eT] at q; cases q
theorem c_X5_readDoor {f : Mem → Prop} (hb : N ≤ 600) (hk : CTk T N s (0, 0) σ) (hD : GD T N D) (hd : CDr T N D σ)
    (h : ∀ τ, frD σ τ → FC τ (drT T N D s).1 → ((drT T N D s).1.1 = 0 → CTk T N (drT T N D s).2.2 (0, 0) τ ∧ CDr T N (drT T N D s).2.1 τ) → f τ) : SW G (d + 4) M_X5_readDoor 0 [some (.ref 16), some (.ref 9), none, none, none, none, none] [] σ (RV f) := by
  have p1 := hD.1.1
  have p2 := hD.1.2.1
  refine sw_aloadn dX5_readDoor_0 rfl ?_
  refine sw_getI dX5_readDoor_1 fs_X5_82 o9 ?_
  rw [hd.2.1]
  refine sx_bipush (v := nI 10) dX5_readDoor_4 (by decide) ?_
  refine sw_icmp_lt (tgt := 15) dX5_readDoor_6 (by decide) (fun h6 => ?_) (fun h6 => ?_)
  · skip
    have l8 : pD D.1 < 10 := (nI_lt' (by omega) (by omega)).mp h6
    have eT : drT T N D s = _ := if_neg (by omega)
    refine sw_aloadn dX5_readDoor_15 rfl ?_
    refine sx_invV0 dX5_readDoor_16 mk_X5_nextToken vk_X5_nextToken lk_X5_39 o16 (Nat.le_of_ble_eq_true rfl) (Nat.le_of_ble_eq_true rfl) ?_
    refine c_next hb hk (fun τ1 f1 k1 => ?_)
    refine sw_aloadn dX5_readDoor_19 rfl ?_
    refine sw_aloadn dX5_readDoor_20 rfl ?_
    refine sx_invJ1 dX5_readDoor_21 mk_X5_takeNewName vk_X5_takeNewName lk_X5_67 o16 (Nat.le_of_ble_eq_true rfl) (Nat.le_of_ble_eq_true rfl) ?_
    refine c_X5_takeNewName hb k1 hD (CDr_fr f1 hd) (fun τ2 f2 k2 => ?_)
    refine sw_lstoren dX5_readDoor_24 (Nat.le_of_ble_eq_true rfl) ?_
    refine sw_aloadn dX5_readDoor_25 rfl ?_
    refine sw_aloadn dX5_readDoor_26 rfl ?_
    refine sx_iconst (v := (-1)) dX5_readDoor_27 (by decide) ?_
    refine sx_invI2 dX5_readDoor_28 mk_X5_takeRoom vk_X5_takeRoom lk_X5_85 o16 (Nat.le_of_ble_eq_true rfl) (Nat.le_of_ble_eq_true rfl) ?_
    refine c_X5_takeRoom (o := 99) hb k2 hD (CDr_fr (fr16_tr f1 f2) hd) (fun _ j hj => ⟨fun q => absurd q (nI_nm1 (by omega)), fun q => by omega⟩) (fun τ3 r3 f3 k3 g3 => ?_)
    refine sw_istore dX5_readDoor_31 (Nat.le_of_ble_eq_true rfl) ?_
    refine sw_aloadn dX5_readDoor_33 rfl ?_
    refine sw_aloadn dX5_readDoor_34 rfl ?_
    refine sw_iload dX5_readDoor_35 rfl ?_
    refine sx_invI2 dX5_readDoor_37 mk_X5_takeRoom vk_X5_takeRoom lk_X5_85 o16 (Nat.le_of_ble_eq_true rfl) (Nat.le_of_ble_eq_true rfl) ?_
    refine c_X5_takeRoom (o := rmX T N D (nS T N (nS T N s))) hb k3 hD (CDr_fr (fr16_tr (fr16_tr f1 f2) f3) hd) (fun q j hj => ⟨fun z => nI_inj (by omega) (by have := rmX_le (T := T) (N := N) D (nS T N (nS T N s)); omega) (z.trans (g3 q)), fun z => by rw [z]; exact (g3 q).symm⟩) (fun τ4 r4 f4 k4 g4 => ?_)
    refine sw_istore dX5_readDoor_40 (Nat.le_of_ble_eq_true rfl) ?_
    refine sw_aloadn dX5_readDoor_42 rfl ?_
    refine sx_bipush (v := nI 6) dX5_readDoor_43 (by decide) ?_
    refine sx_invI1 dX5_readDoor_45 mk_X5_takeNumber vk_X5_takeNumber lk_X5_71 o16 (Nat.le_of_ble_eq_true rfl) (Nat.le_of_ble_eq_true rfl) ?_
    refine c_X5_takeNumber (m := 6) (by omega) hb k4 (fun τ5 r5 f5 k5 g5 => ?_)
    refine sw_istore dX5_readDoor_48 (Nat.le_of_ble_eq_true rfl) ?_
    refine sw_aloadn dX5_readDoor_50 rfl ?_
    refine sx_invV0 dX5_readDoor_51 mk_X5_takeSign vk_X5_takeSign lk_X5_75 o16 (Nat.le_of_ble_eq_true rfl) (Nat.le_of_ble_eq_true rfl) ?_
    refine c_X5_takeSign hb k5 (fun τ6 f6 k6 => ?_)
    have f16 := fr16_tr (fr16_tr (fr16_tr (fr16_tr (fr16_tr f1 f2) f3) f4) f5) f6
    have d6 := CDr_fr f16 hd
    generalize hA : fh (fh (fh (fh (fh (0, 0) (ckN T N D (nS T N s)) (nS T N s)) (ckR T N D (nS T N (nS T N s)) 99) (nS T N (nS T N s))) (ckR T N D (nS T N (nS T N (nS T N s))) (rmX T N D (nS T N (nS T N s)))) (nS T N (nS T N (nS T N s)))) (ckV T N 6 (nS T N (nS T N (nS T N (nS T N s))))) (nS T N (nS T N (nS T N (nS T N s))))) (ckS T N (nS T N (nS T N (nS T N (nS T N (nS T N s)))))) (nS T N (nS T N (nS T N (nS T N (nS T N s))))) = A at *
    have kF := k6.2.2.2.2.2.2.2.2
    refine sw_aloadn dX5_readDoor_54 rfl ?_
    refine sw_getI dX5_readDoor_55 fs_X5_33 o16 ?_
    rw [kF.1]
    refine sw_if_ne (tgt := 72) dX5_readDoor_58 (by decide) (fun h58 => ?_) (fun h58 => ?_)
    · skip
      refine sx_ret0 dX5_readDoor_72 rfl ?_
      first
        | (refine h _ (frD_16 f16) ?_ (fun q => ?_)
           · rw [eT]; exact kF
           · rw [eT] at q; exact absurd (congrArg nI q) h58)
        | (have a0 : A.1 = 0 := nI_inj (by have := kF.2.1; omega) (by omega) h58
           have z0 := a0
           rw [← hA] at z0
           have z1 := (fh_0.mp z0).1
           have z2 := (fh_0.mp z1).1
           have z3 := (fh_0.mp z2).1
           have e0 : A = (0, 0) := by rw [← hA, fh_ok z0, fh_ok z1, fh_ok z2, fh_ok z3, fh_ok (fh_0.mp z3).1]
           have hc := CDr_D (s := nS T N s) (g3 z3) (g4 z2) (g5 z1) d6
           refine h _ (frD_I (frD_I (frD_I (frD_I (frD_J (frD_16 f16) (by omega)) (by omega)) (by omega)) (by omega)) (by omega)) ?_ (fun q => ?_)
           · rw [eT]; exact kF
           · rw [eT]; exact ⟨CTk_cg rfl rfl rfl (e0 ▸ k6), hc⟩)
    · skip
      refine sw_aloadn dX5_readDoor_61 rfl ?_
      refine sw_lloadn dX5_readDoor_62 rfl ?_
      refine sw_iload dX5_readDoor_63 rfl ?_
      refine sw_iload dX5_readDoor_65 rfl ?_
      refine sw_iload dX5_readDoor_67 rfl ?_
      refine sx_invV4 dX5_readDoor_69 mk_X3_addDoor vk_X3_addDoor lk_X5_89 o9 (Nat.le_of_ble_eq_true rfl) (Nat.le_of_ble_eq_true rfl) ?_
      refine c_X3_addDoor (n := pD D.1) d6.2.1 l8 ?_
      refine sx_ret0 dX5_readDoor_72 rfl ?_
      first
        | (refine h _ (frD_16 f16) ?_ (fun q => ?_)
           · rw [eT]; exact kF
           · rw [eT] at q; exact absurd (congrArg nI q) h58)
        | (have a0 : A.1 = 0 := nI_inj (by have := kF.2.1; omega) (by omega) h58
           have z0 := a0
           rw [← hA] at z0
           have z1 := (fh_0.mp z0).1
           have z2 := (fh_0.mp z1).1
           have z3 := (fh_0.mp z2).1
           have e0 : A = (0, 0) := by rw [← hA, fh_ok z0, fh_ok z1, fh_ok z2, fh_ok z3, fh_ok (fh_0.mp z3).1]
           have hc := CDr_D (s := nS T N s) (g3 z3) (g4 z2) (g5 z1) d6
           refine h _ (frD_I (frD_I (frD_I (frD_I (frD_J (frD_16 f16) (by omega)) (by omega)) (by omega)) (by omega)) (by omega)) ?_ (fun q => ?_)
           · rw [eT]; exact kF
           · rw [eT]; exact ⟨CTk_cg rfl rfl rfl (e0 ▸ k6), hc⟩)
  · skip
    have e8 : pD D.1 = 10 := by have := mt (nI_lt' (by omega) (by omega)).mpr h6; omega
    have eT : drT T N D s = ((2, s), D, s) := if_pos e8
    refine sw_aloadn dX5_readDoor_9 rfl ?_
    refine sx_iconst (v := nI 2) dX5_readDoor_10 (by decide) ?_
    refine sx_invV1 dX5_readDoor_11 mk_X5_faultHere vk_X5_faultHere lk_X5_60 o16 (Nat.le_of_ble_eq_true rfl) (Nat.le_of_ble_eq_true rfl) ?_
    refine c_X5_faultHere (c := 2) (by omega) hk (fun τ hf hr => ?_)
    refine sx_ret0 dX5_readDoor_14 rfl ?_
    refine h _ (frD_16 hf) ?_ (fun q => ?_)
    · rw [eT]; exact hr.2.2.2.2.2.2.2.2
    · rw [eT] at q; cases q
end CREAD
