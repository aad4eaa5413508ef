section OPS3
variable {G : GG} {σ : Mem} {f : Int32 → Mem → Prop}
theorem op_pass {x y b t : Int32} (hb : b = nI 0 ∨ b = nI 1) (hI : Inv σ) (h : ∀ a τ, MR G M_X8_pass [some (.ref 46), some (.int x), some (.int y), some (.int b), some (.int t), none, none] a τ → f a τ) : SW G 11 M_X7_pass 0 [some (.ref 0), some (.int x), some (.int y), some (.int b), some (.int t)] [] σ (RI f) := by
  obtain ⟨P, nc, n, N, k, h5⟩ := hI
  obtain ⟨hT, hP, hD, hF, hL, hR, hC⟩ := id h5
  have hn := hL.2.2.1
  have hc := hD.2.2
  have pd := hP.2.2.2.1
  obtain ⟨e1, e2, e3, e4, e5⟩ := I5_e h5
  have ep : ∀ z, cnt (isPM σ z) n = cnt (isP σ z) n := fun z => cnt_cong (fun j _ => by unfold isPM isP; rw [e1, e2])
  refine c_X7_pass hD.1 hc hP.1.2.1 pd hL.1 hn hb (fun q => h _ _ (fun g hg => ?_)) (fun q => h _ _ (fun g hg => ?_))
  · refine m_pass (σ := addC σ n (nI 0) x y t b) (nc := nc) (nd := pD P) (n := n) hD.2.1 hc hP.2.1.2.1 pd hL.2.1 hn hb (fun _ => hg _ ⟨P, nc, n + 1, N, k, I5_add h5 q.2.2.2.2 (Or.inl ⟨rfl, q.1, q.2.1, q.2.2.1, hb⟩) (fun cc hcc _ e => ?_)⟩) (fun z => absurd ⟨q.1, q.2.1, q.2.2.1, ?_, q.2.2.2.2⟩ z)
    · have := q.2.2.2.1
      rw [e] at this
      exact this
    · have : cnt (isPM (addC σ n (nI 0) x y t b) x) n = cnt (isPM σ x) n := rfl
      rw [this, ep]
      have := q.2.2.2.1
      omega
  · refine m_pass (nc := nc) (nd := pD P) (n := n) hD.2.1 hc hP.2.1.2.1 pd hL.2.1 hn hb (fun z => absurd ⟨z.1, z.2.1, z.2.2.1, ?_, z.2.2.2.2⟩ q) (fun _ => hg _ ⟨P, nc, n, N, k, I5_th h5⟩)
    have h12 := z.2.2.2.1
    rw [ep] at h12
    obtain ⟨cc, hcc, rfl⟩ := z.1
    have : cnt (isP σ (nI cc)) n ≤ 12 := hC.2.2.1 cc (by omega)
    omega
theorem op_gap {y a b : Int32} (hI : Inv σ) (h : ∀ v τ, MR G M_X8_gap [some (.ref 46), some (.int y), some (.int a), some (.int b)] v τ → f v τ) : SW G 11 M_X7_gap 0 [some (.ref 0), some (.int y), some (.int a), some (.int b)] [] σ (RI f) := by
  obtain ⟨P, nc, n, N, k, h5⟩ := hI
  obtain ⟨hT, hP, hD, hF, hL, hR, hC⟩ := id h5
  have hn := hL.2.2.1
  have pd := hP.2.2.2.1
  refine c_X7_gap hP.1.2.1 pd hL.1 hn (fun q => h _ _ (fun g hg => ?_)) (fun q => h _ _ (fun g hg => ?_))
  · exact m_gap (σ := addC σ n (nI 1) (-1) y a b) (nd := pD P) (n := n) hP.2.1.2.1 pd hL.2.1 hn (fun _ => hg _ ⟨P, nc, n + 1, N, k, I5_add h5 q.2.2.2.2 (Or.inr (Or.inl ⟨rfl, rfl, q.1, q.2.1, q.2.2.1, q.2.2.2.1⟩)) (fun cc _ e _ => absurd e (by decide))⟩) (fun z => absurd q z)
  · exact m_gap (nd := pD P) (n := n) hP.2.1.2.1 pd hL.2.1 hn (fun z => absurd z q) (fun _ => hg _ ⟨P, nc, n, N, k, I5_th h5⟩)
theorem op_sight {x y t : Int32} (hI : Inv σ) (h : ∀ v τ, MR G M_X8_sight [some (.ref 46), some (.int x), some (.int y), some (.int t)] v τ → f v τ) : SW G 11 M_X7_sight 0 [some (.ref 0), some (.int x), some (.int y), some (.int t)] [] σ (RI f) := by
  obtain ⟨P, nc, n, N, k, h5⟩ := hI
  obtain ⟨hT, hP, hD, hF, hL, hR, hC⟩ := id h5
  have hn := hL.2.2.1
  have hc := hD.2.2
  have p8 := hP.2.2.1
  refine c_X7_sight hD.1 hc hP.1.1 (by omega) hL.1 hn (fun q => h _ _ (fun g hg => ?_)) (fun q => h _ _ (fun g hg => ?_))
  · exact m_sight (σ := addC σ n (nI 2) x y t (-1)) (nc := nc) (nr := pR P) (n := n) hD.2.1 hc hP.2.1.1 (by omega) hL.2.1 hn (fun _ => hg _ ⟨P, nc, n + 1, N, k, I5_add h5 q.2.2.2 (Or.inr (Or.inr ⟨rfl, q.1, q.2.1, q.2.2.1, rfl⟩)) (fun cc _ e _ => absurd e (by decide))⟩) (fun z => absurd q z)
  · exact m_sight (nc := nc) (nr := pR P) (n := n) hD.2.1 hc hP.2.1.1 (by omega) hL.2.1 hn (fun z => absurd z q) (fun _ => hg _ ⟨P, nc, n, N, k, I5_th h5⟩)
theorem op_right {x y a b e : Int32} (he : e = nI 0 ∨ e = nI 1) (hI : Inv σ) (h : ∀ v τ, MR G M_X8_right [some (.ref 46), some (.int x), some (.int y), some (.int a), some (.int b), some (.int e)] v τ → f v τ) : SW G 11 M_X7_right 0 [some (.ref 0), some (.int x), some (.int y), some (.int a), some (.int b), some (.int e)] [] σ (RI f) := by
  obtain ⟨P, nc, n, N, k, h5⟩ := hI
  obtain ⟨hT, hP, hD, hF, hL, hR, hC⟩ := id h5
  have hc := hD.2.2
  have p8 := hP.2.2.1
  obtain ⟨r1, r2, r3, ⟨e1, e2, e3, e4, e5⟩, r5⟩ := id hR
  refine c_X7_right hD.1 hc hP.1.1 (by omega) r1 r3 he (fun q => h _ _ (fun g hg => ?_)) (fun q => h _ _ (fun g hg => ?_))
  · refine m_right (σ := addR σ k x y a b e) (nc := nc) (nr := pR P) (n := k) hD.2.1 hc hP.2.1.1 (by omega) r2 r3 he (fun _ => hg _ ⟨P, nc, n, N, k + 1, IT_fr hT rfl rfl rfl rfl, IP_fr hP rfl rfl rfl rfl rfl rfl rfl rfl rfl rfl rfl, ID_fr hD rfl rfl, hF, IL_fr hL rfl rfl rfl rfl, ⟨rfl, rfl, by have := q.2.2.2.2.2; omega, ⟨?_, ?_, ?_, ?_, ?_⟩, fun j hj => ?_⟩, IC_fr hC rfl (fun h0 => CI_cg (fun z h1 h2 => ⟨?_, rfl⟩) (hC.2.2.2 h0))⟩) (fun z => absurd q z)
    · show upd (σ.1 63) k x = upd (σ.1 24) k x; rw [e1]
    · show upd (σ.1 64) k y = upd (σ.1 25) k y; rw [e2]
    · show upd (σ.1 65) k a = upd (σ.1 26) k a; rw [e3]
    · show upd (σ.1 66) k b = upd (σ.1 27) k b; rw [e4]
    · show upd (σ.1 67) k e = upd (σ.1 28) k e; rw [e5]
    · show upd (σ.1 28) k e j = nI 0 ∨ upd (σ.1 28) k e j = nI 1
      rcases Nat.lt_or_ge j k with z | z
      · rw [upd_ne _ _ (by omega)]; exact r5 j z
      · obtain rfl : j = k := by omega
        rw [upd_same]; exact he
    · unfold addRM addR
      rw [setI_ne _ _ _ (by omega), setI_ne _ _ _ (by omega), setI_ne _ _ _ (by omega), setI_ne _ _ _ (by omega), setI_ne _ _ _ (by omega), setI_ne _ _ _ (by omega), setI_ne _ _ _ (by omega), setI_ne _ _ _ (by omega), setI_ne _ _ _ (by omega), setI_ne _ _ _ (by omega), setI_ne _ _ _ (by omega), setI_ne _ _ _ (by omega), setI_ne _ _ _ (by omega)]
  · exact m_right (nc := nc) (nr := pR P) (n := k) hD.2.1 hc hP.2.1.1 (by omega) r2 r3 he (fun z => absurd z q) (fun _ => hg _ ⟨P, nc, n, N, k, I5_th h5⟩)
/-! feed -/
theorem sh_a : ∀ k, k < 32 → (nI k &&& 31).toBitVec.smod 32 = BitVec.ofNat 32 k := by decide +kernel
theorem by_eq (x : Int32) {s : Nat} (hs : s + 8 ≤ 32) : byC x s = byM x s := by
  unfold byC byM
  congr 1
  apply Int8.toBitVec_inj.mp
  apply BitVec.eq_of_getLsbD_eq
  intro i hi
  have e1 : (x.toUInt32 >>> ((nI s).toUInt32 &&& Int32.toUInt32 31)).toInt32.toBitVec = x.toBitVec >>> s := by
    have := sh_i s (by omega)
    simp only [UInt32.toBitVec_toInt32, UInt32.toBitVec_shiftRight, this]
    simp [Nat.mod_eq_of_lt (show s < 4294967296 by omega)]
  have e2 : (x >>> (nI s &&& 31)).toBitVec = x.toBitVec.sshiftRight s := by
    have := sh_a s (by omega)
    simp only [Int32.toBitVec_shiftRight, this]
    simp [BitVec.sshiftRight', Nat.mod_eq_of_lt (show s < 4294967296 by omega)]
  have t8 : ∀ (z : Int32), z.toInt8.toBitVec.getLsbD i = z.toBitVec.getLsbD i := by
    intro z
    show (BitVec.signExtend 8 z.toBitVec).getLsbD i = _
    rw [BitVec.getLsbD_signExtend]
    simp [hi, show i < 32 by omega]
  rw [t8, t8, e1, e2, BitVec.getLsbD_ushiftRight, BitVec.getLsbD_sshiftRight]
  simp [show ¬ 32 ≤ i by omega, show s + i < 32 by omega]
end OPS3
