/-! ===== the two words of the model: String constants (cells 77, 78; their bytes 79, 80; 81 what makes an exception text) ===== -/
theorem im_J0_length_8abf5 : Cond.instanceMethod M_J0_length_8abf5.2.1 ∈ TB := tb_of (List.mem_append_right _ (List.mem_of_getElem? (i := 1002) (by decide +kernel))) (by decide +kernel)
theorem se_J0_length_8abf5 : Cond.selects M_J0_length_8abf5.2.2.1 M_J0_length_8abf5.2.1 M_J0_length_8abf5.2.1 ∈ TB := tb_of (List.mem_append_right _ (List.mem_of_getElem? (i := 1003) (by decide +kernel))) (by decide +kernel)
theorem im_J0_charAt_5068e : Cond.instanceMethod M_J0_charAt_5068e.2.1 ∈ TB := tb_of (List.mem_append_right _ (List.mem_of_getElem? (i := 1012) (by decide +kernel))) (by decide +kernel)
theorem se_J0_charAt_5068e : Cond.selects M_J0_charAt_5068e.2.2.1 M_J0_charAt_5068e.2.1 M_J0_charAt_5068e.2.1 ∈ TB := tb_of (List.mem_append_right _ (List.mem_of_getElem? (i := 1013) (by decide +kernel))) (by decide +kernel)
theorem im_J0_coder_7d493 : Cond.instanceMethod M_J0_coder_7d493.2.1 ∈ TB := tb_of (List.mem_append_right _ (List.mem_of_getElem? (i := 1006) (by decide +kernel))) (by decide +kernel)
theorem se_J0_coder_7d493 : Cond.selects M_J0_coder_7d493.2.2.1 M_J0_coder_7d493.2.1 M_J0_coder_7d493.2.1 ∈ TB := tb_of (List.mem_append_right _ (List.mem_of_getElem? (i := 1007) (by decide +kernel))) (by decide +kernel)
theorem im_J0_isLatin1_aae02 : Cond.instanceMethod M_J0_isLatin1_aae02.2.1 ∈ TB := tb_of (List.mem_append_right _ (List.mem_of_getElem? (i := 1016) (by decide +kernel))) (by decide +kernel)
theorem se_J0_isLatin1_aae02 : Cond.selects M_J0_isLatin1_aae02.2.2.1 M_J0_isLatin1_aae02.2.1 M_J0_isLatin1_aae02.2.1 ∈ TB := tb_of (List.mem_append_right _ (List.mem_of_getElem? (i := 1017) (by decide +kernel))) (by decide +kernel)
theorem fl_J0_9 : Cond.fieldLink RJ0 9 "java/lang/String" "value" "[B" ∈ TB := tb_of (List.mem_append_right _ (List.mem_of_getElem? (i := 1283) (by decide +kernel))) (by decide +kernel)
theorem fl_J0_15 : Cond.fieldLink RJ0 15 "java/lang/String" "coder" "B" ∈ TB := tb_of (List.mem_append_right _ (List.mem_of_getElem? (i := 1284) (by decide +kernel))) (by decide +kernel)
theorem fl_J0_38 : Cond.fieldLink RJ0 38 "java/lang/String" "COMPACT_STRINGS" "Z" ∈ TB := tb_of (List.mem_append_right _ (List.mem_of_getElem? (i := 1009) (by decide +kernel))) (by decide +kernel)
theorem fl_J0_1053 : Cond.fieldLink RJ0 1053 "jdk/internal/util/Preconditions" "SIOOBE_FORMATTER" "Ljava/util/function/BiFunction;" ∈ TB := tb_of (List.mem_append_right _ (List.mem_of_getElem? (i := 1025) (by decide +kernel))) (by decide +kernel)
def StrI (G : GG) (q b : Nat) (w : Nat → Int32) : Prop := (∀ (A : Nat → Prop) (s : State), gm G A s → va_O RJ0 (ga G q) A s s.heap) ∧ (∀ (A : Nat → Prop) (s : State), gm G A s → va_OF RJ0 "coder" "B" (.int 0) (ga G q) A s s.heap) ∧ (∀ (A : Nat → Prop) (s : State), gm G A s → va_OF RJ0 "value" "[B" (.ref (ga G b)) (ga G q) A s s.heap) ∧ ∃ f : Nat → Value, (∀ j, j < 4 → f j = .int (w j)) ∧ ∀ (A : Nat → Prop) (s : State), gm G A s → va_T .byte (ga G b) 4 f A s s.heap
def Str (G : GG) : Prop := StrI G 77 79 wR ∧ StrI G 78 80 wD ∧ (∀ (A : Nat → Prop) (s : State), gm G A s → vk_R RX8 140 "room" (ga G 77) s) ∧ (∀ (A : Nat → Prop) (s : State), gm G A s → vk_R RX8 146 "door" (ga G 78) s) ∧ (∀ (A : Nat → Prop) (s : State), gm G A s → va_Z RJ0 "COMPACT_STRINGS" "Z" (.int 1) A s s.heap) ∧ ∃ v : Value, v.category = 1 ∧ (∃ x, lgt [some v] 0 = some x) ∧ (v = .null ∨ v = .ref 81) ∧ ∀ (A : Nat → Prop) (s : State), gm G A s → va_Z RJ3 "SIOOBE_FORMATTER" "Ljava/util/function/BiFunction;" (cv G v) A s s.heap
section STR
variable {G : GG} {d : Nat} {M M' : MM} {pc : Nat} {L : List (Option Value)} {S : List Value} {σ : Mem} {Q : Option Value → Mem → Prop}
theorem sw_ldcS {i q : Nat} {tx : String} (hX : ∀ (A : Nat → Prop) (s : State), gm G A s → vk_R M.2.2.1 i tx (ga G q) s) (hd : decode M.1 pc = .ok (.ldc i, 2)) (k : SW G d M (pc + 2) L (.ref q :: S) σ Q) : SW G d M pc L S σ Q := by
  intro p e R s m args below meth c H locs cells slots A Z ls C hR hP hS hl hr
  exact va_ldcS C.2.1 C.2.2.1 C.2.2.2.2.1 (hX A s C.2.2.2.2.2.2.2.2.1) hd (k p e R s m args below meth c H locs cells slots A Z ls C hR hP hS hl hr)
theorem sw_gets {v : Value} {Cn n dd : String} {idx : Nat} (hX : ∀ (A : Nat → Prop) (s : State), gm G A s → va_Z Cn n dd (cv G v) A s s.heap) (hw : Cond.fieldLink M.2.2.1 idx Cn n dd ∈ TB) (hd : decode M.1 pc = .ok (.getstatic idx, 3)) (k : SW G d M (pc + 3) L (v :: S) σ Q) : SW G d M pc L S σ Q := by
  intro p e R s m args below meth c H locs cells slots A Z ls C hR hP hS hl hr
  exact va_gets C.2.1 C.2.2.1 (hX A s C.2.2.2.2.2.2.2.2.1) hS C.2.2.2.2.1 (C.2.2.2.2.2.1 _ hw) (fun x hx => hx) hd (k p e R s m args below meth c H locs cells slots A Z ls C hR hP hS hl hr)
theorem sw_getf {v : Value} {Cn n dd : String} {idx q : Nat} (hX : ∀ (A : Nat → Prop) (s : State), gm G A s → va_OF Cn n dd (cv G v) (ga G q) A s s.heap) (hw : Cond.fieldLink M.2.2.1 idx Cn n dd ∈ TB) (hd : decode M.1 pc = .ok (.getfield idx, 3)) (k : SW G d M (pc + 3) L (v :: S) σ Q) : SW G d M pc L (.ref q :: S) σ Q := by
  intro p e R s m args below meth c H locs cells slots A Z ls C hR hP hS hl hr
  exact vk_getf C.2.1 C.2.2.1 (hX A s C.2.2.2.2.2.2.2.2.1) hS C.2.2.2.2.1 (C.2.2.2.2.2.1 _ hw) (fun x hx => hx) hd (k p e R s m args below meth c H locs cells slots A Z ls C hR hP hS hl hr)
theorem sw_tlen {q N : Nat} {f : Nat → Value} {ty : FieldType} (hX : ∀ (A : Nat → Prop) (s : State), gm G A s → va_T ty (ga G q) N f A s s.heap) (hd : decode M.1 pc = .ok (.arraylength, 1)) (k : SW G d M (pc + 1) L (.int (nI N) :: S) σ Q) : SW G d M pc L (.ref q :: S) σ Q := by
  intro p e R s m args below meth c H locs cells slots A Z ls C hR hP hS hl hr
  exact va_tlen C.2.1 C.2.2.1 (hX A s C.2.2.2.2.2.2.2.2.1) hS (v := nI N) rfl hd (k p e R s m args below meth c H locs cells slots A Z ls C hR hP hS hl hr)
theorem sw_tb {q N j : Nat} {f : Nat → Value} {x : Int32} (hX : ∀ (A : Nat → Prop) (s : State), gm G A s → va_T .byte (ga G q) N f A s s.heap) (hj : j < N) (hn : N < 100000) (hx : f j = .int x) (hd : decode M.1 pc = .ok (.baload, 1)) (k : SW G d M (pc + 1) L (.int x :: S) σ Q) : SW G d M pc L (.int (nI j) :: .ref q :: S) σ Q := by
  intro p e R s m args below meth c H locs cells slots A Z ls C hR hP hS hl hr
  exact va_tb C.2.1 C.2.2.1 (hX A s C.2.2.2.2.2.2.2.2.1) hS (vp_in_nI hj (by omega)) (v := .int x) (by rw [nI_clamp (by omega)]; exact hx) hd (k p e R s m args below meth c H locs cells slots A Z ls C hR hP hS hl hr)
theorem sw_pop {v : Value} (hd : decode M.1 pc = .ok (.pop, 1)) (hv : v.category = 1) (k : SW G d M (pc + 1) L S σ Q) : SW G d M pc L (v :: S) σ Q := by
  intro p e R s m args below meth c H locs cells slots A Z ls C hR hP hS hl hr
  exact lv_pop C.2.1 C.2.2.1 hd (by rw [cv_cat]; exact hv) (k p e R s m args below meth c H locs cells slots A Z ls C hR hP hS hl hr)
theorem sw_i2c {x : Int32} (hd : decode M.1 pc = .ok (.i2c, 1)) (k : SW G d M (pc + 1) L (.int (x.toUInt32 % 65536).toInt32 :: S) σ Q) : SW G d M pc L (.int x :: S) σ Q := by
  intro p e R s m args below meth c H locs cells slots A Z ls C hR hP hS hl hr
  exact lv_i2c C.2.1 C.2.2.1 hd rfl (k p e R s m args below meth c H locs cells slots A Z ls C hR hP hS hl hr)
theorem sw_retn {x : Int32} {f : Int32 → Mem → Prop} {ty : FieldType} (hd : decode M.1 pc = .ok (.ireturn, 1)) (ht : M.2.2.2.2 = some ty) (hn : narrow ty (.int x) = .int x) (h : f x σ) : SW G d M pc L [.int x] σ (RI f) := by
  intro p e R s m args below meth c H locs cells slots A Z ls C hR hP hS hl hr
  exact hr (some (.int x)) σ H locs pc ls ⟨x, rfl, h⟩ hP hS ⟨hd, _, ht, hn⟩
theorem sw_invS {b n idx : Nat} (As : List Value) (hd : decode M.1 pc = .ok (.invokevirtual idx, 3)) (hM : MOk M') (v1 : Cond.instanceMethod M'.2.1 ∈ TB) (v2 : Cond.selects M'.2.2.1 M'.2.1 M'.2.1 ∈ TB) (v3 : (parseMethodDescriptor M'.2.1.desc).map (fun d => d.parameters.length) = some n) (hk : LK M.2.2.1 idx M'.2.1) (hX : ∀ (A : Nat → Prop) (s : State), gm G A s → va_O M'.2.2.1 (ga G b) A s s.heap) (hn : As.length = n) (hw : wds (.ref b :: As) ≤ M'.2.2.2.1) (hs : (S.map Value.category).sum ≤ 8)
    (h : SW G d M' 0 (ent M'.2.2.2.1 (.ref b :: As)) [] σ (fun r σ' => SW G (d + 1) M (pc + 3) L (r.toList ++ S) σ' Q)) : SW G (d + 1) M pc L (As.reverse ++ .ref b :: S) σ Q := by
  intro p e R s m args below meth c H locs cells slots A Z ls C hR hP hS hl hr
  have hMet := sw_met C.1 hM hw h
  have ht := C.2.2.2.2.2.1
  have hroom : (rmD d).frames + 1 ≤ R.frames ∧ 8 + (M'.2.2.2.1 + 11) + (rmD d).locals ≤ R.locals := by
    have h1 := hM.2.2.2.2.2
    have h2 := hR.1
    have h3 := hR.2.1
    refine ⟨h2, ?_⟩
    show 8 + (M'.2.2.2.1 + 11) + 31 * d ≤ R.locals
    omega
  obtain ⟨cell, c1, c2, c3, -⟩ := (hX A s C.2.2.2.2.2.2.2.2.1).kept hS.2.1
  have hpre : PreV s H M'.2.2.1 (ga G b) (va_Pc ((Value.ref b :: As).map (cv G)) (PcW G σ)) (As.map (cv G)) :=
    ⟨pcw_blind C.1, ⟨cell, c1, c2, c3⟩, pcw_at C hP hS⟩
  have hstk : ((As.reverse ++ .ref b :: S).map (cv G)) = (As.map (cv G)).reverse ++ .ref (ga G b) :: S.map (cv G) := by simp [cv]
  rw [hstk]
  refine sw_after (S := S) ?_ C hR hS hl hr (a := (Value.ref (ga G b) :: As.map (cv G)).toArray)
  rcases hk with hk | ⟨host, hk⟩
  · exact va_runV ⟨C.2.1, C.2.2.1, C.2.2.2.1, C.2.2.2.2.1, ht⟩ hMet ⟨callB_of n ht (wsM_good hM) rfl rfl rfl (ht _ hM.2.2.2.1) (ht _ hk) ⟨hM.2.2.2.2.1.1, hM.2.2.2.2.1.2, v3⟩ hroom, ht _ v1, ht _ v2⟩ hpre rfl (by simpa using hn) hl.2.1 rfl (lv_room (by rw [cats]; exact hs)) hd ⟨by have := hR.2.2.1; omega, by have := hR.2.2.2; omega⟩
  · exact va_runVN (host := host) ⟨C.2.1, C.2.2.1, C.2.2.2.1, C.2.2.2.2.1, ht⟩ hMet ⟨va_cnB n ht (wsM_good hM) rfl rfl rfl (C.2.2.2.2.2.2.1 _ hk) (ht _ hM.2.2.2.1) ⟨hM.2.2.2.2.1.1, hM.2.2.2.2.1.2, v3⟩ hroom, ht _ v1, ht _ v2⟩ hpre rfl (by simpa using hn) hl.2.1 rfl (lv_room (by rw [cats]; exact hs)) hd ⟨by have := hR.2.2.1; omega, by have := hR.2.2.2; omega⟩
theorem sx_invS0 {b idx : Nat} (hd : decode M.1 pc = .ok (.invokevirtual idx, 3)) (hM : MOk M') (v1 : Cond.instanceMethod M'.2.1 ∈ TB) (v2 : Cond.selects M'.2.2.1 M'.2.1 M'.2.1 ∈ TB) (v3 : (parseMethodDescriptor M'.2.1.desc).map (fun d => d.parameters.length) = some 0) (hk : LK M.2.2.1 idx M'.2.1) (hX : ∀ (A : Nat → Prop) (s : State), gm G A s → va_O M'.2.2.1 (ga G b) A s s.heap) (hw : wds [.ref b] ≤ M'.2.2.2.1) (hs : (S.map Value.category).sum ≤ 8)
    (h : SW G d M' 0 (ent M'.2.2.2.1 [.ref b]) [] σ (RI (fun x σ' => SW G (d + 1) M (pc + 3) L (.int x :: S) σ' Q))) : SW G (d + 1) M pc L (.ref b :: S) σ Q :=
  sw_invS [] hd hM v1 v2 v3 hk hX rfl hw hs (sw_mono (fun r σ' h => by obtain ⟨x, rfl, h⟩ := h; exact h) h)
theorem sx_invS1 {b idx : Nat} {a1 : Value} (hd : decode M.1 pc = .ok (.invokevirtual idx, 3)) (hM : MOk M') (v1 : Cond.instanceMethod M'.2.1 ∈ TB) (v2 : Cond.selects M'.2.2.1 M'.2.1 M'.2.1 ∈ TB) (v3 : (parseMethodDescriptor M'.2.1.desc).map (fun d => d.parameters.length) = some 1) (hk : LK M.2.2.1 idx M'.2.1) (hX : ∀ (A : Nat → Prop) (s : State), gm G A s → va_O M'.2.2.1 (ga G b) A s s.heap) (hw : wds [.ref b, a1] ≤ M'.2.2.2.1) (hs : (S.map Value.category).sum ≤ 8)
    (h : SW G d M' 0 (ent M'.2.2.2.1 [.ref b, a1]) [] σ (RI (fun x σ' => SW G (d + 1) M (pc + 3) L (.int x :: S) σ' Q))) : SW G (d + 1) M pc L (a1 :: .ref b :: S) σ Q :=
  sw_invS [a1] hd hM v1 v2 v3 hk hX rfl hw hs (sw_mono (fun r σ' h => by obtain ⟨x, rfl, h⟩ := h; exact h) h)
end STR
section STRC
variable {G : GG} {d : Nat} {σ : Mem}
theorem c_coder {f : Int32 → Mem → Prop} {q b : Nat} {w : Nat → Int32} (hG : Str G) (hq : StrI G q b w) (h : f (nI 0) σ) : SW G d M_J0_coder_7d493 0 [some (.ref q)] [] σ (RI f) := by
  refine sw_gets (v := .int 1) hG.2.2.2.2.1 fl_J0_38 dJ0_coder_7d493_0 ?_
  refine sw_if_eq (tgt := 13) dJ0_coder_7d493_3 (by decide) (fun z => absurd z (by decide)) (fun _ => ?_)
  refine sw_aloadn dJ0_coder_7d493_6 rfl ?_
  refine sw_getf (v := .int 0) hq.2.1 fl_J0_15 dJ0_coder_7d493_7 ?_
  refine sw_goto (tgt := 14) dJ0_coder_7d493_10 (by decide) ?_
  exact sw_retn dJ0_coder_7d493_14 rfl (by decide) h
theorem c_isLatin1 {f : Int32 → Mem → Prop} {q b : Nat} {w : Nat → Int32} (hG : Str G) (hq : StrI G q b w) (h : f (nI 1) σ) : SW G d M_J0_isLatin1_aae02 0 [some (.ref q)] [] σ (RI f) := by
  refine sw_gets (v := .int 1) hG.2.2.2.2.1 fl_J0_38 dJ0_isLatin1_aae02_0 ?_
  refine sw_if_eq (tgt := 17) dJ0_isLatin1_aae02_3 (by decide) (fun z => absurd z (by decide)) (fun _ => ?_)
  refine sw_aloadn dJ0_isLatin1_aae02_6 rfl ?_
  refine sw_getf (v := .int 0) hq.2.1 fl_J0_15 dJ0_isLatin1_aae02_7 ?_
  refine sw_if_ne (tgt := 17) dJ0_isLatin1_aae02_10 (by decide) (fun z => absurd rfl z) (fun _ => ?_)
  refine sw_iconst dJ0_isLatin1_aae02_13 ?_
  refine sw_goto (tgt := 18) dJ0_isLatin1_aae02_14 (by decide) ?_
  exact sw_retn dJ0_isLatin1_aae02_18 rfl (by decide) h
theorem c_length {f : Int32 → Mem → Prop} {q b : Nat} {w : Nat → Int32} (hG : Str G) (hq : StrI G q b w) (h : f (nI 4) σ) : SW G (d + 1) M_J0_length_8abf5 0 [some (.ref q)] [] σ (RI f) := by
  obtain ⟨g, g1, g2⟩ := hq.2.2.2
  refine sw_aloadn dJ0_length_8abf5_0 rfl ?_
  refine sw_getf (v := .ref b) hq.2.2.1 fl_J0_9 dJ0_length_8abf5_1 ?_
  refine sw_tlen g2 dJ0_length_8abf5_4 ?_
  refine sw_aloadn dJ0_length_8abf5_5 rfl ?_
  refine sx_invS0 dJ0_length_8abf5_6 mk_J0_coder_7d493 im_J0_coder_7d493 se_J0_coder_7d493 (by decide +kernel) lk_J0_335 hq.1 (Nat.le_of_ble_eq_true rfl) (Nat.le_of_ble_eq_true rfl) ?_
  refine c_coder hG hq ?_
  refine sw_ishr dJ0_length_8abf5_9 ?_
  refine sw_topI (y := nI 4) (by decide) ?_
  exact sx_reti dJ0_length_8abf5_10 rfl h
theorem c_checkIndex {f : Int32 → Mem → Prop} {v : Value} {k : Nat} (hk : k < 4) (hv : v = .null ∨ v = .ref 81) (h : f (nI k) σ) : SW G d M_J3_checkIndex_8e157 0 [some (.int (nI k)), some (.int (nI 4)), some v] [] σ (RI f) := by
  refine sw_iloadn dJ3_checkIndex_8e157_0 rfl ?_
  refine sw_if_lt (tgt := 9) dJ3_checkIndex_8e157_1 (by decide) (fun z => absurd z (nI_pos (by omega))) (fun _ => ?_)
  refine sw_iloadn dJ3_checkIndex_8e157_4 rfl ?_
  refine sw_iloadn dJ3_checkIndex_8e157_5 rfl ?_
  refine sw_icmp_lt (tgt := 16) dJ3_checkIndex_8e157_6 (by decide) (fun _ => ?_) (fun z => absurd ((nI_lt' (by omega) (by omega)).mpr hk) z)
  refine sw_iloadn dJ3_checkIndex_8e157_16 rfl ?_
  exact sx_reti dJ3_checkIndex_8e157_17 rfl h
theorem c_checkIndex0 {f : Mem → Prop} {k : Nat} (hG : Str G) (hk : k < 4) (h : f σ) : SW G (d + 1) M_J0_checkIndex_df160 0 [some (.int (nI k)), some (.int (nI 4))] [] σ (RV f) := by
  obtain ⟨v, v1, v2, v3, v4⟩ := hG.2.2.2.2.2
  refine sw_iloadn dJ0_checkIndex_df160_0 rfl ?_
  refine sw_iloadn dJ0_checkIndex_df160_1 rfl ?_
  refine sw_gets (v := v) v4 fl_J0_1053 dJ0_checkIndex_df160_2 ?_
  refine sx_insI3 dJ0_checkIndex_df160_5 mk_J3_checkIndex_8e157 sk_J3_checkIndex_8e157 lk_J0_1059 (by rcases v3 with rfl | rfl <;> exact Nat.le_of_ble_eq_true rfl) (by decide) ?_
  have e : ent M_J3_checkIndex_8e157.2.2.2.1 [.int (nI k), .int (nI 4), v] = [some (.int (nI k)), some (.int (nI 4)), some v] := by rcases v3 with rfl | rfl <;> rfl
  rw [e]
  refine c_checkIndex hk v3 ?_
  refine sw_pop dJ0_checkIndex_df160_8 rfl ?_
  exact sx_ret0 dJ0_checkIndex_df160_9 rfl h
theorem ch_all : ∀ c, c < 128 → ((nI c &&& nI 255).toUInt32 % 65536).toInt32 = nI c ∧ narrow .char (.int (nI c)) = .int (nI c) := by decide +kernel
theorem c_charAt {f : Int32 → Mem → Prop} {q b : Nat} {w : Nat → Int32} {k : Nat} (hG : Str G) (hq : StrI G q b w) (hk : k < 4) (hw : ∀ j, j < 4 → ∃ c, c < 128 ∧ w j = nI c) (h : f (w k) σ) : SW G (d + 3) M_J0_charAt_5068e 0 [some (.ref q), some (.int (nI k))] [] σ (RI f) := by
  obtain ⟨g, g1, g2⟩ := hq.2.2.2
  obtain ⟨c, c1, c2⟩ := hw k hk
  refine sw_aloadn dJ0_charAt_5068e_0 rfl ?_
  refine sx_invS0 dJ0_charAt_5068e_1 mk_J0_isLatin1_aae02 im_J0_isLatin1_aae02 se_J0_isLatin1_aae02 (by decide +kernel) lk_J0_492 hq.1 (Nat.le_of_ble_eq_true rfl) (Nat.le_of_ble_eq_true rfl) ?_
  refine c_isLatin1 hG hq ?_
  refine sw_if_eq (tgt := 16) dJ0_charAt_5068e_4 (by decide) (fun z => absurd z (by decide)) (fun _ => ?_)
  refine sw_aloadn dJ0_charAt_5068e_7 rfl ?_
  refine sw_getf (v := .ref b) hq.2.2.1 fl_J0_9 dJ0_charAt_5068e_8 ?_
  refine sw_iloadn dJ0_charAt_5068e_11 rfl ?_
  refine sx_insI2 dJ0_charAt_5068e_12 mk_J1_charAt_3b067 sk_J1_charAt_3b067 lk_J0_495 (Nat.le_of_ble_eq_true rfl) (by decide) ?_
  refine sw_iloadn dJ1_charAt_3b067_0 rfl ?_
  refine sw_aloadn dJ1_charAt_3b067_1 rfl ?_
  refine sw_tlen g2 dJ1_charAt_3b067_2 ?_
  refine sx_insV2 dJ1_charAt_3b067_3 mk_J0_checkIndex_df160 sk_J0_checkIndex_df160 lk_J1_9 (Nat.le_of_ble_eq_true rfl) (by decide) ?_
  refine c_checkIndex0 hG hk ?_
  refine sw_aloadn dJ1_charAt_3b067_6 rfl ?_
  refine sw_iloadn dJ1_charAt_3b067_7 rfl ?_
  refine sw_tb g2 hk (by omega) (g1 k hk) dJ1_charAt_3b067_8 ?_
  refine sw_sipush dJ1_charAt_3b067_9 ?_
  refine sw_iand dJ1_charAt_3b067_12 ?_
  refine sw_i2c dJ1_charAt_3b067_13 ?_
  refine sw_topI (y := w k) ?_ ?_
  · rw [c2]; exact (ch_all c c1).1
  refine sw_retn dJ1_charAt_3b067_14 rfl (by rw [c2]; exact (ch_all c c1).2) ?_
  exact sw_retn dJ0_charAt_5068e_15 rfl (by rw [c2]; exact (ch_all c c1).2) h
end STRC
