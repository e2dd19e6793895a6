theorem zq_hf {a : Int32} (h : ¬ s7_in a 1 3 = 0) : 1 ≤ a.toInt ∧ a.toInt ≤ 3 := by
  have h8 : (3 : Int32).toInt = 3 := by decide
  have h9 : (1 : Int32).toInt = 1 := by decide
  simp only [s7_in] at h
  by_cases c1 : a < 1
  · rw [if_pos c1] at h; exact absurd rfl h
  · rw [if_neg c1] at h
    by_cases c2 : 3 < a
    · rw [if_pos c2] at h; exact absurd rfl h
    · have d1 := cw_le2 c1
      have d2 := cw_le2 c2
      omega
theorem zq_hf1 {m : Nat → Int32} {a : Int32} (h : ¬ (s7_asks m (s7_in a 1 3)).1 = 0) : 1 ≤ a.toInt ∧ a.toInt ≤ 3 := zq_hf h
theorem zq_hf2 {m : Nat → Int32} {a b : Int32} (h : ¬ (s7_asks m (if s7_in a 0 6 = 0 then 0 else (if s7_in b 1 3 = 0 then 0 else 1))).1 = 0) : 1 ≤ b.toInt ∧ b.toInt ≤ 3 := by
  simp only [s7_asks] at h
  by_cases c : s7_in b 1 3 = 0
  · exfalso
    apply h
    rw [if_pos c]
    split <;> rfl
  · exact zq_hf c
theorem zq_ck {m : Nat → Int32} {a : Int32} (h : ¬ m 8 = 0) : ¬ (s7_asks m a).2 8 = 0 := by
  simp only [s7_asks]
  rw [cw_updn _ _ (by decide)]
  exact h

def s7_couldBe (mm : Nat → Int32) (nw : Nat → Int64) (nt : Nat → Int64) (a1 : Int32) (a2 : Int32) : Int32 × (Nat → Int32) × (Nat → Int64) × (Nat → Int64) := (let r2 : Int32 := (s7_in a1 0 6); (let w8 : Int32 := (if r2 = 0 then 0 else (if (s7_in a2 1 3) = 0 then 0 else 1)); (let v11 : Nat → Int32 := ((s7_asks mm w8).2); (let r10 : Int32 := ((s7_asks mm w8).1); (let w22 : Int32 := (if r10 = 0 then 0 else (if (s7_has ((s7_walks v11 nw nt a2).1) a1) = 0 then 0 else 1)); (let w23 : Nat → Int64 := (if r10 = 0 then nw else ((s7_walks v11 nw nt a2).2.2.1)); (let w24 : Nat → Int64 := (if r10 = 0 then nt else ((s7_walks v11 nw nt a2).2.2.2)); (let w25 : Nat → Int32 := (if r10 = 0 then v11 else ((s7_walks v11 nw nt a2).2.1)); (w22, w25, w23, w24)))))))))
theorem z7_couldBe (mm : Nat → Int32) (nw : Nat → Int64) (nt : Nat → Int64) (a1 : Int32) (a2 : Int32) : (s7_couldBe mm nw nt a1 a2).1 = 0 ∨ (s7_couldBe mm nw nt a1 a2).1 = 1 := by
  simp only [s7_couldBe]
  (repeat' split) <;> (try dsimp only) <;> first | exact Or.inl rfl | exact Or.inr rfl | (simp; done) | exact z7_has _ _ | exact z7_in _ _ _

def s7_reasonsAhead (mm : Nat → Int32) (nw : Nat → Int64) (nt : Nat → Int64) (a1 : Int32) : Int32 × (Nat → Int32) × (Nat → Int64) × (Nat → Int64) := (let r2 : Int32 := (s7_in a1 1 3); (let v5 : Nat → Int32 := ((s7_asks mm r2).2); (let r4 : Int32 := ((s7_asks mm r2).1); (if r4 = 0 then (0, v5, nw, nt) else (let v9 : Nat → Int32 := ((s7_walks v5 nw nt a1).2.1); (let v10 : Nat → Int64 := ((s7_walks v5 nw nt a1).2.2.1); (let v11 : Nat → Int64 := ((s7_walks v5 nw nt a1).2.2.2); (let r8 : Int32 := ((s7_walks v5 nw nt a1).1); ((v9 33), v9, v10, v11)))))))))


set_option maxHeartbeats 4000000 in
set_option maxRecDepth 100000 in
theorem k7_couldBe (l : Launch) (D : va_G) (cI cJ : ClassId) (xm jw jt : Nat) (xm_25 xm_26 xm_27 xm_29 : Value) (mm : Nat → Int32) (nw : Nat → Int64) (nt : Nat → Int64) (a1 : Int32) (a2 : Int32) (hck : ¬ mm 8 = 0) : cw_Mi l yX7_couldBe wsX7_couldBe (cw_rm 7) D [(cI, .int), (cJ, .long)] [.ref xm, .int a1, .int a2] [(xm, c7 xm_25 xm_26 xm_27 xm_29 (.ref jw) (.ref jt) mm), (jw, .inl (cJ, 512, .inr (.inl nw))), (jt, .inl (cJ, 512, .inr (.inl nt)))] 0 0 (fun r (_ : Unit) => r = (s7_couldBe mm nw nt a1 a2).1) (fun _ : Unit => [(xm, c7 xm_25 xm_26 xm_27 xm_29 (.ref jw) (.ref jt) (s7_couldBe mm nw nt a1 a2).2.1), (jw, .inl (cJ, 512, .inr (.inl (s7_couldBe mm nw nt a1 a2).2.2.1))), (jt, .inl (cJ, 512, .inr (.inl (s7_couldBe mm nw nt a1 a2).2.2.2)))]) := by
  refine cw_ofi (cc := cX7_couldBe) (maxL := 3) (ret := (some .boolean)) (by decide) rfl (Nat.le_of_ble_eq_true rfl) rfl ?_
  intro p e s m args below meth c A ls Q hin0 hret
  obtain ⟨hx, hb, hr, hml, hts, hown, hlocks, hin, hP, hK, hD, hN, hA, hl⟩ := hin0
  have hS : va_S A s.heap s.heap [] := va_S.rf
  have hl : lv_has ls 3 [(0, .ref xm), (1, .int a1), (2, .int a2)] := hl
  refine lv_aload_n hx hb dX7_couldBe_0 rfl (lv_at hl 0 rfl) ?_
  refine lv_iload_n hx hb dX7_couldBe_1 rfl (lv_at hl 1 rfl) ?_
  refine lv_iconst (v := 0) hx hb dX7_couldBe_2 (by decide) ?_
  refine lv_bipush (v := 6) hx hb dX7_couldBe_3 (by decide) ?_
  refine cw_cSi (As := [.int a1, .int 0, .int 6]) (rest := [.ref xm]) (wc := []) (wr := [(xm, c7 xm_25 xm_26 xm_27 xm_29 (.ref jw) (.ref jt) mm), (jw, .inl (cJ, 512, .inr (.inl nw))), (jt, .inl (cJ, 512, .inr (.inl nt)))]) ⟨hx, hb, hml, hown, hts⟩ (k7_in l D cI cJ a1 0 6) (va_cwS 3 hts gX7_couldBe_X7_in rfl rfl rfl (by decide +kernel) ⟨Nat.le_of_ble_eq_true rfl, Nat.le_of_ble_eq_true rfl⟩) hK hN hP hD hS hA [] [0, 1, 2] rfl rfl (by decide) (by decide) (by decide) rfl hl.1 rfl (Nat.le_of_ble_eq_true rfl) dX7_couldBe_5 ⟨Nat.le_of_ble_eq_true rfl, Nat.le_of_ble_eq_true rfl⟩ (fun r2 u1 H locs hw hP hD hS => ?_)
  have hr2 : r2 = (s7_in a1 0 6) := hw
  have hP : va_P D vwCl [(xm, c7 xm_25 xm_26 xm_27 xm_29 (.ref jw) (.ref jt) mm), (jw, .inl (cJ, 512, .inr (.inl nw))), (jt, .inl (cJ, 512, .inr (.inl nt)))] H := hP
  have hD : va_D A [(xm, c7 xm_25 xm_26 xm_27 xm_29 (.ref jw) (.ref jt) mm), (jw, .inl (cJ, 512, .inr (.inl nw))), (jt, .inl (cJ, 512, .inr (.inl nt)))] := hD
  have J7 : ∀ (w8 : Int32), w8 = (if r2 = 0 then 0 else (if (s7_in a2 1 3) = 0 then 0 else 1)) → ∀ (H : Heap) (locs : List Loc), va_P D vwCl [(xm, c7 xm_25 xm_26 xm_27 xm_29 (.ref jw) (.ref jt) mm), (jw, .inl (cJ, 512, .inr (.inl nw))), (jt, .inl (cJ, 512, .inr (.inl nt)))] H → va_D A [(xm, c7 xm_25 xm_26 xm_27 xm_29 (.ref jw) (.ref jt) mm), (jw, .inl (cJ, 512, .inr (.inl nw))), (jt, .inl (cJ, 512, .inr (.inl nt)))] → va_S A s.heap H locs → W p l e (cw_rm 7) s m args below meth c H locs 0 0 (Q) (F0 m 25 ls [.int w8, .ref xm]) := by
    intro w8 hw8 H locs hP hD hS
    refine cw_cVi (As := [.int w8]) (rest := []) (wc := [(xm, c7 xm_25 xm_26 xm_27 xm_29 (.ref jw) (.ref jt) mm)]) (wr := [(jw, .inl (cJ, 512, .inr (.inl nw))), (jt, .inl (cJ, 512, .inr (.inl nt)))]) ⟨hx, hb, hml, hown, hts⟩ (k7_asks l D cI cJ xm xm_25 xm_26 xm_27 xm_29 (.ref jw) (.ref jt) mm w8 (by (try simp only [hr2, hw8]); (repeat' split) <;> first | exact Or.inl rfl | exact Or.inr rfl | assumption | exact z7_in _ _ _)) (cwV 1 hts gX7_couldBe_X7_asks rfl rfl rfl (by decide +kernel) ⟨Nat.le_of_ble_eq_true rfl, Nat.le_of_ble_eq_true rfl⟩) hK hN hP hD hS hA [0] [1, 2] rfl rfl (by decide) (by decide) (by decide) 0 (ci := 7) rfl rfl rfl rfl hl.1 rfl (Nat.le_of_ble_eq_true rfl) dX7_couldBe_25 ⟨Nat.le_of_ble_eq_true rfl, Nat.le_of_ble_eq_true rfl⟩ (fun r10 u9 H locs hw hP hD hS => ?_)
    have hr10 : r10 = ((s7_asks mm w8).1) := hw
    obtain ⟨v11, hv11⟩ : ∃ z : Nat → Int32, z = ((s7_asks mm w8).2) := ⟨_, rfl⟩
    have hP : va_P D vwCl [(jw, .inl (cJ, 512, .inr (.inl nw))), (jt, .inl (cJ, 512, .inr (.inl nt))), (xm, c7 xm_25 xm_26 xm_27 xm_29 (.ref jw) (.ref jt) v11)] H := by rw [hv11]; exact hP
    have hD : va_D A [(jw, .inl (cJ, 512, .inr (.inl nw))), (jt, .inl (cJ, 512, .inr (.inl nt))), (xm, c7 xm_25 xm_26 xm_27 xm_29 (.ref jw) (.ref jt) v11)] := by rw [hv11]; exact hD
    have J21 : ∀ (w22 : Int32), w22 = (if r10 = 0 then 0 else (if (s7_has ((s7_walks v11 nw nt a2).1) a1) = 0 then 0 else 1)) → ∀ (w23 : Nat → Int64), w23 = (if r10 = 0 then nw else ((s7_walks v11 nw nt a2).2.2.1)) → ∀ (w24 : Nat → Int64), w24 = (if r10 = 0 then nt else ((s7_walks v11 nw nt a2).2.2.2)) → ∀ (w25 : Nat → Int32), w25 = (if r10 = 0 then v11 else ((s7_walks v11 nw nt a2).2.1)) → ∀ (H : Heap) (locs : List Loc), va_P D vwCl [(jw, .inl (cJ, 512, .inr (.inl w23))), (jt, .inl (cJ, 512, .inr (.inl w24))), (xm, c7 xm_25 xm_26 xm_27 xm_29 (.ref jw) (.ref jt) w25)] H → va_D A [(jw, .inl (cJ, 512, .inr (.inl w23))), (jt, .inl (cJ, 512, .inr (.inl w24))), (xm, c7 xm_25 xm_26 xm_27 xm_29 (.ref jw) (.ref jt) w25)] → va_S A s.heap H locs → W p l e (cw_rm 7) s m args below meth c H locs 0 0 (Q) (F0 m 48 ls [.int w22]) := by
      intro w22 hw22 w23 hw23 w24 hw24 w25 hw25 H locs hP hD hS
      have hsp : (s7_couldBe mm nw nt a1 a2) = ((w22, w25, w23, w24) : Int32 × (Nat → Int32) × (Nat → Int64) × (Nat → Int64)) := by simp only [s7_couldBe, ← hr2, ← hw8, ← hv11, ← hr10, ← hw22, ← hw23, ← hw24, ← hw25]
      exact hret _ _ _ _ _ _ _ _ (hP.sub (ws' := [(xm, c7 xm_25 xm_26 xm_27 xm_29 (.ref jw) (.ref jt) w25), (jw, .inl (cJ, 512, .inr (.inl w23))), (jt, .inl (cJ, 512, .inr (.inl w24)))]) [2, 0, 1] rfl) (hD.sub (ws' := [(xm, c7 xm_25 xm_26 xm_27 xm_29 (.ref jw) (.ref jt) w25), (jw, .inl (cJ, 512, .inr (.inl w23))), (jt, .inl (cJ, 512, .inr (.inl w24)))]) [2, 0, 1] (by decide) rfl) hS dX7_couldBe_48 (cw_b01 (by (try simp only [hr2, hw8, hv11, hr10, hw22]); (repeat' split) <;> first | exact Or.inl rfl | exact Or.inr rfl | assumption | exact z7_has _ _ | exact z7_in _ _ _)) ⟨(), (by rw [hsp]), (by rw [hsp])⟩ (Nat.le_of_ble_eq_true rfl) (Nat.le_of_ble_eq_true rfl)
    refine lv_if_eq (tgt := 47) hx hb dX7_couldBe_28 (by decide) (fun z12 => ?_) (fun z12 => ?_)
    · refine lv_iconst (v := 0) hx hb dX7_couldBe_47 (by decide) ?_
      exact J21 0 (by simp only [if_pos z12]) nw (by simp only [if_pos z12]) nt (by simp only [if_pos z12]) v11 (by simp only [if_pos z12]) _ _ hP hD hS
    · refine lv_aload_n hx hb dX7_couldBe_31 rfl (lv_at hl 0 rfl) ?_
      refine lv_iload_n hx hb dX7_couldBe_32 rfl (lv_at hl 2 rfl) ?_
      refine cw_cVi (As := [.int a2]) (rest := []) (wc := [(xm, c7 xm_25 xm_26 xm_27 xm_29 (.ref jw) (.ref jt) v11), (jw, .inl (cJ, 512, .inr (.inl nw))), (jt, .inl (cJ, 512, .inr (.inl nt)))]) (wr := []) ⟨hx, hb, hml, hown, hts⟩ (k7_walks l D cI cJ xm jw jt xm_25 xm_26 xm_27 xm_29 v11 nw nt a2 (by subst_vars; exact zq_ck hck) (zq_hf2 (m := mm) (a := a1) (by subst_vars; assumption))) (cwV 1 hts gX7_couldBe_X7_walks rfl rfl rfl (by decide +kernel) ⟨Nat.le_of_ble_eq_true rfl, Nat.le_of_ble_eq_true rfl⟩) hK hN hP hD hS hA [2, 0, 1] [] rfl rfl (by decide) (by decide) (by decide) 0 (ci := 7) rfl rfl rfl rfl hl.1 rfl (Nat.le_of_ble_eq_true rfl) dX7_couldBe_33 ⟨Nat.le_of_ble_eq_true rfl, Nat.le_of_ble_eq_true rfl⟩ (fun r14 u13 H locs hw hP hD hS => ?_)
      have hr14 : r14 = ((s7_walks v11 nw nt a2).1) := hw
      obtain ⟨v15, hv15⟩ : ∃ z : Nat → Int32, z = ((s7_walks v11 nw nt a2).2.1) := ⟨_, rfl⟩
      obtain ⟨v16, hv16⟩ : ∃ z : Nat → Int64, z = ((s7_walks v11 nw nt a2).2.2.1) := ⟨_, rfl⟩
      obtain ⟨v17, hv17⟩ : ∃ z : Nat → Int64, z = ((s7_walks v11 nw nt a2).2.2.2) := ⟨_, rfl⟩
      have hP : va_P D vwCl [(xm, c7 xm_25 xm_26 xm_27 xm_29 (.ref jw) (.ref jt) v15), (jw, .inl (cJ, 512, .inr (.inl v16))), (jt, .inl (cJ, 512, .inr (.inl v17)))] H := by rw [hv15, hv16, hv17]; exact hP
      have hD : va_D A [(xm, c7 xm_25 xm_26 xm_27 xm_29 (.ref jw) (.ref jt) v15), (jw, .inl (cJ, 512, .inr (.inl v16))), (jt, .inl (cJ, 512, .inr (.inl v17)))] := by rw [hv15, hv16, hv17]; exact hD
      refine lv_iload_n hx hb dX7_couldBe_36 rfl (lv_at hl 1 rfl) ?_
      refine cw_cSi (As := [.int r14, .int a1]) (rest := []) (wc := []) (wr := [(xm, c7 xm_25 xm_26 xm_27 xm_29 (.ref jw) (.ref jt) v15), (jw, .inl (cJ, 512, .inr (.inl v16))), (jt, .inl (cJ, 512, .inr (.inl v17)))]) ⟨hx, hb, hml, hown, hts⟩ (k7_has l D cI cJ r14 a1) (va_cwS 2 hts gX7_couldBe_X7_has rfl rfl rfl (by decide +kernel) ⟨Nat.le_of_ble_eq_true rfl, Nat.le_of_ble_eq_true rfl⟩) hK hN hP hD hS hA [] [0, 1, 2] rfl rfl (by decide) (by decide) (by decide) rfl hl.1 rfl (Nat.le_of_ble_eq_true rfl) dX7_couldBe_37 ⟨Nat.le_of_ble_eq_true rfl, Nat.le_of_ble_eq_true rfl⟩ (fun r19 u18 H locs hw hP hD hS => ?_)
      have hr19 : r19 = (s7_has r14 a1) := hw
      have hP : va_P D vwCl [(xm, c7 xm_25 xm_26 xm_27 xm_29 (.ref jw) (.ref jt) v15), (jw, .inl (cJ, 512, .inr (.inl v16))), (jt, .inl (cJ, 512, .inr (.inl v17)))] H := hP
      have hD : va_D A [(xm, c7 xm_25 xm_26 xm_27 xm_29 (.ref jw) (.ref jt) v15), (jw, .inl (cJ, 512, .inr (.inl v16))), (jt, .inl (cJ, 512, .inr (.inl v17)))] := hD
      refine lv_if_eq (tgt := 47) hx hb dX7_couldBe_40 (by decide) (fun z20 => ?_) (fun z20 => ?_)
      · refine lv_iconst (v := 0) hx hb dX7_couldBe_47 (by decide) ?_
        exact J21 0 (by simp only [← hv15, ← hv16, ← hv17, ← hr14, ← hr19, if_neg z12, if_pos z20]) v16 (by simp only [← hv15, ← hv16, ← hv17, ← hr14, ← hr19, if_neg z12, if_pos z20]) v17 (by simp only [← hv15, ← hv16, ← hv17, ← hr14, ← hr19, if_neg z12, if_pos z20]) v15 (by simp only [← hv15, ← hv16, ← hv17, ← hr14, ← hr19, if_neg z12, if_pos z20]) _ _ (hP.sub [1, 2, 0] rfl) (hD.sub [1, 2, 0] (by decide) rfl) hS
      · refine lv_iconst (v := 1) hx hb dX7_couldBe_43 (by decide) ?_
        refine lv_goto (tgt := 48) hx hb dX7_couldBe_44 (by decide) ?_
        exact J21 1 (by simp only [← hv15, ← hv16, ← hv17, ← hr14, ← hr19, if_neg z12, if_neg z20]) v16 (by simp only [← hv15, ← hv16, ← hv17, ← hr14, ← hr19, if_neg z12, if_neg z20]) v17 (by simp only [← hv15, ← hv16, ← hv17, ← hr14, ← hr19, if_neg z12, if_neg z20]) v15 (by simp only [← hv15, ← hv16, ← hv17, ← hr14, ← hr19, if_neg z12, if_neg z20]) _ _ (hP.sub [1, 2, 0] rfl) (hD.sub [1, 2, 0] (by decide) rfl) hS
  refine lv_if_eq (tgt := 24) hx hb dX7_couldBe_8 (by decide) (fun z3 => ?_) (fun z3 => ?_)
  · refine lv_iconst (v := 0) hx hb dX7_couldBe_24 (by decide) ?_
    exact J7 0 (by simp only [if_pos z3]) _ _ hP hD hS
  · refine lv_iload_n hx hb dX7_couldBe_11 rfl (lv_at hl 2 rfl) ?_
    refine lv_iconst (v := 1) hx hb dX7_couldBe_12 (by decide) ?_
    refine lv_iconst (v := 3) hx hb dX7_couldBe_13 (by decide) ?_
    refine cw_cSi (As := [.int a2, .int 1, .int 3]) (rest := [.ref xm]) (wc := []) (wr := [(xm, c7 xm_25 xm_26 xm_27 xm_29 (.ref jw) (.ref jt) mm), (jw, .inl (cJ, 512, .inr (.inl nw))), (jt, .inl (cJ, 512, .inr (.inl nt)))]) ⟨hx, hb, hml, hown, hts⟩ (k7_in l D cI cJ a2 1 3) (va_cwS 3 hts gX7_couldBe_X7_in rfl rfl rfl (by decide +kernel) ⟨Nat.le_of_ble_eq_true rfl, Nat.le_of_ble_eq_true rfl⟩) hK hN hP hD hS hA [] [0, 1, 2] rfl rfl (by decide) (by decide) (by decide) rfl hl.1 rfl (Nat.le_of_ble_eq_true rfl) dX7_couldBe_14 ⟨Nat.le_of_ble_eq_true rfl, Nat.le_of_ble_eq_true rfl⟩ (fun r5 u4 H locs hw hP hD hS => ?_)
    have hr5 : r5 = (s7_in a2 1 3) := hw
    have hP : va_P D vwCl [(xm, c7 xm_25 xm_26 xm_27 xm_29 (.ref jw) (.ref jt) mm), (jw, .inl (cJ, 512, .inr (.inl nw))), (jt, .inl (cJ, 512, .inr (.inl nt)))] H := hP
    have hD : va_D A [(xm, c7 xm_25 xm_26 xm_27 xm_29 (.ref jw) (.ref jt) mm), (jw, .inl (cJ, 512, .inr (.inl nw))), (jt, .inl (cJ, 512, .inr (.inl nt)))] := hD
    refine lv_if_eq (tgt := 24) hx hb dX7_couldBe_17 (by decide) (fun z6 => ?_) (fun z6 => ?_)
    · refine lv_iconst (v := 0) hx hb dX7_couldBe_24 (by decide) ?_
      exact J7 0 (by simp only [← hr5, if_neg z3, if_pos z6]) _ _ hP hD hS
    · refine lv_iconst (v := 1) hx hb dX7_couldBe_20 (by decide) ?_
      refine lv_goto (tgt := 25) hx hb dX7_couldBe_21 (by decide) ?_
      exact J7 1 (by simp only [← hr5, if_neg z3, if_neg z6]) _ _ hP hD hS

set_option maxHeartbeats 4000000 in
set_option maxRecDepth 100000 in
theorem k7_reasonsAhead (l : Launch) (D : va_G) (cI cJ : ClassId) (xm jw jt : Nat) (xm_25 xm_26 xm_27 xm_29 : Value) (mm : Nat → Int32) (nw : Nat → Int64) (nt : Nat → Int64) (a1 : Int32) (hck : ¬ mm 8 = 0) : cw_Mi l yX7_reasonsAhead wsX7_reasonsAhead (cw_rm 7) D [(cI, .int), (cJ, .long)] [.ref xm, .int a1] [(xm, c7 xm_25 xm_26 xm_27 xm_29 (.ref jw) (.ref jt) mm), (jw, .inl (cJ, 512, .inr (.inl nw))), (jt, .inl (cJ, 512, .inr (.inl nt)))] 0 0 (fun r (_ : Unit) => r = (s7_reasonsAhead mm nw nt a1).1) (fun _ : Unit => [(xm, c7 xm_25 xm_26 xm_27 xm_29 (.ref jw) (.ref jt) (s7_reasonsAhead mm nw nt a1).2.1), (jw, .inl (cJ, 512, .inr (.inl (s7_reasonsAhead mm nw nt a1).2.2.1))), (jt, .inl (cJ, 512, .inr (.inl (s7_reasonsAhead mm nw nt a1).2.2.2)))]) := by
  refine cw_ofi (cc := cX7_reasonsAhead) (maxL := 2) (ret := (some .int)) (by decide) rfl (Nat.le_of_ble_eq_true rfl) rfl ?_
  intro p e s m args below meth c A ls Q hin0 hret
  obtain ⟨hx, hb, hr, hml, hts, hown, hlocks, hin, hP, hK, hD, hN, hA, hl⟩ := hin0
  have hS : va_S A s.heap s.heap [] := va_S.rf
  have hl : lv_has ls 2 [(0, .ref xm), (1, .int a1)] := hl
  have lf191 := hts (.fieldLink RX7 191 "BurnerlineModel" "reasons" "I") (by decide +kernel)
  have i7 : ∀ w ∈ wsX70, w ∈ wsX7_reasonsAhead := by decide +kernel
  refine lv_aload_n hx hb dX7_reasonsAhead_0 rfl (lv_at hl 0 rfl) ?_
  refine lv_iload_n hx hb dX7_reasonsAhead_1 rfl (lv_at hl 1 rfl) ?_
  refine lv_iconst (v := 1) hx hb dX7_reasonsAhead_2 (by decide) ?_
  refine lv_iconst (v := 3) hx hb dX7_reasonsAhead_3 (by decide) ?_
  refine cw_cSi (As := [.int a1, .int 1, .int 3]) (rest := [.ref xm]) (wc := []) (wr := [(xm, c7 xm_25 xm_26 xm_27 xm_29 (.ref jw) (.ref jt) mm), (jw, .inl (cJ, 512, .inr (.inl nw))), (jt, .inl (cJ, 512, .inr (.inl nt)))]) ⟨hx, hb, hml, hown, hts⟩ (k7_in l D cI cJ a1 1 3) (va_cwS 3 hts gX7_reasonsAhead_X7_in rfl rfl rfl (by decide +kernel) ⟨Nat.le_of_ble_eq_true rfl, Nat.le_of_ble_eq_true rfl⟩) hK hN hP hD hS hA [] [0, 1, 2] rfl rfl (by decide) (by decide) (by decide) rfl hl.1 rfl (Nat.le_of_ble_eq_true rfl) dX7_reasonsAhead_4 ⟨Nat.le_of_ble_eq_true rfl, Nat.le_of_ble_eq_true rfl⟩ (fun r2 u1 H locs hw hP hD hS => ?_)
  have hr2 : r2 = (s7_in a1 1 3) := hw
  have hP : va_P D vwCl [(xm, c7 xm_25 xm_26 xm_27 xm_29 (.ref jw) (.ref jt) mm), (jw, .inl (cJ, 512, .inr (.inl nw))), (jt, .inl (cJ, 512, .inr (.inl nt)))] H := hP
  have hD : va_D A [(xm, c7 xm_25 xm_26 xm_27 xm_29 (.ref jw) (.ref jt) mm), (jw, .inl (cJ, 512, .inr (.inl nw))), (jt, .inl (cJ, 512, .inr (.inl nt)))] := hD
  refine cw_cVi (As := [.int r2]) (rest := []) (wc := [(xm, c7 xm_25 xm_26 xm_27 xm_29 (.ref jw) (.ref jt) mm)]) (wr := [(jw, .inl (cJ, 512, .inr (.inl nw))), (jt, .inl (cJ, 512, .inr (.inl nt)))]) ⟨hx, hb, hml, hown, hts⟩ (k7_asks l D cI cJ xm xm_25 xm_26 xm_27 xm_29 (.ref jw) (.ref jt) mm r2 (by (try simp only [hr2]); (repeat' split) <;> first | exact Or.inl rfl | exact Or.inr rfl | assumption | exact z7_in _ _ _)) (cwV 1 hts gX7_reasonsAhead_X7_asks rfl rfl rfl (by decide +kernel) ⟨Nat.le_of_ble_eq_true rfl, Nat.le_of_ble_eq_true rfl⟩) hK hN hP hD hS hA [0] [1, 2] rfl rfl (by decide) (by decide) (by decide) 0 (ci := 7) rfl rfl rfl rfl hl.1 rfl (Nat.le_of_ble_eq_true rfl) dX7_reasonsAhead_7 ⟨Nat.le_of_ble_eq_true rfl, Nat.le_of_ble_eq_true rfl⟩ (fun r4 u3 H locs hw hP hD hS => ?_)
  have hr4 : r4 = ((s7_asks mm r2).1) := hw
  obtain ⟨v5, hv5⟩ : ∃ z : Nat → Int32, z = ((s7_asks mm r2).2) := ⟨_, rfl⟩
  have hP : va_P D vwCl [(jw, .inl (cJ, 512, .inr (.inl nw))), (jt, .inl (cJ, 512, .inr (.inl nt))), (xm, c7 xm_25 xm_26 xm_27 xm_29 (.ref jw) (.ref jt) v5)] H := by rw [hv5]; exact hP
  have hD : va_D A [(jw, .inl (cJ, 512, .inr (.inl nw))), (jt, .inl (cJ, 512, .inr (.inl nt))), (xm, c7 xm_25 xm_26 xm_27 xm_29 (.ref jw) (.ref jt) v5)] := by rw [hv5]; exact hD
  refine lv_if_ne (tgt := 15) hx hb dX7_reasonsAhead_10 (by decide) (fun z6 => ?_) (fun z6 => ?_)
  · refine lv_aload_n hx hb dX7_reasonsAhead_15 rfl (lv_at hl 0 rfl) ?_
    refine lv_iload_n hx hb dX7_reasonsAhead_16 rfl (lv_at hl 1 rfl) ?_
    refine cw_cVi (As := [.int a1]) (rest := []) (wc := [(xm, c7 xm_25 xm_26 xm_27 xm_29 (.ref jw) (.ref jt) v5), (jw, .inl (cJ, 512, .inr (.inl nw))), (jt, .inl (cJ, 512, .inr (.inl nt)))]) (wr := []) ⟨hx, hb, hml, hown, hts⟩ (k7_walks l D cI cJ xm jw jt xm_25 xm_26 xm_27 xm_29 v5 nw nt a1 (by subst_vars; exact zq_ck hck) (zq_hf1 (m := mm) (by subst_vars; assumption))) (cwV 1 hts gX7_reasonsAhead_X7_walks rfl rfl rfl (by decide +kernel) ⟨Nat.le_of_ble_eq_true rfl, Nat.le_of_ble_eq_true rfl⟩) hK hN hP hD hS hA [2, 0, 1] [] rfl rfl (by decide) (by decide) (by decide) 0 (ci := 7) rfl rfl rfl rfl hl.1 rfl (Nat.le_of_ble_eq_true rfl) dX7_reasonsAhead_17 ⟨Nat.le_of_ble_eq_true rfl, Nat.le_of_ble_eq_true rfl⟩ (fun r8 u7 H locs hw hP hD hS => ?_)
    have hr8 : r8 = ((s7_walks v5 nw nt a1).1) := hw
    obtain ⟨v9, hv9⟩ : ∃ z : Nat → Int32, z = ((s7_walks v5 nw nt a1).2.1) := ⟨_, rfl⟩
    obtain ⟨v10, hv10⟩ : ∃ z : Nat → Int64, z = ((s7_walks v5 nw nt a1).2.2.1) := ⟨_, rfl⟩
    obtain ⟨v11, hv11⟩ : ∃ z : Nat → Int64, z = ((s7_walks v5 nw nt a1).2.2.2) := ⟨_, rfl⟩
    have hP : va_P D vwCl [(xm, c7 xm_25 xm_26 xm_27 xm_29 (.ref jw) (.ref jt) v9), (jw, .inl (cJ, 512, .inr (.inl v10))), (jt, .inl (cJ, 512, .inr (.inl v11)))] H := by rw [hv9, hv10, hv11]; exact hP
    have hD : va_D A [(xm, c7 xm_25 xm_26 xm_27 xm_29 (.ref jw) (.ref jt) v9), (jw, .inl (cJ, 512, .inr (.inl v10))), (jt, .inl (cJ, 512, .inr (.inl v11)))] := by rw [hv9, hv10, hv11]; exact hD
    refine lv_pop hx hb dX7_reasonsAhead_20 rfl ?_
    refine lv_aload_n hx hb dX7_reasonsAhead_21 rfl (lv_at hl 0 rfl) ?_
    refine va_get (D := D) (ci := 7) (v := .int (v9 33)) (C := RX7) (T := TX7) (N := 35) hx hb hts i7 hown hK hP 0 rfl rfl 33 (by decide) lf191 (fun _ h9 => h9) rfl dX7_reasonsAhead_22 ?_
    have hsp : (s7_reasonsAhead mm nw nt a1) = (((v9 33), v9, v10, v11) : Int32 × (Nat → Int32) × (Nat → Int64) × (Nat → Int64)) := by simp only [s7_reasonsAhead, ← hr2, ← hv5, ← hr4, ← hv9, ← hv10, ← hv11, ← hr8, if_neg z6]
    exact hret _ _ _ _ _ _ _ _ hP hD hS dX7_reasonsAhead_25 rfl ⟨(), (by rw [hsp]), (by rw [hsp])⟩ (Nat.le_of_ble_eq_true rfl) (Nat.le_of_ble_eq_true rfl)
  · refine lv_iconst (v := 0) hx hb dX7_reasonsAhead_13 (by decide) ?_
    have hsp : (s7_reasonsAhead mm nw nt a1) = ((0, v5, nw, nt) : Int32 × (Nat → Int32) × (Nat → Int64) × (Nat → Int64)) := by simp only [s7_reasonsAhead, ← hr2, ← hv5, ← hr4, if_pos z6]
    exact hret _ _ _ _ _ _ _ _ (hP.sub (ws' := [(xm, c7 xm_25 xm_26 xm_27 xm_29 (.ref jw) (.ref jt) v5), (jw, .inl (cJ, 512, .inr (.inl nw))), (jt, .inl (cJ, 512, .inr (.inl nt)))]) [2, 0, 1] rfl) (hD.sub (ws' := [(xm, c7 xm_25 xm_26 xm_27 xm_29 (.ref jw) (.ref jt) v5), (jw, .inl (cJ, 512, .inr (.inl nw))), (jt, .inl (cJ, 512, .inr (.inl nt)))]) [2, 0, 1] (by decide) rfl) hS dX7_reasonsAhead_14 rfl ⟨(), (by rw [hsp]), (by rw [hsp])⟩ (Nat.le_of_ble_eq_true rfl) (Nat.le_of_ble_eq_true rfl)
