def s7_thrown (mm : Nat → Int32) : Int32 := (mm 34)

def s7_asks (mm : Nat → Int32) (a1 : Int32) : Int32 × (Nat → Int32) := (let w3 : Int32 := (if a1 = 0 then 1 else 0); (a1, (upd mm 34 w3)))

def s7_in (a1 : Int32) (a2 : Int32) (a3 : Int32) : Int32 := (let w4 : Int32 := (if a1 < a2 then 0 else (if a3 < a1 then 0 else 1)); w4)
theorem z7_in (a1 : Int32) (a2 : Int32) (a3 : Int32) : (s7_in a1 a2 a3) = 0 ∨ (s7_in a1 a2 a3) = 1 := by
  simp only [s7_in]
  (repeat' split) <;> (try dsimp only) <;> first | exact Or.inl rfl | exact Or.inr rfl | (simp; done)

def s7_has (a1 : Int32) (a2 : Int32) : Int32 := (let w3 : Int32 := (if ((a1 >>> (a2 &&& 31)) &&& 1) = 1 then 1 else 0); w3)
theorem z7_has (a1 : Int32) (a2 : Int32) : (s7_has a1 a2) = 0 ∨ (s7_has a1 a2) = 1 := by
  simp only [s7_has]
  (repeat' split) <;> (try dsimp only) <;> first | exact Or.inl rfl | exact Or.inr rfl | (simp; done)

def s7_nears (a1 : Int32) (a2 : Int32) (a3 : Int32) : Int32 := (let w9 : Int32 := (if a2 ≤ a1 then (a1 - (if a3 ≤ (a1 - a2) then a3 else (a1 - a2))) else (a1 + (if a3 ≤ (a2 - a1) then a3 else (a2 - a1)))); w9)

def s7_signal (mm : Nat → Int32) (a1 : Int32) (a2 : Int32) : Int32 × (Nat → Int32) := (let r2 : Int32 := (s7_in a1 0 5); (let v5 : Nat → Int32 := ((s7_asks mm r2).2); (let r4 : Int32 := ((s7_asks mm r2).1); (if r4 = 0 then (0, v5) else (let w9 : Int32 := (if (((v5 0) >>> (a1 &&& 31)) &&& 1) = 1 then 1 else 0); (let w13 : Int32 := (if a2 = w9 then 0 else (if a2 = 0 then (-((1 : Int32) <<< (a1 &&& 31))) else ((1 : Int32) <<< (a1 &&& 31)))); (w9, (upd v5 0 ((v5 0) + w13)))))))))
theorem z7_signal (mm : Nat → Int32) (a1 : Int32) (a2 : Int32) : (s7_signal mm a1 a2).1 = 0 ∨ (s7_signal mm a1 a2).1 = 1 := by
  simp only [s7_signal]
  (repeat' split) <;> (try dsimp only) <;> first | exact Or.inl rfl | exact Or.inr rfl | (simp; done) | exact z7_in _ _ _

def s7_setRate (mm : Nat → Int32) (a1 : Int32) : Int32 × (Nat → Int32) := (let r2 : Int32 := (s7_in a1 20 100); (let v5 : Nat → Int32 := ((s7_asks mm r2).2); (let r4 : Int32 := ((s7_asks mm r2).1); (if r4 = 0 then (0, v5) else ((v5 1), (upd v5 1 a1))))))

def s7_asksSetting (mm : Nat → Int32) (a1 : Int32) : Int32 × (Nat → Int32) := (let w4 : Int32 := (if a1 = 0 then 1 else (if (mm 12) = 0 then 0 else 2)); (let w7 : Int32 := (if w4 = 0 then 1 else 0); (w7, (upd mm 34 w4))))
theorem z7_asksSetting (mm : Nat → Int32) (a1 : Int32) : (s7_asksSetting mm a1).1 = 0 ∨ (s7_asksSetting mm a1).1 = 1 := by
  simp only [s7_asksSetting]
  (repeat' split) <;> (try dsimp only) <;> first | exact Or.inl rfl | exact Or.inr rfl | (simp; done)

def s7_setTimes (mm : Nat → Int32) (a1 : Int32) (a2 : Int32) (a3 : Int32) (a4 : Int32) : (Nat → Int32) := (let r2 : Int32 := (s7_in a1 1 200); (let w14 : Int32 := (if r2 = 0 then 0 else (if (s7_in a2 1 30) = 0 then 0 else (if (s7_in a3 1 30) = 0 then 0 else (if (s7_in a4 1 60) = 0 then 0 else 1)))); (let v17 : Nat → Int32 := ((s7_asksSetting mm w14).2); (let r16 : Int32 := ((s7_asksSetting mm w14).1); (let w20 : Nat → Int32 := (if r16 = 0 then v17 else (upd (upd (upd (upd v17 2 a1) 3 a2) 4 a3) 5 a4)); w20)))))

def s7_setEyes (mm : Nat → Int32) (a1 : Int32) (a2 : Int32) (a3 : Int32) : (Nat → Int32) := (let r2 : Int32 := (s7_in a1 1 5); (let w11 : Int32 := (if r2 = 0 then 0 else (if (s7_in a2 1 5) = 0 then 0 else (if (s7_in a3 5 100) = 0 then 0 else 1))); (let v14 : Nat → Int32 := ((s7_asksSetting mm w11).2); (let r13 : Int32 := ((s7_asksSetting mm w11).1); (let w17 : Nat → Int32 := (if r13 = 0 then v14 else (upd (upd (upd v14 6 a1) 7 a2) 8 a3)); w17)))))

def s7_setFurnace (mm : Nat → Int32) (a1 : Int32) (a2 : Int32) (a3 : Int32) : (Nat → Int32) := (let r2 : Int32 := (s7_in a1 1 500); (let w11 : Int32 := (if r2 = 0 then 0 else (if (s7_in a2 1 50) = 0 then 0 else (if (s7_in a3 1 50) = 0 then 0 else 1))); (let v14 : Nat → Int32 := ((s7_asksSetting mm w11).2); (let r13 : Int32 := ((s7_asksSetting mm w11).1); (let w17 : Nat → Int32 := (if r13 = 0 then v14 else (upd (upd (upd v14 9 a1) 10 a2) 11 a3)); w17)))))

def s7_looks (mm : Nat → Int32) (a1 : Int32) (a2 : Int32) (a3 : Int32) : Int32 × (Nat → Int32) := (let r2 : Int32 := (s7_has a1 (3 + a2)); (let r4 : Int32 := (s7_has (mm 18) a2); (if r2 = r4 then (0, mm) else (let w8 : Int32 := (if r2 = 0 then (mm 7) else (mm 6)); (if w8 ≤ (a3 + 1) then (let w12 : Int32 := (if r2 = 0 then (-((1 : Int32) <<< (a2 &&& 31))) else ((1 : Int32) <<< (a2 &&& 31))); (0, (upd mm 18 ((mm 18) + w12)))) else ((a3 + 1), mm))))))

def s7_goes (mm : Nat → Int32) : (Nat → Int32) := (let w8 : Int32 := (if (mm 12) = 0 then 0 else (if (mm 12) = 1 then 100 else (if (mm 12) = 2 then 30 else (if (mm 12) = 3 then 30 else (if (mm 12) = 4 then (if (mm 1) ≤ (mm 16) then (mm 16) else (mm 1)) else 60))))); (let w13 : Int32 := (if (mm 12) = 3 then 20 else (if (mm 12) = 4 then (if (mm 15) ≤ (mm 1) then (mm 15) else (mm 1)) else 0)); (let r15 : Int32 := (s7_nears (mm 15) w8 (mm 10)); (let w19 : Int32 := (if (mm 12) = 3 then (mm 11) else (if (mm 12) = 4 then (mm 11) else 100)); (let r21 : Int32 := (s7_nears (mm 16) w13 w19); (upd (upd mm 15 r15) 16 r21))))))

def s7_begins (mm : Nat → Int32) (a1 : Int32) (a2 : Int32) : (Nat → Int32) := (let w4 : Int32 := (if a1 = 3 then (mm 16) else (if a1 = 4 then (mm 16) else 0)); (upd (upd (upd (upd (upd mm 12 a1) 13 a2) 14 0) 17 0) 16 w4))

def s7_lacks (mm : Nat → Int32) (a1 : Int32) : Int32 × (Nat → Int32) := (let r2 : Int32 := (s7_has a1 1); (if r2 = 0 then (let v12 : Nat → Int32 := (s7_begins mm 6 1); (1, v12)) else (let r5 : Int32 := (s7_has a1 2); (if r5 = 0 then (let v9 : Nat → Int32 := (s7_begins mm 6 2); (1, v9)) else (0, mm)))))
theorem z7_lacks (mm : Nat → Int32) (a1 : Int32) : (s7_lacks mm a1).1 = 0 ∨ (s7_lacks mm a1).1 = 1 := by
  simp only [s7_lacks]
  (repeat' split) <;> (try dsimp only) <;> first | exact Or.inl rfl | exact Or.inr rfl | (simp; done) | exact z7_has _ _

set_option maxHeartbeats 4000000 in
set_option maxRecDepth 100000 in
theorem k7_thrown (l : Launch) (D : va_G) (cI cJ : ClassId) (xm : Nat) (xm_25 xm_26 xm_27 xm_29 xm_30 xm_31 : Value) (mm : Nat → Int32) : cw_Mi l yX7_thrown wsX7_thrown (cw_rm 0) D [(cI, .int), (cJ, .long)] [.ref xm] [(xm, c7 xm_25 xm_26 xm_27 xm_29 xm_30 xm_31 mm)] 0 0 (fun r (_ : Unit) => r = (s7_thrown mm)) (fun _ : Unit => [(xm, c7 xm_25 xm_26 xm_27 xm_29 xm_30 xm_31 mm)]) := by
  refine cw_ofi (cc := cX7_thrown) (maxL := 1) (ret := (some .int)) (by decide) rfl (Nat.le_of_ble_eq_true rfl) rfl ?_
  intro p e s m args below meth c A ls Q hin0 hret
  obtain ⟨hx, hb, hr, hml, hts, hown, hlocks, hin, hP, hK, hD, hN, hA, hl⟩ := hin0
  have hS : va_S A s.heap s.heap [] := va_S.rf
  have hl : lv_has ls 1 [(0, .ref xm)] := hl
  have lf63 := hts (.fieldLink RX7 63 "BurnerlineModel" "thrown" "I") (by decide +kernel)
  have i7 : ∀ w ∈ wsX70, w ∈ wsX7_thrown := by decide +kernel
  refine lv_aload_n hx hb dX7_thrown_0 rfl (lv_at hl 0 rfl) ?_
  refine va_get (D := D) (ci := 7) (v := .int (mm 34)) (C := RX7) (T := TX7) (N := 35) hx hb hts i7 hown hK hP 0 rfl rfl 34 (by decide) lf63 (fun _ h9 => h9) rfl dX7_thrown_1 ?_
  have hsp : (s7_thrown mm) = ((mm 34) : Int32) := rfl
  exact hret _ _ _ _ _ _ _ _ hP hD hS dX7_thrown_4 rfl ⟨(), (by rw [hsp]), rfl⟩ (Nat.le_of_ble_eq_true rfl) (Nat.le_of_ble_eq_true rfl)

set_option maxHeartbeats 4000000 in
set_option maxRecDepth 100000 in
theorem k7_asks (l : Launch) (D : va_G) (cI cJ : ClassId) (xm : Nat) (xm_25 xm_26 xm_27 xm_29 xm_30 xm_31 : Value) (mm : Nat → Int32) (a1 : Int32) (ha : a1 = 0 ∨ a1 = 1) : cw_Mi l yX7_asks wsX7_asks (cw_rm 0) D [(cI, .int), (cJ, .long)] [.ref xm, .int a1] [(xm, c7 xm_25 xm_26 xm_27 xm_29 xm_30 xm_31 mm)] 0 0 (fun r (_ : Unit) => r = (s7_asks mm a1).1) (fun _ : Unit => [(xm, c7 xm_25 xm_26 xm_27 xm_29 xm_30 xm_31 (s7_asks mm a1).2)]) := by
  refine cw_ofi (cc := cX7_asks) (maxL := 2) (ret := (some .boolean)) (by decide) rfl (Nat.le_of_ble_eq_true rfl) rfl ?_
  intro p e s m args below meth c A ls Q hin0 hret
  obtain ⟨hx, hb, hr, hml, hts, hown, hlocks, hin, hP, hK, hD, hN, hA, hl⟩ := hin0
  have hS : va_S A s.heap s.heap [] := va_S.rf
  have hl : lv_has ls 2 [(0, .ref xm), (1, .int a1)] := hl
  have lf63 := hts (.fieldLink RX7 63 "BurnerlineModel" "thrown" "I") (by decide +kernel)
  have i7 : ∀ w ∈ wsX70, w ∈ wsX7_asks := by decide +kernel
  refine lv_aload_n hx hb dX7_asks_0 rfl (lv_at hl 0 rfl) ?_
  refine lv_iload_n hx hb dX7_asks_1 rfl (lv_at hl 1 rfl) ?_
  have J2 : ∀ (w3 : Int32), w3 = (if a1 = 0 then 1 else 0) → W p l e (cw_rm 0) s m args below meth c s.heap [] 0 0 (Q) (F0 m 10 ls [.int w3, .ref xm]) := by
    intro w3 hw3
    refine va_put (D := D) (ci := 7) (v := .int w3) (ty := .int) (C := RX7) (T := TX7) (N := 35) hx hb hts i7 tyX7 tyX7_ok nmX7 hown hK hP hD hS 0 rfl rfl 34 (by decide) lf63 (fun _ h9 => h9) rfl (by decide +kernel) rfl rfl (Nat.le_of_ble_eq_true rfl) dX7_asks_10 (fun H locs hP hD hS => ?_)
    have hP : va_P D vwCl [(xm, c7 xm_25 xm_26 xm_27 xm_29 xm_30 xm_31 (upd mm 34 w3))] H := (congrArg (fun z9 => va_P D vwCl [(xm, .inr (7, z9))] H) (cs7_34 xm_25 xm_26 xm_27 xm_29 xm_30 xm_31 mm w3)).mp hP
    have hD : va_D A [(xm, c7 xm_25 xm_26 xm_27 xm_29 xm_30 xm_31 (upd mm 34 w3))] := (congrArg (fun z9 => va_D A [(xm, .inr (7, z9))]) (cs7_34 xm_25 xm_26 xm_27 xm_29 xm_30 xm_31 mm w3)).mp hD
    refine lv_iload_n hx hb dX7_asks_13 rfl (lv_at hl 1 rfl) ?_
    have hsp : (s7_asks mm a1) = ((a1, (upd mm 34 w3)) : Int32 × (Nat → Int32)) := by simp only [s7_asks, ← hw3]
    exact hret _ _ _ _ _ _ _ _ hP hD hS dX7_asks_14 (cw_b01 (by (repeat' split) <;> first | exact Or.inl rfl | exact Or.inr rfl | assumption)) ⟨(), (by rw [hsp]), (by rw [hsp])⟩ (Nat.le_of_ble_eq_true rfl) (Nat.le_of_ble_eq_true rfl)
  refine lv_if_eq (tgt := 9) hx hb dX7_asks_2 (by decide) (fun z1 => ?_) (fun z1 => ?_)
  · refine lv_iconst (v := 1) hx hb dX7_asks_9 (by decide) ?_
    exact J2 1 (by simp only [if_pos z1])
  · refine lv_iconst (v := 0) hx hb dX7_asks_5 (by decide) ?_
    refine lv_goto (tgt := 10) hx hb dX7_asks_6 (by decide) ?_
    exact J2 0 (by simp only [if_neg z1])

set_option maxHeartbeats 4000000 in
set_option maxRecDepth 100000 in
theorem k7_in (l : Launch) (D : va_G) (cI cJ : ClassId) (a1 : Int32) (a2 : Int32) (a3 : Int32) : cw_Mi l yX7_in wsX7_in (cw_rm 0) D [(cI, .int), (cJ, .long)] [.int a1, .int a2, .int a3] [] 0 0 (fun r (_ : Unit) => r = (s7_in a1 a2 a3)) (fun _ : Unit => []) := by
  refine cw_ofi (cc := cX7_in) (maxL := 3) (ret := (some .boolean)) (by decide) rfl (Nat.le_of_ble_eq_true rfl) rfl ?_
  intro p e s m args below meth c A ls Q hin0 hret
  obtain ⟨hx, hb, hr, hml, hts, hown, hlocks, hin, hP, hK, hD, hN, hA, hl⟩ := hin0
  have hS : va_S A s.heap s.heap [] := va_S.rf
  have hl : lv_has ls 3 [(0, .int a1), (1, .int a2), (2, .int a3)] := hl
  refine lv_iload_n hx hb dX7_in_0 rfl (lv_at hl 0 rfl) ?_
  refine lv_iload_n hx hb dX7_in_1 rfl (lv_at hl 1 rfl) ?_
  have J3 : ∀ (w4 : Int32), w4 = (if a1 < a2 then 0 else (if a3 < a1 then 0 else 1)) → W p l e (cw_rm 0) s m args below meth c s.heap [] 0 0 (Q) (F0 m 15 ls [.int w4]) := by
    intro w4 hw4
    have hsp : (s7_in a1 a2 a3) = (w4 : Int32) := by simp only [s7_in, ← hw4]
    exact hret _ _ _ _ _ _ _ _ hP hD hS dX7_in_15 (cw_b01 (by (try simp only [hw4]); (repeat' split) <;> first | exact Or.inl rfl | exact Or.inr rfl | assumption)) ⟨(), (by rw [hsp]), rfl⟩ (Nat.le_of_ble_eq_true rfl) (Nat.le_of_ble_eq_true rfl)
  refine lv_icmp_lt (tgt := 14) hx hb dX7_in_2 (by decide) (fun z1 => ?_) (fun z1 => ?_)
  · refine lv_iconst (v := 0) hx hb dX7_in_14 (by decide) ?_
    exact J3 0 (by simp only [if_pos z1])
  · refine lv_iload_n hx hb dX7_in_5 rfl (lv_at hl 0 rfl) ?_
    refine lv_iload_n hx hb dX7_in_6 rfl (lv_at hl 2 rfl) ?_
    refine lv_icmp_gt (tgt := 14) hx hb dX7_in_7 (by decide) (fun z2 => ?_) (fun z2 => ?_)
    · refine lv_iconst (v := 0) hx hb dX7_in_14 (by decide) ?_
      exact J3 0 (by simp only [if_neg z1, if_pos z2])
    · refine lv_iconst (v := 1) hx hb dX7_in_10 (by decide) ?_
      refine lv_goto (tgt := 15) hx hb dX7_in_11 (by decide) ?_
      exact J3 1 (by simp only [if_neg z1, if_neg z2])

set_option maxHeartbeats 4000000 in
set_option maxRecDepth 100000 in
theorem k7_has (l : Launch) (D : va_G) (cI cJ : ClassId) (a1 : Int32) (a2 : Int32) : cw_Mi l yX7_has wsX7_has (cw_rm 0) D [(cI, .int), (cJ, .long)] [.int a1, .int a2] [] 0 0 (fun r (_ : Unit) => r = (s7_has a1 a2)) (fun _ : Unit => []) := by
  refine cw_ofi (cc := cX7_has) (maxL := 2) (ret := (some .boolean)) (by decide) rfl (Nat.le_of_ble_eq_true rfl) rfl ?_
  intro p e s m args below meth c A ls Q hin0 hret
  obtain ⟨hx, hb, hr, hml, hts, hown, hlocks, hin, hP, hK, hD, hN, hA, hl⟩ := hin0
  have hS : va_S A s.heap s.heap [] := va_S.rf
  have hl : lv_has ls 2 [(0, .int a1), (1, .int a2)] := hl
  refine lv_iload_n hx hb dX7_has_0 rfl (lv_at hl 0 rfl) ?_
  refine lv_iload_n hx hb dX7_has_1 rfl (lv_at hl 1 rfl) ?_
  refine lv_ishr hx hb dX7_has_2 ?_
  refine lv_iconst (v := 1) hx hb dX7_has_3 (by decide) ?_
  refine lv_iand hx hb dX7_has_4 ?_
  refine lv_iconst (v := 1) hx hb dX7_has_5 (by decide) ?_
  have J2 : ∀ (w3 : Int32), w3 = (if ((a1 >>> (a2 &&& 31)) &&& 1) = 1 then 1 else 0) → W p l e (cw_rm 0) s m args below meth c s.heap [] 0 0 (Q) (F0 m 14 ls [.int w3]) := by
    intro w3 hw3
    have hsp : (s7_has a1 a2) = (w3 : Int32) := by simp only [s7_has, ← hw3]
    exact hret _ _ _ _ _ _ _ _ hP hD hS dX7_has_14 (cw_b01 (by (try simp only [hw3]); (repeat' split) <;> first | exact Or.inl rfl | exact Or.inr rfl | assumption)) ⟨(), (by rw [hsp]), rfl⟩ (Nat.le_of_ble_eq_true rfl) (Nat.le_of_ble_eq_true rfl)
  refine lv_icmp_ne (tgt := 13) hx hb dX7_has_6 (by decide) (fun z1 => ?_) (fun z1 => ?_)
  · refine lv_iconst (v := 0) hx hb dX7_has_13 (by decide) ?_
    exact J2 0 (by simp only [if_neg z1])
  · refine lv_iconst (v := 1) hx hb dX7_has_9 (by decide) ?_
    refine lv_goto (tgt := 14) hx hb dX7_has_10 (by decide) ?_
    exact J2 1 (by simp only [if_pos z1])

set_option maxHeartbeats 4000000 in
set_option maxRecDepth 100000 in
theorem k7_nears (l : Launch) (D : va_G) (cI cJ : ClassId) (a1 : Int32) (a2 : Int32) (a3 : Int32) : cw_Mi l yX7_nears wsX7_nears (cw_rm 0) D [(cI, .int), (cJ, .long)] [.int a1, .int a2, .int a3] [] 0 0 (fun r (_ : Unit) => r = (s7_nears a1 a2 a3)) (fun _ : Unit => []) := by
  refine cw_ofi (cc := cX7_nears) (maxL := 3) (ret := (some .int)) (by decide) rfl (Nat.le_of_ble_eq_true rfl) rfl ?_
  intro p e s m args below meth c A ls Q hin0 hret
  obtain ⟨hx, hb, hr, hml, hts, hown, hlocks, hin, hP, hK, hD, hN, hA, hl⟩ := hin0
  have hS : va_S A s.heap s.heap [] := va_S.rf
  have hl : lv_has ls 3 [(0, .int a1), (1, .int a2), (2, .int a3)] := hl
  refine lv_iload_n hx hb dX7_nears_0 rfl (lv_at hl 1 rfl) ?_
  refine lv_iload_n hx hb dX7_nears_1 rfl (lv_at hl 0 rfl) ?_
  have J8 : ∀ (w9 : Int32), w9 = (if a2 ≤ a1 then (a1 - (if a3 ≤ (a1 - a2) then a3 else (a1 - a2))) else (a1 + (if a3 ≤ (a2 - a1) then a3 else (a2 - a1)))) → W p l e (cw_rm 0) s m args below meth c s.heap [] 0 0 (Q) (F0 m 40 ls [.int w9]) := by
    intro w9 hw9
    have hsp : (s7_nears a1 a2 a3) = (w9 : Int32) := by simp only [s7_nears, ← hw9]
    exact hret _ _ _ _ _ _ _ _ hP hD hS dX7_nears_40 rfl ⟨(), (by rw [hsp]), rfl⟩ (Nat.le_of_ble_eq_true rfl) (Nat.le_of_ble_eq_true rfl)
  refine lv_icmp_le (tgt := 24) hx hb dX7_nears_2 (by decide) (fun z1 => ?_) (fun z1 => ?_)
  · refine lv_iload_n hx hb dX7_nears_24 rfl (lv_at hl 0 rfl) ?_
    refine lv_iload_n hx hb dX7_nears_25 rfl (lv_at hl 0 rfl) ?_
    refine lv_iload_n hx hb dX7_nears_26 rfl (lv_at hl 1 rfl) ?_
    refine lv_isub hx hb dX7_nears_27 ?_
    refine lv_iload_n hx hb dX7_nears_28 rfl (lv_at hl 2 rfl) ?_
    have J3 : ∀ (w4 : Int32), w4 = (if a3 ≤ (a1 - a2) then a3 else (a1 - a2)) → W p l e (cw_rm 0) s m args below meth c s.heap [] 0 0 (Q) (F0 m 39 ls [.int w4, .int a1]) := by
      intro w4 hw4
      refine lv_isub hx hb dX7_nears_39 ?_
      exact J8 (a1 - w4) (by simp only [← hw4, if_pos z1])
    refine lv_icmp_ge (tgt := 38) hx hb dX7_nears_29 (by decide) (fun z2 => ?_) (fun z2 => ?_)
    · refine lv_iload_n hx hb dX7_nears_38 rfl (lv_at hl 2 rfl) ?_
      exact J3 a3 (by simp only [if_pos z2])
    · refine lv_iload_n hx hb dX7_nears_32 rfl (lv_at hl 0 rfl) ?_
      refine lv_iload_n hx hb dX7_nears_33 rfl (lv_at hl 1 rfl) ?_
      refine lv_isub hx hb dX7_nears_34 ?_
      refine lv_goto (tgt := 39) hx hb dX7_nears_35 (by decide) ?_
      exact J3 (a1 - a2) (by simp only [if_neg z2])
  · refine lv_iload_n hx hb dX7_nears_5 rfl (lv_at hl 0 rfl) ?_
    refine lv_iload_n hx hb dX7_nears_6 rfl (lv_at hl 1 rfl) ?_
    refine lv_iload_n hx hb dX7_nears_7 rfl (lv_at hl 0 rfl) ?_
    refine lv_isub hx hb dX7_nears_8 ?_
    refine lv_iload_n hx hb dX7_nears_9 rfl (lv_at hl 2 rfl) ?_
    have J6 : ∀ (w7 : Int32), w7 = (if a3 ≤ (a2 - a1) then a3 else (a2 - a1)) → W p l e (cw_rm 0) s m args below meth c s.heap [] 0 0 (Q) (F0 m 20 ls [.int w7, .int a1]) := by
      intro w7 hw7
      refine lv_iadd hx hb dX7_nears_20 ?_
      refine lv_goto (tgt := 40) hx hb dX7_nears_21 (by decide) ?_
      exact J8 (a1 + w7) (by simp only [← hw7, if_neg z1])
    refine lv_icmp_ge (tgt := 19) hx hb dX7_nears_10 (by decide) (fun z5 => ?_) (fun z5 => ?_)
    · refine lv_iload_n hx hb dX7_nears_19 rfl (lv_at hl 2 rfl) ?_
      exact J6 a3 (by simp only [if_pos z5])
    · refine lv_iload_n hx hb dX7_nears_13 rfl (lv_at hl 1 rfl) ?_
      refine lv_iload_n hx hb dX7_nears_14 rfl (lv_at hl 0 rfl) ?_
      refine lv_isub hx hb dX7_nears_15 ?_
      refine lv_goto (tgt := 20) hx hb dX7_nears_16 (by decide) ?_
      exact J6 (a2 - a1) (by simp only [if_neg z5])

set_option maxHeartbeats 4000000 in
set_option maxRecDepth 100000 in
theorem k7_signal (l : Launch) (D : va_G) (cI cJ : ClassId) (xm : Nat) (xm_25 xm_26 xm_27 xm_29 xm_30 xm_31 : Value) (mm : Nat → Int32) (a1 : Int32) (a2 : Int32) : cw_Mi l yX7_signal wsX7_signal (cw_rm 1) D [(cI, .int), (cJ, .long)] [.ref xm, .int a1, .int a2] [(xm, c7 xm_25 xm_26 xm_27 xm_29 xm_30 xm_31 mm)] 0 0 (fun r (_ : Unit) => r = (s7_signal mm a1 a2).1) (fun _ : Unit => [(xm, c7 xm_25 xm_26 xm_27 xm_29 xm_30 xm_31 (s7_signal mm a1 a2).2)]) := by
  refine cw_ofi (cc := cX7_signal) (maxL := 4) (ret := (some .boolean)) (by decide) rfl (Nat.le_of_ble_eq_true rfl) rfl ?_
  intro p e s m args below meth c A ls Q hin0 hret
  obtain ⟨hx, hb, hr, hml, hts, hown, hlocks, hin, hP, hK, hD, hN, hA, hl⟩ := hin0
  have hS : va_S A s.heap s.heap [] := va_S.rf
  have hl : lv_has ls 4 [(0, .ref xm), (1, .int a1), (2, .int a2)] := hl
  have lf74 := hts (.fieldLink RX7 74 "BurnerlineModel" "signals" "I") (by decide +kernel)
  have i7 : ∀ w ∈ wsX70, w ∈ wsX7_signal := by decide +kernel
  refine lv_aload_n hx hb dX7_signal_0 rfl (lv_at hl 0 rfl) ?_
  refine lv_iload_n hx hb dX7_signal_1 rfl (lv_at hl 1 rfl) ?_
  refine lv_iconst (v := 0) hx hb dX7_signal_2 (by decide) ?_
  refine lv_iconst (v := 5) hx hb dX7_signal_3 (by decide) ?_
  refine cw_cSi (As := [.int a1, .int 0, .int 5]) (rest := [.ref xm]) (wc := []) (wr := [(xm, c7 xm_25 xm_26 xm_27 xm_29 xm_30 xm_31 mm)]) ⟨hx, hb, hml, hown, hts⟩ (k7_in l D cI cJ a1 0 5) (va_cwS 3 hts gX7_signal_X7_in rfl rfl rfl (by decide +kernel) ⟨Nat.le_of_ble_eq_true rfl, Nat.le_of_ble_eq_true rfl⟩) hK hN hP hD hS hA [] [0] rfl rfl (by decide) (by decide) (by decide) rfl hl.1 rfl (Nat.le_of_ble_eq_true rfl) dX7_signal_4 ⟨Nat.le_of_ble_eq_true rfl, Nat.le_of_ble_eq_true rfl⟩ (fun r2 u1 H locs hw hP hD hS => ?_)
  have hr2 : r2 = (s7_in a1 0 5) := hw
  have hP : va_P D vwCl [(xm, c7 xm_25 xm_26 xm_27 xm_29 xm_30 xm_31 mm)] H := hP
  have hD : va_D A [(xm, c7 xm_25 xm_26 xm_27 xm_29 xm_30 xm_31 mm)] := hD
  refine cw_cVi (As := [.int r2]) (rest := []) (wc := [(xm, c7 xm_25 xm_26 xm_27 xm_29 xm_30 xm_31 mm)]) (wr := []) ⟨hx, hb, hml, hown, hts⟩ (k7_asks l D cI cJ xm xm_25 xm_26 xm_27 xm_29 xm_30 xm_31 mm r2 (by (try simp only [hr2]); (repeat' split) <;> first | exact Or.inl rfl | exact Or.inr rfl | assumption | exact z7_in _ _ _)) (cwV 1 hts gX7_signal_X7_asks rfl rfl rfl (by decide +kernel) ⟨Nat.le_of_ble_eq_true rfl, Nat.le_of_ble_eq_true rfl⟩) hK hN hP hD hS hA [0] [] rfl rfl (by decide) (by decide) (by decide) 0 (ci := 7) rfl rfl rfl rfl hl.1 rfl (Nat.le_of_ble_eq_true rfl) dX7_signal_7 ⟨Nat.le_of_ble_eq_true rfl, Nat.le_of_ble_eq_true rfl⟩ (fun r4 u3 H locs hw hP hD hS => ?_)
  have hr4 : r4 = ((s7_asks mm r2).1) := hw
  obtain ⟨v5, hv5⟩ : ∃ z : Nat → Int32, z = ((s7_asks mm r2).2) := ⟨_, rfl⟩
  have hP : va_P D vwCl [(xm, c7 xm_25 xm_26 xm_27 xm_29 xm_30 xm_31 v5)] H := by rw [hv5]; exact hP
  have hD : va_D A [(xm, c7 xm_25 xm_26 xm_27 xm_29 xm_30 xm_31 v5)] := by rw [hv5]; exact hD
  refine lv_if_ne (tgt := 15) hx hb dX7_signal_10 (by decide) (fun z6 => ?_) (fun z6 => ?_)
  · refine lv_aload_n hx hb dX7_signal_15 rfl (lv_at hl 0 rfl) ?_
    refine va_get (D := D) (ci := 7) (v := .int (v5 0)) (C := RX7) (T := TX7) (N := 35) hx hb hts i7 hown hK hP 0 rfl rfl 0 (by decide) lf74 (fun _ h9 => h9) rfl dX7_signal_16 ?_
    refine lv_iload_n hx hb dX7_signal_19 rfl (lv_at hl 1 rfl) ?_
    refine lv_ishr hx hb dX7_signal_20 ?_
    refine lv_iconst (v := 1) hx hb dX7_signal_21 (by decide) ?_
    refine lv_iand hx hb dX7_signal_22 ?_
    refine lv_iconst (v := 1) hx hb dX7_signal_23 (by decide) ?_
    have J8 : ∀ (w9 : Int32), w9 = (if (((v5 0) >>> (a1 &&& 31)) &&& 1) = 1 then 1 else 0) → W p l e (cw_rm 1) s m args below meth c H locs 0 0 (Q) (F0 m 32 ls [.int w9]) := by
      intro w9 hw9
      refine lv_istore_n (lv' := [(3, .int w9), (0, .ref xm), (1, .int a1), (2, .int a2)]) hx hb dX7_signal_32 rfl hl (by decide) rfl (fun ls hl => ?_)
      refine lv_aload_n hx hb dX7_signal_33 rfl (lv_at hl 1 rfl) ?_
      refine lv_dup hx hb dX7_signal_34 rfl ?_
      refine va_get (D := D) (ci := 7) (v := .int (v5 0)) (C := RX7) (T := TX7) (N := 35) hx hb hts i7 hown hK hP 0 rfl rfl 0 (by decide) lf74 (fun _ h9 => h9) rfl dX7_signal_35 ?_
      refine lv_iload_n hx hb dX7_signal_38 rfl (lv_at hl 3 rfl) ?_
      refine lv_iload_n hx hb dX7_signal_39 rfl (lv_at hl 0 rfl) ?_
      have J12 : ∀ (w13 : Int32), w13 = (if a2 = w9 then 0 else (if a2 = 0 then (-((1 : Int32) <<< (a1 &&& 31))) else ((1 : Int32) <<< (a1 &&& 31)))) → W p l e (cw_rm 1) s m args below meth c H locs 0 0 (Q) (F0 m 61 ls [.int w13, .int (v5 0), .ref xm]) := by
        intro w13 hw13
        refine lv_iadd hx hb dX7_signal_61 ?_
        refine va_put (D := D) (ci := 7) (v := .int ((v5 0) + w13)) (ty := .int) (C := RX7) (T := TX7) (N := 35) hx hb hts i7 tyX7 tyX7_ok nmX7 hown hK hP hD hS 0 rfl rfl 0 (by decide) lf74 (fun _ h9 => h9) rfl (by decide +kernel) rfl rfl (Nat.le_of_ble_eq_true rfl) dX7_signal_62 (fun H locs hP hD hS => ?_)
        have hP : va_P D vwCl [(xm, c7 xm_25 xm_26 xm_27 xm_29 xm_30 xm_31 (upd v5 0 ((v5 0) + w13)))] H := (congrArg (fun z9 => va_P D vwCl [(xm, .inr (7, z9))] H) (cs7_0 xm_25 xm_26 xm_27 xm_29 xm_30 xm_31 v5 ((v5 0) + w13))).mp hP
        have hD : va_D A [(xm, c7 xm_25 xm_26 xm_27 xm_29 xm_30 xm_31 (upd v5 0 ((v5 0) + w13)))] := (congrArg (fun z9 => va_D A [(xm, .inr (7, z9))]) (cs7_0 xm_25 xm_26 xm_27 xm_29 xm_30 xm_31 v5 ((v5 0) + w13))).mp hD
        refine lv_iload_n hx hb dX7_signal_65 rfl (lv_at hl 0 rfl) ?_
        have hsp : (s7_signal mm a1 a2) = ((w9, (upd v5 0 ((v5 0) + w13))) : Int32 × (Nat → Int32)) := by simp only [s7_signal, ← hr2, ← hv5, ← hr4, ← hw9, ← hw13, if_neg z6]
        exact hret _ _ _ _ _ _ _ _ hP hD hS dX7_signal_66 (cw_b01 (by (try simp only [hr2, hv5, hw9]); (repeat' split) <;> first | exact Or.inl rfl | exact Or.inr rfl | assumption | exact z7_in _ _ _)) ⟨(), (by rw [hsp]), (by rw [hsp])⟩ (Nat.le_of_ble_eq_true rfl) (Nat.le_of_ble_eq_true rfl)
      refine lv_icmp_ne (tgt := 47) hx hb dX7_signal_40 (by decide) (fun z10 => ?_) (fun z10 => ?_)
      · refine lv_iload_n hx hb dX7_signal_47 rfl (lv_at hl 3 rfl) ?_
        refine lv_if_eq (tgt := 57) hx hb dX7_signal_48 (by decide) (fun z11 => ?_) (fun z11 => ?_)
        · refine lv_iconst (v := 1) hx hb dX7_signal_57 (by decide) ?_
          refine lv_iload_n hx hb dX7_signal_58 rfl (lv_at hl 2 rfl) ?_
          refine lv_ishl hx hb dX7_signal_59 ?_
          refine lv_ineg hx hb dX7_signal_60 ?_
          exact J12 (-((1 : Int32) <<< (a1 &&& 31))) (by simp only [if_neg z10, if_pos z11])
        · refine lv_iconst (v := 1) hx hb dX7_signal_51 (by decide) ?_
          refine lv_iload_n hx hb dX7_signal_52 rfl (lv_at hl 2 rfl) ?_
          refine lv_ishl hx hb dX7_signal_53 ?_
          refine lv_goto (tgt := 61) hx hb dX7_signal_54 (by decide) ?_
          exact J12 ((1 : Int32) <<< (a1 &&& 31)) (by simp only [if_neg z10, if_neg z11])
      · refine lv_iconst (v := 0) hx hb dX7_signal_43 (by decide) ?_
        refine lv_goto (tgt := 61) hx hb dX7_signal_44 (by decide) ?_
        exact J12 0 (by simp only [if_pos z10])
    refine lv_icmp_ne (tgt := 31) hx hb dX7_signal_24 (by decide) (fun z7 => ?_) (fun z7 => ?_)
    · refine lv_iconst (v := 0) hx hb dX7_signal_31 (by decide) ?_
      exact J8 0 (by simp only [if_neg z7])
    · refine lv_iconst (v := 1) hx hb dX7_signal_27 (by decide) ?_
      refine lv_goto (tgt := 32) hx hb dX7_signal_28 (by decide) ?_
      exact J8 1 (by simp only [if_pos z7])
  · refine lv_iconst (v := 0) hx hb dX7_signal_13 (by decide) ?_
    have hsp : (s7_signal mm a1 a2) = ((0, v5) : Int32 × (Nat → Int32)) := by simp only [s7_signal, ← hr2, ← hv5, ← hr4, if_pos z6]
    exact hret _ _ _ _ _ _ _ _ hP hD hS dX7_signal_14 rfl ⟨(), (by rw [hsp]), (by rw [hsp])⟩ (Nat.le_of_ble_eq_true rfl) (Nat.le_of_ble_eq_true rfl)

set_option maxHeartbeats 4000000 in
set_option maxRecDepth 100000 in
theorem k7_setRate (l : Launch) (D : va_G) (cI cJ : ClassId) (xm : Nat) (xm_25 xm_26 xm_27 xm_29 xm_30 xm_31 : Value) (mm : Nat → Int32) (a1 : Int32) : cw_Mi l yX7_setRate wsX7_setRate (cw_rm 1) D [(cI, .int), (cJ, .long)] [.ref xm, .int a1] [(xm, c7 xm_25 xm_26 xm_27 xm_29 xm_30 xm_31 mm)] 0 0 (fun r (_ : Unit) => r = (s7_setRate mm a1).1) (fun _ : Unit => [(xm, c7 xm_25 xm_26 xm_27 xm_29 xm_30 xm_31 (s7_setRate mm a1).2)]) := by
  refine cw_ofi (cc := cX7_setRate) (maxL := 3) (ret := (some .int)) (by decide) rfl (Nat.le_of_ble_eq_true rfl) rfl ?_
  intro p e s m args below meth c A ls Q hin0 hret
  obtain ⟨hx, hb, hr, hml, hts, hown, hlocks, hin, hP, hK, hD, hN, hA, hl⟩ := hin0
  have hS : va_S A s.heap s.heap [] := va_S.rf
  have hl : lv_has ls 3 [(0, .ref xm), (1, .int a1)] := hl
  have lf7 := hts (.fieldLink RX7 7 "BurnerlineModel" "rate" "I") (by decide +kernel)
  have i7 : ∀ w ∈ wsX70, w ∈ wsX7_setRate := by decide +kernel
  refine lv_aload_n hx hb dX7_setRate_0 rfl (lv_at hl 0 rfl) ?_
  refine lv_iload_n hx hb dX7_setRate_1 rfl (lv_at hl 1 rfl) ?_
  refine lv_bipush (v := 20) hx hb dX7_setRate_2 (by decide) ?_
  refine lv_bipush (v := 100) hx hb dX7_setRate_4 (by decide) ?_
  refine cw_cSi (As := [.int a1, .int 20, .int 100]) (rest := [.ref xm]) (wc := []) (wr := [(xm, c7 xm_25 xm_26 xm_27 xm_29 xm_30 xm_31 mm)]) ⟨hx, hb, hml, hown, hts⟩ (k7_in l D cI cJ a1 20 100) (va_cwS 3 hts gX7_setRate_X7_in rfl rfl rfl (by decide +kernel) ⟨Nat.le_of_ble_eq_true rfl, Nat.le_of_ble_eq_true rfl⟩) hK hN hP hD hS hA [] [0] rfl rfl (by decide) (by decide) (by decide) rfl hl.1 rfl (Nat.le_of_ble_eq_true rfl) dX7_setRate_6 ⟨Nat.le_of_ble_eq_true rfl, Nat.le_of_ble_eq_true rfl⟩ (fun r2 u1 H locs hw hP hD hS => ?_)
  have hr2 : r2 = (s7_in a1 20 100) := hw
  have hP : va_P D vwCl [(xm, c7 xm_25 xm_26 xm_27 xm_29 xm_30 xm_31 mm)] H := hP
  have hD : va_D A [(xm, c7 xm_25 xm_26 xm_27 xm_29 xm_30 xm_31 mm)] := hD
  refine cw_cVi (As := [.int r2]) (rest := []) (wc := [(xm, c7 xm_25 xm_26 xm_27 xm_29 xm_30 xm_31 mm)]) (wr := []) ⟨hx, hb, hml, hown, hts⟩ (k7_asks l D cI cJ xm xm_25 xm_26 xm_27 xm_29 xm_30 xm_31 mm r2 (by (try simp only [hr2]); (repeat' split) <;> first | exact Or.inl rfl | exact Or.inr rfl | assumption | exact z7_in _ _ _)) (cwV 1 hts gX7_setRate_X7_asks rfl rfl rfl (by decide +kernel) ⟨Nat.le_of_ble_eq_true rfl, Nat.le_of_ble_eq_true rfl⟩) hK hN hP hD hS hA [0] [] rfl rfl (by decide) (by decide) (by decide) 0 (ci := 7) rfl rfl rfl rfl hl.1 rfl (Nat.le_of_ble_eq_true rfl) dX7_setRate_9 ⟨Nat.le_of_ble_eq_true rfl, Nat.le_of_ble_eq_true rfl⟩ (fun r4 u3 H locs hw hP hD hS => ?_)
  have hr4 : r4 = ((s7_asks mm r2).1) := hw
  obtain ⟨v5, hv5⟩ : ∃ z : Nat → Int32, z = ((s7_asks mm r2).2) := ⟨_, rfl⟩
  have hP : va_P D vwCl [(xm, c7 xm_25 xm_26 xm_27 xm_29 xm_30 xm_31 v5)] H := by rw [hv5]; exact hP
  have hD : va_D A [(xm, c7 xm_25 xm_26 xm_27 xm_29 xm_30 xm_31 v5)] := by rw [hv5]; exact hD
  refine lv_if_ne (tgt := 17) hx hb dX7_setRate_12 (by decide) (fun z6 => ?_) (fun z6 => ?_)
  · refine lv_aload_n hx hb dX7_setRate_17 rfl (lv_at hl 0 rfl) ?_
    refine va_get (D := D) (ci := 7) (v := .int (v5 1)) (C := RX7) (T := TX7) (N := 35) hx hb hts i7 hown hK hP 0 rfl rfl 1 (by decide) lf7 (fun _ h9 => h9) rfl dX7_setRate_18 ?_
    refine lv_istore_n (lv' := [(2, .int (v5 1)), (0, .ref xm), (1, .int a1)]) hx hb dX7_setRate_21 rfl hl (by decide) rfl (fun ls hl => ?_)
    refine lv_aload_n hx hb dX7_setRate_22 rfl (lv_at hl 1 rfl) ?_
    refine lv_iload_n hx hb dX7_setRate_23 rfl (lv_at hl 2 rfl) ?_
    refine va_put (D := D) (ci := 7) (v := .int a1) (ty := .int) (C := RX7) (T := TX7) (N := 35) hx hb hts i7 tyX7 tyX7_ok nmX7 hown hK hP hD hS 0 rfl rfl 1 (by decide) lf7 (fun _ h9 => h9) rfl (by decide +kernel) rfl rfl (Nat.le_of_ble_eq_true rfl) dX7_setRate_24 (fun H locs hP hD hS => ?_)
    have hP : va_P D vwCl [(xm, c7 xm_25 xm_26 xm_27 xm_29 xm_30 xm_31 (upd v5 1 a1))] H := (congrArg (fun z9 => va_P D vwCl [(xm, .inr (7, z9))] H) (cs7_1 xm_25 xm_26 xm_27 xm_29 xm_30 xm_31 v5 a1)).mp hP
    have hD : va_D A [(xm, c7 xm_25 xm_26 xm_27 xm_29 xm_30 xm_31 (upd v5 1 a1))] := (congrArg (fun z9 => va_D A [(xm, .inr (7, z9))]) (cs7_1 xm_25 xm_26 xm_27 xm_29 xm_30 xm_31 v5 a1)).mp hD
    refine lv_iload_n hx hb dX7_setRate_27 rfl (lv_at hl 0 rfl) ?_
    have hsp : (s7_setRate mm a1) = (((v5 1), (upd v5 1 a1)) : Int32 × (Nat → Int32)) := by simp only [s7_setRate, ← hr2, ← hv5, ← hr4, if_neg z6]
    exact hret _ _ _ _ _ _ _ _ hP hD hS dX7_setRate_28 rfl ⟨(), (by rw [hsp]), (by rw [hsp])⟩ (Nat.le_of_ble_eq_true rfl) (Nat.le_of_ble_eq_true rfl)
  · refine lv_iconst (v := 0) hx hb dX7_setRate_15 (by decide) ?_
    have hsp : (s7_setRate mm a1) = ((0, v5) : Int32 × (Nat → Int32)) := by simp only [s7_setRate, ← hr2, ← hv5, ← hr4, if_pos z6]
    exact hret _ _ _ _ _ _ _ _ hP hD hS dX7_setRate_16 rfl ⟨(), (by rw [hsp]), (by rw [hsp])⟩ (Nat.le_of_ble_eq_true rfl) (Nat.le_of_ble_eq_true rfl)

set_option maxHeartbeats 4000000 in
set_option maxRecDepth 100000 in
theorem k7_asksSetting (l : Launch) (D : va_G) (cI cJ : ClassId) (xm : Nat) (xm_25 xm_26 xm_27 xm_29 xm_30 xm_31 : Value) (mm : Nat → Int32) (a1 : Int32) : cw_Mi l yX7_asksSetting wsX7_asksSetting (cw_rm 0) D [(cI, .int), (cJ, .long)] [.ref xm, .int a1] [(xm, c7 xm_25 xm_26 xm_27 xm_29 xm_30 xm_31 mm)] 0 0 (fun r (_ : Unit) => r = (s7_asksSetting mm a1).1) (fun _ : Unit => [(xm, c7 xm_25 xm_26 xm_27 xm_29 xm_30 xm_31 (s7_asksSetting mm a1).2)]) := by
  refine cw_ofi (cc := cX7_asksSetting) (maxL := 2) (ret := (some .boolean)) (by decide) rfl (Nat.le_of_ble_eq_true rfl) rfl ?_
  intro p e s m args below meth c A ls Q hin0 hret
  obtain ⟨hx, hb, hr, hml, hts, hown, hlocks, hin, hP, hK, hD, hN, hA, hl⟩ := hin0
  have hS : va_S A s.heap s.heap [] := va_S.rf
  have hl : lv_has ls 2 [(0, .ref xm), (1, .int a1)] := hl
  have lf77 := hts (.fieldLink RX7 77 "BurnerlineModel" "state" "I") (by decide +kernel)
  have i7 : ∀ w ∈ wsX70, w ∈ wsX7_asksSetting := by decide +kernel
  have lf63 := hts (.fieldLink RX7 63 "BurnerlineModel" "thrown" "I") (by decide +kernel)
  refine lv_aload_n hx hb dX7_asksSetting_0 rfl (lv_at hl 0 rfl) ?_
  refine lv_iload_n hx hb dX7_asksSetting_1 rfl (lv_at hl 1 rfl) ?_
  have J3 : ∀ (w4 : Int32), w4 = (if a1 = 0 then 1 else (if (mm 12) = 0 then 0 else 2)) → W p l e (cw_rm 0) s m args below meth c s.heap [] 0 0 (Q) (F0 m 21 ls [.int w4, .ref xm]) := by
    intro w4 hw4
    refine va_put (D := D) (ci := 7) (v := .int w4) (ty := .int) (C := RX7) (T := TX7) (N := 35) hx hb hts i7 tyX7 tyX7_ok nmX7 hown hK hP hD hS 0 rfl rfl 34 (by decide) lf63 (fun _ h9 => h9) rfl (by decide +kernel) rfl rfl (Nat.le_of_ble_eq_true rfl) dX7_asksSetting_21 (fun H locs hP hD hS => ?_)
    have hP : va_P D vwCl [(xm, c7 xm_25 xm_26 xm_27 xm_29 xm_30 xm_31 (upd mm 34 w4))] H := (congrArg (fun z9 => va_P D vwCl [(xm, .inr (7, z9))] H) (cs7_34 xm_25 xm_26 xm_27 xm_29 xm_30 xm_31 mm w4)).mp hP
    have hD : va_D A [(xm, c7 xm_25 xm_26 xm_27 xm_29 xm_30 xm_31 (upd mm 34 w4))] := (congrArg (fun z9 => va_D A [(xm, .inr (7, z9))]) (cs7_34 xm_25 xm_26 xm_27 xm_29 xm_30 xm_31 mm w4)).mp hD
    refine lv_aload_n hx hb dX7_asksSetting_24 rfl (lv_at hl 0 rfl) ?_
    refine va_get (D := D) (ci := 7) (v := .int ((upd mm 34 w4) 34)) (C := RX7) (T := TX7) (N := 35) hx hb hts i7 hown hK hP 0 rfl rfl 34 (by decide) lf63 (fun _ h9 => h9) rfl dX7_asksSetting_25 ?_
    refine cw_topi (y := w4) (cw_upd0 _ _ _) ?_
    have J6 : ∀ (w7 : Int32), w7 = (if w4 = 0 then 1 else 0) → W p l e (cw_rm 0) s m args below meth c H locs 0 0 (Q) (F0 m 36 ls [.int w7]) := by
      intro w7 hw7
      have hsp : (s7_asksSetting mm a1) = ((w7, (upd mm 34 w4)) : Int32 × (Nat → Int32)) := by simp only [s7_asksSetting, ← hw4, ← hw7]
      exact hret _ _ _ _ _ _ _ _ hP hD hS dX7_asksSetting_36 (cw_b01 (by (try simp only [hw4, hw7]); (repeat' split) <;> first | exact Or.inl rfl | exact Or.inr rfl | assumption)) ⟨(), (by rw [hsp]), (by rw [hsp])⟩ (Nat.le_of_ble_eq_true rfl) (Nat.le_of_ble_eq_true rfl)
    refine lv_if_ne (tgt := 35) hx hb dX7_asksSetting_28 (by decide) (fun z5 => ?_) (fun z5 => ?_)
    · refine lv_iconst (v := 0) hx hb dX7_asksSetting_35 (by decide) ?_
      exact J6 0 (by simp only [if_neg z5])
    · refine lv_iconst (v := 1) hx hb dX7_asksSetting_31 (by decide) ?_
      refine lv_goto (tgt := 36) hx hb dX7_asksSetting_32 (by decide) ?_
      exact J6 1 (by simp only [if_pos z5])
  refine lv_if_ne (tgt := 9) hx hb dX7_asksSetting_2 (by decide) (fun z1 => ?_) (fun z1 => ?_)
  · refine lv_aload_n hx hb dX7_asksSetting_9 rfl (lv_at hl 0 rfl) ?_
    refine va_get (D := D) (ci := 7) (v := .int (mm 12)) (C := RX7) (T := TX7) (N := 35) hx hb hts i7 hown hK hP 0 rfl rfl 12 (by decide) lf77 (fun _ h9 => h9) rfl dX7_asksSetting_10 ?_
    refine lv_if_eq (tgt := 20) hx hb dX7_asksSetting_13 (by decide) (fun z2 => ?_) (fun z2 => ?_)
    · refine lv_iconst (v := 0) hx hb dX7_asksSetting_20 (by decide) ?_
      exact J3 0 (by simp only [if_neg z1, if_pos z2])
    · refine lv_iconst (v := 2) hx hb dX7_asksSetting_16 (by decide) ?_
      refine lv_goto (tgt := 21) hx hb dX7_asksSetting_17 (by decide) ?_
      exact J3 2 (by simp only [if_neg z1, if_neg z2])
  · refine lv_iconst (v := 1) hx hb dX7_asksSetting_5 (by decide) ?_
    refine lv_goto (tgt := 21) hx hb dX7_asksSetting_6 (by decide) ?_
    exact J3 1 (by simp only [if_pos z1])

set_option maxHeartbeats 4000000 in
set_option maxRecDepth 100000 in
theorem k7_setTimes (l : Launch) (D : va_G) (cI cJ : ClassId) (xm : Nat) (xm_25 xm_26 xm_27 xm_29 xm_30 xm_31 : Value) (mm : Nat → Int32) (a1 : Int32) (a2 : Int32) (a3 : Int32) (a4 : Int32) : cw_Mv l yX7_setTimes wsX7_setTimes (cw_rm 1) D [(cI, .int), (cJ, .long)] [.ref xm, .int a1, .int a2, .int a3, .int a4] [(xm, c7 xm_25 xm_26 xm_27 xm_29 xm_30 xm_31 mm)] 0 0 (fun _ : Unit => True) (fun _ : Unit => [(xm, c7 xm_25 xm_26 xm_27 xm_29 xm_30 xm_31 (s7_setTimes mm a1 a2 a3 a4))]) := by
  refine cw_ofv (cc := cX7_setTimes) (maxL := 5) (ret := none) (by decide) rfl (Nat.le_of_ble_eq_true rfl) rfl ?_
  intro p e s m args below meth c A ls Q hin0 hret
  obtain ⟨hx, hb, hr, hml, hts, hown, hlocks, hin, hP, hK, hD, hN, hA, hl⟩ := hin0
  have hS : va_S A s.heap s.heap [] := va_S.rf
  have hl : lv_has ls 5 [(0, .ref xm), (1, .int a1), (2, .int a2), (3, .int a3), (4, .int a4)] := hl
  have lf13 := hts (.fieldLink RX7 13 "BurnerlineModel" "longPurge" "I") (by decide +kernel)
  have i7 : ∀ w ∈ wsX70, w ∈ wsX7_setTimes := by decide +kernel
  have lf16 := hts (.fieldLink RX7 16 "BurnerlineModel" "longPilot" "I") (by decide +kernel)
  have lf19 := hts (.fieldLink RX7 19 "BurnerlineModel" "longMain" "I") (by decide +kernel)
  have lf22 := hts (.fieldLink RX7 22 "BurnerlineModel" "longAfter" "I") (by decide +kernel)
  refine lv_aload_n hx hb dX7_setTimes_0 rfl (lv_at hl 0 rfl) ?_
  refine lv_iload_n hx hb dX7_setTimes_1 rfl (lv_at hl 1 rfl) ?_
  refine lv_iconst (v := 1) hx hb dX7_setTimes_2 (by decide) ?_
  refine lv_sipush (v := 200) hx hb dX7_setTimes_3 (by decide) ?_
  refine cw_cSi (As := [.int a1, .int 1, .int 200]) (rest := [.ref xm]) (wc := []) (wr := [(xm, c7 xm_25 xm_26 xm_27 xm_29 xm_30 xm_31 mm)]) ⟨hx, hb, hml, hown, hts⟩ (k7_in l D cI cJ a1 1 200) (va_cwS 3 hts gX7_setTimes_X7_in rfl rfl rfl (by decide +kernel) ⟨Nat.le_of_ble_eq_true rfl, Nat.le_of_ble_eq_true rfl⟩) hK hN hP hD hS hA [] [0] rfl rfl (by decide) (by decide) (by decide) rfl hl.1 rfl (Nat.le_of_ble_eq_true rfl) dX7_setTimes_6 ⟨Nat.le_of_ble_eq_true rfl, Nat.le_of_ble_eq_true rfl⟩ (fun r2 u1 H locs hw hP hD hS => ?_)
  have hr2 : r2 = (s7_in a1 1 200) := hw
  have hP : va_P D vwCl [(xm, c7 xm_25 xm_26 xm_27 xm_29 xm_30 xm_31 mm)] H := hP
  have hD : va_D A [(xm, c7 xm_25 xm_26 xm_27 xm_29 xm_30 xm_31 mm)] := hD
  have J13 : ∀ (w14 : Int32), w14 = (if r2 = 0 then 0 else (if (s7_in a2 1 30) = 0 then 0 else (if (s7_in a3 1 30) = 0 then 0 else (if (s7_in a4 1 60) = 0 then 0 else 1)))) → ∀ (H : Heap) (locs : List Loc), va_P D vwCl [(xm, c7 xm_25 xm_26 xm_27 xm_29 xm_30 xm_31 mm)] H → va_D A [(xm, c7 xm_25 xm_26 xm_27 xm_29 xm_30 xm_31 mm)] → va_S A s.heap H locs → W p l e (cw_rm 1) s m args below meth c H locs 0 0 (Q) (F0 m 48 ls [.int w14, .ref xm]) := by
    intro w14 hw14 H locs hP hD hS
    refine cw_cVi (As := [.int w14]) (rest := []) (wc := [(xm, c7 xm_25 xm_26 xm_27 xm_29 xm_30 xm_31 mm)]) (wr := []) ⟨hx, hb, hml, hown, hts⟩ (k7_asksSetting l D cI cJ xm xm_25 xm_26 xm_27 xm_29 xm_30 xm_31 mm w14) (cwV 1 hts gX7_setTimes_X7_asksSetting rfl rfl rfl (by decide +kernel) ⟨Nat.le_of_ble_eq_true rfl, Nat.le_of_ble_eq_true rfl⟩) hK hN hP hD hS hA [0] [] rfl rfl (by decide) (by decide) (by decide) 0 (ci := 7) rfl rfl rfl rfl hl.1 rfl (Nat.le_of_ble_eq_true rfl) dX7_setTimes_48 ⟨Nat.le_of_ble_eq_true rfl, Nat.le_of_ble_eq_true rfl⟩ (fun r16 u15 H locs hw hP hD hS => ?_)
    have hr16 : r16 = ((s7_asksSetting mm w14).1) := hw
    obtain ⟨v17, hv17⟩ : ∃ z : Nat → Int32, z = ((s7_asksSetting mm w14).2) := ⟨_, rfl⟩
    have hP : va_P D vwCl [(xm, c7 xm_25 xm_26 xm_27 xm_29 xm_30 xm_31 v17)] H := by rw [hv17]; exact hP
    have hD : va_D A [(xm, c7 xm_25 xm_26 xm_27 xm_29 xm_30 xm_31 v17)] := by rw [hv17]; exact hD
    have J19 : ∀ (w20 : Nat → Int32), w20 = (if r16 = 0 then v17 else (upd (upd (upd (upd v17 2 a1) 3 a2) 4 a3) 5 a4)) → ∀ (H : Heap) (locs : List Loc), va_P D vwCl [(xm, c7 xm_25 xm_26 xm_27 xm_29 xm_30 xm_31 w20)] H → va_D A [(xm, c7 xm_25 xm_26 xm_27 xm_29 xm_30 xm_31 w20)] → va_S A s.heap H locs → W p l e (cw_rm 1) s m args below meth c H locs 0 0 (Q) (F0 m 75 ls []) := by
      intro w20 hw20 H locs hP hD hS
      have hsp : (s7_setTimes mm a1 a2 a3 a4) = (w20 : (Nat → Int32)) := by simp only [s7_setTimes, ← hr2, ← hw14, ← hv17, ← hr16, ← hw20]
      exact hret _ _ _ _ _ _ _ hP hD hS dX7_setTimes_75 ⟨(), trivial, (by rw [hsp])⟩ (Nat.le_of_ble_eq_true rfl) (Nat.le_of_ble_eq_true rfl)
    refine lv_if_eq (tgt := 75) hx hb dX7_setTimes_51 (by decide) (fun z18 => ?_) (fun z18 => ?_)
    · exact J19 v17 (by simp only [if_pos z18]) _ _ hP hD hS
    · refine lv_aload_n hx hb dX7_setTimes_54 rfl (lv_at hl 0 rfl) ?_
      refine lv_iload_n hx hb dX7_setTimes_55 rfl (lv_at hl 1 rfl) ?_
      refine va_put (D := D) (ci := 7) (v := .int a1) (ty := .int) (C := RX7) (T := TX7) (N := 35) hx hb hts i7 tyX7 tyX7_ok nmX7 hown hK hP hD hS 0 rfl rfl 2 (by decide) lf13 (fun _ h9 => h9) rfl (by decide +kernel) rfl rfl (Nat.le_of_ble_eq_true rfl) dX7_setTimes_56 (fun H locs hP hD hS => ?_)
      have hP : va_P D vwCl [(xm, c7 xm_25 xm_26 xm_27 xm_29 xm_30 xm_31 (upd v17 2 a1))] H := (congrArg (fun z9 => va_P D vwCl [(xm, .inr (7, z9))] H) (cs7_2 xm_25 xm_26 xm_27 xm_29 xm_30 xm_31 v17 a1)).mp hP
      have hD : va_D A [(xm, c7 xm_25 xm_26 xm_27 xm_29 xm_30 xm_31 (upd v17 2 a1))] := (congrArg (fun z9 => va_D A [(xm, .inr (7, z9))]) (cs7_2 xm_25 xm_26 xm_27 xm_29 xm_30 xm_31 v17 a1)).mp hD
      refine lv_aload_n hx hb dX7_setTimes_59 rfl (lv_at hl 0 rfl) ?_
      refine lv_iload_n hx hb dX7_setTimes_60 rfl (lv_at hl 2 rfl) ?_
      refine va_put (D := D) (ci := 7) (v := .int a2) (ty := .int) (C := RX7) (T := TX7) (N := 35) hx hb hts i7 tyX7 tyX7_ok nmX7 hown hK hP hD hS 0 rfl rfl 3 (by decide) lf16 (fun _ h9 => h9) rfl (by decide +kernel) rfl rfl (Nat.le_of_ble_eq_true rfl) dX7_setTimes_61 (fun H locs hP hD hS => ?_)
      have hP : va_P D vwCl [(xm, c7 xm_25 xm_26 xm_27 xm_29 xm_30 xm_31 (upd (upd v17 2 a1) 3 a2))] H := (congrArg (fun z9 => va_P D vwCl [(xm, .inr (7, z9))] H) (cs7_3 xm_25 xm_26 xm_27 xm_29 xm_30 xm_31 (upd v17 2 a1) a2)).mp hP
      have hD : va_D A [(xm, c7 xm_25 xm_26 xm_27 xm_29 xm_30 xm_31 (upd (upd v17 2 a1) 3 a2))] := (congrArg (fun z9 => va_D A [(xm, .inr (7, z9))]) (cs7_3 xm_25 xm_26 xm_27 xm_29 xm_30 xm_31 (upd v17 2 a1) a2)).mp hD
      refine lv_aload_n hx hb dX7_setTimes_64 rfl (lv_at hl 0 rfl) ?_
      refine lv_iload_n hx hb dX7_setTimes_65 rfl (lv_at hl 3 rfl) ?_
      refine va_put (D := D) (ci := 7) (v := .int a3) (ty := .int) (C := RX7) (T := TX7) (N := 35) hx hb hts i7 tyX7 tyX7_ok nmX7 hown hK hP hD hS 0 rfl rfl 4 (by decide) lf19 (fun _ h9 => h9) rfl (by decide +kernel) rfl rfl (Nat.le_of_ble_eq_true rfl) dX7_setTimes_66 (fun H locs hP hD hS => ?_)
      have hP : va_P D vwCl [(xm, c7 xm_25 xm_26 xm_27 xm_29 xm_30 xm_31 (upd (upd (upd v17 2 a1) 3 a2) 4 a3))] H := (congrArg (fun z9 => va_P D vwCl [(xm, .inr (7, z9))] H) (cs7_4 xm_25 xm_26 xm_27 xm_29 xm_30 xm_31 (upd (upd v17 2 a1) 3 a2) a3)).mp hP
      have hD : va_D A [(xm, c7 xm_25 xm_26 xm_27 xm_29 xm_30 xm_31 (upd (upd (upd v17 2 a1) 3 a2) 4 a3))] := (congrArg (fun z9 => va_D A [(xm, .inr (7, z9))]) (cs7_4 xm_25 xm_26 xm_27 xm_29 xm_30 xm_31 (upd (upd v17 2 a1) 3 a2) a3)).mp hD
      refine lv_aload_n hx hb dX7_setTimes_69 rfl (lv_at hl 0 rfl) ?_
      refine lv_iload hx hb dX7_setTimes_70 (lv_at hl 4 rfl) ?_
      refine va_put (D := D) (ci := 7) (v := .int a4) (ty := .int) (C := RX7) (T := TX7) (N := 35) hx hb hts i7 tyX7 tyX7_ok nmX7 hown hK hP hD hS 0 rfl rfl 5 (by decide) lf22 (fun _ h9 => h9) rfl (by decide +kernel) rfl rfl (Nat.le_of_ble_eq_true rfl) dX7_setTimes_72 (fun H locs hP hD hS => ?_)
      have hP : va_P D vwCl [(xm, c7 xm_25 xm_26 xm_27 xm_29 xm_30 xm_31 (upd (upd (upd (upd v17 2 a1) 3 a2) 4 a3) 5 a4))] H := (congrArg (fun z9 => va_P D vwCl [(xm, .inr (7, z9))] H) (cs7_5 xm_25 xm_26 xm_27 xm_29 xm_30 xm_31 (upd (upd (upd v17 2 a1) 3 a2) 4 a3) a4)).mp hP
      have hD : va_D A [(xm, c7 xm_25 xm_26 xm_27 xm_29 xm_30 xm_31 (upd (upd (upd (upd v17 2 a1) 3 a2) 4 a3) 5 a4))] := (congrArg (fun z9 => va_D A [(xm, .inr (7, z9))]) (cs7_5 xm_25 xm_26 xm_27 xm_29 xm_30 xm_31 (upd (upd (upd v17 2 a1) 3 a2) 4 a3) a4)).mp hD
      exact J19 (upd (upd (upd (upd v17 2 a1) 3 a2) 4 a3) 5 a4) (by simp only [if_neg z18]) _ _ hP hD hS
  refine lv_if_eq (tgt := 47) hx hb dX7_setTimes_9 (by decide) (fun z3 => ?_) (fun z3 => ?_)
  · refine lv_iconst (v := 0) hx hb dX7_setTimes_47 (by decide) ?_
    exact J13 0 (by simp only [if_pos z3]) _ _ hP hD hS
  · refine lv_iload_n hx hb dX7_setTimes_12 rfl (lv_at hl 2 rfl) ?_
    refine lv_iconst (v := 1) hx hb dX7_setTimes_13 (by decide) ?_
    refine lv_bipush (v := 30) hx hb dX7_setTimes_14 (by decide) ?_
    refine cw_cSi (As := [.int a2, .int 1, .int 30]) (rest := [.ref xm]) (wc := []) (wr := [(xm, c7 xm_25 xm_26 xm_27 xm_29 xm_30 xm_31 mm)]) ⟨hx, hb, hml, hown, hts⟩ (k7_in l D cI cJ a2 1 30) (va_cwS 3 hts gX7_setTimes_X7_in rfl rfl rfl (by decide +kernel) ⟨Nat.le_of_ble_eq_true rfl, Nat.le_of_ble_eq_true rfl⟩) hK hN hP hD hS hA [] [0] rfl rfl (by decide) (by decide) (by decide) rfl hl.1 rfl (Nat.le_of_ble_eq_true rfl) dX7_setTimes_16 ⟨Nat.le_of_ble_eq_true rfl, Nat.le_of_ble_eq_true rfl⟩ (fun r5 u4 H locs hw hP hD hS => ?_)
    have hr5 : r5 = (s7_in a2 1 30) := hw
    have hP : va_P D vwCl [(xm, c7 xm_25 xm_26 xm_27 xm_29 xm_30 xm_31 mm)] H := hP
    have hD : va_D A [(xm, c7 xm_25 xm_26 xm_27 xm_29 xm_30 xm_31 mm)] := hD
    refine lv_if_eq (tgt := 47) hx hb dX7_setTimes_19 (by decide) (fun z6 => ?_) (fun z6 => ?_)
    · refine lv_iconst (v := 0) hx hb dX7_setTimes_47 (by decide) ?_
      exact J13 0 (by simp only [← hr5, if_neg z3, if_pos z6]) _ _ hP hD hS
    · refine lv_iload_n hx hb dX7_setTimes_22 rfl (lv_at hl 3 rfl) ?_
      refine lv_iconst (v := 1) hx hb dX7_setTimes_23 (by decide) ?_
      refine lv_bipush (v := 30) hx hb dX7_setTimes_24 (by decide) ?_
      refine cw_cSi (As := [.int a3, .int 1, .int 30]) (rest := [.ref xm]) (wc := []) (wr := [(xm, c7 xm_25 xm_26 xm_27 xm_29 xm_30 xm_31 mm)]) ⟨hx, hb, hml, hown, hts⟩ (k7_in l D cI cJ a3 1 30) (va_cwS 3 hts gX7_setTimes_X7_in rfl rfl rfl (by decide +kernel) ⟨Nat.le_of_ble_eq_true rfl, Nat.le_of_ble_eq_true rfl⟩) hK hN hP hD hS hA [] [0] rfl rfl (by decide) (by decide) (by decide) rfl hl.1 rfl (Nat.le_of_ble_eq_true rfl) dX7_setTimes_26 ⟨Nat.le_of_ble_eq_true rfl, Nat.le_of_ble_eq_true rfl⟩ (fun r8 u7 H locs hw hP hD hS => ?_)
      have hr8 : r8 = (s7_in a3 1 30) := hw
      have hP : va_P D vwCl [(xm, c7 xm_25 xm_26 xm_27 xm_29 xm_30 xm_31 mm)] H := hP
      have hD : va_D A [(xm, c7 xm_25 xm_26 xm_27 xm_29 xm_30 xm_31 mm)] := hD
      refine lv_if_eq (tgt := 47) hx hb dX7_setTimes_29 (by decide) (fun z9 => ?_) (fun z9 => ?_)
      · refine lv_iconst (v := 0) hx hb dX7_setTimes_47 (by decide) ?_
        exact J13 0 (by simp only [← hr5, ← hr8, if_neg z3, if_neg z6, if_pos z9]) _ _ hP hD hS
      · refine lv_iload hx hb dX7_setTimes_32 (lv_at hl 4 rfl) ?_
        refine lv_iconst (v := 1) hx hb dX7_setTimes_34 (by decide) ?_
        refine lv_bipush (v := 60) hx hb dX7_setTimes_35 (by decide) ?_
        refine cw_cSi (As := [.int a4, .int 1, .int 60]) (rest := [.ref xm]) (wc := []) (wr := [(xm, c7 xm_25 xm_26 xm_27 xm_29 xm_30 xm_31 mm)]) ⟨hx, hb, hml, hown, hts⟩ (k7_in l D cI cJ a4 1 60) (va_cwS 3 hts gX7_setTimes_X7_in rfl rfl rfl (by decide +kernel) ⟨Nat.le_of_ble_eq_true rfl, Nat.le_of_ble_eq_true rfl⟩) hK hN hP hD hS hA [] [0] rfl rfl (by decide) (by decide) (by decide) rfl hl.1 rfl (Nat.le_of_ble_eq_true rfl) dX7_setTimes_37 ⟨Nat.le_of_ble_eq_true rfl, Nat.le_of_ble_eq_true rfl⟩ (fun r11 u10 H locs hw hP hD hS => ?_)
        have hr11 : r11 = (s7_in a4 1 60) := hw
        have hP : va_P D vwCl [(xm, c7 xm_25 xm_26 xm_27 xm_29 xm_30 xm_31 mm)] H := hP
        have hD : va_D A [(xm, c7 xm_25 xm_26 xm_27 xm_29 xm_30 xm_31 mm)] := hD
        refine lv_if_eq (tgt := 47) hx hb dX7_setTimes_40 (by decide) (fun z12 => ?_) (fun z12 => ?_)
        · refine lv_iconst (v := 0) hx hb dX7_setTimes_47 (by decide) ?_
          exact J13 0 (by simp only [← hr5, ← hr8, ← hr11, if_neg z3, if_neg z6, if_neg z9, if_pos z12]) _ _ hP hD hS
        · refine lv_iconst (v := 1) hx hb dX7_setTimes_43 (by decide) ?_
          refine lv_goto (tgt := 48) hx hb dX7_setTimes_44 (by decide) ?_
          exact J13 1 (by simp only [← hr5, ← hr8, ← hr11, if_neg z3, if_neg z6, if_neg z9, if_neg z12]) _ _ hP hD hS

set_option maxHeartbeats 4000000 in
set_option maxRecDepth 100000 in
theorem k7_setEyes (l : Launch) (D : va_G) (cI cJ : ClassId) (xm : Nat) (xm_25 xm_26 xm_27 xm_29 xm_30 xm_31 : Value) (mm : Nat → Int32) (a1 : Int32) (a2 : Int32) (a3 : Int32) : cw_Mv l yX7_setEyes wsX7_setEyes (cw_rm 1) D [(cI, .int), (cJ, .long)] [.ref xm, .int a1, .int a2, .int a3] [(xm, c7 xm_25 xm_26 xm_27 xm_29 xm_30 xm_31 mm)] 0 0 (fun _ : Unit => True) (fun _ : Unit => [(xm, c7 xm_25 xm_26 xm_27 xm_29 xm_30 xm_31 (s7_setEyes mm a1 a2 a3))]) := by
  refine cw_ofv (cc := cX7_setEyes) (maxL := 4) (ret := none) (by decide) rfl (Nat.le_of_ble_eq_true rfl) rfl ?_
  intro p e s m args below meth c A ls Q hin0 hret
  obtain ⟨hx, hb, hr, hml, hts, hown, hlocks, hin, hP, hK, hD, hN, hA, hl⟩ := hin0
  have hS : va_S A s.heap s.heap [] := va_S.rf
  have hl : lv_has ls 4 [(0, .ref xm), (1, .int a1), (2, .int a2), (3, .int a3)] := hl
  have lf25 := hts (.fieldLink RX7 25 "BurnerlineModel" "light" "I") (by decide +kernel)
  have i7 : ∀ w ∈ wsX70, w ∈ wsX7_setEyes := by decide +kernel
  have lf28 := hts (.fieldLink RX7 28 "BurnerlineModel" "none" "I") (by decide +kernel)
  have lf31 := hts (.fieldLink RX7 31 "BurnerlineModel" "check" "I") (by decide +kernel)
  refine lv_aload_n hx hb dX7_setEyes_0 rfl (lv_at hl 0 rfl) ?_
  refine lv_iload_n hx hb dX7_setEyes_1 rfl (lv_at hl 1 rfl) ?_
  refine lv_iconst (v := 1) hx hb dX7_setEyes_2 (by decide) ?_
  refine lv_iconst (v := 5) hx hb dX7_setEyes_3 (by decide) ?_
  refine cw_cSi (As := [.int a1, .int 1, .int 5]) (rest := [.ref xm]) (wc := []) (wr := [(xm, c7 xm_25 xm_26 xm_27 xm_29 xm_30 xm_31 mm)]) ⟨hx, hb, hml, hown, hts⟩ (k7_in l D cI cJ a1 1 5) (va_cwS 3 hts gX7_setEyes_X7_in rfl rfl rfl (by decide +kernel) ⟨Nat.le_of_ble_eq_true rfl, Nat.le_of_ble_eq_true rfl⟩) hK hN hP hD hS hA [] [0] rfl rfl (by decide) (by decide) (by decide) rfl hl.1 rfl (Nat.le_of_ble_eq_true rfl) dX7_setEyes_4 ⟨Nat.le_of_ble_eq_true rfl, Nat.le_of_ble_eq_true rfl⟩ (fun r2 u1 H locs hw hP hD hS => ?_)
  have hr2 : r2 = (s7_in a1 1 5) := hw
  have hP : va_P D vwCl [(xm, c7 xm_25 xm_26 xm_27 xm_29 xm_30 xm_31 mm)] H := hP
  have hD : va_D A [(xm, c7 xm_25 xm_26 xm_27 xm_29 xm_30 xm_31 mm)] := hD
  have J10 : ∀ (w11 : Int32), w11 = (if r2 = 0 then 0 else (if (s7_in a2 1 5) = 0 then 0 else (if (s7_in a3 5 100) = 0 then 0 else 1))) → ∀ (H : Heap) (locs : List Loc), va_P D vwCl [(xm, c7 xm_25 xm_26 xm_27 xm_29 xm_30 xm_31 mm)] H → va_D A [(xm, c7 xm_25 xm_26 xm_27 xm_29 xm_30 xm_31 mm)] → va_S A s.heap H locs → W p l e (cw_rm 1) s m args below meth c H locs 0 0 (Q) (F0 m 34 ls [.int w11, .ref xm]) := by
    intro w11 hw11 H locs hP hD hS
    refine cw_cVi (As := [.int w11]) (rest := []) (wc := [(xm, c7 xm_25 xm_26 xm_27 xm_29 xm_30 xm_31 mm)]) (wr := []) ⟨hx, hb, hml, hown, hts⟩ (k7_asksSetting l D cI cJ xm xm_25 xm_26 xm_27 xm_29 xm_30 xm_31 mm w11) (cwV 1 hts gX7_setEyes_X7_asksSetting rfl rfl rfl (by decide +kernel) ⟨Nat.le_of_ble_eq_true rfl, Nat.le_of_ble_eq_true rfl⟩) hK hN hP hD hS hA [0] [] rfl rfl (by decide) (by decide) (by decide) 0 (ci := 7) rfl rfl rfl rfl hl.1 rfl (Nat.le_of_ble_eq_true rfl) dX7_setEyes_34 ⟨Nat.le_of_ble_eq_true rfl, Nat.le_of_ble_eq_true rfl⟩ (fun r13 u12 H locs hw hP hD hS => ?_)
    have hr13 : r13 = ((s7_asksSetting mm w11).1) := hw
    obtain ⟨v14, hv14⟩ : ∃ z : Nat → Int32, z = ((s7_asksSetting mm w11).2) := ⟨_, rfl⟩
    have hP : va_P D vwCl [(xm, c7 xm_25 xm_26 xm_27 xm_29 xm_30 xm_31 v14)] H := by rw [hv14]; exact hP
    have hD : va_D A [(xm, c7 xm_25 xm_26 xm_27 xm_29 xm_30 xm_31 v14)] := by rw [hv14]; exact hD
    have J16 : ∀ (w17 : Nat → Int32), w17 = (if r13 = 0 then v14 else (upd (upd (upd v14 6 a1) 7 a2) 8 a3)) → ∀ (H : Heap) (locs : List Loc), va_P D vwCl [(xm, c7 xm_25 xm_26 xm_27 xm_29 xm_30 xm_31 w17)] H → va_D A [(xm, c7 xm_25 xm_26 xm_27 xm_29 xm_30 xm_31 w17)] → va_S A s.heap H locs → W p l e (cw_rm 1) s m args below meth c H locs 0 0 (Q) (F0 m 55 ls []) := by
      intro w17 hw17 H locs hP hD hS
      have hsp : (s7_setEyes mm a1 a2 a3) = (w17 : (Nat → Int32)) := by simp only [s7_setEyes, ← hr2, ← hw11, ← hv14, ← hr13, ← hw17]
      exact hret _ _ _ _ _ _ _ hP hD hS dX7_setEyes_55 ⟨(), trivial, (by rw [hsp])⟩ (Nat.le_of_ble_eq_true rfl) (Nat.le_of_ble_eq_true rfl)
    refine lv_if_eq (tgt := 55) hx hb dX7_setEyes_37 (by decide) (fun z15 => ?_) (fun z15 => ?_)
    · exact J16 v14 (by simp only [if_pos z15]) _ _ hP hD hS
    · refine lv_aload_n hx hb dX7_setEyes_40 rfl (lv_at hl 0 rfl) ?_
      refine lv_iload_n hx hb dX7_setEyes_41 rfl (lv_at hl 1 rfl) ?_
      refine va_put (D := D) (ci := 7) (v := .int a1) (ty := .int) (C := RX7) (T := TX7) (N := 35) hx hb hts i7 tyX7 tyX7_ok nmX7 hown hK hP hD hS 0 rfl rfl 6 (by decide) lf25 (fun _ h9 => h9) rfl (by decide +kernel) rfl rfl (Nat.le_of_ble_eq_true rfl) dX7_setEyes_42 (fun H locs hP hD hS => ?_)
      have hP : va_P D vwCl [(xm, c7 xm_25 xm_26 xm_27 xm_29 xm_30 xm_31 (upd v14 6 a1))] H := (congrArg (fun z9 => va_P D vwCl [(xm, .inr (7, z9))] H) (cs7_6 xm_25 xm_26 xm_27 xm_29 xm_30 xm_31 v14 a1)).mp hP
      have hD : va_D A [(xm, c7 xm_25 xm_26 xm_27 xm_29 xm_30 xm_31 (upd v14 6 a1))] := (congrArg (fun z9 => va_D A [(xm, .inr (7, z9))]) (cs7_6 xm_25 xm_26 xm_27 xm_29 xm_30 xm_31 v14 a1)).mp hD
      refine lv_aload_n hx hb dX7_setEyes_45 rfl (lv_at hl 0 rfl) ?_
      refine lv_iload_n hx hb dX7_setEyes_46 rfl (lv_at hl 2 rfl) ?_
      refine va_put (D := D) (ci := 7) (v := .int a2) (ty := .int) (C := RX7) (T := TX7) (N := 35) hx hb hts i7 tyX7 tyX7_ok nmX7 hown hK hP hD hS 0 rfl rfl 7 (by decide) lf28 (fun _ h9 => h9) rfl (by decide +kernel) rfl rfl (Nat.le_of_ble_eq_true rfl) dX7_setEyes_47 (fun H locs hP hD hS => ?_)
      have hP : va_P D vwCl [(xm, c7 xm_25 xm_26 xm_27 xm_29 xm_30 xm_31 (upd (upd v14 6 a1) 7 a2))] H := (congrArg (fun z9 => va_P D vwCl [(xm, .inr (7, z9))] H) (cs7_7 xm_25 xm_26 xm_27 xm_29 xm_30 xm_31 (upd v14 6 a1) a2)).mp hP
      have hD : va_D A [(xm, c7 xm_25 xm_26 xm_27 xm_29 xm_30 xm_31 (upd (upd v14 6 a1) 7 a2))] := (congrArg (fun z9 => va_D A [(xm, .inr (7, z9))]) (cs7_7 xm_25 xm_26 xm_27 xm_29 xm_30 xm_31 (upd v14 6 a1) a2)).mp hD
      refine lv_aload_n hx hb dX7_setEyes_50 rfl (lv_at hl 0 rfl) ?_
      refine lv_iload_n hx hb dX7_setEyes_51 rfl (lv_at hl 3 rfl) ?_
      refine va_put (D := D) (ci := 7) (v := .int a3) (ty := .int) (C := RX7) (T := TX7) (N := 35) hx hb hts i7 tyX7 tyX7_ok nmX7 hown hK hP hD hS 0 rfl rfl 8 (by decide) lf31 (fun _ h9 => h9) rfl (by decide +kernel) rfl rfl (Nat.le_of_ble_eq_true rfl) dX7_setEyes_52 (fun H locs hP hD hS => ?_)
      have hP : va_P D vwCl [(xm, c7 xm_25 xm_26 xm_27 xm_29 xm_30 xm_31 (upd (upd (upd v14 6 a1) 7 a2) 8 a3))] H := (congrArg (fun z9 => va_P D vwCl [(xm, .inr (7, z9))] H) (cs7_8 xm_25 xm_26 xm_27 xm_29 xm_30 xm_31 (upd (upd v14 6 a1) 7 a2) a3)).mp hP
      have hD : va_D A [(xm, c7 xm_25 xm_26 xm_27 xm_29 xm_30 xm_31 (upd (upd (upd v14 6 a1) 7 a2) 8 a3))] := (congrArg (fun z9 => va_D A [(xm, .inr (7, z9))]) (cs7_8 xm_25 xm_26 xm_27 xm_29 xm_30 xm_31 (upd (upd v14 6 a1) 7 a2) a3)).mp hD
      exact J16 (upd (upd (upd v14 6 a1) 7 a2) 8 a3) (by simp only [if_neg z15]) _ _ hP hD hS
  refine lv_if_eq (tgt := 33) hx hb dX7_setEyes_7 (by decide) (fun z3 => ?_) (fun z3 => ?_)
  · refine lv_iconst (v := 0) hx hb dX7_setEyes_33 (by decide) ?_
    exact J10 0 (by simp only [if_pos z3]) _ _ hP hD hS
  · refine lv_iload_n hx hb dX7_setEyes_10 rfl (lv_at hl 2 rfl) ?_
    refine lv_iconst (v := 1) hx hb dX7_setEyes_11 (by decide) ?_
    refine lv_iconst (v := 5) hx hb dX7_setEyes_12 (by decide) ?_
    refine cw_cSi (As := [.int a2, .int 1, .int 5]) (rest := [.ref xm]) (wc := []) (wr := [(xm, c7 xm_25 xm_26 xm_27 xm_29 xm_30 xm_31 mm)]) ⟨hx, hb, hml, hown, hts⟩ (k7_in l D cI cJ a2 1 5) (va_cwS 3 hts gX7_setEyes_X7_in rfl rfl rfl (by decide +kernel) ⟨Nat.le_of_ble_eq_true rfl, Nat.le_of_ble_eq_true rfl⟩) hK hN hP hD hS hA [] [0] rfl rfl (by decide) (by decide) (by decide) rfl hl.1 rfl (Nat.le_of_ble_eq_true rfl) dX7_setEyes_13 ⟨Nat.le_of_ble_eq_true rfl, Nat.le_of_ble_eq_true rfl⟩ (fun r5 u4 H locs hw hP hD hS => ?_)
    have hr5 : r5 = (s7_in a2 1 5) := hw
    have hP : va_P D vwCl [(xm, c7 xm_25 xm_26 xm_27 xm_29 xm_30 xm_31 mm)] H := hP
    have hD : va_D A [(xm, c7 xm_25 xm_26 xm_27 xm_29 xm_30 xm_31 mm)] := hD
    refine lv_if_eq (tgt := 33) hx hb dX7_setEyes_16 (by decide) (fun z6 => ?_) (fun z6 => ?_)
    · refine lv_iconst (v := 0) hx hb dX7_setEyes_33 (by decide) ?_
      exact J10 0 (by simp only [← hr5, if_neg z3, if_pos z6]) _ _ hP hD hS
    · refine lv_iload_n hx hb dX7_setEyes_19 rfl (lv_at hl 3 rfl) ?_
      refine lv_iconst (v := 5) hx hb dX7_setEyes_20 (by decide) ?_
      refine lv_bipush (v := 100) hx hb dX7_setEyes_21 (by decide) ?_
      refine cw_cSi (As := [.int a3, .int 5, .int 100]) (rest := [.ref xm]) (wc := []) (wr := [(xm, c7 xm_25 xm_26 xm_27 xm_29 xm_30 xm_31 mm)]) ⟨hx, hb, hml, hown, hts⟩ (k7_in l D cI cJ a3 5 100) (va_cwS 3 hts gX7_setEyes_X7_in rfl rfl rfl (by decide +kernel) ⟨Nat.le_of_ble_eq_true rfl, Nat.le_of_ble_eq_true rfl⟩) hK hN hP hD hS hA [] [0] rfl rfl (by decide) (by decide) (by decide) rfl hl.1 rfl (Nat.le_of_ble_eq_true rfl) dX7_setEyes_23 ⟨Nat.le_of_ble_eq_true rfl, Nat.le_of_ble_eq_true rfl⟩ (fun r8 u7 H locs hw hP hD hS => ?_)
      have hr8 : r8 = (s7_in a3 5 100) := hw
      have hP : va_P D vwCl [(xm, c7 xm_25 xm_26 xm_27 xm_29 xm_30 xm_31 mm)] H := hP
      have hD : va_D A [(xm, c7 xm_25 xm_26 xm_27 xm_29 xm_30 xm_31 mm)] := hD
      refine lv_if_eq (tgt := 33) hx hb dX7_setEyes_26 (by decide) (fun z9 => ?_) (fun z9 => ?_)
      · refine lv_iconst (v := 0) hx hb dX7_setEyes_33 (by decide) ?_
        exact J10 0 (by simp only [← hr5, ← hr8, if_neg z3, if_neg z6, if_pos z9]) _ _ hP hD hS
      · refine lv_iconst (v := 1) hx hb dX7_setEyes_29 (by decide) ?_
        refine lv_goto (tgt := 34) hx hb dX7_setEyes_30 (by decide) ?_
        exact J10 1 (by simp only [← hr5, ← hr8, if_neg z3, if_neg z6, if_neg z9]) _ _ hP hD hS

set_option maxHeartbeats 4000000 in
set_option maxRecDepth 100000 in
theorem k7_setFurnace (l : Launch) (D : va_G) (cI cJ : ClassId) (xm : Nat) (xm_25 xm_26 xm_27 xm_29 xm_30 xm_31 : Value) (mm : Nat → Int32) (a1 : Int32) (a2 : Int32) (a3 : Int32) : cw_Mv l yX7_setFurnace wsX7_setFurnace (cw_rm 1) D [(cI, .int), (cJ, .long)] [.ref xm, .int a1, .int a2, .int a3] [(xm, c7 xm_25 xm_26 xm_27 xm_29 xm_30 xm_31 mm)] 0 0 (fun _ : Unit => True) (fun _ : Unit => [(xm, c7 xm_25 xm_26 xm_27 xm_29 xm_30 xm_31 (s7_setFurnace mm a1 a2 a3))]) := by
  refine cw_ofv (cc := cX7_setFurnace) (maxL := 4) (ret := none) (by decide) rfl (Nat.le_of_ble_eq_true rfl) rfl ?_
  intro p e s m args below meth c A ls Q hin0 hret
  obtain ⟨hx, hb, hr, hml, hts, hown, hlocks, hin, hP, hK, hD, hN, hA, hl⟩ := hin0
  have hS : va_S A s.heap s.heap [] := va_S.rf
  have hl : lv_has ls 4 [(0, .ref xm), (1, .int a1), (2, .int a2), (3, .int a3)] := hl
  have lf34 := hts (.fieldLink RX7 34 "BurnerlineModel" "volume" "I") (by decide +kernel)
  have i7 : ∀ w ∈ wsX70, w ∈ wsX7_setFurnace := by decide +kernel
  have lf37 := hts (.fieldLink RX7 37 "BurnerlineModel" "airStep" "I") (by decide +kernel)
  have lf40 := hts (.fieldLink RX7 40 "BurnerlineModel" "fuelStep" "I") (by decide +kernel)
  refine lv_aload_n hx hb dX7_setFurnace_0 rfl (lv_at hl 0 rfl) ?_
  refine lv_iload_n hx hb dX7_setFurnace_1 rfl (lv_at hl 1 rfl) ?_
  refine lv_iconst (v := 1) hx hb dX7_setFurnace_2 (by decide) ?_
  refine lv_sipush (v := 500) hx hb dX7_setFurnace_3 (by decide) ?_
  refine cw_cSi (As := [.int a1, .int 1, .int 500]) (rest := [.ref xm]) (wc := []) (wr := [(xm, c7 xm_25 xm_26 xm_27 xm_29 xm_30 xm_31 mm)]) ⟨hx, hb, hml, hown, hts⟩ (k7_in l D cI cJ a1 1 500) (va_cwS 3 hts gX7_setFurnace_X7_in rfl rfl rfl (by decide +kernel) ⟨Nat.le_of_ble_eq_true rfl, Nat.le_of_ble_eq_true rfl⟩) hK hN hP hD hS hA [] [0] rfl rfl (by decide) (by decide) (by decide) rfl hl.1 rfl (Nat.le_of_ble_eq_true rfl) dX7_setFurnace_6 ⟨Nat.le_of_ble_eq_true rfl, Nat.le_of_ble_eq_true rfl⟩ (fun r2 u1 H locs hw hP hD hS => ?_)
  have hr2 : r2 = (s7_in a1 1 500) := hw
  have hP : va_P D vwCl [(xm, c7 xm_25 xm_26 xm_27 xm_29 xm_30 xm_31 mm)] H := hP
  have hD : va_D A [(xm, c7 xm_25 xm_26 xm_27 xm_29 xm_30 xm_31 mm)] := hD
  have J10 : ∀ (w11 : Int32), w11 = (if r2 = 0 then 0 else (if (s7_in a2 1 50) = 0 then 0 else (if (s7_in a3 1 50) = 0 then 0 else 1))) → ∀ (H : Heap) (locs : List Loc), va_P D vwCl [(xm, c7 xm_25 xm_26 xm_27 xm_29 xm_30 xm_31 mm)] H → va_D A [(xm, c7 xm_25 xm_26 xm_27 xm_29 xm_30 xm_31 mm)] → va_S A s.heap H locs → W p l e (cw_rm 1) s m args below meth c H locs 0 0 (Q) (F0 m 37 ls [.int w11, .ref xm]) := by
    intro w11 hw11 H locs hP hD hS
    refine cw_cVi (As := [.int w11]) (rest := []) (wc := [(xm, c7 xm_25 xm_26 xm_27 xm_29 xm_30 xm_31 mm)]) (wr := []) ⟨hx, hb, hml, hown, hts⟩ (k7_asksSetting l D cI cJ xm xm_25 xm_26 xm_27 xm_29 xm_30 xm_31 mm w11) (cwV 1 hts gX7_setFurnace_X7_asksSetting rfl rfl rfl (by decide +kernel) ⟨Nat.le_of_ble_eq_true rfl, Nat.le_of_ble_eq_true rfl⟩) hK hN hP hD hS hA [0] [] rfl rfl (by decide) (by decide) (by decide) 0 (ci := 7) rfl rfl rfl rfl hl.1 rfl (Nat.le_of_ble_eq_true rfl) dX7_setFurnace_37 ⟨Nat.le_of_ble_eq_true rfl, Nat.le_of_ble_eq_true rfl⟩ (fun r13 u12 H locs hw hP hD hS => ?_)
    have hr13 : r13 = ((s7_asksSetting mm w11).1) := hw
    obtain ⟨v14, hv14⟩ : ∃ z : Nat → Int32, z = ((s7_asksSetting mm w11).2) := ⟨_, rfl⟩
    have hP : va_P D vwCl [(xm, c7 xm_25 xm_26 xm_27 xm_29 xm_30 xm_31 v14)] H := by rw [hv14]; exact hP
    have hD : va_D A [(xm, c7 xm_25 xm_26 xm_27 xm_29 xm_30 xm_31 v14)] := by rw [hv14]; exact hD
    have J16 : ∀ (w17 : Nat → Int32), w17 = (if r13 = 0 then v14 else (upd (upd (upd v14 9 a1) 10 a2) 11 a3)) → ∀ (H : Heap) (locs : List Loc), va_P D vwCl [(xm, c7 xm_25 xm_26 xm_27 xm_29 xm_30 xm_31 w17)] H → va_D A [(xm, c7 xm_25 xm_26 xm_27 xm_29 xm_30 xm_31 w17)] → va_S A s.heap H locs → W p l e (cw_rm 1) s m args below meth c H locs 0 0 (Q) (F0 m 58 ls []) := by
      intro w17 hw17 H locs hP hD hS
      have hsp : (s7_setFurnace mm a1 a2 a3) = (w17 : (Nat → Int32)) := by simp only [s7_setFurnace, ← hr2, ← hw11, ← hv14, ← hr13, ← hw17]
      exact hret _ _ _ _ _ _ _ hP hD hS dX7_setFurnace_58 ⟨(), trivial, (by rw [hsp])⟩ (Nat.le_of_ble_eq_true rfl) (Nat.le_of_ble_eq_true rfl)
    refine lv_if_eq (tgt := 58) hx hb dX7_setFurnace_40 (by decide) (fun z15 => ?_) (fun z15 => ?_)
    · exact J16 v14 (by simp only [if_pos z15]) _ _ hP hD hS
    · refine lv_aload_n hx hb dX7_setFurnace_43 rfl (lv_at hl 0 rfl) ?_
      refine lv_iload_n hx hb dX7_setFurnace_44 rfl (lv_at hl 1 rfl) ?_
      refine va_put (D := D) (ci := 7) (v := .int a1) (ty := .int) (C := RX7) (T := TX7) (N := 35) hx hb hts i7 tyX7 tyX7_ok nmX7 hown hK hP hD hS 0 rfl rfl 9 (by decide) lf34 (fun _ h9 => h9) rfl (by decide +kernel) rfl rfl (Nat.le_of_ble_eq_true rfl) dX7_setFurnace_45 (fun H locs hP hD hS => ?_)
      have hP : va_P D vwCl [(xm, c7 xm_25 xm_26 xm_27 xm_29 xm_30 xm_31 (upd v14 9 a1))] H := (congrArg (fun z9 => va_P D vwCl [(xm, .inr (7, z9))] H) (cs7_9 xm_25 xm_26 xm_27 xm_29 xm_30 xm_31 v14 a1)).mp hP
      have hD : va_D A [(xm, c7 xm_25 xm_26 xm_27 xm_29 xm_30 xm_31 (upd v14 9 a1))] := (congrArg (fun z9 => va_D A [(xm, .inr (7, z9))]) (cs7_9 xm_25 xm_26 xm_27 xm_29 xm_30 xm_31 v14 a1)).mp hD
      refine lv_aload_n hx hb dX7_setFurnace_48 rfl (lv_at hl 0 rfl) ?_
      refine lv_iload_n hx hb dX7_setFurnace_49 rfl (lv_at hl 2 rfl) ?_
      refine va_put (D := D) (ci := 7) (v := .int a2) (ty := .int) (C := RX7) (T := TX7) (N := 35) hx hb hts i7 tyX7 tyX7_ok nmX7 hown hK hP hD hS 0 rfl rfl 10 (by decide) lf37 (fun _ h9 => h9) rfl (by decide +kernel) rfl rfl (Nat.le_of_ble_eq_true rfl) dX7_setFurnace_50 (fun H locs hP hD hS => ?_)
      have hP : va_P D vwCl [(xm, c7 xm_25 xm_26 xm_27 xm_29 xm_30 xm_31 (upd (upd v14 9 a1) 10 a2))] H := (congrArg (fun z9 => va_P D vwCl [(xm, .inr (7, z9))] H) (cs7_10 xm_25 xm_26 xm_27 xm_29 xm_30 xm_31 (upd v14 9 a1) a2)).mp hP
      have hD : va_D A [(xm, c7 xm_25 xm_26 xm_27 xm_29 xm_30 xm_31 (upd (upd v14 9 a1) 10 a2))] := (congrArg (fun z9 => va_D A [(xm, .inr (7, z9))]) (cs7_10 xm_25 xm_26 xm_27 xm_29 xm_30 xm_31 (upd v14 9 a1) a2)).mp hD
      refine lv_aload_n hx hb dX7_setFurnace_53 rfl (lv_at hl 0 rfl) ?_
      refine lv_iload_n hx hb dX7_setFurnace_54 rfl (lv_at hl 3 rfl) ?_
      refine va_put (D := D) (ci := 7) (v := .int a3) (ty := .int) (C := RX7) (T := TX7) (N := 35) hx hb hts i7 tyX7 tyX7_ok nmX7 hown hK hP hD hS 0 rfl rfl 11 (by decide) lf40 (fun _ h9 => h9) rfl (by decide +kernel) rfl rfl (Nat.le_of_ble_eq_true rfl) dX7_setFurnace_55 (fun H locs hP hD hS => ?_)
      have hP : va_P D vwCl [(xm, c7 xm_25 xm_26 xm_27 xm_29 xm_30 xm_31 (upd (upd (upd v14 9 a1) 10 a2) 11 a3))] H := (congrArg (fun z9 => va_P D vwCl [(xm, .inr (7, z9))] H) (cs7_11 xm_25 xm_26 xm_27 xm_29 xm_30 xm_31 (upd (upd v14 9 a1) 10 a2) a3)).mp hP
      have hD : va_D A [(xm, c7 xm_25 xm_26 xm_27 xm_29 xm_30 xm_31 (upd (upd (upd v14 9 a1) 10 a2) 11 a3))] := (congrArg (fun z9 => va_D A [(xm, .inr (7, z9))]) (cs7_11 xm_25 xm_26 xm_27 xm_29 xm_30 xm_31 (upd (upd v14 9 a1) 10 a2) a3)).mp hD
      exact J16 (upd (upd (upd v14 9 a1) 10 a2) 11 a3) (by simp only [if_neg z15]) _ _ hP hD hS
  refine lv_if_eq (tgt := 36) hx hb dX7_setFurnace_9 (by decide) (fun z3 => ?_) (fun z3 => ?_)
  · refine lv_iconst (v := 0) hx hb dX7_setFurnace_36 (by decide) ?_
    exact J10 0 (by simp only [if_pos z3]) _ _ hP hD hS
  · refine lv_iload_n hx hb dX7_setFurnace_12 rfl (lv_at hl 2 rfl) ?_
    refine lv_iconst (v := 1) hx hb dX7_setFurnace_13 (by decide) ?_
    refine lv_bipush (v := 50) hx hb dX7_setFurnace_14 (by decide) ?_
    refine cw_cSi (As := [.int a2, .int 1, .int 50]) (rest := [.ref xm]) (wc := []) (wr := [(xm, c7 xm_25 xm_26 xm_27 xm_29 xm_30 xm_31 mm)]) ⟨hx, hb, hml, hown, hts⟩ (k7_in l D cI cJ a2 1 50) (va_cwS 3 hts gX7_setFurnace_X7_in rfl rfl rfl (by decide +kernel) ⟨Nat.le_of_ble_eq_true rfl, Nat.le_of_ble_eq_true rfl⟩) hK hN hP hD hS hA [] [0] rfl rfl (by decide) (by decide) (by decide) rfl hl.1 rfl (Nat.le_of_ble_eq_true rfl) dX7_setFurnace_16 ⟨Nat.le_of_ble_eq_true rfl, Nat.le_of_ble_eq_true rfl⟩ (fun r5 u4 H locs hw hP hD hS => ?_)
    have hr5 : r5 = (s7_in a2 1 50) := hw
    have hP : va_P D vwCl [(xm, c7 xm_25 xm_26 xm_27 xm_29 xm_30 xm_31 mm)] H := hP
    have hD : va_D A [(xm, c7 xm_25 xm_26 xm_27 xm_29 xm_30 xm_31 mm)] := hD
    refine lv_if_eq (tgt := 36) hx hb dX7_setFurnace_19 (by decide) (fun z6 => ?_) (fun z6 => ?_)
    · refine lv_iconst (v := 0) hx hb dX7_setFurnace_36 (by decide) ?_
      exact J10 0 (by simp only [← hr5, if_neg z3, if_pos z6]) _ _ hP hD hS
    · refine lv_iload_n hx hb dX7_setFurnace_22 rfl (lv_at hl 3 rfl) ?_
      refine lv_iconst (v := 1) hx hb dX7_setFurnace_23 (by decide) ?_
      refine lv_bipush (v := 50) hx hb dX7_setFurnace_24 (by decide) ?_
      refine cw_cSi (As := [.int a3, .int 1, .int 50]) (rest := [.ref xm]) (wc := []) (wr := [(xm, c7 xm_25 xm_26 xm_27 xm_29 xm_30 xm_31 mm)]) ⟨hx, hb, hml, hown, hts⟩ (k7_in l D cI cJ a3 1 50) (va_cwS 3 hts gX7_setFurnace_X7_in rfl rfl rfl (by decide +kernel) ⟨Nat.le_of_ble_eq_true rfl, Nat.le_of_ble_eq_true rfl⟩) hK hN hP hD hS hA [] [0] rfl rfl (by decide) (by decide) (by decide) rfl hl.1 rfl (Nat.le_of_ble_eq_true rfl) dX7_setFurnace_26 ⟨Nat.le_of_ble_eq_true rfl, Nat.le_of_ble_eq_true rfl⟩ (fun r8 u7 H locs hw hP hD hS => ?_)
      have hr8 : r8 = (s7_in a3 1 50) := hw
      have hP : va_P D vwCl [(xm, c7 xm_25 xm_26 xm_27 xm_29 xm_30 xm_31 mm)] H := hP
      have hD : va_D A [(xm, c7 xm_25 xm_26 xm_27 xm_29 xm_30 xm_31 mm)] := hD
      refine lv_if_eq (tgt := 36) hx hb dX7_setFurnace_29 (by decide) (fun z9 => ?_) (fun z9 => ?_)
      · refine lv_iconst (v := 0) hx hb dX7_setFurnace_36 (by decide) ?_
        exact J10 0 (by simp only [← hr5, ← hr8, if_neg z3, if_neg z6, if_pos z9]) _ _ hP hD hS
      · refine lv_iconst (v := 1) hx hb dX7_setFurnace_32 (by decide) ?_
        refine lv_goto (tgt := 37) hx hb dX7_setFurnace_33 (by decide) ?_
        exact J10 1 (by simp only [← hr5, ← hr8, if_neg z3, if_neg z6, if_neg z9]) _ _ hP hD hS

set_option maxHeartbeats 4000000 in
set_option maxRecDepth 100000 in
theorem k7_looks (l : Launch) (D : va_G) (cI cJ : ClassId) (xm : Nat) (xm_25 xm_26 xm_27 xm_29 xm_30 xm_31 : Value) (mm : Nat → Int32) (a1 : Int32) (a2 : Int32) (a3 : Int32) : cw_Mi l yX7_looks wsX7_looks (cw_rm 1) D [(cI, .int), (cJ, .long)] [.ref xm, .int a1, .int a2, .int a3] [(xm, c7 xm_25 xm_26 xm_27 xm_29 xm_30 xm_31 mm)] 0 0 (fun r (_ : Unit) => r = (s7_looks mm a1 a2 a3).1) (fun _ : Unit => [(xm, c7 xm_25 xm_26 xm_27 xm_29 xm_30 xm_31 (s7_looks mm a1 a2 a3).2)]) := by
  refine cw_ofi (cc := cX7_looks) (maxL := 5) (ret := (some .int)) (by decide) rfl (Nat.le_of_ble_eq_true rfl) rfl ?_
  intro p e s m args below meth c A ls Q hin0 hret
  obtain ⟨hx, hb, hr, hml, hts, hown, hlocks, hin, hP, hK, hD, hN, hA, hl⟩ := hin0
  have hS : va_S A s.heap s.heap [] := va_S.rf
  have hl : lv_has ls 5 [(0, .ref xm), (1, .int a1), (2, .int a2), (3, .int a3)] := hl
  have lf87 := hts (.fieldLink RX7 87 "BurnerlineModel" "seen" "I") (by decide +kernel)
  have i7 : ∀ w ∈ wsX70, w ∈ wsX7_looks := by decide +kernel
  have lf28 := hts (.fieldLink RX7 28 "BurnerlineModel" "none" "I") (by decide +kernel)
  have lf25 := hts (.fieldLink RX7 25 "BurnerlineModel" "light" "I") (by decide +kernel)
  refine lv_iload_n hx hb dX7_looks_0 rfl (lv_at hl 1 rfl) ?_
  refine lv_iconst (v := 3) hx hb dX7_looks_1 (by decide) ?_
  refine lv_iload_n hx hb dX7_looks_2 rfl (lv_at hl 2 rfl) ?_
  refine lv_iadd hx hb dX7_looks_3 ?_
  refine cw_cSi (As := [.int a1, .int (3 + a2)]) (rest := []) (wc := []) (wr := [(xm, c7 xm_25 xm_26 xm_27 xm_29 xm_30 xm_31 mm)]) ⟨hx, hb, hml, hown, hts⟩ (k7_has l D cI cJ a1 (3 + a2)) (va_cwS 2 hts gX7_looks_X7_has rfl rfl rfl (by decide +kernel) ⟨Nat.le_of_ble_eq_true rfl, Nat.le_of_ble_eq_true rfl⟩) hK hN hP hD hS hA [] [0] rfl rfl (by decide) (by decide) (by decide) rfl hl.1 rfl (Nat.le_of_ble_eq_true rfl) dX7_looks_4 ⟨Nat.le_of_ble_eq_true rfl, Nat.le_of_ble_eq_true rfl⟩ (fun r2 u1 H locs hw hP hD hS => ?_)
  have hr2 : r2 = (s7_has a1 (3 + a2)) := hw
  have hP : va_P D vwCl [(xm, c7 xm_25 xm_26 xm_27 xm_29 xm_30 xm_31 mm)] H := hP
  have hD : va_D A [(xm, c7 xm_25 xm_26 xm_27 xm_29 xm_30 xm_31 mm)] := hD
  refine lv_istore (lv' := [(4, .int r2), (0, .ref xm), (1, .int a1), (2, .int a2), (3, .int a3)]) hx hb dX7_looks_7 hl (by decide) rfl (fun ls hl => ?_)
  refine lv_iload hx hb dX7_looks_9 (lv_at hl 0 rfl) ?_
  refine lv_aload_n hx hb dX7_looks_11 rfl (lv_at hl 1 rfl) ?_
  refine va_get (D := D) (ci := 7) (v := .int (mm 18)) (C := RX7) (T := TX7) (N := 35) hx hb hts i7 hown hK hP 0 rfl rfl 18 (by decide) lf87 (fun _ h9 => h9) rfl dX7_looks_12 ?_
  refine lv_iload_n hx hb dX7_looks_15 rfl (lv_at hl 3 rfl) ?_
  refine cw_cSi (As := [.int (mm 18), .int a2]) (rest := [.int r2]) (wc := []) (wr := [(xm, c7 xm_25 xm_26 xm_27 xm_29 xm_30 xm_31 mm)]) ⟨hx, hb, hml, hown, hts⟩ (k7_has l D cI cJ (mm 18) a2) (va_cwS 2 hts gX7_looks_X7_has rfl rfl rfl (by decide +kernel) ⟨Nat.le_of_ble_eq_true rfl, Nat.le_of_ble_eq_true rfl⟩) hK hN hP hD hS hA [] [0] rfl rfl (by decide) (by decide) (by decide) rfl hl.1 rfl (Nat.le_of_ble_eq_true rfl) dX7_looks_16 ⟨Nat.le_of_ble_eq_true rfl, Nat.le_of_ble_eq_true rfl⟩ (fun r4 u3 H locs hw hP hD hS => ?_)
  have hr4 : r4 = (s7_has (mm 18) a2) := hw
  have hP : va_P D vwCl [(xm, c7 xm_25 xm_26 xm_27 xm_29 xm_30 xm_31 mm)] H := hP
  have hD : va_D A [(xm, c7 xm_25 xm_26 xm_27 xm_29 xm_30 xm_31 mm)] := hD
  refine lv_icmp_ne (tgt := 24) hx hb dX7_looks_19 (by decide) (fun z5 => ?_) (fun z5 => ?_)
  · refine lv_iload_n hx hb dX7_looks_24 rfl (lv_at hl 4 rfl) ?_
    refine lv_iconst (v := 1) hx hb dX7_looks_25 (by decide) ?_
    refine lv_iadd hx hb dX7_looks_26 ?_
    refine lv_iload hx hb dX7_looks_27 (lv_at hl 0 rfl) ?_
    have J7 : ∀ (w8 : Int32), w8 = (if r2 = 0 then (mm 7) else (mm 6)) → W p l e (cw_rm 1) s m args below meth c H locs 0 0 (Q) (F0 m 43 ls [.int w8, .int (a3 + 1)]) := by
      intro w8 hw8
      refine lv_icmp_ge (tgt := 50) hx hb dX7_looks_43 (by decide) (fun z9 => ?_) (fun z9 => ?_)
      · refine lv_aload_n hx hb dX7_looks_50 rfl (lv_at hl 1 rfl) ?_
        refine lv_dup hx hb dX7_looks_51 rfl ?_
        refine va_get (D := D) (ci := 7) (v := .int (mm 18)) (C := RX7) (T := TX7) (N := 35) hx hb hts i7 hown hK hP 0 rfl rfl 18 (by decide) lf87 (fun _ h9 => h9) rfl dX7_looks_52 ?_
        refine lv_iload hx hb dX7_looks_55 (lv_at hl 0 rfl) ?_
        have J11 : ∀ (w12 : Int32), w12 = (if r2 = 0 then (-((1 : Int32) <<< (a2 &&& 31))) else ((1 : Int32) <<< (a2 &&& 31))) → W p l e (cw_rm 1) s m args below meth c H locs 0 0 (Q) (F0 m 70 ls [.int w12, .int (mm 18), .ref xm]) := by
          intro w12 hw12
          refine lv_iadd hx hb dX7_looks_70 ?_
          refine va_put (D := D) (ci := 7) (v := .int ((mm 18) + w12)) (ty := .int) (C := RX7) (T := TX7) (N := 35) hx hb hts i7 tyX7 tyX7_ok nmX7 hown hK hP hD hS 0 rfl rfl 18 (by decide) lf87 (fun _ h9 => h9) rfl (by decide +kernel) rfl rfl (Nat.le_of_ble_eq_true rfl) dX7_looks_71 (fun H locs hP hD hS => ?_)
          have hP : va_P D vwCl [(xm, c7 xm_25 xm_26 xm_27 xm_29 xm_30 xm_31 (upd mm 18 ((mm 18) + w12)))] H := (congrArg (fun z9 => va_P D vwCl [(xm, .inr (7, z9))] H) (cs7_18 xm_25 xm_26 xm_27 xm_29 xm_30 xm_31 mm ((mm 18) + w12))).mp hP
          have hD : va_D A [(xm, c7 xm_25 xm_26 xm_27 xm_29 xm_30 xm_31 (upd mm 18 ((mm 18) + w12)))] := (congrArg (fun z9 => va_D A [(xm, .inr (7, z9))]) (cs7_18 xm_25 xm_26 xm_27 xm_29 xm_30 xm_31 mm ((mm 18) + w12))).mp hD
          refine lv_iconst (v := 0) hx hb dX7_looks_74 (by decide) ?_
          have hsp : (s7_looks mm a1 a2 a3) = ((0, (upd mm 18 ((mm 18) + w12))) : Int32 × (Nat → Int32)) := by simp only [s7_looks, ← hr2, ← hr4, ← hw8, ← hw12, if_neg z5, if_pos z9]
          exact hret _ _ _ _ _ _ _ _ hP hD hS dX7_looks_75 rfl ⟨(), (by rw [hsp]), (by rw [hsp])⟩ (Nat.le_of_ble_eq_true rfl) (Nat.le_of_ble_eq_true rfl)
        refine lv_if_eq (tgt := 66) hx hb dX7_looks_57 (by decide) (fun z10 => ?_) (fun z10 => ?_)
        · refine lv_iconst (v := 1) hx hb dX7_looks_66 (by decide) ?_
          refine lv_iload_n hx hb dX7_looks_67 rfl (lv_at hl 3 rfl) ?_
          refine lv_ishl hx hb dX7_looks_68 ?_
          refine lv_ineg hx hb dX7_looks_69 ?_
          exact J11 (-((1 : Int32) <<< (a2 &&& 31))) (by simp only [if_pos z10])
        · refine lv_iconst (v := 1) hx hb dX7_looks_60 (by decide) ?_
          refine lv_iload_n hx hb dX7_looks_61 rfl (lv_at hl 3 rfl) ?_
          refine lv_ishl hx hb dX7_looks_62 ?_
          refine lv_goto (tgt := 70) hx hb dX7_looks_63 (by decide) ?_
          exact J11 ((1 : Int32) <<< (a2 &&& 31)) (by simp only [if_neg z10])
      · refine lv_iload_n hx hb dX7_looks_46 rfl (lv_at hl 4 rfl) ?_
        refine lv_iconst (v := 1) hx hb dX7_looks_47 (by decide) ?_
        refine lv_iadd hx hb dX7_looks_48 ?_
        have hsp : (s7_looks mm a1 a2 a3) = (((a3 + 1), mm) : Int32 × (Nat → Int32)) := by simp only [s7_looks, ← hr2, ← hr4, ← hw8, if_neg z5, if_neg z9]
        exact hret _ _ _ _ _ _ _ _ hP hD hS dX7_looks_49 rfl ⟨(), (by rw [hsp]), (by rw [hsp])⟩ (Nat.le_of_ble_eq_true rfl) (Nat.le_of_ble_eq_true rfl)
    refine lv_if_eq (tgt := 39) hx hb dX7_looks_29 (by decide) (fun z6 => ?_) (fun z6 => ?_)
    · refine lv_aload_n hx hb dX7_looks_39 rfl (lv_at hl 1 rfl) ?_
      refine va_get (D := D) (ci := 7) (v := .int (mm 7)) (C := RX7) (T := TX7) (N := 35) hx hb hts i7 hown hK hP 0 rfl rfl 7 (by decide) lf28 (fun _ h9 => h9) rfl dX7_looks_40 ?_
      exact J7 (mm 7) (by simp only [if_pos z6])
    · refine lv_aload_n hx hb dX7_looks_32 rfl (lv_at hl 1 rfl) ?_
      refine va_get (D := D) (ci := 7) (v := .int (mm 6)) (C := RX7) (T := TX7) (N := 35) hx hb hts i7 hown hK hP 0 rfl rfl 6 (by decide) lf25 (fun _ h9 => h9) rfl dX7_looks_33 ?_
      refine lv_goto (tgt := 43) hx hb dX7_looks_36 (by decide) ?_
      exact J7 (mm 6) (by simp only [if_neg z6])
  · refine lv_iconst (v := 0) hx hb dX7_looks_22 (by decide) ?_
    have hsp : (s7_looks mm a1 a2 a3) = ((0, mm) : Int32 × (Nat → Int32)) := by simp only [s7_looks, ← hr2, ← hr4, if_pos z5]
    exact hret _ _ _ _ _ _ _ _ hP hD hS dX7_looks_23 rfl ⟨(), (by rw [hsp]), (by rw [hsp])⟩ (Nat.le_of_ble_eq_true rfl) (Nat.le_of_ble_eq_true rfl)

set_option maxHeartbeats 4000000 in
set_option maxRecDepth 100000 in
theorem k7_goes (l : Launch) (D : va_G) (cI cJ : ClassId) (xm : Nat) (xm_25 xm_26 xm_27 xm_29 xm_30 xm_31 : Value) (mm : Nat → Int32) : cw_Mv l yX7_goes wsX7_goes (cw_rm 1) D [(cI, .int), (cJ, .long)] [.ref xm] [(xm, c7 xm_25 xm_26 xm_27 xm_29 xm_30 xm_31 mm)] 0 0 (fun _ : Unit => True) (fun _ : Unit => [(xm, c7 xm_25 xm_26 xm_27 xm_29 xm_30 xm_31 (s7_goes mm))]) := by
  refine cw_ofv (cc := cX7_goes) (maxL := 3) (ret := none) (by decide) rfl (Nat.le_of_ble_eq_true rfl) rfl ?_
  intro p e s m args below meth c A ls Q hin0 hret
  obtain ⟨hx, hb, hr, hml, hts, hown, hlocks, hin, hP, hK, hD, hN, hA, hl⟩ := hin0
  have hS : va_S A s.heap s.heap [] := va_S.rf
  have hl : lv_has ls 3 [(0, .ref xm)] := hl
  have lf77 := hts (.fieldLink RX7 77 "BurnerlineModel" "state" "I") (by decide +kernel)
  have i7 : ∀ w ∈ wsX70, w ∈ wsX7_goes := by decide +kernel
  have lf7 := hts (.fieldLink RX7 7 "BurnerlineModel" "rate" "I") (by decide +kernel)
  have lf90 := hts (.fieldLink RX7 90 "BurnerlineModel" "fuel" "I") (by decide +kernel)
  have lf93 := hts (.fieldLink RX7 93 "BurnerlineModel" "air" "I") (by decide +kernel)
  have lf37 := hts (.fieldLink RX7 37 "BurnerlineModel" "airStep" "I") (by decide +kernel)
  have lf40 := hts (.fieldLink RX7 40 "BurnerlineModel" "fuelStep" "I") (by decide +kernel)
  refine lv_aload_n hx hb dX7_goes_0 rfl (lv_at hl 0 rfl) ?_
  refine va_get (D := D) (ci := 7) (v := .int (mm 12)) (C := RX7) (T := TX7) (N := 35) hx hb hts i7 hown hK hP 0 rfl rfl 12 (by decide) lf77 (fun _ h9 => h9) rfl dX7_goes_1 ?_
  have J7 : ∀ (w8 : Int32), w8 = (if (mm 12) = 0 then 0 else (if (mm 12) = 1 then 100 else (if (mm 12) = 2 then 30 else (if (mm 12) = 3 then 30 else (if (mm 12) = 4 then (if (mm 1) ≤ (mm 16) then (mm 16) else (mm 1)) else 60))))) → W p l e (cw_rm 1) s m args below meth c s.heap [] 0 0 (Q) (F0 m 80 ls [.int w8]) := by
    intro w8 hw8
    refine lv_istore_n (lv' := [(1, .int w8), (0, .ref xm)]) hx hb dX7_goes_80 rfl hl (by decide) rfl (fun ls hl => ?_)
    refine lv_aload_n hx hb dX7_goes_81 rfl (lv_at hl 1 rfl) ?_
    refine va_get (D := D) (ci := 7) (v := .int (mm 12)) (C := RX7) (T := TX7) (N := 35) hx hb hts i7 hown hK hP 0 rfl rfl 12 (by decide) lf77 (fun _ h9 => h9) rfl dX7_goes_82 ?_
    refine lv_iconst (v := 3) hx hb dX7_goes_85 (by decide) ?_
    have J12 : ∀ (w13 : Int32), w13 = (if (mm 12) = 3 then 20 else (if (mm 12) = 4 then (if (mm 15) ≤ (mm 1) then (mm 15) else (mm 1)) else 0)) → W p l e (cw_rm 1) s m args below meth c s.heap [] 0 0 (Q) (F0 m 128 ls [.int w13]) := by
      intro w13 hw13
      refine lv_istore_n (lv' := [(2, .int w13), (1, .int w8), (0, .ref xm)]) hx hb dX7_goes_128 rfl hl (by decide) rfl (fun ls hl => ?_)
      refine lv_aload_n hx hb dX7_goes_129 rfl (lv_at hl 2 rfl) ?_
      refine lv_aload_n hx hb dX7_goes_130 rfl (lv_at hl 2 rfl) ?_
      refine va_get (D := D) (ci := 7) (v := .int (mm 15)) (C := RX7) (T := TX7) (N := 35) hx hb hts i7 hown hK hP 0 rfl rfl 15 (by decide) lf93 (fun _ h9 => h9) rfl dX7_goes_131 ?_
      refine lv_iload_n hx hb dX7_goes_134 rfl (lv_at hl 1 rfl) ?_
      refine lv_aload_n hx hb dX7_goes_135 rfl (lv_at hl 2 rfl) ?_
      refine va_get (D := D) (ci := 7) (v := .int (mm 10)) (C := RX7) (T := TX7) (N := 35) hx hb hts i7 hown hK hP 0 rfl rfl 10 (by decide) lf37 (fun _ h9 => h9) rfl dX7_goes_136 ?_
      refine cw_cSi (As := [.int (mm 15), .int w8, .int (mm 10)]) (rest := [.ref xm]) (wc := []) (wr := [(xm, c7 xm_25 xm_26 xm_27 xm_29 xm_30 xm_31 mm)]) ⟨hx, hb, hml, hown, hts⟩ (k7_nears l D cI cJ (mm 15) w8 (mm 10)) (va_cwS 3 hts gX7_goes_X7_nears rfl rfl rfl (by decide +kernel) ⟨Nat.le_of_ble_eq_true rfl, Nat.le_of_ble_eq_true rfl⟩) hK hN hP hD hS hA [] [0] rfl rfl (by decide) (by decide) (by decide) rfl hl.1 rfl (Nat.le_of_ble_eq_true rfl) dX7_goes_139 ⟨Nat.le_of_ble_eq_true rfl, Nat.le_of_ble_eq_true rfl⟩ (fun r15 u14 H locs hw hP hD hS => ?_)
      have hr15 : r15 = (s7_nears (mm 15) w8 (mm 10)) := hw
      have hP : va_P D vwCl [(xm, c7 xm_25 xm_26 xm_27 xm_29 xm_30 xm_31 mm)] H := hP
      have hD : va_D A [(xm, c7 xm_25 xm_26 xm_27 xm_29 xm_30 xm_31 mm)] := hD
      refine va_put (D := D) (ci := 7) (v := .int r15) (ty := .int) (C := RX7) (T := TX7) (N := 35) hx hb hts i7 tyX7 tyX7_ok nmX7 hown hK hP hD hS 0 rfl rfl 15 (by decide) lf93 (fun _ h9 => h9) rfl (by decide +kernel) rfl rfl (Nat.le_of_ble_eq_true rfl) dX7_goes_142 (fun H locs hP hD hS => ?_)
      have hP : va_P D vwCl [(xm, c7 xm_25 xm_26 xm_27 xm_29 xm_30 xm_31 (upd mm 15 r15))] H := (congrArg (fun z9 => va_P D vwCl [(xm, .inr (7, z9))] H) (cs7_15 xm_25 xm_26 xm_27 xm_29 xm_30 xm_31 mm r15)).mp hP
      have hD : va_D A [(xm, c7 xm_25 xm_26 xm_27 xm_29 xm_30 xm_31 (upd mm 15 r15))] := (congrArg (fun z9 => va_D A [(xm, .inr (7, z9))]) (cs7_15 xm_25 xm_26 xm_27 xm_29 xm_30 xm_31 mm r15)).mp hD
      refine lv_aload_n hx hb dX7_goes_145 rfl (lv_at hl 2 rfl) ?_
      refine lv_aload_n hx hb dX7_goes_146 rfl (lv_at hl 2 rfl) ?_
      refine va_get (D := D) (ci := 7) (v := .int ((upd mm 15 r15) 16)) (C := RX7) (T := TX7) (N := 35) hx hb hts i7 hown hK hP 0 rfl rfl 16 (by decide) lf90 (fun _ h9 => h9) rfl dX7_goes_147 ?_
      refine cw_topi (y := (mm 16)) (cw_updn _ _ (by decide)) ?_
      refine lv_iload_n hx hb dX7_goes_150 rfl (lv_at hl 0 rfl) ?_
      refine lv_aload_n hx hb dX7_goes_151 rfl (lv_at hl 2 rfl) ?_
      refine va_get (D := D) (ci := 7) (v := .int ((upd mm 15 r15) 12)) (C := RX7) (T := TX7) (N := 35) hx hb hts i7 hown hK hP 0 rfl rfl 12 (by decide) lf77 (fun _ h9 => h9) rfl dX7_goes_152 ?_
      refine cw_topi (y := (mm 12)) (cw_updn _ _ (by decide)) ?_
      refine lv_iconst (v := 3) hx hb dX7_goes_155 (by decide) ?_
      have J18 : ∀ (w19 : Int32), w19 = (if (mm 12) = 3 then (mm 11) else (if (mm 12) = 4 then (mm 11) else 100)) → W p l e (cw_rm 1) s m args below meth c H locs 0 0 (Q) (F0 m 176 ls [.int w19, .int w13, .int (mm 16), .ref xm]) := by
        intro w19 hw19
        refine cw_cSi (As := [.int (mm 16), .int w13, .int w19]) (rest := [.ref xm]) (wc := []) (wr := [(xm, c7 xm_25 xm_26 xm_27 xm_29 xm_30 xm_31 (upd mm 15 r15))]) ⟨hx, hb, hml, hown, hts⟩ (k7_nears l D cI cJ (mm 16) w13 w19) (va_cwS 3 hts gX7_goes_X7_nears rfl rfl rfl (by decide +kernel) ⟨Nat.le_of_ble_eq_true rfl, Nat.le_of_ble_eq_true rfl⟩) hK hN hP hD hS hA [] [0] rfl rfl (by decide) (by decide) (by decide) rfl hl.1 rfl (Nat.le_of_ble_eq_true rfl) dX7_goes_176 ⟨Nat.le_of_ble_eq_true rfl, Nat.le_of_ble_eq_true rfl⟩ (fun r21 u20 H locs hw hP hD hS => ?_)
        have hr21 : r21 = (s7_nears (mm 16) w13 w19) := hw
        have hP : va_P D vwCl [(xm, c7 xm_25 xm_26 xm_27 xm_29 xm_30 xm_31 (upd mm 15 r15))] H := hP
        have hD : va_D A [(xm, c7 xm_25 xm_26 xm_27 xm_29 xm_30 xm_31 (upd mm 15 r15))] := hD
        refine va_put (D := D) (ci := 7) (v := .int r21) (ty := .int) (C := RX7) (T := TX7) (N := 35) hx hb hts i7 tyX7 tyX7_ok nmX7 hown hK hP hD hS 0 rfl rfl 16 (by decide) lf90 (fun _ h9 => h9) rfl (by decide +kernel) rfl rfl (Nat.le_of_ble_eq_true rfl) dX7_goes_179 (fun H locs hP hD hS => ?_)
        have hP : va_P D vwCl [(xm, c7 xm_25 xm_26 xm_27 xm_29 xm_30 xm_31 (upd (upd mm 15 r15) 16 r21))] H := (congrArg (fun z9 => va_P D vwCl [(xm, .inr (7, z9))] H) (cs7_16 xm_25 xm_26 xm_27 xm_29 xm_30 xm_31 (upd mm 15 r15) r21)).mp hP
        have hD : va_D A [(xm, c7 xm_25 xm_26 xm_27 xm_29 xm_30 xm_31 (upd (upd mm 15 r15) 16 r21))] := (congrArg (fun z9 => va_D A [(xm, .inr (7, z9))]) (cs7_16 xm_25 xm_26 xm_27 xm_29 xm_30 xm_31 (upd mm 15 r15) r21)).mp hD
        have hsp : (s7_goes mm) = ((upd (upd mm 15 r15) 16 r21) : (Nat → Int32)) := by simp only [s7_goes, ← hw8, ← hw13, ← hr15, ← hw19, ← hr21]
        exact hret _ _ _ _ _ _ _ hP hD hS dX7_goes_182 ⟨(), trivial, (by rw [hsp])⟩ (Nat.le_of_ble_eq_true rfl) (Nat.le_of_ble_eq_true rfl)
      refine lv_icmp_eq (tgt := 167) hx hb dX7_goes_156 (by decide) (fun z16 => ?_) (fun z16 => ?_)
      · refine lv_aload_n hx hb dX7_goes_167 rfl (lv_at hl 2 rfl) ?_
        refine va_get (D := D) (ci := 7) (v := .int ((upd mm 15 r15) 11)) (C := RX7) (T := TX7) (N := 35) hx hb hts i7 hown hK hP 0 rfl rfl 11 (by decide) lf40 (fun _ h9 => h9) rfl dX7_goes_168 ?_
        refine cw_topi (y := (mm 11)) (cw_updn _ _ (by decide)) ?_
        refine lv_goto (tgt := 176) hx hb dX7_goes_171 (by decide) ?_
        exact J18 (mm 11) (by simp only [if_pos z16])
      · refine lv_aload_n hx hb dX7_goes_159 rfl (lv_at hl 2 rfl) ?_
        refine va_get (D := D) (ci := 7) (v := .int ((upd mm 15 r15) 12)) (C := RX7) (T := TX7) (N := 35) hx hb hts i7 hown hK hP 0 rfl rfl 12 (by decide) lf77 (fun _ h9 => h9) rfl dX7_goes_160 ?_
        refine cw_topi (y := (mm 12)) (cw_updn _ _ (by decide)) ?_
        refine lv_iconst (v := 4) hx hb dX7_goes_163 (by decide) ?_
        refine lv_icmp_ne (tgt := 174) hx hb dX7_goes_164 (by decide) (fun z17 => ?_) (fun z17 => ?_)
        · refine lv_bipush (v := 100) hx hb dX7_goes_174 (by decide) ?_
          exact J18 100 (by simp only [if_neg z16, if_neg z17])
        · refine lv_aload_n hx hb dX7_goes_167 rfl (lv_at hl 2 rfl) ?_
          refine va_get (D := D) (ci := 7) (v := .int ((upd mm 15 r15) 11)) (C := RX7) (T := TX7) (N := 35) hx hb hts i7 hown hK hP 0 rfl rfl 11 (by decide) lf40 (fun _ h9 => h9) rfl dX7_goes_168 ?_
          refine cw_topi (y := (mm 11)) (cw_updn _ _ (by decide)) ?_
          refine lv_goto (tgt := 176) hx hb dX7_goes_171 (by decide) ?_
          exact J18 (mm 11) (by simp only [if_neg z16, if_pos z17])
    refine lv_icmp_ne (tgt := 94) hx hb dX7_goes_86 (by decide) (fun z9 => ?_) (fun z9 => ?_)
    · refine lv_aload_n hx hb dX7_goes_94 rfl (lv_at hl 1 rfl) ?_
      refine va_get (D := D) (ci := 7) (v := .int (mm 12)) (C := RX7) (T := TX7) (N := 35) hx hb hts i7 hown hK hP 0 rfl rfl 12 (by decide) lf77 (fun _ h9 => h9) rfl dX7_goes_95 ?_
      refine lv_iconst (v := 4) hx hb dX7_goes_98 (by decide) ?_
      refine lv_icmp_ne (tgt := 127) hx hb dX7_goes_99 (by decide) (fun z10 => ?_) (fun z10 => ?_)
      · refine lv_iconst (v := 0) hx hb dX7_goes_127 (by decide) ?_
        exact J12 0 (by simp only [if_neg z9, if_neg z10])
      · refine lv_aload_n hx hb dX7_goes_102 rfl (lv_at hl 1 rfl) ?_
        refine va_get (D := D) (ci := 7) (v := .int (mm 1)) (C := RX7) (T := TX7) (N := 35) hx hb hts i7 hown hK hP 0 rfl rfl 1 (by decide) lf7 (fun _ h9 => h9) rfl dX7_goes_103 ?_
        refine lv_aload_n hx hb dX7_goes_106 rfl (lv_at hl 1 rfl) ?_
        refine va_get (D := D) (ci := 7) (v := .int (mm 15)) (C := RX7) (T := TX7) (N := 35) hx hb hts i7 hown hK hP 0 rfl rfl 15 (by decide) lf93 (fun _ h9 => h9) rfl dX7_goes_107 ?_
        refine lv_icmp_ge (tgt := 120) hx hb dX7_goes_110 (by decide) (fun z11 => ?_) (fun z11 => ?_)
        · refine lv_aload_n hx hb dX7_goes_120 rfl (lv_at hl 1 rfl) ?_
          refine va_get (D := D) (ci := 7) (v := .int (mm 15)) (C := RX7) (T := TX7) (N := 35) hx hb hts i7 hown hK hP 0 rfl rfl 15 (by decide) lf93 (fun _ h9 => h9) rfl dX7_goes_121 ?_
          refine lv_goto (tgt := 128) hx hb dX7_goes_124 (by decide) ?_
          exact J12 (mm 15) (by simp only [if_neg z9, if_pos z10, if_pos z11])
        · refine lv_aload_n hx hb dX7_goes_113 rfl (lv_at hl 1 rfl) ?_
          refine va_get (D := D) (ci := 7) (v := .int (mm 1)) (C := RX7) (T := TX7) (N := 35) hx hb hts i7 hown hK hP 0 rfl rfl 1 (by decide) lf7 (fun _ h9 => h9) rfl dX7_goes_114 ?_
          refine lv_goto (tgt := 128) hx hb dX7_goes_117 (by decide) ?_
          exact J12 (mm 1) (by simp only [if_neg z9, if_pos z10, if_neg z11])
    · refine lv_bipush (v := 20) hx hb dX7_goes_89 (by decide) ?_
      refine lv_goto (tgt := 128) hx hb dX7_goes_91 (by decide) ?_
      exact J12 20 (by simp only [if_pos z9])
  refine lv_if_ne (tgt := 11) hx hb dX7_goes_4 (by decide) (fun z1 => ?_) (fun z1 => ?_)
  · refine lv_aload_n hx hb dX7_goes_11 rfl (lv_at hl 0 rfl) ?_
    refine va_get (D := D) (ci := 7) (v := .int (mm 12)) (C := RX7) (T := TX7) (N := 35) hx hb hts i7 hown hK hP 0 rfl rfl 12 (by decide) lf77 (fun _ h9 => h9) rfl dX7_goes_12 ?_
    refine lv_iconst (v := 1) hx hb dX7_goes_15 (by decide) ?_
    refine lv_icmp_ne (tgt := 24) hx hb dX7_goes_16 (by decide) (fun z2 => ?_) (fun z2 => ?_)
    · refine lv_aload_n hx hb dX7_goes_24 rfl (lv_at hl 0 rfl) ?_
      refine va_get (D := D) (ci := 7) (v := .int (mm 12)) (C := RX7) (T := TX7) (N := 35) hx hb hts i7 hown hK hP 0 rfl rfl 12 (by decide) lf77 (fun _ h9 => h9) rfl dX7_goes_25 ?_
      refine lv_iconst (v := 2) hx hb dX7_goes_28 (by decide) ?_
      refine lv_icmp_eq (tgt := 40) hx hb dX7_goes_29 (by decide) (fun z3 => ?_) (fun z3 => ?_)
      · refine lv_bipush (v := 30) hx hb dX7_goes_40 (by decide) ?_
        refine lv_goto (tgt := 80) hx hb dX7_goes_42 (by decide) ?_
        exact J7 30 (by simp only [if_neg z1, if_neg z2, if_pos z3])
      · refine lv_aload_n hx hb dX7_goes_32 rfl (lv_at hl 0 rfl) ?_
        refine va_get (D := D) (ci := 7) (v := .int (mm 12)) (C := RX7) (T := TX7) (N := 35) hx hb hts i7 hown hK hP 0 rfl rfl 12 (by decide) lf77 (fun _ h9 => h9) rfl dX7_goes_33 ?_
        refine lv_iconst (v := 3) hx hb dX7_goes_36 (by decide) ?_
        refine lv_icmp_ne (tgt := 45) hx hb dX7_goes_37 (by decide) (fun z4 => ?_) (fun z4 => ?_)
        · refine lv_aload_n hx hb dX7_goes_45 rfl (lv_at hl 0 rfl) ?_
          refine va_get (D := D) (ci := 7) (v := .int (mm 12)) (C := RX7) (T := TX7) (N := 35) hx hb hts i7 hown hK hP 0 rfl rfl 12 (by decide) lf77 (fun _ h9 => h9) rfl dX7_goes_46 ?_
          refine lv_iconst (v := 4) hx hb dX7_goes_49 (by decide) ?_
          refine lv_icmp_ne (tgt := 78) hx hb dX7_goes_50 (by decide) (fun z5 => ?_) (fun z5 => ?_)
          · refine lv_bipush (v := 60) hx hb dX7_goes_78 (by decide) ?_
            exact J7 60 (by simp only [if_neg z1, if_neg z2, if_neg z3, if_neg z4, if_neg z5])
          · refine lv_aload_n hx hb dX7_goes_53 rfl (lv_at hl 0 rfl) ?_
            refine va_get (D := D) (ci := 7) (v := .int (mm 1)) (C := RX7) (T := TX7) (N := 35) hx hb hts i7 hown hK hP 0 rfl rfl 1 (by decide) lf7 (fun _ h9 => h9) rfl dX7_goes_54 ?_
            refine lv_aload_n hx hb dX7_goes_57 rfl (lv_at hl 0 rfl) ?_
            refine va_get (D := D) (ci := 7) (v := .int (mm 16)) (C := RX7) (T := TX7) (N := 35) hx hb hts i7 hown hK hP 0 rfl rfl 16 (by decide) lf90 (fun _ h9 => h9) rfl dX7_goes_58 ?_
            refine lv_icmp_le (tgt := 71) hx hb dX7_goes_61 (by decide) (fun z6 => ?_) (fun z6 => ?_)
            · refine lv_aload_n hx hb dX7_goes_71 rfl (lv_at hl 0 rfl) ?_
              refine va_get (D := D) (ci := 7) (v := .int (mm 16)) (C := RX7) (T := TX7) (N := 35) hx hb hts i7 hown hK hP 0 rfl rfl 16 (by decide) lf90 (fun _ h9 => h9) rfl dX7_goes_72 ?_
              refine lv_goto (tgt := 80) hx hb dX7_goes_75 (by decide) ?_
              exact J7 (mm 16) (by simp only [if_neg z1, if_neg z2, if_neg z3, if_neg z4, if_pos z5, if_pos z6])
            · refine lv_aload_n hx hb dX7_goes_64 rfl (lv_at hl 0 rfl) ?_
              refine va_get (D := D) (ci := 7) (v := .int (mm 1)) (C := RX7) (T := TX7) (N := 35) hx hb hts i7 hown hK hP 0 rfl rfl 1 (by decide) lf7 (fun _ h9 => h9) rfl dX7_goes_65 ?_
              refine lv_goto (tgt := 80) hx hb dX7_goes_68 (by decide) ?_
              exact J7 (mm 1) (by simp only [if_neg z1, if_neg z2, if_neg z3, if_neg z4, if_pos z5, if_neg z6])
        · refine lv_bipush (v := 30) hx hb dX7_goes_40 (by decide) ?_
          refine lv_goto (tgt := 80) hx hb dX7_goes_42 (by decide) ?_
          exact J7 30 (by simp only [if_neg z1, if_neg z2, if_neg z3, if_pos z4])
    · refine lv_bipush (v := 100) hx hb dX7_goes_19 (by decide) ?_
      refine lv_goto (tgt := 80) hx hb dX7_goes_21 (by decide) ?_
      exact J7 100 (by simp only [if_neg z1, if_pos z2])
  · refine lv_iconst (v := 0) hx hb dX7_goes_7 (by decide) ?_
    refine lv_goto (tgt := 80) hx hb dX7_goes_8 (by decide) ?_
    exact J7 0 (by simp only [if_pos z1])

set_option maxHeartbeats 4000000 in
set_option maxRecDepth 100000 in
theorem k7_begins (l : Launch) (D : va_G) (cI cJ : ClassId) (xm : Nat) (xm_25 xm_26 xm_27 xm_29 xm_30 xm_31 : Value) (mm : Nat → Int32) (a1 : Int32) (a2 : Int32) : cw_Mv l yX7_begins wsX7_begins (cw_rm 0) D [(cI, .int), (cJ, .long)] [.ref xm, .int a1, .int a2] [(xm, c7 xm_25 xm_26 xm_27 xm_29 xm_30 xm_31 mm)] 0 0 (fun _ : Unit => True) (fun _ : Unit => [(xm, c7 xm_25 xm_26 xm_27 xm_29 xm_30 xm_31 (s7_begins mm a1 a2))]) := by
  refine cw_ofv (cc := cX7_begins) (maxL := 3) (ret := none) (by decide) rfl (Nat.le_of_ble_eq_true rfl) rfl ?_
  intro p e s m args below meth c A ls Q hin0 hret
  obtain ⟨hx, hb, hr, hml, hts, hown, hlocks, hin, hP, hK, hD, hN, hA, hl⟩ := hin0
  have hS : va_S A s.heap s.heap [] := va_S.rf
  have hl : lv_has ls 3 [(0, .ref xm), (1, .int a1), (2, .int a2)] := hl
  have lf77 := hts (.fieldLink RX7 77 "BurnerlineModel" "state" "I") (by decide +kernel)
  have i7 : ∀ w ∈ wsX70, w ∈ wsX7_begins := by decide +kernel
  have lf100 := hts (.fieldLink RX7 100 "BurnerlineModel" "why" "I") (by decide +kernel)
  have lf103 := hts (.fieldLink RX7 103 "BurnerlineModel" "time" "I") (by decide +kernel)
  have lf106 := hts (.fieldLink RX7 106 "BurnerlineModel" "purged" "I") (by decide +kernel)
  have lf90 := hts (.fieldLink RX7 90 "BurnerlineModel" "fuel" "I") (by decide +kernel)
  refine lv_aload_n hx hb dX7_begins_0 rfl (lv_at hl 0 rfl) ?_
  refine lv_iload_n hx hb dX7_begins_1 rfl (lv_at hl 1 rfl) ?_
  refine va_put (D := D) (ci := 7) (v := .int a1) (ty := .int) (C := RX7) (T := TX7) (N := 35) hx hb hts i7 tyX7 tyX7_ok nmX7 hown hK hP hD hS 0 rfl rfl 12 (by decide) lf77 (fun _ h9 => h9) rfl (by decide +kernel) rfl rfl (Nat.le_of_ble_eq_true rfl) dX7_begins_2 (fun H locs hP hD hS => ?_)
  have hP : va_P D vwCl [(xm, c7 xm_25 xm_26 xm_27 xm_29 xm_30 xm_31 (upd mm 12 a1))] H := (congrArg (fun z9 => va_P D vwCl [(xm, .inr (7, z9))] H) (cs7_12 xm_25 xm_26 xm_27 xm_29 xm_30 xm_31 mm a1)).mp hP
  have hD : va_D A [(xm, c7 xm_25 xm_26 xm_27 xm_29 xm_30 xm_31 (upd mm 12 a1))] := (congrArg (fun z9 => va_D A [(xm, .inr (7, z9))]) (cs7_12 xm_25 xm_26 xm_27 xm_29 xm_30 xm_31 mm a1)).mp hD
  refine lv_aload_n hx hb dX7_begins_5 rfl (lv_at hl 0 rfl) ?_
  refine lv_iload_n hx hb dX7_begins_6 rfl (lv_at hl 2 rfl) ?_
  refine va_put (D := D) (ci := 7) (v := .int a2) (ty := .int) (C := RX7) (T := TX7) (N := 35) hx hb hts i7 tyX7 tyX7_ok nmX7 hown hK hP hD hS 0 rfl rfl 13 (by decide) lf100 (fun _ h9 => h9) rfl (by decide +kernel) rfl rfl (Nat.le_of_ble_eq_true rfl) dX7_begins_7 (fun H locs hP hD hS => ?_)
  have hP : va_P D vwCl [(xm, c7 xm_25 xm_26 xm_27 xm_29 xm_30 xm_31 (upd (upd mm 12 a1) 13 a2))] H := (congrArg (fun z9 => va_P D vwCl [(xm, .inr (7, z9))] H) (cs7_13 xm_25 xm_26 xm_27 xm_29 xm_30 xm_31 (upd mm 12 a1) a2)).mp hP
  have hD : va_D A [(xm, c7 xm_25 xm_26 xm_27 xm_29 xm_30 xm_31 (upd (upd mm 12 a1) 13 a2))] := (congrArg (fun z9 => va_D A [(xm, .inr (7, z9))]) (cs7_13 xm_25 xm_26 xm_27 xm_29 xm_30 xm_31 (upd mm 12 a1) a2)).mp hD
  refine lv_aload_n hx hb dX7_begins_10 rfl (lv_at hl 0 rfl) ?_
  refine lv_iconst (v := 0) hx hb dX7_begins_11 (by decide) ?_
  refine va_put (D := D) (ci := 7) (v := .int 0) (ty := .int) (C := RX7) (T := TX7) (N := 35) hx hb hts i7 tyX7 tyX7_ok nmX7 hown hK hP hD hS 0 rfl rfl 14 (by decide) lf103 (fun _ h9 => h9) rfl (by decide +kernel) rfl rfl (Nat.le_of_ble_eq_true rfl) dX7_begins_12 (fun H locs hP hD hS => ?_)
  have hP : va_P D vwCl [(xm, c7 xm_25 xm_26 xm_27 xm_29 xm_30 xm_31 (upd (upd (upd mm 12 a1) 13 a2) 14 0))] H := (congrArg (fun z9 => va_P D vwCl [(xm, .inr (7, z9))] H) (cs7_14 xm_25 xm_26 xm_27 xm_29 xm_30 xm_31 (upd (upd mm 12 a1) 13 a2) 0)).mp hP
  have hD : va_D A [(xm, c7 xm_25 xm_26 xm_27 xm_29 xm_30 xm_31 (upd (upd (upd mm 12 a1) 13 a2) 14 0))] := (congrArg (fun z9 => va_D A [(xm, .inr (7, z9))]) (cs7_14 xm_25 xm_26 xm_27 xm_29 xm_30 xm_31 (upd (upd mm 12 a1) 13 a2) 0)).mp hD
  refine lv_aload_n hx hb dX7_begins_15 rfl (lv_at hl 0 rfl) ?_
  refine lv_iconst (v := 0) hx hb dX7_begins_16 (by decide) ?_
  refine va_put (D := D) (ci := 7) (v := .int 0) (ty := .int) (C := RX7) (T := TX7) (N := 35) hx hb hts i7 tyX7 tyX7_ok nmX7 hown hK hP hD hS 0 rfl rfl 17 (by decide) lf106 (fun _ h9 => h9) rfl (by decide +kernel) rfl rfl (Nat.le_of_ble_eq_true rfl) dX7_begins_17 (fun H locs hP hD hS => ?_)
  have hP : va_P D vwCl [(xm, c7 xm_25 xm_26 xm_27 xm_29 xm_30 xm_31 (upd (upd (upd (upd mm 12 a1) 13 a2) 14 0) 17 0))] H := (congrArg (fun z9 => va_P D vwCl [(xm, .inr (7, z9))] H) (cs7_17 xm_25 xm_26 xm_27 xm_29 xm_30 xm_31 (upd (upd (upd mm 12 a1) 13 a2) 14 0) 0)).mp hP
  have hD : va_D A [(xm, c7 xm_25 xm_26 xm_27 xm_29 xm_30 xm_31 (upd (upd (upd (upd mm 12 a1) 13 a2) 14 0) 17 0))] := (congrArg (fun z9 => va_D A [(xm, .inr (7, z9))]) (cs7_17 xm_25 xm_26 xm_27 xm_29 xm_30 xm_31 (upd (upd (upd mm 12 a1) 13 a2) 14 0) 0)).mp hD
  refine lv_aload_n hx hb dX7_begins_20 rfl (lv_at hl 0 rfl) ?_
  refine lv_iload_n hx hb dX7_begins_21 rfl (lv_at hl 1 rfl) ?_
  refine lv_iconst (v := 3) hx hb dX7_begins_22 (by decide) ?_
  have J3 : ∀ (w4 : Int32), w4 = (if a1 = 3 then (mm 16) else (if a1 = 4 then (mm 16) else 0)) → W p l e (cw_rm 0) s m args below meth c H locs 0 0 (Q) (F0 m 39 ls [.int w4, .ref xm]) := by
    intro w4 hw4
    refine va_put (D := D) (ci := 7) (v := .int w4) (ty := .int) (C := RX7) (T := TX7) (N := 35) hx hb hts i7 tyX7 tyX7_ok nmX7 hown hK hP hD hS 0 rfl rfl 16 (by decide) lf90 (fun _ h9 => h9) rfl (by decide +kernel) rfl rfl (Nat.le_of_ble_eq_true rfl) dX7_begins_39 (fun H locs hP hD hS => ?_)
    have hP : va_P D vwCl [(xm, c7 xm_25 xm_26 xm_27 xm_29 xm_30 xm_31 (upd (upd (upd (upd (upd mm 12 a1) 13 a2) 14 0) 17 0) 16 w4))] H := (congrArg (fun z9 => va_P D vwCl [(xm, .inr (7, z9))] H) (cs7_16 xm_25 xm_26 xm_27 xm_29 xm_30 xm_31 (upd (upd (upd (upd mm 12 a1) 13 a2) 14 0) 17 0) w4)).mp hP
    have hD : va_D A [(xm, c7 xm_25 xm_26 xm_27 xm_29 xm_30 xm_31 (upd (upd (upd (upd (upd mm 12 a1) 13 a2) 14 0) 17 0) 16 w4))] := (congrArg (fun z9 => va_D A [(xm, .inr (7, z9))]) (cs7_16 xm_25 xm_26 xm_27 xm_29 xm_30 xm_31 (upd (upd (upd (upd mm 12 a1) 13 a2) 14 0) 17 0) w4)).mp hD
    have hsp : (s7_begins mm a1 a2) = ((upd (upd (upd (upd (upd mm 12 a1) 13 a2) 14 0) 17 0) 16 w4) : (Nat → Int32)) := by simp only [s7_begins, ← hw4]
    exact hret _ _ _ _ _ _ _ hP hD hS dX7_begins_42 ⟨(), trivial, (by rw [hsp])⟩ (Nat.le_of_ble_eq_true rfl) (Nat.le_of_ble_eq_true rfl)
  refine lv_icmp_eq (tgt := 31) hx hb dX7_begins_23 (by decide) (fun z1 => ?_) (fun z1 => ?_)
  · refine lv_aload_n hx hb dX7_begins_31 rfl (lv_at hl 0 rfl) ?_
    refine va_get (D := D) (ci := 7) (v := .int ((upd (upd (upd (upd mm 12 a1) 13 a2) 14 0) 17 0) 16)) (C := RX7) (T := TX7) (N := 35) hx hb hts i7 hown hK hP 0 rfl rfl 16 (by decide) lf90 (fun _ h9 => h9) rfl dX7_begins_32 ?_
    refine cw_topi (y := (mm 16)) ((cw_updn _ _ (by decide)).trans ((cw_updn _ _ (by decide)).trans ((cw_updn _ _ (by decide)).trans (cw_updn _ _ (by decide))))) ?_
    refine lv_goto (tgt := 39) hx hb dX7_begins_35 (by decide) ?_
    exact J3 (mm 16) (by simp only [if_pos z1])
  · refine lv_iload_n hx hb dX7_begins_26 rfl (lv_at hl 1 rfl) ?_
    refine lv_iconst (v := 4) hx hb dX7_begins_27 (by decide) ?_
    refine lv_icmp_ne (tgt := 38) hx hb dX7_begins_28 (by decide) (fun z2 => ?_) (fun z2 => ?_)
    · refine lv_iconst (v := 0) hx hb dX7_begins_38 (by decide) ?_
      exact J3 0 (by simp only [if_neg z1, if_neg z2])
    · refine lv_aload_n hx hb dX7_begins_31 rfl (lv_at hl 0 rfl) ?_
      refine va_get (D := D) (ci := 7) (v := .int ((upd (upd (upd (upd mm 12 a1) 13 a2) 14 0) 17 0) 16)) (C := RX7) (T := TX7) (N := 35) hx hb hts i7 hown hK hP 0 rfl rfl 16 (by decide) lf90 (fun _ h9 => h9) rfl dX7_begins_32 ?_
      refine cw_topi (y := (mm 16)) ((cw_updn _ _ (by decide)).trans ((cw_updn _ _ (by decide)).trans ((cw_updn _ _ (by decide)).trans (cw_updn _ _ (by decide))))) ?_
      refine lv_goto (tgt := 39) hx hb dX7_begins_35 (by decide) ?_
      exact J3 (mm 16) (by simp only [if_neg z1, if_pos z2])

set_option maxHeartbeats 4000000 in
set_option maxRecDepth 100000 in
theorem k7_lacks (l : Launch) (D : va_G) (cI cJ : ClassId) (xm : Nat) (xm_25 xm_26 xm_27 xm_29 xm_30 xm_31 : Value) (mm : Nat → Int32) (a1 : Int32) : cw_Mi l yX7_lacks wsX7_lacks (cw_rm 1) D [(cI, .int), (cJ, .long)] [.ref xm, .int a1] [(xm, c7 xm_25 xm_26 xm_27 xm_29 xm_30 xm_31 mm)] 0 0 (fun r (_ : Unit) => r = (s7_lacks mm a1).1) (fun _ : Unit => [(xm, c7 xm_25 xm_26 xm_27 xm_29 xm_30 xm_31 (s7_lacks mm a1).2)]) := by
  refine cw_ofi (cc := cX7_lacks) (maxL := 2) (ret := (some .boolean)) (by decide) rfl (Nat.le_of_ble_eq_true rfl) rfl ?_
  intro p e s m args below meth c A ls Q hin0 hret
  obtain ⟨hx, hb, hr, hml, hts, hown, hlocks, hin, hP, hK, hD, hN, hA, hl⟩ := hin0
  have hS : va_S A s.heap s.heap [] := va_S.rf
  have hl : lv_has ls 2 [(0, .ref xm), (1, .int a1)] := hl
  refine lv_iload_n hx hb dX7_lacks_0 rfl (lv_at hl 1 rfl) ?_
  refine lv_iconst (v := 1) hx hb dX7_lacks_1 (by decide) ?_
  refine cw_cSi (As := [.int a1, .int 1]) (rest := []) (wc := []) (wr := [(xm, c7 xm_25 xm_26 xm_27 xm_29 xm_30 xm_31 mm)]) ⟨hx, hb, hml, hown, hts⟩ (k7_has l D cI cJ a1 1) (va_cwS 2 hts gX7_lacks_X7_has rfl rfl rfl (by decide +kernel) ⟨Nat.le_of_ble_eq_true rfl, Nat.le_of_ble_eq_true rfl⟩) hK hN hP hD hS hA [] [0] rfl rfl (by decide) (by decide) (by decide) rfl hl.1 rfl (Nat.le_of_ble_eq_true rfl) dX7_lacks_2 ⟨Nat.le_of_ble_eq_true rfl, Nat.le_of_ble_eq_true rfl⟩ (fun r2 u1 H locs hw hP hD hS => ?_)
  have hr2 : r2 = (s7_has a1 1) := hw
  have hP : va_P D vwCl [(xm, c7 xm_25 xm_26 xm_27 xm_29 xm_30 xm_31 mm)] H := hP
  have hD : va_D A [(xm, c7 xm_25 xm_26 xm_27 xm_29 xm_30 xm_31 mm)] := hD
  refine lv_if_ne (tgt := 18) hx hb dX7_lacks_5 (by decide) (fun z3 => ?_) (fun z3 => ?_)
  · refine lv_iload_n hx hb dX7_lacks_18 rfl (lv_at hl 1 rfl) ?_
    refine lv_iconst (v := 2) hx hb dX7_lacks_19 (by decide) ?_
    refine cw_cSi (As := [.int a1, .int 2]) (rest := []) (wc := []) (wr := [(xm, c7 xm_25 xm_26 xm_27 xm_29 xm_30 xm_31 mm)]) ⟨hx, hb, hml, hown, hts⟩ (k7_has l D cI cJ a1 2) (va_cwS 2 hts gX7_lacks_X7_has rfl rfl rfl (by decide +kernel) ⟨Nat.le_of_ble_eq_true rfl, Nat.le_of_ble_eq_true rfl⟩) hK hN hP hD hS hA [] [0] rfl rfl (by decide) (by decide) (by decide) rfl hl.1 rfl (Nat.le_of_ble_eq_true rfl) dX7_lacks_20 ⟨Nat.le_of_ble_eq_true rfl, Nat.le_of_ble_eq_true rfl⟩ (fun r5 u4 H locs hw hP hD hS => ?_)
    have hr5 : r5 = (s7_has a1 2) := hw
    have hP : va_P D vwCl [(xm, c7 xm_25 xm_26 xm_27 xm_29 xm_30 xm_31 mm)] H := hP
    have hD : va_D A [(xm, c7 xm_25 xm_26 xm_27 xm_29 xm_30 xm_31 mm)] := hD
    refine lv_if_ne (tgt := 36) hx hb dX7_lacks_23 (by decide) (fun z6 => ?_) (fun z6 => ?_)
    · refine lv_iconst (v := 0) hx hb dX7_lacks_36 (by decide) ?_
      have hsp : (s7_lacks mm a1) = ((0, mm) : Int32 × (Nat → Int32)) := by simp only [s7_lacks, ← hr2, ← hr5, if_neg z3, if_neg z6]
      exact hret _ _ _ _ _ _ _ _ hP hD hS dX7_lacks_37 rfl ⟨(), (by rw [hsp]), (by rw [hsp])⟩ (Nat.le_of_ble_eq_true rfl) (Nat.le_of_ble_eq_true rfl)
    · refine lv_aload_n hx hb dX7_lacks_26 rfl (lv_at hl 0 rfl) ?_
      refine lv_bipush (v := 6) hx hb dX7_lacks_27 (by decide) ?_
      refine lv_iconst (v := 2) hx hb dX7_lacks_29 (by decide) ?_
      refine cw_cVv (As := [.int 6, .int 2]) (rest := []) (wc := [(xm, c7 xm_25 xm_26 xm_27 xm_29 xm_30 xm_31 mm)]) (wr := []) ⟨hx, hb, hml, hown, hts⟩ (k7_begins l D cI cJ xm xm_25 xm_26 xm_27 xm_29 xm_30 xm_31 mm 6 2) (cwV 2 hts gX7_lacks_X7_begins rfl rfl rfl (by decide +kernel) ⟨Nat.le_of_ble_eq_true rfl, Nat.le_of_ble_eq_true rfl⟩) hK hN hP hD hS hA [0] [] rfl rfl (by decide) (by decide) (by decide) 0 (ci := 7) rfl rfl rfl rfl hl.1 rfl (Nat.le_of_ble_eq_true rfl) dX7_lacks_30 ⟨Nat.le_of_ble_eq_true rfl, Nat.le_of_ble_eq_true rfl⟩ (fun u7 H locs hw hP hD hS => ?_)
      obtain ⟨v9, hv9⟩ : ∃ z : Nat → Int32, z = (s7_begins mm 6 2) := ⟨_, rfl⟩
      have hP : va_P D vwCl [(xm, c7 xm_25 xm_26 xm_27 xm_29 xm_30 xm_31 v9)] H := by rw [hv9]; exact hP
      have hD : va_D A [(xm, c7 xm_25 xm_26 xm_27 xm_29 xm_30 xm_31 v9)] := by rw [hv9]; exact hD
      refine lv_goto (tgt := 38) hx hb dX7_lacks_33 (by decide) ?_
      refine lv_iconst (v := 1) hx hb dX7_lacks_38 (by decide) ?_
      have hsp : (s7_lacks mm a1) = ((1, v9) : Int32 × (Nat → Int32)) := by simp only [s7_lacks, ← hr2, ← hr5, ← hv9, if_neg z3, if_pos z6]
      exact hret _ _ _ _ _ _ _ _ hP hD hS dX7_lacks_39 rfl ⟨(), (by rw [hsp]), (by rw [hsp])⟩ (Nat.le_of_ble_eq_true rfl) (Nat.le_of_ble_eq_true rfl)
  · refine lv_aload_n hx hb dX7_lacks_8 rfl (lv_at hl 0 rfl) ?_
    refine lv_bipush (v := 6) hx hb dX7_lacks_9 (by decide) ?_
    refine lv_iconst (v := 1) hx hb dX7_lacks_11 (by decide) ?_
    refine cw_cVv (As := [.int 6, .int 1]) (rest := []) (wc := [(xm, c7 xm_25 xm_26 xm_27 xm_29 xm_30 xm_31 mm)]) (wr := []) ⟨hx, hb, hml, hown, hts⟩ (k7_begins l D cI cJ xm xm_25 xm_26 xm_27 xm_29 xm_30 xm_31 mm 6 1) (cwV 2 hts gX7_lacks_X7_begins rfl rfl rfl (by decide +kernel) ⟨Nat.le_of_ble_eq_true rfl, Nat.le_of_ble_eq_true rfl⟩) hK hN hP hD hS hA [0] [] rfl rfl (by decide) (by decide) (by decide) 0 (ci := 7) rfl rfl rfl rfl hl.1 rfl (Nat.le_of_ble_eq_true rfl) dX7_lacks_12 ⟨Nat.le_of_ble_eq_true rfl, Nat.le_of_ble_eq_true rfl⟩ (fun u10 H locs hw hP hD hS => ?_)
    obtain ⟨v12, hv12⟩ : ∃ z : Nat → Int32, z = (s7_begins mm 6 1) := ⟨_, rfl⟩
    have hP : va_P D vwCl [(xm, c7 xm_25 xm_26 xm_27 xm_29 xm_30 xm_31 v12)] H := by rw [hv12]; exact hP
    have hD : va_D A [(xm, c7 xm_25 xm_26 xm_27 xm_29 xm_30 xm_31 v12)] := by rw [hv12]; exact hD
    refine lv_goto (tgt := 38) hx hb dX7_lacks_15 (by decide) ?_
    refine lv_iconst (v := 1) hx hb dX7_lacks_38 (by decide) ?_
    have hsp : (s7_lacks mm a1) = ((1, v12) : Int32 × (Nat → Int32)) := by simp only [s7_lacks, ← hr2, ← hv12, if_pos z3]
    exact hret _ _ _ _ _ _ _ _ hP hD hS dX7_lacks_39 rfl ⟨(), (by rw [hsp]), (by rw [hsp])⟩ (Nat.le_of_ble_eq_true rfl) (Nat.le_of_ble_eq_true rfl)
