def s7_ticks (mm : Nat → Int32) : Int32 × (Nat → Int32) := ((mm 21), (upd mm 34 0))

def s7_state (mm : Nat → Int32) : Int32 × (Nat → Int32) := ((mm 12), (upd mm 34 0))

def s7_reason (mm : Nat → Int32) : Int32 × (Nat → Int32) := ((mm 13), (upd mm 34 0))

def s7_time (mm : Nat → Int32) : Int32 × (Nat → Int32) := ((mm 14), (upd mm 34 0))

def s7_isOpen (mm : Nat → Int32) (a1 : Int32) : Int32 × (Nat → Int32) := (let w7 : Int32 := (if a1 = 0 then (if (mm 12) = 2 then 1 else (if (mm 12) = 3 then 1 else 0)) else (if (mm 12) = 3 then 1 else (if (mm 12) = 4 then 1 else 0))); (w7, (upd mm 34 0)))
theorem z7_isOpen (mm : Nat → Int32) (a1 : Int32) : (s7_isOpen mm a1).1 = 0 ∨ (s7_isOpen mm a1).1 = 1 := by
  simp only [s7_isOpen]
  (repeat' split) <;> (try dsimp only) <;> first | exact Or.inl rfl | exact Or.inr rfl | (simp; done)

def s7_sees (mm : Nat → Int32) (a1 : Int32) : Int32 × (Nat → Int32) := (let w3 : Int32 := (if a1 = 0 then 0 else 1); (let r5 : Int32 := (s7_has (mm 18) w3); (r5, (upd mm 34 0))))
theorem z7_sees (mm : Nat → Int32) (a1 : Int32) : (s7_sees mm a1).1 = 0 ∨ (s7_sees mm a1).1 = 1 := by
  simp only [s7_sees]
  (repeat' split) <;> (try dsimp only) <;> first | exact Or.inl rfl | exact Or.inr rfl | (simp; done) | exact z7_has _ _

def s7_air (mm : Nat → Int32) : Int32 × (Nat → Int32) := ((mm 15), (upd mm 34 0))

def s7_fuel (mm : Nat → Int32) : Int32 × (Nat → Int32) := ((mm 16), (upd mm 34 0))

def s7_purged (mm : Nat → Int32) : Int32 × (Nat → Int32) := ((mm 17), (upd mm 34 0))

def s7_unlit (mm : Nat → Int32) : Int32 × (Nat → Int32) := ((mm 22), (upd mm 34 0))

def s7_longestUnlit (mm : Nat → Int32) : Int32 × (Nat → Int32) := ((mm 23), (upd mm 34 0))

def s7_changes (mm : Nat → Int32) : Int32 × (Nat → Int32) := ((mm 24), (upd mm 34 0))

def s7_kept (mm : Nat → Int32) : Int32 := (let w3 : Int32 := (if 100 ≤ (mm 24) then 100 else (mm 24)); w3)

def s7_records (mm : Nat → Int32) : Int32 × (Nat → Int32) := (let r2 : Int32 := (s7_kept (upd mm 34 0)); (r2, (upd mm 34 0)))

def s7_place (mm : Nat → Int32) (a1 : Int32) : Int32 := ((((mm 24) - 1) - a1) - (((mm 24) - 1) - a1) / 100 * 100)

def s7_packs (mm : Nat → Int32) : Int64 := ((((((((((mm 12).toInt64) + (((mm 13).toInt64) <<< ((3 : Int32).toInt64 &&& 63))) + (((mm 14).toInt64) <<< ((7 : Int32).toInt64 &&& 63))) + (((mm 15).toInt64) <<< ((25 : Int32).toInt64 &&& 63))) + (((mm 16).toInt64) <<< ((32 : Int32).toInt64 &&& 63))) + (((mm 17).toInt64) <<< ((39 : Int32).toInt64 &&& 63))) + (((mm 18).toInt64) <<< ((51 : Int32).toInt64 &&& 63))) + (((mm 19).toInt64) <<< ((53 : Int32).toInt64 &&& 63))) + (((mm 20).toInt64) <<< ((56 : Int32).toInt64 &&& 63)))

def s7_unpacks (mm : Nat → Int32) (a1 : Int64) : (Nat → Int32) := (upd (upd (upd (upd (upd (upd (upd (upd (upd mm 12 ((a1 &&& 7).toInt32)) 13 (((a1 >>> ((3 : Int32).toInt64 &&& 63)) &&& 15).toInt32)) 14 (((a1 >>> ((7 : Int32).toInt64 &&& 63)) &&& 262143).toInt32)) 15 (((a1 >>> ((25 : Int32).toInt64 &&& 63)) &&& 127).toInt32)) 16 (((a1 >>> ((32 : Int32).toInt64 &&& 63)) &&& 127).toInt32)) 17 (((a1 >>> ((39 : Int32).toInt64 &&& 63)) &&& 4095).toInt32)) 18 (((a1 >>> ((51 : Int32).toInt64 &&& 63)) &&& 3).toInt32)) 19 (((a1 >>> ((53 : Int32).toInt64 &&& 63)) &&& 7).toInt32)) 20 (((a1 >>> ((56 : Int32).toInt64 &&& 63)) &&& 7).toInt32))

set_option maxHeartbeats 4000000 in
set_option maxRecDepth 100000 in
theorem k7_ticks (l : Launch) (D : va_G) (cI cJ : ClassId) (xm : Nat) (xm_25 xm_26 xm_27 xm_29 xm_30 xm_31 : Value) (mm : Nat → Int32) : cw_Mi l yX7_ticks wsX7_ticks (cw_rm 0) D [(cI, .int), (cJ, .long)] [.ref xm] [(xm, c7 xm_25 xm_26 xm_27 xm_29 xm_30 xm_31 mm)] 0 0 (fun r (_ : Unit) => r = (s7_ticks mm).1) (fun _ : Unit => [(xm, c7 xm_25 xm_26 xm_27 xm_29 xm_30 xm_31 (s7_ticks mm).2)]) := by
  refine cw_ofi (cc := cX7_ticks) (maxL := 1) (ret := (some .int)) (by decide) rfl (Nat.le_of_ble_eq_true rfl) rfl ?_
  intro p e s m args below meth c A ls Q hin0 hret
  obtain ⟨hx, hb, hr, hml, hts, hown, hlocks, hin, hP, hK, hD, hN, hA, hl⟩ := hin0
  have hS : va_S A s.heap s.heap [] := va_S.rf
  have hl : lv_has ls 1 [(0, .ref xm)] := hl
  have lf63 := hts (.fieldLink RX7 63 "BurnerlineModel" "thrown" "I") (by decide +kernel)
  have i7 : ∀ w ∈ wsX70, w ∈ wsX7_ticks := by decide +kernel
  have lf146 := hts (.fieldLink RX7 146 "BurnerlineModel" "ticks" "I") (by decide +kernel)
  refine lv_aload_n hx hb dX7_ticks_0 rfl (lv_at hl 0 rfl) ?_
  refine lv_iconst (v := 0) hx hb dX7_ticks_1 (by decide) ?_
  refine va_put (D := D) (ci := 7) (v := .int 0) (ty := .int) (C := RX7) (T := TX7) (N := 35) hx hb hts i7 tyX7 tyX7_ok nmX7 hown hK hP hD hS 0 rfl rfl 34 (by decide) lf63 (fun _ h9 => h9) rfl (by decide +kernel) rfl rfl (Nat.le_of_ble_eq_true rfl) dX7_ticks_2 (fun H locs hP hD hS => ?_)
  have hP : va_P D vwCl [(xm, c7 xm_25 xm_26 xm_27 xm_29 xm_30 xm_31 (upd mm 34 0))] H := (congrArg (fun z9 => va_P D vwCl [(xm, .inr (7, z9))] H) (cs7_34 xm_25 xm_26 xm_27 xm_29 xm_30 xm_31 mm 0)).mp hP
  have hD : va_D A [(xm, c7 xm_25 xm_26 xm_27 xm_29 xm_30 xm_31 (upd mm 34 0))] := (congrArg (fun z9 => va_D A [(xm, .inr (7, z9))]) (cs7_34 xm_25 xm_26 xm_27 xm_29 xm_30 xm_31 mm 0)).mp hD
  refine lv_aload_n hx hb dX7_ticks_5 rfl (lv_at hl 0 rfl) ?_
  refine va_get (D := D) (ci := 7) (v := .int ((upd mm 34 0) 21)) (C := RX7) (T := TX7) (N := 35) hx hb hts i7 hown hK hP 0 rfl rfl 21 (by decide) lf146 (fun _ h9 => h9) rfl dX7_ticks_6 ?_
  refine cw_topi (y := (mm 21)) (cw_updn _ _ (by decide)) ?_
  have hsp : (s7_ticks mm) = (((mm 21), (upd mm 34 0)) : Int32 × (Nat → Int32)) := rfl
  exact hret _ _ _ _ _ _ _ _ hP hD hS dX7_ticks_9 rfl ⟨(), (by rw [hsp]), (by rw [hsp])⟩ (Nat.le_of_ble_eq_true rfl) (Nat.le_of_ble_eq_true rfl)

set_option maxHeartbeats 4000000 in
set_option maxRecDepth 100000 in
theorem k7_state (l : Launch) (D : va_G) (cI cJ : ClassId) (xm : Nat) (xm_25 xm_26 xm_27 xm_29 xm_30 xm_31 : Value) (mm : Nat → Int32) : cw_Mi l yX7_state wsX7_state (cw_rm 0) D [(cI, .int), (cJ, .long)] [.ref xm] [(xm, c7 xm_25 xm_26 xm_27 xm_29 xm_30 xm_31 mm)] 0 0 (fun r (_ : Unit) => r = (s7_state mm).1) (fun _ : Unit => [(xm, c7 xm_25 xm_26 xm_27 xm_29 xm_30 xm_31 (s7_state mm).2)]) := by
  refine cw_ofi (cc := cX7_state) (maxL := 1) (ret := (some .int)) (by decide) rfl (Nat.le_of_ble_eq_true rfl) rfl ?_
  intro p e s m args below meth c A ls Q hin0 hret
  obtain ⟨hx, hb, hr, hml, hts, hown, hlocks, hin, hP, hK, hD, hN, hA, hl⟩ := hin0
  have hS : va_S A s.heap s.heap [] := va_S.rf
  have hl : lv_has ls 1 [(0, .ref xm)] := hl
  have lf63 := hts (.fieldLink RX7 63 "BurnerlineModel" "thrown" "I") (by decide +kernel)
  have i7 : ∀ w ∈ wsX70, w ∈ wsX7_state := by decide +kernel
  have lf77 := hts (.fieldLink RX7 77 "BurnerlineModel" "state" "I") (by decide +kernel)
  refine lv_aload_n hx hb dX7_state_0 rfl (lv_at hl 0 rfl) ?_
  refine lv_iconst (v := 0) hx hb dX7_state_1 (by decide) ?_
  refine va_put (D := D) (ci := 7) (v := .int 0) (ty := .int) (C := RX7) (T := TX7) (N := 35) hx hb hts i7 tyX7 tyX7_ok nmX7 hown hK hP hD hS 0 rfl rfl 34 (by decide) lf63 (fun _ h9 => h9) rfl (by decide +kernel) rfl rfl (Nat.le_of_ble_eq_true rfl) dX7_state_2 (fun H locs hP hD hS => ?_)
  have hP : va_P D vwCl [(xm, c7 xm_25 xm_26 xm_27 xm_29 xm_30 xm_31 (upd mm 34 0))] H := (congrArg (fun z9 => va_P D vwCl [(xm, .inr (7, z9))] H) (cs7_34 xm_25 xm_26 xm_27 xm_29 xm_30 xm_31 mm 0)).mp hP
  have hD : va_D A [(xm, c7 xm_25 xm_26 xm_27 xm_29 xm_30 xm_31 (upd mm 34 0))] := (congrArg (fun z9 => va_D A [(xm, .inr (7, z9))]) (cs7_34 xm_25 xm_26 xm_27 xm_29 xm_30 xm_31 mm 0)).mp hD
  refine lv_aload_n hx hb dX7_state_5 rfl (lv_at hl 0 rfl) ?_
  refine va_get (D := D) (ci := 7) (v := .int ((upd mm 34 0) 12)) (C := RX7) (T := TX7) (N := 35) hx hb hts i7 hown hK hP 0 rfl rfl 12 (by decide) lf77 (fun _ h9 => h9) rfl dX7_state_6 ?_
  refine cw_topi (y := (mm 12)) (cw_updn _ _ (by decide)) ?_
  have hsp : (s7_state mm) = (((mm 12), (upd mm 34 0)) : Int32 × (Nat → Int32)) := rfl
  exact hret _ _ _ _ _ _ _ _ hP hD hS dX7_state_9 rfl ⟨(), (by rw [hsp]), (by rw [hsp])⟩ (Nat.le_of_ble_eq_true rfl) (Nat.le_of_ble_eq_true rfl)

set_option maxHeartbeats 4000000 in
set_option maxRecDepth 100000 in
theorem k7_reason (l : Launch) (D : va_G) (cI cJ : ClassId) (xm : Nat) (xm_25 xm_26 xm_27 xm_29 xm_30 xm_31 : Value) (mm : Nat → Int32) : cw_Mi l yX7_reason wsX7_reason (cw_rm 0) D [(cI, .int), (cJ, .long)] [.ref xm] [(xm, c7 xm_25 xm_26 xm_27 xm_29 xm_30 xm_31 mm)] 0 0 (fun r (_ : Unit) => r = (s7_reason mm).1) (fun _ : Unit => [(xm, c7 xm_25 xm_26 xm_27 xm_29 xm_30 xm_31 (s7_reason mm).2)]) := by
  refine cw_ofi (cc := cX7_reason) (maxL := 1) (ret := (some .int)) (by decide) rfl (Nat.le_of_ble_eq_true rfl) rfl ?_
  intro p e s m args below meth c A ls Q hin0 hret
  obtain ⟨hx, hb, hr, hml, hts, hown, hlocks, hin, hP, hK, hD, hN, hA, hl⟩ := hin0
  have hS : va_S A s.heap s.heap [] := va_S.rf
  have hl : lv_has ls 1 [(0, .ref xm)] := hl
  have lf63 := hts (.fieldLink RX7 63 "BurnerlineModel" "thrown" "I") (by decide +kernel)
  have i7 : ∀ w ∈ wsX70, w ∈ wsX7_reason := by decide +kernel
  have lf100 := hts (.fieldLink RX7 100 "BurnerlineModel" "why" "I") (by decide +kernel)
  refine lv_aload_n hx hb dX7_reason_0 rfl (lv_at hl 0 rfl) ?_
  refine lv_iconst (v := 0) hx hb dX7_reason_1 (by decide) ?_
  refine va_put (D := D) (ci := 7) (v := .int 0) (ty := .int) (C := RX7) (T := TX7) (N := 35) hx hb hts i7 tyX7 tyX7_ok nmX7 hown hK hP hD hS 0 rfl rfl 34 (by decide) lf63 (fun _ h9 => h9) rfl (by decide +kernel) rfl rfl (Nat.le_of_ble_eq_true rfl) dX7_reason_2 (fun H locs hP hD hS => ?_)
  have hP : va_P D vwCl [(xm, c7 xm_25 xm_26 xm_27 xm_29 xm_30 xm_31 (upd mm 34 0))] H := (congrArg (fun z9 => va_P D vwCl [(xm, .inr (7, z9))] H) (cs7_34 xm_25 xm_26 xm_27 xm_29 xm_30 xm_31 mm 0)).mp hP
  have hD : va_D A [(xm, c7 xm_25 xm_26 xm_27 xm_29 xm_30 xm_31 (upd mm 34 0))] := (congrArg (fun z9 => va_D A [(xm, .inr (7, z9))]) (cs7_34 xm_25 xm_26 xm_27 xm_29 xm_30 xm_31 mm 0)).mp hD
  refine lv_aload_n hx hb dX7_reason_5 rfl (lv_at hl 0 rfl) ?_
  refine va_get (D := D) (ci := 7) (v := .int ((upd mm 34 0) 13)) (C := RX7) (T := TX7) (N := 35) hx hb hts i7 hown hK hP 0 rfl rfl 13 (by decide) lf100 (fun _ h9 => h9) rfl dX7_reason_6 ?_
  refine cw_topi (y := (mm 13)) (cw_updn _ _ (by decide)) ?_
  have hsp : (s7_reason mm) = (((mm 13), (upd mm 34 0)) : Int32 × (Nat → Int32)) := rfl
  exact hret _ _ _ _ _ _ _ _ hP hD hS dX7_reason_9 rfl ⟨(), (by rw [hsp]), (by rw [hsp])⟩ (Nat.le_of_ble_eq_true rfl) (Nat.le_of_ble_eq_true rfl)

set_option maxHeartbeats 4000000 in
set_option maxRecDepth 100000 in
theorem k7_time (l : Launch) (D : va_G) (cI cJ : ClassId) (xm : Nat) (xm_25 xm_26 xm_27 xm_29 xm_30 xm_31 : Value) (mm : Nat → Int32) : cw_Mi l yX7_time wsX7_time (cw_rm 0) D [(cI, .int), (cJ, .long)] [.ref xm] [(xm, c7 xm_25 xm_26 xm_27 xm_29 xm_30 xm_31 mm)] 0 0 (fun r (_ : Unit) => r = (s7_time mm).1) (fun _ : Unit => [(xm, c7 xm_25 xm_26 xm_27 xm_29 xm_30 xm_31 (s7_time mm).2)]) := by
  refine cw_ofi (cc := cX7_time) (maxL := 1) (ret := (some .int)) (by decide) rfl (Nat.le_of_ble_eq_true rfl) rfl ?_
  intro p e s m args below meth c A ls Q hin0 hret
  obtain ⟨hx, hb, hr, hml, hts, hown, hlocks, hin, hP, hK, hD, hN, hA, hl⟩ := hin0
  have hS : va_S A s.heap s.heap [] := va_S.rf
  have hl : lv_has ls 1 [(0, .ref xm)] := hl
  have lf63 := hts (.fieldLink RX7 63 "BurnerlineModel" "thrown" "I") (by decide +kernel)
  have i7 : ∀ w ∈ wsX70, w ∈ wsX7_time := by decide +kernel
  have lf103 := hts (.fieldLink RX7 103 "BurnerlineModel" "time" "I") (by decide +kernel)
  refine lv_aload_n hx hb dX7_time_0 rfl (lv_at hl 0 rfl) ?_
  refine lv_iconst (v := 0) hx hb dX7_time_1 (by decide) ?_
  refine va_put (D := D) (ci := 7) (v := .int 0) (ty := .int) (C := RX7) (T := TX7) (N := 35) hx hb hts i7 tyX7 tyX7_ok nmX7 hown hK hP hD hS 0 rfl rfl 34 (by decide) lf63 (fun _ h9 => h9) rfl (by decide +kernel) rfl rfl (Nat.le_of_ble_eq_true rfl) dX7_time_2 (fun H locs hP hD hS => ?_)
  have hP : va_P D vwCl [(xm, c7 xm_25 xm_26 xm_27 xm_29 xm_30 xm_31 (upd mm 34 0))] H := (congrArg (fun z9 => va_P D vwCl [(xm, .inr (7, z9))] H) (cs7_34 xm_25 xm_26 xm_27 xm_29 xm_30 xm_31 mm 0)).mp hP
  have hD : va_D A [(xm, c7 xm_25 xm_26 xm_27 xm_29 xm_30 xm_31 (upd mm 34 0))] := (congrArg (fun z9 => va_D A [(xm, .inr (7, z9))]) (cs7_34 xm_25 xm_26 xm_27 xm_29 xm_30 xm_31 mm 0)).mp hD
  refine lv_aload_n hx hb dX7_time_5 rfl (lv_at hl 0 rfl) ?_
  refine va_get (D := D) (ci := 7) (v := .int ((upd mm 34 0) 14)) (C := RX7) (T := TX7) (N := 35) hx hb hts i7 hown hK hP 0 rfl rfl 14 (by decide) lf103 (fun _ h9 => h9) rfl dX7_time_6 ?_
  refine cw_topi (y := (mm 14)) (cw_updn _ _ (by decide)) ?_
  have hsp : (s7_time mm) = (((mm 14), (upd mm 34 0)) : Int32 × (Nat → Int32)) := rfl
  exact hret _ _ _ _ _ _ _ _ hP hD hS dX7_time_9 rfl ⟨(), (by rw [hsp]), (by rw [hsp])⟩ (Nat.le_of_ble_eq_true rfl) (Nat.le_of_ble_eq_true rfl)

set_option maxHeartbeats 4000000 in
set_option maxRecDepth 100000 in
theorem k7_isOpen (l : Launch) (D : va_G) (cI cJ : ClassId) (xm : Nat) (xm_25 xm_26 xm_27 xm_29 xm_30 xm_31 : Value) (mm : Nat → Int32) (a1 : Int32) : cw_Mi l yX7_isOpen wsX7_isOpen (cw_rm 0) D [(cI, .int), (cJ, .long)] [.ref xm, .int a1] [(xm, c7 xm_25 xm_26 xm_27 xm_29 xm_30 xm_31 mm)] 0 0 (fun r (_ : Unit) => r = (s7_isOpen mm a1).1) (fun _ : Unit => [(xm, c7 xm_25 xm_26 xm_27 xm_29 xm_30 xm_31 (s7_isOpen mm a1).2)]) := by
  refine cw_ofi (cc := cX7_isOpen) (maxL := 2) (ret := (some .boolean)) (by decide) rfl (Nat.le_of_ble_eq_true rfl) rfl ?_
  intro p e s m args below meth c A ls Q hin0 hret
  obtain ⟨hx, hb, hr, hml, hts, hown, hlocks, hin, hP, hK, hD, hN, hA, hl⟩ := hin0
  have hS : va_S A s.heap s.heap [] := va_S.rf
  have hl : lv_has ls 2 [(0, .ref xm), (1, .int a1)] := hl
  have lf63 := hts (.fieldLink RX7 63 "BurnerlineModel" "thrown" "I") (by decide +kernel)
  have i7 : ∀ w ∈ wsX70, w ∈ wsX7_isOpen := by decide +kernel
  have lf77 := hts (.fieldLink RX7 77 "BurnerlineModel" "state" "I") (by decide +kernel)
  refine lv_aload_n hx hb dX7_isOpen_0 rfl (lv_at hl 0 rfl) ?_
  refine lv_iconst (v := 0) hx hb dX7_isOpen_1 (by decide) ?_
  refine va_put (D := D) (ci := 7) (v := .int 0) (ty := .int) (C := RX7) (T := TX7) (N := 35) hx hb hts i7 tyX7 tyX7_ok nmX7 hown hK hP hD hS 0 rfl rfl 34 (by decide) lf63 (fun _ h9 => h9) rfl (by decide +kernel) rfl rfl (Nat.le_of_ble_eq_true rfl) dX7_isOpen_2 (fun H locs hP hD hS => ?_)
  have hP : va_P D vwCl [(xm, c7 xm_25 xm_26 xm_27 xm_29 xm_30 xm_31 (upd mm 34 0))] H := (congrArg (fun z9 => va_P D vwCl [(xm, .inr (7, z9))] H) (cs7_34 xm_25 xm_26 xm_27 xm_29 xm_30 xm_31 mm 0)).mp hP
  have hD : va_D A [(xm, c7 xm_25 xm_26 xm_27 xm_29 xm_30 xm_31 (upd mm 34 0))] := (congrArg (fun z9 => va_D A [(xm, .inr (7, z9))]) (cs7_34 xm_25 xm_26 xm_27 xm_29 xm_30 xm_31 mm 0)).mp hD
  refine lv_iload_n hx hb dX7_isOpen_5 rfl (lv_at hl 1 rfl) ?_
  have J6 : ∀ (w7 : Int32), w7 = (if a1 = 0 then (if (mm 12) = 2 then 1 else (if (mm 12) = 3 then 1 else 0)) else (if (mm 12) = 3 then 1 else (if (mm 12) = 4 then 1 else 0))) → W p l e (cw_rm 0) s m args below meth c H locs 0 0 (Q) (F0 m 54 ls [.int w7]) := by
    intro w7 hw7
    have hsp : (s7_isOpen mm a1) = ((w7, (upd mm 34 0)) : Int32 × (Nat → Int32)) := by simp only [s7_isOpen, ← hw7]
    exact hret _ _ _ _ _ _ _ _ hP hD hS dX7_isOpen_54 (cw_b01 (by (try simp only [hw7]); (repeat' split) <;> first | exact Or.inl rfl | exact Or.inr rfl | assumption)) ⟨(), (by rw [hsp]), (by rw [hsp])⟩ (Nat.le_of_ble_eq_true rfl) (Nat.le_of_ble_eq_true rfl)
  refine lv_if_eq (tgt := 33) hx hb dX7_isOpen_6 (by decide) (fun z1 => ?_) (fun z1 => ?_)
  · refine lv_aload_n hx hb dX7_isOpen_33 rfl (lv_at hl 0 rfl) ?_
    refine va_get (D := D) (ci := 7) (v := .int ((upd mm 34 0) 12)) (C := RX7) (T := TX7) (N := 35) hx hb hts i7 hown hK hP 0 rfl rfl 12 (by decide) lf77 (fun _ h9 => h9) rfl dX7_isOpen_34 ?_
    refine cw_topi (y := (mm 12)) (cw_updn _ _ (by decide)) ?_
    refine lv_iconst (v := 2) hx hb dX7_isOpen_37 (by decide) ?_
    refine lv_icmp_eq (tgt := 49) hx hb dX7_isOpen_38 (by decide) (fun z2 => ?_) (fun z2 => ?_)
    · refine lv_iconst (v := 1) hx hb dX7_isOpen_49 (by decide) ?_
      refine lv_goto (tgt := 54) hx hb dX7_isOpen_50 (by decide) ?_
      exact J6 1 (by simp only [if_pos z1, if_pos z2])
    · refine lv_aload_n hx hb dX7_isOpen_41 rfl (lv_at hl 0 rfl) ?_
      refine va_get (D := D) (ci := 7) (v := .int ((upd mm 34 0) 12)) (C := RX7) (T := TX7) (N := 35) hx hb hts i7 hown hK hP 0 rfl rfl 12 (by decide) lf77 (fun _ h9 => h9) rfl dX7_isOpen_42 ?_
      refine cw_topi (y := (mm 12)) (cw_updn _ _ (by decide)) ?_
      refine lv_iconst (v := 3) hx hb dX7_isOpen_45 (by decide) ?_
      refine lv_icmp_ne (tgt := 53) hx hb dX7_isOpen_46 (by decide) (fun z3 => ?_) (fun z3 => ?_)
      · refine lv_iconst (v := 0) hx hb dX7_isOpen_53 (by decide) ?_
        exact J6 0 (by simp only [if_pos z1, if_neg z2, if_neg z3])
      · refine lv_iconst (v := 1) hx hb dX7_isOpen_49 (by decide) ?_
        refine lv_goto (tgt := 54) hx hb dX7_isOpen_50 (by decide) ?_
        exact J6 1 (by simp only [if_pos z1, if_neg z2, if_pos z3])
  · refine lv_aload_n hx hb dX7_isOpen_9 rfl (lv_at hl 0 rfl) ?_
    refine va_get (D := D) (ci := 7) (v := .int ((upd mm 34 0) 12)) (C := RX7) (T := TX7) (N := 35) hx hb hts i7 hown hK hP 0 rfl rfl 12 (by decide) lf77 (fun _ h9 => h9) rfl dX7_isOpen_10 ?_
    refine cw_topi (y := (mm 12)) (cw_updn _ _ (by decide)) ?_
    refine lv_iconst (v := 3) hx hb dX7_isOpen_13 (by decide) ?_
    refine lv_icmp_eq (tgt := 25) hx hb dX7_isOpen_14 (by decide) (fun z4 => ?_) (fun z4 => ?_)
    · refine lv_iconst (v := 1) hx hb dX7_isOpen_25 (by decide) ?_
      refine lv_goto (tgt := 54) hx hb dX7_isOpen_26 (by decide) ?_
      exact J6 1 (by simp only [if_neg z1, if_pos z4])
    · refine lv_aload_n hx hb dX7_isOpen_17 rfl (lv_at hl 0 rfl) ?_
      refine va_get (D := D) (ci := 7) (v := .int ((upd mm 34 0) 12)) (C := RX7) (T := TX7) (N := 35) hx hb hts i7 hown hK hP 0 rfl rfl 12 (by decide) lf77 (fun _ h9 => h9) rfl dX7_isOpen_18 ?_
      refine cw_topi (y := (mm 12)) (cw_updn _ _ (by decide)) ?_
      refine lv_iconst (v := 4) hx hb dX7_isOpen_21 (by decide) ?_
      refine lv_icmp_ne (tgt := 29) hx hb dX7_isOpen_22 (by decide) (fun z5 => ?_) (fun z5 => ?_)
      · refine lv_iconst (v := 0) hx hb dX7_isOpen_29 (by decide) ?_
        refine lv_goto (tgt := 54) hx hb dX7_isOpen_30 (by decide) ?_
        exact J6 0 (by simp only [if_neg z1, if_neg z4, if_neg z5])
      · refine lv_iconst (v := 1) hx hb dX7_isOpen_25 (by decide) ?_
        refine lv_goto (tgt := 54) hx hb dX7_isOpen_26 (by decide) ?_
        exact J6 1 (by simp only [if_neg z1, if_neg z4, if_pos z5])

set_option maxHeartbeats 4000000 in
set_option maxRecDepth 100000 in
theorem k7_sees (l : Launch) (D : va_G) (cI cJ : ClassId) (xm : Nat) (xm_25 xm_26 xm_27 xm_29 xm_30 xm_31 : Value) (mm : Nat → Int32) (a1 : Int32) : cw_Mi l yX7_sees wsX7_sees (cw_rm 1) D [(cI, .int), (cJ, .long)] [.ref xm, .int a1] [(xm, c7 xm_25 xm_26 xm_27 xm_29 xm_30 xm_31 mm)] 0 0 (fun r (_ : Unit) => r = (s7_sees mm a1).1) (fun _ : Unit => [(xm, c7 xm_25 xm_26 xm_27 xm_29 xm_30 xm_31 (s7_sees mm a1).2)]) := by
  refine cw_ofi (cc := cX7_sees) (maxL := 2) (ret := (some .boolean)) (by decide) rfl (Nat.le_of_ble_eq_true rfl) rfl ?_
  intro p e s m args below meth c A ls Q hin0 hret
  obtain ⟨hx, hb, hr, hml, hts, hown, hlocks, hin, hP, hK, hD, hN, hA, hl⟩ := hin0
  have hS : va_S A s.heap s.heap [] := va_S.rf
  have hl : lv_has ls 2 [(0, .ref xm), (1, .int a1)] := hl
  have lf63 := hts (.fieldLink RX7 63 "BurnerlineModel" "thrown" "I") (by decide +kernel)
  have i7 : ∀ w ∈ wsX70, w ∈ wsX7_sees := by decide +kernel
  have lf87 := hts (.fieldLink RX7 87 "BurnerlineModel" "seen" "I") (by decide +kernel)
  refine lv_aload_n hx hb dX7_sees_0 rfl (lv_at hl 0 rfl) ?_
  refine lv_iconst (v := 0) hx hb dX7_sees_1 (by decide) ?_
  refine va_put (D := D) (ci := 7) (v := .int 0) (ty := .int) (C := RX7) (T := TX7) (N := 35) hx hb hts i7 tyX7 tyX7_ok nmX7 hown hK hP hD hS 0 rfl rfl 34 (by decide) lf63 (fun _ h9 => h9) rfl (by decide +kernel) rfl rfl (Nat.le_of_ble_eq_true rfl) dX7_sees_2 (fun H locs hP hD hS => ?_)
  have hP : va_P D vwCl [(xm, c7 xm_25 xm_26 xm_27 xm_29 xm_30 xm_31 (upd mm 34 0))] H := (congrArg (fun z9 => va_P D vwCl [(xm, .inr (7, z9))] H) (cs7_34 xm_25 xm_26 xm_27 xm_29 xm_30 xm_31 mm 0)).mp hP
  have hD : va_D A [(xm, c7 xm_25 xm_26 xm_27 xm_29 xm_30 xm_31 (upd mm 34 0))] := (congrArg (fun z9 => va_D A [(xm, .inr (7, z9))]) (cs7_34 xm_25 xm_26 xm_27 xm_29 xm_30 xm_31 mm 0)).mp hD
  refine lv_aload_n hx hb dX7_sees_5 rfl (lv_at hl 0 rfl) ?_
  refine va_get (D := D) (ci := 7) (v := .int ((upd mm 34 0) 18)) (C := RX7) (T := TX7) (N := 35) hx hb hts i7 hown hK hP 0 rfl rfl 18 (by decide) lf87 (fun _ h9 => h9) rfl dX7_sees_6 ?_
  refine cw_topi (y := (mm 18)) (cw_updn _ _ (by decide)) ?_
  refine lv_iload_n hx hb dX7_sees_9 rfl (lv_at hl 1 rfl) ?_
  have J2 : ∀ (w3 : Int32), w3 = (if a1 = 0 then 0 else 1) → W p l e (cw_rm 1) s m args below meth c H locs 0 0 (Q) (F0 m 18 ls [.int w3, .int (mm 18)]) := by
    intro w3 hw3
    refine cw_cSi (As := [.int (mm 18), .int w3]) (rest := []) (wc := []) (wr := [(xm, c7 xm_25 xm_26 xm_27 xm_29 xm_30 xm_31 (upd mm 34 0))]) ⟨hx, hb, hml, hown, hts⟩ (k7_has l D cI cJ (mm 18) w3) (va_cwS 2 hts gX7_sees_X7_has rfl rfl rfl (by decide +kernel) ⟨Nat.le_of_ble_eq_true rfl, Nat.le_of_ble_eq_true rfl⟩) hK hN hP hD hS hA [] [0] rfl rfl (by decide) (by decide) (by decide) rfl hl.1 rfl (Nat.le_of_ble_eq_true rfl) dX7_sees_18 ⟨Nat.le_of_ble_eq_true rfl, Nat.le_of_ble_eq_true rfl⟩ (fun r5 u4 H locs hw hP hD hS => ?_)
    have hr5 : r5 = (s7_has (mm 18) w3) := hw
    have hP : va_P D vwCl [(xm, c7 xm_25 xm_26 xm_27 xm_29 xm_30 xm_31 (upd mm 34 0))] H := hP
    have hD : va_D A [(xm, c7 xm_25 xm_26 xm_27 xm_29 xm_30 xm_31 (upd mm 34 0))] := hD
    have hsp : (s7_sees mm a1) = ((r5, (upd mm 34 0)) : Int32 × (Nat → Int32)) := by simp only [s7_sees, ← hw3, ← hr5]
    exact hret _ _ _ _ _ _ _ _ hP hD hS dX7_sees_21 (cw_b01 (by (try simp only [hw3, hr5]); (repeat' split) <;> first | exact Or.inl rfl | exact Or.inr rfl | assumption | exact z7_has _ _)) ⟨(), (by rw [hsp]), (by rw [hsp])⟩ (Nat.le_of_ble_eq_true rfl) (Nat.le_of_ble_eq_true rfl)
  refine lv_if_eq (tgt := 17) hx hb dX7_sees_10 (by decide) (fun z1 => ?_) (fun z1 => ?_)
  · refine lv_iconst (v := 0) hx hb dX7_sees_17 (by decide) ?_
    exact J2 0 (by simp only [if_pos z1])
  · refine lv_iconst (v := 1) hx hb dX7_sees_13 (by decide) ?_
    refine lv_goto (tgt := 18) hx hb dX7_sees_14 (by decide) ?_
    exact J2 1 (by simp only [if_neg z1])

set_option maxHeartbeats 4000000 in
set_option maxRecDepth 100000 in
theorem k7_air (l : Launch) (D : va_G) (cI cJ : ClassId) (xm : Nat) (xm_25 xm_26 xm_27 xm_29 xm_30 xm_31 : Value) (mm : Nat → Int32) : cw_Mi l yX7_air wsX7_air (cw_rm 0) D [(cI, .int), (cJ, .long)] [.ref xm] [(xm, c7 xm_25 xm_26 xm_27 xm_29 xm_30 xm_31 mm)] 0 0 (fun r (_ : Unit) => r = (s7_air mm).1) (fun _ : Unit => [(xm, c7 xm_25 xm_26 xm_27 xm_29 xm_30 xm_31 (s7_air mm).2)]) := by
  refine cw_ofi (cc := cX7_air) (maxL := 1) (ret := (some .int)) (by decide) rfl (Nat.le_of_ble_eq_true rfl) rfl ?_
  intro p e s m args below meth c A ls Q hin0 hret
  obtain ⟨hx, hb, hr, hml, hts, hown, hlocks, hin, hP, hK, hD, hN, hA, hl⟩ := hin0
  have hS : va_S A s.heap s.heap [] := va_S.rf
  have hl : lv_has ls 1 [(0, .ref xm)] := hl
  have lf63 := hts (.fieldLink RX7 63 "BurnerlineModel" "thrown" "I") (by decide +kernel)
  have i7 : ∀ w ∈ wsX70, w ∈ wsX7_air := by decide +kernel
  have lf93 := hts (.fieldLink RX7 93 "BurnerlineModel" "air" "I") (by decide +kernel)
  refine lv_aload_n hx hb dX7_air_0 rfl (lv_at hl 0 rfl) ?_
  refine lv_iconst (v := 0) hx hb dX7_air_1 (by decide) ?_
  refine va_put (D := D) (ci := 7) (v := .int 0) (ty := .int) (C := RX7) (T := TX7) (N := 35) hx hb hts i7 tyX7 tyX7_ok nmX7 hown hK hP hD hS 0 rfl rfl 34 (by decide) lf63 (fun _ h9 => h9) rfl (by decide +kernel) rfl rfl (Nat.le_of_ble_eq_true rfl) dX7_air_2 (fun H locs hP hD hS => ?_)
  have hP : va_P D vwCl [(xm, c7 xm_25 xm_26 xm_27 xm_29 xm_30 xm_31 (upd mm 34 0))] H := (congrArg (fun z9 => va_P D vwCl [(xm, .inr (7, z9))] H) (cs7_34 xm_25 xm_26 xm_27 xm_29 xm_30 xm_31 mm 0)).mp hP
  have hD : va_D A [(xm, c7 xm_25 xm_26 xm_27 xm_29 xm_30 xm_31 (upd mm 34 0))] := (congrArg (fun z9 => va_D A [(xm, .inr (7, z9))]) (cs7_34 xm_25 xm_26 xm_27 xm_29 xm_30 xm_31 mm 0)).mp hD
  refine lv_aload_n hx hb dX7_air_5 rfl (lv_at hl 0 rfl) ?_
  refine va_get (D := D) (ci := 7) (v := .int ((upd mm 34 0) 15)) (C := RX7) (T := TX7) (N := 35) hx hb hts i7 hown hK hP 0 rfl rfl 15 (by decide) lf93 (fun _ h9 => h9) rfl dX7_air_6 ?_
  refine cw_topi (y := (mm 15)) (cw_updn _ _ (by decide)) ?_
  have hsp : (s7_air mm) = (((mm 15), (upd mm 34 0)) : Int32 × (Nat → Int32)) := rfl
  exact hret _ _ _ _ _ _ _ _ hP hD hS dX7_air_9 rfl ⟨(), (by rw [hsp]), (by rw [hsp])⟩ (Nat.le_of_ble_eq_true rfl) (Nat.le_of_ble_eq_true rfl)

set_option maxHeartbeats 4000000 in
set_option maxRecDepth 100000 in
theorem k7_fuel (l : Launch) (D : va_G) (cI cJ : ClassId) (xm : Nat) (xm_25 xm_26 xm_27 xm_29 xm_30 xm_31 : Value) (mm : Nat → Int32) : cw_Mi l yX7_fuel wsX7_fuel (cw_rm 0) D [(cI, .int), (cJ, .long)] [.ref xm] [(xm, c7 xm_25 xm_26 xm_27 xm_29 xm_30 xm_31 mm)] 0 0 (fun r (_ : Unit) => r = (s7_fuel mm).1) (fun _ : Unit => [(xm, c7 xm_25 xm_26 xm_27 xm_29 xm_30 xm_31 (s7_fuel mm).2)]) := by
  refine cw_ofi (cc := cX7_fuel) (maxL := 1) (ret := (some .int)) (by decide) rfl (Nat.le_of_ble_eq_true rfl) rfl ?_
  intro p e s m args below meth c A ls Q hin0 hret
  obtain ⟨hx, hb, hr, hml, hts, hown, hlocks, hin, hP, hK, hD, hN, hA, hl⟩ := hin0
  have hS : va_S A s.heap s.heap [] := va_S.rf
  have hl : lv_has ls 1 [(0, .ref xm)] := hl
  have lf63 := hts (.fieldLink RX7 63 "BurnerlineModel" "thrown" "I") (by decide +kernel)
  have i7 : ∀ w ∈ wsX70, w ∈ wsX7_fuel := by decide +kernel
  have lf90 := hts (.fieldLink RX7 90 "BurnerlineModel" "fuel" "I") (by decide +kernel)
  refine lv_aload_n hx hb dX7_fuel_0 rfl (lv_at hl 0 rfl) ?_
  refine lv_iconst (v := 0) hx hb dX7_fuel_1 (by decide) ?_
  refine va_put (D := D) (ci := 7) (v := .int 0) (ty := .int) (C := RX7) (T := TX7) (N := 35) hx hb hts i7 tyX7 tyX7_ok nmX7 hown hK hP hD hS 0 rfl rfl 34 (by decide) lf63 (fun _ h9 => h9) rfl (by decide +kernel) rfl rfl (Nat.le_of_ble_eq_true rfl) dX7_fuel_2 (fun H locs hP hD hS => ?_)
  have hP : va_P D vwCl [(xm, c7 xm_25 xm_26 xm_27 xm_29 xm_30 xm_31 (upd mm 34 0))] H := (congrArg (fun z9 => va_P D vwCl [(xm, .inr (7, z9))] H) (cs7_34 xm_25 xm_26 xm_27 xm_29 xm_30 xm_31 mm 0)).mp hP
  have hD : va_D A [(xm, c7 xm_25 xm_26 xm_27 xm_29 xm_30 xm_31 (upd mm 34 0))] := (congrArg (fun z9 => va_D A [(xm, .inr (7, z9))]) (cs7_34 xm_25 xm_26 xm_27 xm_29 xm_30 xm_31 mm 0)).mp hD
  refine lv_aload_n hx hb dX7_fuel_5 rfl (lv_at hl 0 rfl) ?_
  refine va_get (D := D) (ci := 7) (v := .int ((upd mm 34 0) 16)) (C := RX7) (T := TX7) (N := 35) hx hb hts i7 hown hK hP 0 rfl rfl 16 (by decide) lf90 (fun _ h9 => h9) rfl dX7_fuel_6 ?_
  refine cw_topi (y := (mm 16)) (cw_updn _ _ (by decide)) ?_
  have hsp : (s7_fuel mm) = (((mm 16), (upd mm 34 0)) : Int32 × (Nat → Int32)) := rfl
  exact hret _ _ _ _ _ _ _ _ hP hD hS dX7_fuel_9 rfl ⟨(), (by rw [hsp]), (by rw [hsp])⟩ (Nat.le_of_ble_eq_true rfl) (Nat.le_of_ble_eq_true rfl)

set_option maxHeartbeats 4000000 in
set_option maxRecDepth 100000 in
theorem k7_purged (l : Launch) (D : va_G) (cI cJ : ClassId) (xm : Nat) (xm_25 xm_26 xm_27 xm_29 xm_30 xm_31 : Value) (mm : Nat → Int32) : cw_Mi l yX7_purged wsX7_purged (cw_rm 0) D [(cI, .int), (cJ, .long)] [.ref xm] [(xm, c7 xm_25 xm_26 xm_27 xm_29 xm_30 xm_31 mm)] 0 0 (fun r (_ : Unit) => r = (s7_purged mm).1) (fun _ : Unit => [(xm, c7 xm_25 xm_26 xm_27 xm_29 xm_30 xm_31 (s7_purged mm).2)]) := by
  refine cw_ofi (cc := cX7_purged) (maxL := 1) (ret := (some .int)) (by decide) rfl (Nat.le_of_ble_eq_true rfl) rfl ?_
  intro p e s m args below meth c A ls Q hin0 hret
  obtain ⟨hx, hb, hr, hml, hts, hown, hlocks, hin, hP, hK, hD, hN, hA, hl⟩ := hin0
  have hS : va_S A s.heap s.heap [] := va_S.rf
  have hl : lv_has ls 1 [(0, .ref xm)] := hl
  have lf63 := hts (.fieldLink RX7 63 "BurnerlineModel" "thrown" "I") (by decide +kernel)
  have i7 : ∀ w ∈ wsX70, w ∈ wsX7_purged := by decide +kernel
  have lf106 := hts (.fieldLink RX7 106 "BurnerlineModel" "purged" "I") (by decide +kernel)
  refine lv_aload_n hx hb dX7_purged_0 rfl (lv_at hl 0 rfl) ?_
  refine lv_iconst (v := 0) hx hb dX7_purged_1 (by decide) ?_
  refine va_put (D := D) (ci := 7) (v := .int 0) (ty := .int) (C := RX7) (T := TX7) (N := 35) hx hb hts i7 tyX7 tyX7_ok nmX7 hown hK hP hD hS 0 rfl rfl 34 (by decide) lf63 (fun _ h9 => h9) rfl (by decide +kernel) rfl rfl (Nat.le_of_ble_eq_true rfl) dX7_purged_2 (fun H locs hP hD hS => ?_)
  have hP : va_P D vwCl [(xm, c7 xm_25 xm_26 xm_27 xm_29 xm_30 xm_31 (upd mm 34 0))] H := (congrArg (fun z9 => va_P D vwCl [(xm, .inr (7, z9))] H) (cs7_34 xm_25 xm_26 xm_27 xm_29 xm_30 xm_31 mm 0)).mp hP
  have hD : va_D A [(xm, c7 xm_25 xm_26 xm_27 xm_29 xm_30 xm_31 (upd mm 34 0))] := (congrArg (fun z9 => va_D A [(xm, .inr (7, z9))]) (cs7_34 xm_25 xm_26 xm_27 xm_29 xm_30 xm_31 mm 0)).mp hD
  refine lv_aload_n hx hb dX7_purged_5 rfl (lv_at hl 0 rfl) ?_
  refine va_get (D := D) (ci := 7) (v := .int ((upd mm 34 0) 17)) (C := RX7) (T := TX7) (N := 35) hx hb hts i7 hown hK hP 0 rfl rfl 17 (by decide) lf106 (fun _ h9 => h9) rfl dX7_purged_6 ?_
  refine cw_topi (y := (mm 17)) (cw_updn _ _ (by decide)) ?_
  have hsp : (s7_purged mm) = (((mm 17), (upd mm 34 0)) : Int32 × (Nat → Int32)) := rfl
  exact hret _ _ _ _ _ _ _ _ hP hD hS dX7_purged_9 rfl ⟨(), (by rw [hsp]), (by rw [hsp])⟩ (Nat.le_of_ble_eq_true rfl) (Nat.le_of_ble_eq_true rfl)

set_option maxHeartbeats 4000000 in
set_option maxRecDepth 100000 in
theorem k7_unlit (l : Launch) (D : va_G) (cI cJ : ClassId) (xm : Nat) (xm_25 xm_26 xm_27 xm_29 xm_30 xm_31 : Value) (mm : Nat → Int32) : cw_Mi l yX7_unlit wsX7_unlit (cw_rm 0) D [(cI, .int), (cJ, .long)] [.ref xm] [(xm, c7 xm_25 xm_26 xm_27 xm_29 xm_30 xm_31 mm)] 0 0 (fun r (_ : Unit) => r = (s7_unlit mm).1) (fun _ : Unit => [(xm, c7 xm_25 xm_26 xm_27 xm_29 xm_30 xm_31 (s7_unlit mm).2)]) := by
  refine cw_ofi (cc := cX7_unlit) (maxL := 1) (ret := (some .int)) (by decide) rfl (Nat.le_of_ble_eq_true rfl) rfl ?_
  intro p e s m args below meth c A ls Q hin0 hret
  obtain ⟨hx, hb, hr, hml, hts, hown, hlocks, hin, hP, hK, hD, hN, hA, hl⟩ := hin0
  have hS : va_S A s.heap s.heap [] := va_S.rf
  have hl : lv_has ls 1 [(0, .ref xm)] := hl
  have lf63 := hts (.fieldLink RX7 63 "BurnerlineModel" "thrown" "I") (by decide +kernel)
  have i7 : ∀ w ∈ wsX70, w ∈ wsX7_unlit := by decide +kernel
  have lf155 := hts (.fieldLink RX7 155 "BurnerlineModel" "unlit" "I") (by decide +kernel)
  refine lv_aload_n hx hb dX7_unlit_0 rfl (lv_at hl 0 rfl) ?_
  refine lv_iconst (v := 0) hx hb dX7_unlit_1 (by decide) ?_
  refine va_put (D := D) (ci := 7) (v := .int 0) (ty := .int) (C := RX7) (T := TX7) (N := 35) hx hb hts i7 tyX7 tyX7_ok nmX7 hown hK hP hD hS 0 rfl rfl 34 (by decide) lf63 (fun _ h9 => h9) rfl (by decide +kernel) rfl rfl (Nat.le_of_ble_eq_true rfl) dX7_unlit_2 (fun H locs hP hD hS => ?_)
  have hP : va_P D vwCl [(xm, c7 xm_25 xm_26 xm_27 xm_29 xm_30 xm_31 (upd mm 34 0))] H := (congrArg (fun z9 => va_P D vwCl [(xm, .inr (7, z9))] H) (cs7_34 xm_25 xm_26 xm_27 xm_29 xm_30 xm_31 mm 0)).mp hP
  have hD : va_D A [(xm, c7 xm_25 xm_26 xm_27 xm_29 xm_30 xm_31 (upd mm 34 0))] := (congrArg (fun z9 => va_D A [(xm, .inr (7, z9))]) (cs7_34 xm_25 xm_26 xm_27 xm_29 xm_30 xm_31 mm 0)).mp hD
  refine lv_aload_n hx hb dX7_unlit_5 rfl (lv_at hl 0 rfl) ?_
  refine va_get (D := D) (ci := 7) (v := .int ((upd mm 34 0) 22)) (C := RX7) (T := TX7) (N := 35) hx hb hts i7 hown hK hP 0 rfl rfl 22 (by decide) lf155 (fun _ h9 => h9) rfl dX7_unlit_6 ?_
  refine cw_topi (y := (mm 22)) (cw_updn _ _ (by decide)) ?_
  have hsp : (s7_unlit mm) = (((mm 22), (upd mm 34 0)) : Int32 × (Nat → Int32)) := rfl
  exact hret _ _ _ _ _ _ _ _ hP hD hS dX7_unlit_9 rfl ⟨(), (by rw [hsp]), (by rw [hsp])⟩ (Nat.le_of_ble_eq_true rfl) (Nat.le_of_ble_eq_true rfl)

set_option maxHeartbeats 4000000 in
set_option maxRecDepth 100000 in
theorem k7_longestUnlit (l : Launch) (D : va_G) (cI cJ : ClassId) (xm : Nat) (xm_25 xm_26 xm_27 xm_29 xm_30 xm_31 : Value) (mm : Nat → Int32) : cw_Mi l yX7_longestUnlit wsX7_longestUnlit (cw_rm 0) D [(cI, .int), (cJ, .long)] [.ref xm] [(xm, c7 xm_25 xm_26 xm_27 xm_29 xm_30 xm_31 mm)] 0 0 (fun r (_ : Unit) => r = (s7_longestUnlit mm).1) (fun _ : Unit => [(xm, c7 xm_25 xm_26 xm_27 xm_29 xm_30 xm_31 (s7_longestUnlit mm).2)]) := by
  refine cw_ofi (cc := cX7_longestUnlit) (maxL := 1) (ret := (some .int)) (by decide) rfl (Nat.le_of_ble_eq_true rfl) rfl ?_
  intro p e s m args below meth c A ls Q hin0 hret
  obtain ⟨hx, hb, hr, hml, hts, hown, hlocks, hin, hP, hK, hD, hN, hA, hl⟩ := hin0
  have hS : va_S A s.heap s.heap [] := va_S.rf
  have hl : lv_has ls 1 [(0, .ref xm)] := hl
  have lf63 := hts (.fieldLink RX7 63 "BurnerlineModel" "thrown" "I") (by decide +kernel)
  have i7 : ∀ w ∈ wsX70, w ∈ wsX7_longestUnlit := by decide +kernel
  have lf158 := hts (.fieldLink RX7 158 "BurnerlineModel" "longestUnlit" "I") (by decide +kernel)
  refine lv_aload_n hx hb dX7_longestUnlit_0 rfl (lv_at hl 0 rfl) ?_
  refine lv_iconst (v := 0) hx hb dX7_longestUnlit_1 (by decide) ?_
  refine va_put (D := D) (ci := 7) (v := .int 0) (ty := .int) (C := RX7) (T := TX7) (N := 35) hx hb hts i7 tyX7 tyX7_ok nmX7 hown hK hP hD hS 0 rfl rfl 34 (by decide) lf63 (fun _ h9 => h9) rfl (by decide +kernel) rfl rfl (Nat.le_of_ble_eq_true rfl) dX7_longestUnlit_2 (fun H locs hP hD hS => ?_)
  have hP : va_P D vwCl [(xm, c7 xm_25 xm_26 xm_27 xm_29 xm_30 xm_31 (upd mm 34 0))] H := (congrArg (fun z9 => va_P D vwCl [(xm, .inr (7, z9))] H) (cs7_34 xm_25 xm_26 xm_27 xm_29 xm_30 xm_31 mm 0)).mp hP
  have hD : va_D A [(xm, c7 xm_25 xm_26 xm_27 xm_29 xm_30 xm_31 (upd mm 34 0))] := (congrArg (fun z9 => va_D A [(xm, .inr (7, z9))]) (cs7_34 xm_25 xm_26 xm_27 xm_29 xm_30 xm_31 mm 0)).mp hD
  refine lv_aload_n hx hb dX7_longestUnlit_5 rfl (lv_at hl 0 rfl) ?_
  refine va_get (D := D) (ci := 7) (v := .int ((upd mm 34 0) 23)) (C := RX7) (T := TX7) (N := 35) hx hb hts i7 hown hK hP 0 rfl rfl 23 (by decide) lf158 (fun _ h9 => h9) rfl dX7_longestUnlit_6 ?_
  refine cw_topi (y := (mm 23)) (cw_updn _ _ (by decide)) ?_
  have hsp : (s7_longestUnlit mm) = (((mm 23), (upd mm 34 0)) : Int32 × (Nat → Int32)) := rfl
  exact hret _ _ _ _ _ _ _ _ hP hD hS dX7_longestUnlit_9 rfl ⟨(), (by rw [hsp]), (by rw [hsp])⟩ (Nat.le_of_ble_eq_true rfl) (Nat.le_of_ble_eq_true rfl)

set_option maxHeartbeats 4000000 in
set_option maxRecDepth 100000 in
theorem k7_changes (l : Launch) (D : va_G) (cI cJ : ClassId) (xm : Nat) (xm_25 xm_26 xm_27 xm_29 xm_30 xm_31 : Value) (mm : Nat → Int32) : cw_Mi l yX7_changes wsX7_changes (cw_rm 0) D [(cI, .int), (cJ, .long)] [.ref xm] [(xm, c7 xm_25 xm_26 xm_27 xm_29 xm_30 xm_31 mm)] 0 0 (fun r (_ : Unit) => r = (s7_changes mm).1) (fun _ : Unit => [(xm, c7 xm_25 xm_26 xm_27 xm_29 xm_30 xm_31 (s7_changes mm).2)]) := by
  refine cw_ofi (cc := cX7_changes) (maxL := 1) (ret := (some .int)) (by decide) rfl (Nat.le_of_ble_eq_true rfl) rfl ?_
  intro p e s m args below meth c A ls Q hin0 hret
  obtain ⟨hx, hb, hr, hml, hts, hown, hlocks, hin, hP, hK, hD, hN, hA, hl⟩ := hin0
  have hS : va_S A s.heap s.heap [] := va_S.rf
  have hl : lv_has ls 1 [(0, .ref xm)] := hl
  have lf63 := hts (.fieldLink RX7 63 "BurnerlineModel" "thrown" "I") (by decide +kernel)
  have i7 : ∀ w ∈ wsX70, w ∈ wsX7_changes := by decide +kernel
  have lf143 := hts (.fieldLink RX7 143 "BurnerlineModel" "changes" "I") (by decide +kernel)
  refine lv_aload_n hx hb dX7_changes_0 rfl (lv_at hl 0 rfl) ?_
  refine lv_iconst (v := 0) hx hb dX7_changes_1 (by decide) ?_
  refine va_put (D := D) (ci := 7) (v := .int 0) (ty := .int) (C := RX7) (T := TX7) (N := 35) hx hb hts i7 tyX7 tyX7_ok nmX7 hown hK hP hD hS 0 rfl rfl 34 (by decide) lf63 (fun _ h9 => h9) rfl (by decide +kernel) rfl rfl (Nat.le_of_ble_eq_true rfl) dX7_changes_2 (fun H locs hP hD hS => ?_)
  have hP : va_P D vwCl [(xm, c7 xm_25 xm_26 xm_27 xm_29 xm_30 xm_31 (upd mm 34 0))] H := (congrArg (fun z9 => va_P D vwCl [(xm, .inr (7, z9))] H) (cs7_34 xm_25 xm_26 xm_27 xm_29 xm_30 xm_31 mm 0)).mp hP
  have hD : va_D A [(xm, c7 xm_25 xm_26 xm_27 xm_29 xm_30 xm_31 (upd mm 34 0))] := (congrArg (fun z9 => va_D A [(xm, .inr (7, z9))]) (cs7_34 xm_25 xm_26 xm_27 xm_29 xm_30 xm_31 mm 0)).mp hD
  refine lv_aload_n hx hb dX7_changes_5 rfl (lv_at hl 0 rfl) ?_
  refine va_get (D := D) (ci := 7) (v := .int ((upd mm 34 0) 24)) (C := RX7) (T := TX7) (N := 35) hx hb hts i7 hown hK hP 0 rfl rfl 24 (by decide) lf143 (fun _ h9 => h9) rfl dX7_changes_6 ?_
  refine cw_topi (y := (mm 24)) (cw_updn _ _ (by decide)) ?_
  have hsp : (s7_changes mm) = (((mm 24), (upd mm 34 0)) : Int32 × (Nat → Int32)) := rfl
  exact hret _ _ _ _ _ _ _ _ hP hD hS dX7_changes_9 rfl ⟨(), (by rw [hsp]), (by rw [hsp])⟩ (Nat.le_of_ble_eq_true rfl) (Nat.le_of_ble_eq_true rfl)

set_option maxHeartbeats 4000000 in
set_option maxRecDepth 100000 in
theorem k7_kept (l : Launch) (D : va_G) (cI cJ : ClassId) (xm : Nat) (xm_25 xm_26 xm_27 xm_29 xm_30 xm_31 : Value) (mm : Nat → Int32) : cw_Mi l yX7_kept wsX7_kept (cw_rm 0) D [(cI, .int), (cJ, .long)] [.ref xm] [(xm, c7 xm_25 xm_26 xm_27 xm_29 xm_30 xm_31 mm)] 0 0 (fun r (_ : Unit) => r = (s7_kept mm)) (fun _ : Unit => [(xm, c7 xm_25 xm_26 xm_27 xm_29 xm_30 xm_31 mm)]) := by
  refine cw_ofi (cc := cX7_kept) (maxL := 1) (ret := (some .int)) (by decide) rfl (Nat.le_of_ble_eq_true rfl) rfl ?_
  intro p e s m args below meth c A ls Q hin0 hret
  obtain ⟨hx, hb, hr, hml, hts, hown, hlocks, hin, hP, hK, hD, hN, hA, hl⟩ := hin0
  have hS : va_S A s.heap s.heap [] := va_S.rf
  have hl : lv_has ls 1 [(0, .ref xm)] := hl
  have lf143 := hts (.fieldLink RX7 143 "BurnerlineModel" "changes" "I") (by decide +kernel)
  have i7 : ∀ w ∈ wsX70, w ∈ wsX7_kept := by decide +kernel
  refine lv_aload_n hx hb dX7_kept_0 rfl (lv_at hl 0 rfl) ?_
  refine va_get (D := D) (ci := 7) (v := .int (mm 24)) (C := RX7) (T := TX7) (N := 35) hx hb hts i7 hown hK hP 0 rfl rfl 24 (by decide) lf143 (fun _ h9 => h9) rfl dX7_kept_1 ?_
  refine lv_bipush (v := 100) hx hb dX7_kept_4 (by decide) ?_
  have J2 : ∀ (w3 : Int32), w3 = (if 100 ≤ (mm 24) then 100 else (mm 24)) → W p l e (cw_rm 0) s m args below meth c s.heap [] 0 0 (Q) (F0 m 18 ls [.int w3]) := by
    intro w3 hw3
    have hsp : (s7_kept mm) = (w3 : Int32) := by simp only [s7_kept, ← hw3]
    exact hret _ _ _ _ _ _ _ _ hP hD hS dX7_kept_18 rfl ⟨(), (by rw [hsp]), rfl⟩ (Nat.le_of_ble_eq_true rfl) (Nat.le_of_ble_eq_true rfl)
  refine lv_icmp_ge (tgt := 16) hx hb dX7_kept_6 (by decide) (fun z1 => ?_) (fun z1 => ?_)
  · refine lv_bipush (v := 100) hx hb dX7_kept_16 (by decide) ?_
    exact J2 100 (by simp only [if_pos z1])
  · refine lv_aload_n hx hb dX7_kept_9 rfl (lv_at hl 0 rfl) ?_
    refine va_get (D := D) (ci := 7) (v := .int (mm 24)) (C := RX7) (T := TX7) (N := 35) hx hb hts i7 hown hK hP 0 rfl rfl 24 (by decide) lf143 (fun _ h9 => h9) rfl dX7_kept_10 ?_
    refine lv_goto (tgt := 18) hx hb dX7_kept_13 (by decide) ?_
    exact J2 (mm 24) (by simp only [if_neg z1])

set_option maxHeartbeats 4000000 in
set_option maxRecDepth 100000 in
theorem k7_records (l : Launch) (D : va_G) (cI cJ : ClassId) (xm : Nat) (xm_25 xm_26 xm_27 xm_29 xm_30 xm_31 : Value) (mm : Nat → Int32) : cw_Mi l yX7_records wsX7_records (cw_rm 1) D [(cI, .int), (cJ, .long)] [.ref xm] [(xm, c7 xm_25 xm_26 xm_27 xm_29 xm_30 xm_31 mm)] 0 0 (fun r (_ : Unit) => r = (s7_records mm).1) (fun _ : Unit => [(xm, c7 xm_25 xm_26 xm_27 xm_29 xm_30 xm_31 (s7_records mm).2)]) := by
  refine cw_ofi (cc := cX7_records) (maxL := 1) (ret := (some .int)) (by decide) rfl (Nat.le_of_ble_eq_true rfl) rfl ?_
  intro p e s m args below meth c A ls Q hin0 hret
  obtain ⟨hx, hb, hr, hml, hts, hown, hlocks, hin, hP, hK, hD, hN, hA, hl⟩ := hin0
  have hS : va_S A s.heap s.heap [] := va_S.rf
  have hl : lv_has ls 1 [(0, .ref xm)] := hl
  have lf63 := hts (.fieldLink RX7 63 "BurnerlineModel" "thrown" "I") (by decide +kernel)
  have i7 : ∀ w ∈ wsX70, w ∈ wsX7_records := by decide +kernel
  refine lv_aload_n hx hb dX7_records_0 rfl (lv_at hl 0 rfl) ?_
  refine lv_iconst (v := 0) hx hb dX7_records_1 (by decide) ?_
  refine va_put (D := D) (ci := 7) (v := .int 0) (ty := .int) (C := RX7) (T := TX7) (N := 35) hx hb hts i7 tyX7 tyX7_ok nmX7 hown hK hP hD hS 0 rfl rfl 34 (by decide) lf63 (fun _ h9 => h9) rfl (by decide +kernel) rfl rfl (Nat.le_of_ble_eq_true rfl) dX7_records_2 (fun H locs hP hD hS => ?_)
  have hP : va_P D vwCl [(xm, c7 xm_25 xm_26 xm_27 xm_29 xm_30 xm_31 (upd mm 34 0))] H := (congrArg (fun z9 => va_P D vwCl [(xm, .inr (7, z9))] H) (cs7_34 xm_25 xm_26 xm_27 xm_29 xm_30 xm_31 mm 0)).mp hP
  have hD : va_D A [(xm, c7 xm_25 xm_26 xm_27 xm_29 xm_30 xm_31 (upd mm 34 0))] := (congrArg (fun z9 => va_D A [(xm, .inr (7, z9))]) (cs7_34 xm_25 xm_26 xm_27 xm_29 xm_30 xm_31 mm 0)).mp hD
  refine lv_aload_n hx hb dX7_records_5 rfl (lv_at hl 0 rfl) ?_
  refine cw_cVi (As := []) (rest := []) (wc := [(xm, c7 xm_25 xm_26 xm_27 xm_29 xm_30 xm_31 (upd mm 34 0))]) (wr := []) ⟨hx, hb, hml, hown, hts⟩ (k7_kept l D cI cJ xm xm_25 xm_26 xm_27 xm_29 xm_30 xm_31 (upd mm 34 0)) (cwV 0 hts gX7_records_X7_kept rfl rfl rfl (by decide +kernel) ⟨Nat.le_of_ble_eq_true rfl, Nat.le_of_ble_eq_true rfl⟩) hK hN hP hD hS hA [0] [] rfl rfl (by decide) (by decide) (by decide) 0 (ci := 7) rfl rfl rfl rfl hl.1 rfl (Nat.le_of_ble_eq_true rfl) dX7_records_6 ⟨Nat.le_of_ble_eq_true rfl, Nat.le_of_ble_eq_true rfl⟩ (fun r2 u1 H locs hw hP hD hS => ?_)
  have hr2 : r2 = (s7_kept (upd mm 34 0)) := hw
  have hP : va_P D vwCl [(xm, c7 xm_25 xm_26 xm_27 xm_29 xm_30 xm_31 (upd mm 34 0))] H := hP
  have hD : va_D A [(xm, c7 xm_25 xm_26 xm_27 xm_29 xm_30 xm_31 (upd mm 34 0))] := hD
  have hsp : (s7_records mm) = ((r2, (upd mm 34 0)) : Int32 × (Nat → Int32)) := by simp only [s7_records, ← hr2]
  exact hret _ _ _ _ _ _ _ _ hP hD hS dX7_records_9 rfl ⟨(), (by rw [hsp]), (by rw [hsp])⟩ (Nat.le_of_ble_eq_true rfl) (Nat.le_of_ble_eq_true rfl)

set_option maxHeartbeats 4000000 in
set_option maxRecDepth 100000 in
theorem k7_place (l : Launch) (D : va_G) (cI cJ : ClassId) (xm : Nat) (xm_25 xm_26 xm_27 xm_29 xm_30 xm_31 : Value) (mm : Nat → Int32) (a1 : Int32) : cw_Mi l yX7_place wsX7_place (cw_rm 0) D [(cI, .int), (cJ, .long)] [.ref xm, .int a1] [(xm, c7 xm_25 xm_26 xm_27 xm_29 xm_30 xm_31 mm)] 0 0 (fun r (_ : Unit) => r = (s7_place mm a1)) (fun _ : Unit => [(xm, c7 xm_25 xm_26 xm_27 xm_29 xm_30 xm_31 mm)]) := by
  refine cw_ofi (cc := cX7_place) (maxL := 2) (ret := (some .int)) (by decide) rfl (Nat.le_of_ble_eq_true rfl) rfl ?_
  intro p e s m args below meth c A ls Q hin0 hret
  obtain ⟨hx, hb, hr, hml, hts, hown, hlocks, hin, hP, hK, hD, hN, hA, hl⟩ := hin0
  have hS : va_S A s.heap s.heap [] := va_S.rf
  have hl : lv_has ls 2 [(0, .ref xm), (1, .int a1)] := hl
  have lf143 := hts (.fieldLink RX7 143 "BurnerlineModel" "changes" "I") (by decide +kernel)
  have i7 : ∀ w ∈ wsX70, w ∈ wsX7_place := by decide +kernel
  refine lv_aload_n hx hb dX7_place_0 rfl (lv_at hl 0 rfl) ?_
  refine va_get (D := D) (ci := 7) (v := .int (mm 24)) (C := RX7) (T := TX7) (N := 35) hx hb hts i7 hown hK hP 0 rfl rfl 24 (by decide) lf143 (fun _ h9 => h9) rfl dX7_place_1 ?_
  refine lv_iconst (v := 1) hx hb dX7_place_4 (by decide) ?_
  refine lv_isub hx hb dX7_place_5 ?_
  refine lv_iload_n hx hb dX7_place_6 rfl (lv_at hl 1 rfl) ?_
  refine lv_isub hx hb dX7_place_7 ?_
  refine lv_bipush (v := 100) hx hb dX7_place_8 (by decide) ?_
  refine lv_irem hx hb dX7_place_10 (by decide) ?_
  have hsp : (s7_place mm a1) = (((((mm 24) - 1) - a1) - (((mm 24) - 1) - a1) / 100 * 100) : Int32) := rfl
  exact hret _ _ _ _ _ _ _ _ hP hD hS dX7_place_11 rfl ⟨(), (by rw [hsp]), rfl⟩ (Nat.le_of_ble_eq_true rfl) (Nat.le_of_ble_eq_true rfl)

set_option maxHeartbeats 4000000 in
set_option maxRecDepth 100000 in
theorem k7_packs (l : Launch) (D : va_G) (cI cJ : ClassId) (xm : Nat) (xm_25 xm_26 xm_27 xm_29 xm_30 xm_31 : Value) (mm : Nat → Int32) : cw_Ml l yX7_packs wsX7_packs (cw_rm 0) D [(cI, .int), (cJ, .long)] [.ref xm] [(xm, c7 xm_25 xm_26 xm_27 xm_29 xm_30 xm_31 mm)] 0 0 (fun r (_ : Unit) => r = (s7_packs mm)) (fun _ : Unit => [(xm, c7 xm_25 xm_26 xm_27 xm_29 xm_30 xm_31 mm)]) := by
  refine cw_ofl (cc := cX7_packs) (maxL := 1) (ret := (some .long)) (by decide) rfl (Nat.le_of_ble_eq_true rfl) rfl ?_
  intro p e s m args below meth c A ls Q hin0 hret
  obtain ⟨hx, hb, hr, hml, hts, hown, hlocks, hin, hP, hK, hD, hN, hA, hl⟩ := hin0
  have hS : va_S A s.heap s.heap [] := va_S.rf
  have hl : lv_has ls 1 [(0, .ref xm)] := hl
  have lf77 := hts (.fieldLink RX7 77 "BurnerlineModel" "state" "I") (by decide +kernel)
  have i7 : ∀ w ∈ wsX70, w ∈ wsX7_packs := by decide +kernel
  have lf100 := hts (.fieldLink RX7 100 "BurnerlineModel" "why" "I") (by decide +kernel)
  have lf103 := hts (.fieldLink RX7 103 "BurnerlineModel" "time" "I") (by decide +kernel)
  have lf93 := hts (.fieldLink RX7 93 "BurnerlineModel" "air" "I") (by decide +kernel)
  have lf90 := hts (.fieldLink RX7 90 "BurnerlineModel" "fuel" "I") (by decide +kernel)
  have lf106 := hts (.fieldLink RX7 106 "BurnerlineModel" "purged" "I") (by decide +kernel)
  have lf87 := hts (.fieldLink RX7 87 "BurnerlineModel" "seen" "I") (by decide +kernel)
  have lf127 := hts (.fieldLink RX7 127 "BurnerlineModel" "pilotRow" "I") (by decide +kernel)
  have lf133 := hts (.fieldLink RX7 133 "BurnerlineModel" "mainRow" "I") (by decide +kernel)
  refine lv_aload_n hx hb dX7_packs_0 rfl (lv_at hl 0 rfl) ?_
  refine va_get (D := D) (ci := 7) (v := .int (mm 12)) (C := RX7) (T := TX7) (N := 35) hx hb hts i7 hown hK hP 0 rfl rfl 12 (by decide) lf77 (fun _ h9 => h9) rfl dX7_packs_1 ?_
  refine lv_i2l (v := ((mm 12).toInt64)) hx hb dX7_packs_4 rfl ?_
  refine lv_aload_n hx hb dX7_packs_5 rfl (lv_at hl 0 rfl) ?_
  refine va_get (D := D) (ci := 7) (v := .int (mm 13)) (C := RX7) (T := TX7) (N := 35) hx hb hts i7 hown hK hP 0 rfl rfl 13 (by decide) lf100 (fun _ h9 => h9) rfl dX7_packs_6 ?_
  refine lv_i2l (v := ((mm 13).toInt64)) hx hb dX7_packs_9 rfl ?_
  refine lv_iconst (v := 3) hx hb dX7_packs_10 (by decide) ?_
  refine lv_lshl (v := (((mm 13).toInt64) <<< ((3 : Int32).toInt64 &&& 63))) hx hb dX7_packs_11 rfl ?_
  refine lv_ladd hx hb dX7_packs_12 ?_
  refine lv_aload_n hx hb dX7_packs_13 rfl (lv_at hl 0 rfl) ?_
  refine va_get (D := D) (ci := 7) (v := .int (mm 14)) (C := RX7) (T := TX7) (N := 35) hx hb hts i7 hown hK hP 0 rfl rfl 14 (by decide) lf103 (fun _ h9 => h9) rfl dX7_packs_14 ?_
  refine lv_i2l (v := ((mm 14).toInt64)) hx hb dX7_packs_17 rfl ?_
  refine lv_bipush (v := 7) hx hb dX7_packs_18 (by decide) ?_
  refine lv_lshl (v := (((mm 14).toInt64) <<< ((7 : Int32).toInt64 &&& 63))) hx hb dX7_packs_20 rfl ?_
  refine lv_ladd hx hb dX7_packs_21 ?_
  refine lv_aload_n hx hb dX7_packs_22 rfl (lv_at hl 0 rfl) ?_
  refine va_get (D := D) (ci := 7) (v := .int (mm 15)) (C := RX7) (T := TX7) (N := 35) hx hb hts i7 hown hK hP 0 rfl rfl 15 (by decide) lf93 (fun _ h9 => h9) rfl dX7_packs_23 ?_
  refine lv_i2l (v := ((mm 15).toInt64)) hx hb dX7_packs_26 rfl ?_
  refine lv_bipush (v := 25) hx hb dX7_packs_27 (by decide) ?_
  refine lv_lshl (v := (((mm 15).toInt64) <<< ((25 : Int32).toInt64 &&& 63))) hx hb dX7_packs_29 rfl ?_
  refine lv_ladd hx hb dX7_packs_30 ?_
  refine lv_aload_n hx hb dX7_packs_31 rfl (lv_at hl 0 rfl) ?_
  refine va_get (D := D) (ci := 7) (v := .int (mm 16)) (C := RX7) (T := TX7) (N := 35) hx hb hts i7 hown hK hP 0 rfl rfl 16 (by decide) lf90 (fun _ h9 => h9) rfl dX7_packs_32 ?_
  refine lv_i2l (v := ((mm 16).toInt64)) hx hb dX7_packs_35 rfl ?_
  refine lv_bipush (v := 32) hx hb dX7_packs_36 (by decide) ?_
  refine lv_lshl (v := (((mm 16).toInt64) <<< ((32 : Int32).toInt64 &&& 63))) hx hb dX7_packs_38 rfl ?_
  refine lv_ladd hx hb dX7_packs_39 ?_
  refine lv_aload_n hx hb dX7_packs_40 rfl (lv_at hl 0 rfl) ?_
  refine va_get (D := D) (ci := 7) (v := .int (mm 17)) (C := RX7) (T := TX7) (N := 35) hx hb hts i7 hown hK hP 0 rfl rfl 17 (by decide) lf106 (fun _ h9 => h9) rfl dX7_packs_41 ?_
  refine lv_i2l (v := ((mm 17).toInt64)) hx hb dX7_packs_44 rfl ?_
  refine lv_bipush (v := 39) hx hb dX7_packs_45 (by decide) ?_
  refine lv_lshl (v := (((mm 17).toInt64) <<< ((39 : Int32).toInt64 &&& 63))) hx hb dX7_packs_47 rfl ?_
  refine lv_ladd hx hb dX7_packs_48 ?_
  refine lv_aload_n hx hb dX7_packs_49 rfl (lv_at hl 0 rfl) ?_
  refine va_get (D := D) (ci := 7) (v := .int (mm 18)) (C := RX7) (T := TX7) (N := 35) hx hb hts i7 hown hK hP 0 rfl rfl 18 (by decide) lf87 (fun _ h9 => h9) rfl dX7_packs_50 ?_
  refine lv_i2l (v := ((mm 18).toInt64)) hx hb dX7_packs_53 rfl ?_
  refine lv_bipush (v := 51) hx hb dX7_packs_54 (by decide) ?_
  refine lv_lshl (v := (((mm 18).toInt64) <<< ((51 : Int32).toInt64 &&& 63))) hx hb dX7_packs_56 rfl ?_
  refine lv_ladd hx hb dX7_packs_57 ?_
  refine lv_aload_n hx hb dX7_packs_58 rfl (lv_at hl 0 rfl) ?_
  refine va_get (D := D) (ci := 7) (v := .int (mm 19)) (C := RX7) (T := TX7) (N := 35) hx hb hts i7 hown hK hP 0 rfl rfl 19 (by decide) lf127 (fun _ h9 => h9) rfl dX7_packs_59 ?_
  refine lv_i2l (v := ((mm 19).toInt64)) hx hb dX7_packs_62 rfl ?_
  refine lv_bipush (v := 53) hx hb dX7_packs_63 (by decide) ?_
  refine lv_lshl (v := (((mm 19).toInt64) <<< ((53 : Int32).toInt64 &&& 63))) hx hb dX7_packs_65 rfl ?_
  refine lv_ladd hx hb dX7_packs_66 ?_
  refine lv_aload_n hx hb dX7_packs_67 rfl (lv_at hl 0 rfl) ?_
  refine va_get (D := D) (ci := 7) (v := .int (mm 20)) (C := RX7) (T := TX7) (N := 35) hx hb hts i7 hown hK hP 0 rfl rfl 20 (by decide) lf133 (fun _ h9 => h9) rfl dX7_packs_68 ?_
  refine lv_i2l (v := ((mm 20).toInt64)) hx hb dX7_packs_71 rfl ?_
  refine lv_bipush (v := 56) hx hb dX7_packs_72 (by decide) ?_
  refine lv_lshl (v := (((mm 20).toInt64) <<< ((56 : Int32).toInt64 &&& 63))) hx hb dX7_packs_74 rfl ?_
  refine lv_ladd hx hb dX7_packs_75 ?_
  have hsp : (s7_packs mm) = (((((((((((mm 12).toInt64) + (((mm 13).toInt64) <<< ((3 : Int32).toInt64 &&& 63))) + (((mm 14).toInt64) <<< ((7 : Int32).toInt64 &&& 63))) + (((mm 15).toInt64) <<< ((25 : Int32).toInt64 &&& 63))) + (((mm 16).toInt64) <<< ((32 : Int32).toInt64 &&& 63))) + (((mm 17).toInt64) <<< ((39 : Int32).toInt64 &&& 63))) + (((mm 18).toInt64) <<< ((51 : Int32).toInt64 &&& 63))) + (((mm 19).toInt64) <<< ((53 : Int32).toInt64 &&& 63))) + (((mm 20).toInt64) <<< ((56 : Int32).toInt64 &&& 63))) : Int64) := rfl
  exact hret _ _ _ _ _ _ _ _ hP hD hS dX7_packs_76 ⟨(), (by rw [hsp]), rfl⟩ (Nat.le_of_ble_eq_true rfl) (Nat.le_of_ble_eq_true rfl)

set_option maxHeartbeats 4000000 in
set_option maxRecDepth 100000 in
theorem k7_unpacks (l : Launch) (D : va_G) (cI cJ : ClassId) (xm : Nat) (xm_25 xm_26 xm_27 xm_29 xm_30 xm_31 : Value) (mm : Nat → Int32) (a1 : Int64) : cw_Mv l yX7_unpacks wsX7_unpacks (cw_rm 0) D [(cI, .int), (cJ, .long)] [.ref xm, .long a1] [(xm, c7 xm_25 xm_26 xm_27 xm_29 xm_30 xm_31 mm)] 0 0 (fun _ : Unit => True) (fun _ : Unit => [(xm, c7 xm_25 xm_26 xm_27 xm_29 xm_30 xm_31 (s7_unpacks mm a1))]) := by
  refine cw_ofv (cc := cX7_unpacks) (maxL := 3) (ret := none) (by decide) rfl (Nat.le_of_ble_eq_true rfl) rfl ?_
  intro p e s m args below meth c A ls Q hin0 hret
  obtain ⟨hx, hb, hr, hml, hts, hown, hlocks, hin, hP, hK, hD, hN, hA, hl⟩ := hin0
  have hS : va_S A s.heap s.heap [] := va_S.rf
  have hl : lv_has ls 3 [(0, .ref xm), (1, .long a1)] := hl
  have lk175 := hts (.constantLong RX7 175 (7)) (by decide +kernel)
  have lf77 := hts (.fieldLink RX7 77 "BurnerlineModel" "state" "I") (by decide +kernel)
  have i7 : ∀ w ∈ wsX70, w ∈ wsX7_unpacks := by decide +kernel
  have lk177 := hts (.constantLong RX7 177 (15)) (by decide +kernel)
  have lf100 := hts (.fieldLink RX7 100 "BurnerlineModel" "why" "I") (by decide +kernel)
  have lk179 := hts (.constantLong RX7 179 (262143)) (by decide +kernel)
  have lf103 := hts (.fieldLink RX7 103 "BurnerlineModel" "time" "I") (by decide +kernel)
  have lk181 := hts (.constantLong RX7 181 (127)) (by decide +kernel)
  have lf93 := hts (.fieldLink RX7 93 "BurnerlineModel" "air" "I") (by decide +kernel)
  have lf90 := hts (.fieldLink RX7 90 "BurnerlineModel" "fuel" "I") (by decide +kernel)
  have lk183 := hts (.constantLong RX7 183 (4095)) (by decide +kernel)
  have lf106 := hts (.fieldLink RX7 106 "BurnerlineModel" "purged" "I") (by decide +kernel)
  have lk185 := hts (.constantLong RX7 185 (3)) (by decide +kernel)
  have lf87 := hts (.fieldLink RX7 87 "BurnerlineModel" "seen" "I") (by decide +kernel)
  have lf127 := hts (.fieldLink RX7 127 "BurnerlineModel" "pilotRow" "I") (by decide +kernel)
  have lf133 := hts (.fieldLink RX7 133 "BurnerlineModel" "mainRow" "I") (by decide +kernel)
  refine lv_aload_n hx hb dX7_unpacks_0 rfl (lv_at hl 0 rfl) ?_
  refine lv_lload_n hx hb dX7_unpacks_1 rfl (lv_at hl 1 rfl) ?_
  refine lv_ldc2 hx hb hown lk175 dX7_unpacks_2 ?_
  refine lv_land hx hb dX7_unpacks_5 ?_
  refine lv_l2i (v := ((a1 &&& 7).toInt32)) hx hb dX7_unpacks_6 rfl ?_
  refine va_put (D := D) (ci := 7) (v := .int ((a1 &&& 7).toInt32)) (ty := .int) (C := RX7) (T := TX7) (N := 35) hx hb hts i7 tyX7 tyX7_ok nmX7 hown hK hP hD hS 0 rfl rfl 12 (by decide) lf77 (fun _ h9 => h9) rfl (by decide +kernel) rfl rfl (Nat.le_of_ble_eq_true rfl) dX7_unpacks_7 (fun H locs hP hD hS => ?_)
  have hP : va_P D vwCl [(xm, c7 xm_25 xm_26 xm_27 xm_29 xm_30 xm_31 (upd mm 12 ((a1 &&& 7).toInt32)))] H := (congrArg (fun z9 => va_P D vwCl [(xm, .inr (7, z9))] H) (cs7_12 xm_25 xm_26 xm_27 xm_29 xm_30 xm_31 mm ((a1 &&& 7).toInt32))).mp hP
  have hD : va_D A [(xm, c7 xm_25 xm_26 xm_27 xm_29 xm_30 xm_31 (upd mm 12 ((a1 &&& 7).toInt32)))] := (congrArg (fun z9 => va_D A [(xm, .inr (7, z9))]) (cs7_12 xm_25 xm_26 xm_27 xm_29 xm_30 xm_31 mm ((a1 &&& 7).toInt32))).mp hD
  refine lv_aload_n hx hb dX7_unpacks_10 rfl (lv_at hl 0 rfl) ?_
  refine lv_lload_n hx hb dX7_unpacks_11 rfl (lv_at hl 1 rfl) ?_
  refine lv_iconst (v := 3) hx hb dX7_unpacks_12 (by decide) ?_
  refine lv_lshr (v := (a1 >>> ((3 : Int32).toInt64 &&& 63))) hx hb dX7_unpacks_13 rfl ?_
  refine lv_ldc2 hx hb hown lk177 dX7_unpacks_14 ?_
  refine lv_land hx hb dX7_unpacks_17 ?_
  refine lv_l2i (v := (((a1 >>> ((3 : Int32).toInt64 &&& 63)) &&& 15).toInt32)) hx hb dX7_unpacks_18 rfl ?_
  refine va_put (D := D) (ci := 7) (v := .int (((a1 >>> ((3 : Int32).toInt64 &&& 63)) &&& 15).toInt32)) (ty := .int) (C := RX7) (T := TX7) (N := 35) hx hb hts i7 tyX7 tyX7_ok nmX7 hown hK hP hD hS 0 rfl rfl 13 (by decide) lf100 (fun _ h9 => h9) rfl (by decide +kernel) rfl rfl (Nat.le_of_ble_eq_true rfl) dX7_unpacks_19 (fun H locs hP hD hS => ?_)
  have hP : va_P D vwCl [(xm, c7 xm_25 xm_26 xm_27 xm_29 xm_30 xm_31 (upd (upd mm 12 ((a1 &&& 7).toInt32)) 13 (((a1 >>> ((3 : Int32).toInt64 &&& 63)) &&& 15).toInt32)))] H := (congrArg (fun z9 => va_P D vwCl [(xm, .inr (7, z9))] H) (cs7_13 xm_25 xm_26 xm_27 xm_29 xm_30 xm_31 (upd mm 12 ((a1 &&& 7).toInt32)) (((a1 >>> ((3 : Int32).toInt64 &&& 63)) &&& 15).toInt32))).mp hP
  have hD : va_D A [(xm, c7 xm_25 xm_26 xm_27 xm_29 xm_30 xm_31 (upd (upd mm 12 ((a1 &&& 7).toInt32)) 13 (((a1 >>> ((3 : Int32).toInt64 &&& 63)) &&& 15).toInt32)))] := (congrArg (fun z9 => va_D A [(xm, .inr (7, z9))]) (cs7_13 xm_25 xm_26 xm_27 xm_29 xm_30 xm_31 (upd mm 12 ((a1 &&& 7).toInt32)) (((a1 >>> ((3 : Int32).toInt64 &&& 63)) &&& 15).toInt32))).mp hD
  refine lv_aload_n hx hb dX7_unpacks_22 rfl (lv_at hl 0 rfl) ?_
  refine lv_lload_n hx hb dX7_unpacks_23 rfl (lv_at hl 1 rfl) ?_
  refine lv_bipush (v := 7) hx hb dX7_unpacks_24 (by decide) ?_
  refine lv_lshr (v := (a1 >>> ((7 : Int32).toInt64 &&& 63))) hx hb dX7_unpacks_26 rfl ?_
  refine lv_ldc2 hx hb hown lk179 dX7_unpacks_27 ?_
  refine lv_land hx hb dX7_unpacks_30 ?_
  refine lv_l2i (v := (((a1 >>> ((7 : Int32).toInt64 &&& 63)) &&& 262143).toInt32)) hx hb dX7_unpacks_31 rfl ?_
  refine va_put (D := D) (ci := 7) (v := .int (((a1 >>> ((7 : Int32).toInt64 &&& 63)) &&& 262143).toInt32)) (ty := .int) (C := RX7) (T := TX7) (N := 35) hx hb hts i7 tyX7 tyX7_ok nmX7 hown hK hP hD hS 0 rfl rfl 14 (by decide) lf103 (fun _ h9 => h9) rfl (by decide +kernel) rfl rfl (Nat.le_of_ble_eq_true rfl) dX7_unpacks_32 (fun H locs hP hD hS => ?_)
  have hP : va_P D vwCl [(xm, c7 xm_25 xm_26 xm_27 xm_29 xm_30 xm_31 (upd (upd (upd mm 12 ((a1 &&& 7).toInt32)) 13 (((a1 >>> ((3 : Int32).toInt64 &&& 63)) &&& 15).toInt32)) 14 (((a1 >>> ((7 : Int32).toInt64 &&& 63)) &&& 262143).toInt32)))] H := (congrArg (fun z9 => va_P D vwCl [(xm, .inr (7, z9))] H) (cs7_14 xm_25 xm_26 xm_27 xm_29 xm_30 xm_31 (upd (upd mm 12 ((a1 &&& 7).toInt32)) 13 (((a1 >>> ((3 : Int32).toInt64 &&& 63)) &&& 15).toInt32)) (((a1 >>> ((7 : Int32).toInt64 &&& 63)) &&& 262143).toInt32))).mp hP
  have hD : va_D A [(xm, c7 xm_25 xm_26 xm_27 xm_29 xm_30 xm_31 (upd (upd (upd mm 12 ((a1 &&& 7).toInt32)) 13 (((a1 >>> ((3 : Int32).toInt64 &&& 63)) &&& 15).toInt32)) 14 (((a1 >>> ((7 : Int32).toInt64 &&& 63)) &&& 262143).toInt32)))] := (congrArg (fun z9 => va_D A [(xm, .inr (7, z9))]) (cs7_14 xm_25 xm_26 xm_27 xm_29 xm_30 xm_31 (upd (upd mm 12 ((a1 &&& 7).toInt32)) 13 (((a1 >>> ((3 : Int32).toInt64 &&& 63)) &&& 15).toInt32)) (((a1 >>> ((7 : Int32).toInt64 &&& 63)) &&& 262143).toInt32))).mp hD
  refine lv_aload_n hx hb dX7_unpacks_35 rfl (lv_at hl 0 rfl) ?_
  refine lv_lload_n hx hb dX7_unpacks_36 rfl (lv_at hl 1 rfl) ?_
  refine lv_bipush (v := 25) hx hb dX7_unpacks_37 (by decide) ?_
  refine lv_lshr (v := (a1 >>> ((25 : Int32).toInt64 &&& 63))) hx hb dX7_unpacks_39 rfl ?_
  refine lv_ldc2 hx hb hown lk181 dX7_unpacks_40 ?_
  refine lv_land hx hb dX7_unpacks_43 ?_
  refine lv_l2i (v := (((a1 >>> ((25 : Int32).toInt64 &&& 63)) &&& 127).toInt32)) hx hb dX7_unpacks_44 rfl ?_
  refine va_put (D := D) (ci := 7) (v := .int (((a1 >>> ((25 : Int32).toInt64 &&& 63)) &&& 127).toInt32)) (ty := .int) (C := RX7) (T := TX7) (N := 35) hx hb hts i7 tyX7 tyX7_ok nmX7 hown hK hP hD hS 0 rfl rfl 15 (by decide) lf93 (fun _ h9 => h9) rfl (by decide +kernel) rfl rfl (Nat.le_of_ble_eq_true rfl) dX7_unpacks_45 (fun H locs hP hD hS => ?_)
  have hP : va_P D vwCl [(xm, c7 xm_25 xm_26 xm_27 xm_29 xm_30 xm_31 (upd (upd (upd (upd mm 12 ((a1 &&& 7).toInt32)) 13 (((a1 >>> ((3 : Int32).toInt64 &&& 63)) &&& 15).toInt32)) 14 (((a1 >>> ((7 : Int32).toInt64 &&& 63)) &&& 262143).toInt32)) 15 (((a1 >>> ((25 : Int32).toInt64 &&& 63)) &&& 127).toInt32)))] H := (congrArg (fun z9 => va_P D vwCl [(xm, .inr (7, z9))] H) (cs7_15 xm_25 xm_26 xm_27 xm_29 xm_30 xm_31 (upd (upd (upd mm 12 ((a1 &&& 7).toInt32)) 13 (((a1 >>> ((3 : Int32).toInt64 &&& 63)) &&& 15).toInt32)) 14 (((a1 >>> ((7 : Int32).toInt64 &&& 63)) &&& 262143).toInt32)) (((a1 >>> ((25 : Int32).toInt64 &&& 63)) &&& 127).toInt32))).mp hP
  have hD : va_D A [(xm, c7 xm_25 xm_26 xm_27 xm_29 xm_30 xm_31 (upd (upd (upd (upd mm 12 ((a1 &&& 7).toInt32)) 13 (((a1 >>> ((3 : Int32).toInt64 &&& 63)) &&& 15).toInt32)) 14 (((a1 >>> ((7 : Int32).toInt64 &&& 63)) &&& 262143).toInt32)) 15 (((a1 >>> ((25 : Int32).toInt64 &&& 63)) &&& 127).toInt32)))] := (congrArg (fun z9 => va_D A [(xm, .inr (7, z9))]) (cs7_15 xm_25 xm_26 xm_27 xm_29 xm_30 xm_31 (upd (upd (upd mm 12 ((a1 &&& 7).toInt32)) 13 (((a1 >>> ((3 : Int32).toInt64 &&& 63)) &&& 15).toInt32)) 14 (((a1 >>> ((7 : Int32).toInt64 &&& 63)) &&& 262143).toInt32)) (((a1 >>> ((25 : Int32).toInt64 &&& 63)) &&& 127).toInt32))).mp hD
  refine lv_aload_n hx hb dX7_unpacks_48 rfl (lv_at hl 0 rfl) ?_
  refine lv_lload_n hx hb dX7_unpacks_49 rfl (lv_at hl 1 rfl) ?_
  refine lv_bipush (v := 32) hx hb dX7_unpacks_50 (by decide) ?_
  refine lv_lshr (v := (a1 >>> ((32 : Int32).toInt64 &&& 63))) hx hb dX7_unpacks_52 rfl ?_
  refine lv_ldc2 hx hb hown lk181 dX7_unpacks_53 ?_
  refine lv_land hx hb dX7_unpacks_56 ?_
  refine lv_l2i (v := (((a1 >>> ((32 : Int32).toInt64 &&& 63)) &&& 127).toInt32)) hx hb dX7_unpacks_57 rfl ?_
  refine va_put (D := D) (ci := 7) (v := .int (((a1 >>> ((32 : Int32).toInt64 &&& 63)) &&& 127).toInt32)) (ty := .int) (C := RX7) (T := TX7) (N := 35) hx hb hts i7 tyX7 tyX7_ok nmX7 hown hK hP hD hS 0 rfl rfl 16 (by decide) lf90 (fun _ h9 => h9) rfl (by decide +kernel) rfl rfl (Nat.le_of_ble_eq_true rfl) dX7_unpacks_58 (fun H locs hP hD hS => ?_)
  have hP : va_P D vwCl [(xm, c7 xm_25 xm_26 xm_27 xm_29 xm_30 xm_31 (upd (upd (upd (upd (upd mm 12 ((a1 &&& 7).toInt32)) 13 (((a1 >>> ((3 : Int32).toInt64 &&& 63)) &&& 15).toInt32)) 14 (((a1 >>> ((7 : Int32).toInt64 &&& 63)) &&& 262143).toInt32)) 15 (((a1 >>> ((25 : Int32).toInt64 &&& 63)) &&& 127).toInt32)) 16 (((a1 >>> ((32 : Int32).toInt64 &&& 63)) &&& 127).toInt32)))] H := (congrArg (fun z9 => va_P D vwCl [(xm, .inr (7, z9))] H) (cs7_16 xm_25 xm_26 xm_27 xm_29 xm_30 xm_31 (upd (upd (upd (upd mm 12 ((a1 &&& 7).toInt32)) 13 (((a1 >>> ((3 : Int32).toInt64 &&& 63)) &&& 15).toInt32)) 14 (((a1 >>> ((7 : Int32).toInt64 &&& 63)) &&& 262143).toInt32)) 15 (((a1 >>> ((25 : Int32).toInt64 &&& 63)) &&& 127).toInt32)) (((a1 >>> ((32 : Int32).toInt64 &&& 63)) &&& 127).toInt32))).mp hP
  have hD : va_D A [(xm, c7 xm_25 xm_26 xm_27 xm_29 xm_30 xm_31 (upd (upd (upd (upd (upd mm 12 ((a1 &&& 7).toInt32)) 13 (((a1 >>> ((3 : Int32).toInt64 &&& 63)) &&& 15).toInt32)) 14 (((a1 >>> ((7 : Int32).toInt64 &&& 63)) &&& 262143).toInt32)) 15 (((a1 >>> ((25 : Int32).toInt64 &&& 63)) &&& 127).toInt32)) 16 (((a1 >>> ((32 : Int32).toInt64 &&& 63)) &&& 127).toInt32)))] := (congrArg (fun z9 => va_D A [(xm, .inr (7, z9))]) (cs7_16 xm_25 xm_26 xm_27 xm_29 xm_30 xm_31 (upd (upd (upd (upd mm 12 ((a1 &&& 7).toInt32)) 13 (((a1 >>> ((3 : Int32).toInt64 &&& 63)) &&& 15).toInt32)) 14 (((a1 >>> ((7 : Int32).toInt64 &&& 63)) &&& 262143).toInt32)) 15 (((a1 >>> ((25 : Int32).toInt64 &&& 63)) &&& 127).toInt32)) (((a1 >>> ((32 : Int32).toInt64 &&& 63)) &&& 127).toInt32))).mp hD
  refine lv_aload_n hx hb dX7_unpacks_61 rfl (lv_at hl 0 rfl) ?_
  refine lv_lload_n hx hb dX7_unpacks_62 rfl (lv_at hl 1 rfl) ?_
  refine lv_bipush (v := 39) hx hb dX7_unpacks_63 (by decide) ?_
  refine lv_lshr (v := (a1 >>> ((39 : Int32).toInt64 &&& 63))) hx hb dX7_unpacks_65 rfl ?_
  refine lv_ldc2 hx hb hown lk183 dX7_unpacks_66 ?_
  refine lv_land hx hb dX7_unpacks_69 ?_
  refine lv_l2i (v := (((a1 >>> ((39 : Int32).toInt64 &&& 63)) &&& 4095).toInt32)) hx hb dX7_unpacks_70 rfl ?_
  refine va_put (D := D) (ci := 7) (v := .int (((a1 >>> ((39 : Int32).toInt64 &&& 63)) &&& 4095).toInt32)) (ty := .int) (C := RX7) (T := TX7) (N := 35) hx hb hts i7 tyX7 tyX7_ok nmX7 hown hK hP hD hS 0 rfl rfl 17 (by decide) lf106 (fun _ h9 => h9) rfl (by decide +kernel) rfl rfl (Nat.le_of_ble_eq_true rfl) dX7_unpacks_71 (fun H locs hP hD hS => ?_)
  have hP : va_P D vwCl [(xm, c7 xm_25 xm_26 xm_27 xm_29 xm_30 xm_31 (upd (upd (upd (upd (upd (upd mm 12 ((a1 &&& 7).toInt32)) 13 (((a1 >>> ((3 : Int32).toInt64 &&& 63)) &&& 15).toInt32)) 14 (((a1 >>> ((7 : Int32).toInt64 &&& 63)) &&& 262143).toInt32)) 15 (((a1 >>> ((25 : Int32).toInt64 &&& 63)) &&& 127).toInt32)) 16 (((a1 >>> ((32 : Int32).toInt64 &&& 63)) &&& 127).toInt32)) 17 (((a1 >>> ((39 : Int32).toInt64 &&& 63)) &&& 4095).toInt32)))] H := (congrArg (fun z9 => va_P D vwCl [(xm, .inr (7, z9))] H) (cs7_17 xm_25 xm_26 xm_27 xm_29 xm_30 xm_31 (upd (upd (upd (upd (upd mm 12 ((a1 &&& 7).toInt32)) 13 (((a1 >>> ((3 : Int32).toInt64 &&& 63)) &&& 15).toInt32)) 14 (((a1 >>> ((7 : Int32).toInt64 &&& 63)) &&& 262143).toInt32)) 15 (((a1 >>> ((25 : Int32).toInt64 &&& 63)) &&& 127).toInt32)) 16 (((a1 >>> ((32 : Int32).toInt64 &&& 63)) &&& 127).toInt32)) (((a1 >>> ((39 : Int32).toInt64 &&& 63)) &&& 4095).toInt32))).mp hP
  have hD : va_D A [(xm, c7 xm_25 xm_26 xm_27 xm_29 xm_30 xm_31 (upd (upd (upd (upd (upd (upd mm 12 ((a1 &&& 7).toInt32)) 13 (((a1 >>> ((3 : Int32).toInt64 &&& 63)) &&& 15).toInt32)) 14 (((a1 >>> ((7 : Int32).toInt64 &&& 63)) &&& 262143).toInt32)) 15 (((a1 >>> ((25 : Int32).toInt64 &&& 63)) &&& 127).toInt32)) 16 (((a1 >>> ((32 : Int32).toInt64 &&& 63)) &&& 127).toInt32)) 17 (((a1 >>> ((39 : Int32).toInt64 &&& 63)) &&& 4095).toInt32)))] := (congrArg (fun z9 => va_D A [(xm, .inr (7, z9))]) (cs7_17 xm_25 xm_26 xm_27 xm_29 xm_30 xm_31 (upd (upd (upd (upd (upd mm 12 ((a1 &&& 7).toInt32)) 13 (((a1 >>> ((3 : Int32).toInt64 &&& 63)) &&& 15).toInt32)) 14 (((a1 >>> ((7 : Int32).toInt64 &&& 63)) &&& 262143).toInt32)) 15 (((a1 >>> ((25 : Int32).toInt64 &&& 63)) &&& 127).toInt32)) 16 (((a1 >>> ((32 : Int32).toInt64 &&& 63)) &&& 127).toInt32)) (((a1 >>> ((39 : Int32).toInt64 &&& 63)) &&& 4095).toInt32))).mp hD
  refine lv_aload_n hx hb dX7_unpacks_74 rfl (lv_at hl 0 rfl) ?_
  refine lv_lload_n hx hb dX7_unpacks_75 rfl (lv_at hl 1 rfl) ?_
  refine lv_bipush (v := 51) hx hb dX7_unpacks_76 (by decide) ?_
  refine lv_lshr (v := (a1 >>> ((51 : Int32).toInt64 &&& 63))) hx hb dX7_unpacks_78 rfl ?_
  refine lv_ldc2 hx hb hown lk185 dX7_unpacks_79 ?_
  refine lv_land hx hb dX7_unpacks_82 ?_
  refine lv_l2i (v := (((a1 >>> ((51 : Int32).toInt64 &&& 63)) &&& 3).toInt32)) hx hb dX7_unpacks_83 rfl ?_
  refine va_put (D := D) (ci := 7) (v := .int (((a1 >>> ((51 : Int32).toInt64 &&& 63)) &&& 3).toInt32)) (ty := .int) (C := RX7) (T := TX7) (N := 35) hx hb hts i7 tyX7 tyX7_ok nmX7 hown hK hP hD hS 0 rfl rfl 18 (by decide) lf87 (fun _ h9 => h9) rfl (by decide +kernel) rfl rfl (Nat.le_of_ble_eq_true rfl) dX7_unpacks_84 (fun H locs hP hD hS => ?_)
  have hP : va_P D vwCl [(xm, c7 xm_25 xm_26 xm_27 xm_29 xm_30 xm_31 (upd (upd (upd (upd (upd (upd (upd mm 12 ((a1 &&& 7).toInt32)) 13 (((a1 >>> ((3 : Int32).toInt64 &&& 63)) &&& 15).toInt32)) 14 (((a1 >>> ((7 : Int32).toInt64 &&& 63)) &&& 262143).toInt32)) 15 (((a1 >>> ((25 : Int32).toInt64 &&& 63)) &&& 127).toInt32)) 16 (((a1 >>> ((32 : Int32).toInt64 &&& 63)) &&& 127).toInt32)) 17 (((a1 >>> ((39 : Int32).toInt64 &&& 63)) &&& 4095).toInt32)) 18 (((a1 >>> ((51 : Int32).toInt64 &&& 63)) &&& 3).toInt32)))] H := (congrArg (fun z9 => va_P D vwCl [(xm, .inr (7, z9))] H) (cs7_18 xm_25 xm_26 xm_27 xm_29 xm_30 xm_31 (upd (upd (upd (upd (upd (upd mm 12 ((a1 &&& 7).toInt32)) 13 (((a1 >>> ((3 : Int32).toInt64 &&& 63)) &&& 15).toInt32)) 14 (((a1 >>> ((7 : Int32).toInt64 &&& 63)) &&& 262143).toInt32)) 15 (((a1 >>> ((25 : Int32).toInt64 &&& 63)) &&& 127).toInt32)) 16 (((a1 >>> ((32 : Int32).toInt64 &&& 63)) &&& 127).toInt32)) 17 (((a1 >>> ((39 : Int32).toInt64 &&& 63)) &&& 4095).toInt32)) (((a1 >>> ((51 : Int32).toInt64 &&& 63)) &&& 3).toInt32))).mp hP
  have hD : va_D A [(xm, c7 xm_25 xm_26 xm_27 xm_29 xm_30 xm_31 (upd (upd (upd (upd (upd (upd (upd mm 12 ((a1 &&& 7).toInt32)) 13 (((a1 >>> ((3 : Int32).toInt64 &&& 63)) &&& 15).toInt32)) 14 (((a1 >>> ((7 : Int32).toInt64 &&& 63)) &&& 262143).toInt32)) 15 (((a1 >>> ((25 : Int32).toInt64 &&& 63)) &&& 127).toInt32)) 16 (((a1 >>> ((32 : Int32).toInt64 &&& 63)) &&& 127).toInt32)) 17 (((a1 >>> ((39 : Int32).toInt64 &&& 63)) &&& 4095).toInt32)) 18 (((a1 >>> ((51 : Int32).toInt64 &&& 63)) &&& 3).toInt32)))] := (congrArg (fun z9 => va_D A [(xm, .inr (7, z9))]) (cs7_18 xm_25 xm_26 xm_27 xm_29 xm_30 xm_31 (upd (upd (upd (upd (upd (upd mm 12 ((a1 &&& 7).toInt32)) 13 (((a1 >>> ((3 : Int32).toInt64 &&& 63)) &&& 15).toInt32)) 14 (((a1 >>> ((7 : Int32).toInt64 &&& 63)) &&& 262143).toInt32)) 15 (((a1 >>> ((25 : Int32).toInt64 &&& 63)) &&& 127).toInt32)) 16 (((a1 >>> ((32 : Int32).toInt64 &&& 63)) &&& 127).toInt32)) 17 (((a1 >>> ((39 : Int32).toInt64 &&& 63)) &&& 4095).toInt32)) (((a1 >>> ((51 : Int32).toInt64 &&& 63)) &&& 3).toInt32))).mp hD
  refine lv_aload_n hx hb dX7_unpacks_87 rfl (lv_at hl 0 rfl) ?_
  refine lv_lload_n hx hb dX7_unpacks_88 rfl (lv_at hl 1 rfl) ?_
  refine lv_bipush (v := 53) hx hb dX7_unpacks_89 (by decide) ?_
  refine lv_lshr (v := (a1 >>> ((53 : Int32).toInt64 &&& 63))) hx hb dX7_unpacks_91 rfl ?_
  refine lv_ldc2 hx hb hown lk175 dX7_unpacks_92 ?_
  refine lv_land hx hb dX7_unpacks_95 ?_
  refine lv_l2i (v := (((a1 >>> ((53 : Int32).toInt64 &&& 63)) &&& 7).toInt32)) hx hb dX7_unpacks_96 rfl ?_
  refine va_put (D := D) (ci := 7) (v := .int (((a1 >>> ((53 : Int32).toInt64 &&& 63)) &&& 7).toInt32)) (ty := .int) (C := RX7) (T := TX7) (N := 35) hx hb hts i7 tyX7 tyX7_ok nmX7 hown hK hP hD hS 0 rfl rfl 19 (by decide) lf127 (fun _ h9 => h9) rfl (by decide +kernel) rfl rfl (Nat.le_of_ble_eq_true rfl) dX7_unpacks_97 (fun H locs hP hD hS => ?_)
  have hP : va_P D vwCl [(xm, c7 xm_25 xm_26 xm_27 xm_29 xm_30 xm_31 (upd (upd (upd (upd (upd (upd (upd (upd mm 12 ((a1 &&& 7).toInt32)) 13 (((a1 >>> ((3 : Int32).toInt64 &&& 63)) &&& 15).toInt32)) 14 (((a1 >>> ((7 : Int32).toInt64 &&& 63)) &&& 262143).toInt32)) 15 (((a1 >>> ((25 : Int32).toInt64 &&& 63)) &&& 127).toInt32)) 16 (((a1 >>> ((32 : Int32).toInt64 &&& 63)) &&& 127).toInt32)) 17 (((a1 >>> ((39 : Int32).toInt64 &&& 63)) &&& 4095).toInt32)) 18 (((a1 >>> ((51 : Int32).toInt64 &&& 63)) &&& 3).toInt32)) 19 (((a1 >>> ((53 : Int32).toInt64 &&& 63)) &&& 7).toInt32)))] H := (congrArg (fun z9 => va_P D vwCl [(xm, .inr (7, z9))] H) (cs7_19 xm_25 xm_26 xm_27 xm_29 xm_30 xm_31 (upd (upd (upd (upd (upd (upd (upd mm 12 ((a1 &&& 7).toInt32)) 13 (((a1 >>> ((3 : Int32).toInt64 &&& 63)) &&& 15).toInt32)) 14 (((a1 >>> ((7 : Int32).toInt64 &&& 63)) &&& 262143).toInt32)) 15 (((a1 >>> ((25 : Int32).toInt64 &&& 63)) &&& 127).toInt32)) 16 (((a1 >>> ((32 : Int32).toInt64 &&& 63)) &&& 127).toInt32)) 17 (((a1 >>> ((39 : Int32).toInt64 &&& 63)) &&& 4095).toInt32)) 18 (((a1 >>> ((51 : Int32).toInt64 &&& 63)) &&& 3).toInt32)) (((a1 >>> ((53 : Int32).toInt64 &&& 63)) &&& 7).toInt32))).mp hP
  have hD : va_D A [(xm, c7 xm_25 xm_26 xm_27 xm_29 xm_30 xm_31 (upd (upd (upd (upd (upd (upd (upd (upd mm 12 ((a1 &&& 7).toInt32)) 13 (((a1 >>> ((3 : Int32).toInt64 &&& 63)) &&& 15).toInt32)) 14 (((a1 >>> ((7 : Int32).toInt64 &&& 63)) &&& 262143).toInt32)) 15 (((a1 >>> ((25 : Int32).toInt64 &&& 63)) &&& 127).toInt32)) 16 (((a1 >>> ((32 : Int32).toInt64 &&& 63)) &&& 127).toInt32)) 17 (((a1 >>> ((39 : Int32).toInt64 &&& 63)) &&& 4095).toInt32)) 18 (((a1 >>> ((51 : Int32).toInt64 &&& 63)) &&& 3).toInt32)) 19 (((a1 >>> ((53 : Int32).toInt64 &&& 63)) &&& 7).toInt32)))] := (congrArg (fun z9 => va_D A [(xm, .inr (7, z9))]) (cs7_19 xm_25 xm_26 xm_27 xm_29 xm_30 xm_31 (upd (upd (upd (upd (upd (upd (upd mm 12 ((a1 &&& 7).toInt32)) 13 (((a1 >>> ((3 : Int32).toInt64 &&& 63)) &&& 15).toInt32)) 14 (((a1 >>> ((7 : Int32).toInt64 &&& 63)) &&& 262143).toInt32)) 15 (((a1 >>> ((25 : Int32).toInt64 &&& 63)) &&& 127).toInt32)) 16 (((a1 >>> ((32 : Int32).toInt64 &&& 63)) &&& 127).toInt32)) 17 (((a1 >>> ((39 : Int32).toInt64 &&& 63)) &&& 4095).toInt32)) 18 (((a1 >>> ((51 : Int32).toInt64 &&& 63)) &&& 3).toInt32)) (((a1 >>> ((53 : Int32).toInt64 &&& 63)) &&& 7).toInt32))).mp hD
  refine lv_aload_n hx hb dX7_unpacks_100 rfl (lv_at hl 0 rfl) ?_
  refine lv_lload_n hx hb dX7_unpacks_101 rfl (lv_at hl 1 rfl) ?_
  refine lv_bipush (v := 56) hx hb dX7_unpacks_102 (by decide) ?_
  refine lv_lshr (v := (a1 >>> ((56 : Int32).toInt64 &&& 63))) hx hb dX7_unpacks_104 rfl ?_
  refine lv_ldc2 hx hb hown lk175 dX7_unpacks_105 ?_
  refine lv_land hx hb dX7_unpacks_108 ?_
  refine lv_l2i (v := (((a1 >>> ((56 : Int32).toInt64 &&& 63)) &&& 7).toInt32)) hx hb dX7_unpacks_109 rfl ?_
  refine va_put (D := D) (ci := 7) (v := .int (((a1 >>> ((56 : Int32).toInt64 &&& 63)) &&& 7).toInt32)) (ty := .int) (C := RX7) (T := TX7) (N := 35) hx hb hts i7 tyX7 tyX7_ok nmX7 hown hK hP hD hS 0 rfl rfl 20 (by decide) lf133 (fun _ h9 => h9) rfl (by decide +kernel) rfl rfl (Nat.le_of_ble_eq_true rfl) dX7_unpacks_110 (fun H locs hP hD hS => ?_)
  have hP : va_P D vwCl [(xm, c7 xm_25 xm_26 xm_27 xm_29 xm_30 xm_31 (upd (upd (upd (upd (upd (upd (upd (upd (upd mm 12 ((a1 &&& 7).toInt32)) 13 (((a1 >>> ((3 : Int32).toInt64 &&& 63)) &&& 15).toInt32)) 14 (((a1 >>> ((7 : Int32).toInt64 &&& 63)) &&& 262143).toInt32)) 15 (((a1 >>> ((25 : Int32).toInt64 &&& 63)) &&& 127).toInt32)) 16 (((a1 >>> ((32 : Int32).toInt64 &&& 63)) &&& 127).toInt32)) 17 (((a1 >>> ((39 : Int32).toInt64 &&& 63)) &&& 4095).toInt32)) 18 (((a1 >>> ((51 : Int32).toInt64 &&& 63)) &&& 3).toInt32)) 19 (((a1 >>> ((53 : Int32).toInt64 &&& 63)) &&& 7).toInt32)) 20 (((a1 >>> ((56 : Int32).toInt64 &&& 63)) &&& 7).toInt32)))] H := (congrArg (fun z9 => va_P D vwCl [(xm, .inr (7, z9))] H) (cs7_20 xm_25 xm_26 xm_27 xm_29 xm_30 xm_31 (upd (upd (upd (upd (upd (upd (upd (upd mm 12 ((a1 &&& 7).toInt32)) 13 (((a1 >>> ((3 : Int32).toInt64 &&& 63)) &&& 15).toInt32)) 14 (((a1 >>> ((7 : Int32).toInt64 &&& 63)) &&& 262143).toInt32)) 15 (((a1 >>> ((25 : Int32).toInt64 &&& 63)) &&& 127).toInt32)) 16 (((a1 >>> ((32 : Int32).toInt64 &&& 63)) &&& 127).toInt32)) 17 (((a1 >>> ((39 : Int32).toInt64 &&& 63)) &&& 4095).toInt32)) 18 (((a1 >>> ((51 : Int32).toInt64 &&& 63)) &&& 3).toInt32)) 19 (((a1 >>> ((53 : Int32).toInt64 &&& 63)) &&& 7).toInt32)) (((a1 >>> ((56 : Int32).toInt64 &&& 63)) &&& 7).toInt32))).mp hP
  have hD : va_D A [(xm, c7 xm_25 xm_26 xm_27 xm_29 xm_30 xm_31 (upd (upd (upd (upd (upd (upd (upd (upd (upd mm 12 ((a1 &&& 7).toInt32)) 13 (((a1 >>> ((3 : Int32).toInt64 &&& 63)) &&& 15).toInt32)) 14 (((a1 >>> ((7 : Int32).toInt64 &&& 63)) &&& 262143).toInt32)) 15 (((a1 >>> ((25 : Int32).toInt64 &&& 63)) &&& 127).toInt32)) 16 (((a1 >>> ((32 : Int32).toInt64 &&& 63)) &&& 127).toInt32)) 17 (((a1 >>> ((39 : Int32).toInt64 &&& 63)) &&& 4095).toInt32)) 18 (((a1 >>> ((51 : Int32).toInt64 &&& 63)) &&& 3).toInt32)) 19 (((a1 >>> ((53 : Int32).toInt64 &&& 63)) &&& 7).toInt32)) 20 (((a1 >>> ((56 : Int32).toInt64 &&& 63)) &&& 7).toInt32)))] := (congrArg (fun z9 => va_D A [(xm, .inr (7, z9))]) (cs7_20 xm_25 xm_26 xm_27 xm_29 xm_30 xm_31 (upd (upd (upd (upd (upd (upd (upd (upd mm 12 ((a1 &&& 7).toInt32)) 13 (((a1 >>> ((3 : Int32).toInt64 &&& 63)) &&& 15).toInt32)) 14 (((a1 >>> ((7 : Int32).toInt64 &&& 63)) &&& 262143).toInt32)) 15 (((a1 >>> ((25 : Int32).toInt64 &&& 63)) &&& 127).toInt32)) 16 (((a1 >>> ((32 : Int32).toInt64 &&& 63)) &&& 127).toInt32)) 17 (((a1 >>> ((39 : Int32).toInt64 &&& 63)) &&& 4095).toInt32)) 18 (((a1 >>> ((51 : Int32).toInt64 &&& 63)) &&& 3).toInt32)) 19 (((a1 >>> ((53 : Int32).toInt64 &&& 63)) &&& 7).toInt32)) (((a1 >>> ((56 : Int32).toInt64 &&& 63)) &&& 7).toInt32))).mp hD
  have hsp : (s7_unpacks mm a1) = ((upd (upd (upd (upd (upd (upd (upd (upd (upd mm 12 ((a1 &&& 7).toInt32)) 13 (((a1 >>> ((3 : Int32).toInt64 &&& 63)) &&& 15).toInt32)) 14 (((a1 >>> ((7 : Int32).toInt64 &&& 63)) &&& 262143).toInt32)) 15 (((a1 >>> ((25 : Int32).toInt64 &&& 63)) &&& 127).toInt32)) 16 (((a1 >>> ((32 : Int32).toInt64 &&& 63)) &&& 127).toInt32)) 17 (((a1 >>> ((39 : Int32).toInt64 &&& 63)) &&& 4095).toInt32)) 18 (((a1 >>> ((51 : Int32).toInt64 &&& 63)) &&& 3).toInt32)) 19 (((a1 >>> ((53 : Int32).toInt64 &&& 63)) &&& 7).toInt32)) 20 (((a1 >>> ((56 : Int32).toInt64 &&& 63)) &&& 7).toInt32)) : (Nat → Int32)) := rfl
  exact hret _ _ _ _ _ _ _ hP hD hS dX7_unpacks_113 ⟨(), trivial, (by rw [hsp])⟩ (Nat.le_of_ble_eq_true rfl) (Nat.le_of_ble_eq_true rfl)
