def s6_isOutside (a1 : Int32) (a2 : Int32) (a3 : Int32) : Int32 := (let w4 : Int32 := (if a1 < a2 then 1 else (if a1 ≤ a3 then 0 else 1)); w4)
theorem z6_isOutside (a1 : Int32) (a2 : Int32) (a3 : Int32) : (s6_isOutside a1 a2 a3) = 0 ∨ (s6_isOutside a1 a2 a3) = 1 := by
  simp only [s6_isOutside]
  (repeat' split) <;> (try dsimp only) <;> first | exact Or.inl rfl | exact Or.inr rfl | (simp; done)

def s6_ticks (b : Nat → Int32) : Int32 := (b 6)

def s6_state (b : Nat → Int32) (f : Nat → Int32) : Int32 := (f 3)

def s6_reason (b : Nat → Int32) (f : Nat → Int32) : Int32 := (f 4)

def s6_time (b : Nat → Int32) (f : Nat → Int32) : Int32 := (f 5)

def s6_isOpen (b : Nat → Int32) (f : Nat → Int32) (a1 : Int32) : Int32 := (let w7 : Int32 := (if a1 = 0 then (s2_isPilotOpen f) else (s2_isMainOpen f)); w7)
theorem z6_isOpen (b : Nat → Int32) (f : Nat → Int32) (a1 : Int32) : (s6_isOpen b f a1) = 0 ∨ (s6_isOpen b f a1) = 1 := by
  simp only [s6_isOpen]
  (repeat' split) <;> (try dsimp only) <;> first | exact Or.inl rfl | exact Or.inr rfl | (simp; done) | exact z2_isMainOpen _ | exact z2_isPilotOpen _

def s6_sees (b : Nat → Int32) (f : Nat → Int32) (ep : Nat → Int32) (eq : Nat → Int32) (a1 : Int32) : Int32 := (let w3 : Int32 := (if a1 = 0 then (ep 0) else (eq 0)); w3)

def s6_air (b : Nat → Int32) (f : Nat → Int32) : Int32 := (f 6)

def s6_fuel (b : Nat → Int32) (f : Nat → Int32) : Int32 := (f 7)

def s6_purged (b : Nat → Int32) (f : Nat → Int32) : Int32 := (f 8)

def s6_unlit (b : Nat → Int32) (f : Nat → Int32) : Int32 := (f 9)

def s6_longestUnlit (b : Nat → Int32) (f : Nat → Int32) : Int32 := (f 10)

def s6_changes (b : Nat → Int32) (hh : Nat → Int32) : Int32 := (hh 3)

def s6_records (b : Nat → Int32) (hh : Nat → Int32) : Int32 := (hh 4)

def s6_recordChange (b : Nat → Int32) (f : Nat → Int32) (hh : Nat → Int32) (t1 : Nat → Int32) (t2 : Nat → Int32) (t3 : Nat → Int32) : (Nat → Int32) × (Nat → Int32) × (Nat → Int32) × (Nat → Int32) := (let v3 : Nat → Int32 := ((s3_add hh t1 t2 t3 (b 6) (f 3) (f 4)).1); (let v4 : Nat → Int32 := ((s3_add hh t1 t2 t3 (b 6) (f 3) (f 4)).2.1); (let v5 : Nat → Int32 := ((s3_add hh t1 t2 t3 (b 6) (f 3) (f 4)).2.2.1); (let v6 : Nat → Int32 := ((s3_add hh t1 t2 t3 (b 6) (f 3) (f 4)).2.2.2); (v3, v4, v5, v6)))))

def s6_tellingSignals (a1 : Int32) : Int32 := (if a1 = 0 then 25 else (if a1 = 1 then 27 else (if a1 = 2 then 31 else (if a1 = 3 then 31 else (if a1 = 4 then 63 else 24)))))

def s6_foundAt (f : Nat → Int32) : Int32 := (let r2 : Int32 := (s2_isLockedOut f); (let w5 : Int32 := (if r2 = 0 then ((1 : Int32) <<< ((f 3) &&& 31)) else (((1 : Int32) <<< ((f 3) &&& 31)) ||| ((1 : Int32) <<< ((8 + (f 4)) &&& 31)))); w5))

set_option maxHeartbeats 4000000 in
set_option maxRecDepth 100000 in
theorem k6_isOutside (l : Launch) (D : va_G) (cI cJ : ClassId) (a1 : Int32) (a2 : Int32) (a3 : Int32) : cw_Mi l yX6_isOutside wsX6_isOutside (cw_rm 0) D [(cI, .int)] [.int a1, .int a2, .int a3] [] 0 0 (fun r (_ : Unit) => r = (s6_isOutside a1 a2 a3)) (fun _ : Unit => []) := by
  refine cw_ofi (cc := cX6_isOutside) (maxL := 3) (ret := (some .boolean)) (by decide) rfl (Nat.le_of_ble_eq_true rfl) rfl ?_
  intro p e s m args below meth c A ls Q hin0 hret
  obtain ⟨hx, hb, hr, hml, hts, hown, hlocks, hin, hP, hK, hD, hN, hA, hl⟩ := hin0
  have hS : va_S A s.heap s.heap [] := va_S.rf
  have hl : lv_has ls 3 [(0, .int a1), (1, .int a2), (2, .int a3)] := hl
  refine lv_iload_n hx hb dX6_isOutside_0 rfl (lv_at hl 0 rfl) ?_
  refine lv_iload_n hx hb dX6_isOutside_1 rfl (lv_at hl 1 rfl) ?_
  have J3 : ∀ (w4 : Int32), w4 = (if a1 < a2 then 1 else (if a1 ≤ a3 then 0 else 1)) → W p l e (cw_rm 0) s m args below meth c s.heap [] 0 0 (Q) (F0 m 15 ls [.int w4]) := by
    intro w4 hw4
    have hsp : (s6_isOutside a1 a2 a3) = (w4 : Int32) := by simp only [s6_isOutside, ← hw4]
    exact hret _ _ _ _ _ _ _ _ hP hD hS dX6_isOutside_15 (cw_b01 (by (try simp only [hw4]); (repeat' split) <;> first | exact Or.inl rfl | exact Or.inr rfl | assumption)) ⟨(), (by rw [hsp]), rfl⟩ (Nat.le_of_ble_eq_true rfl) (Nat.le_of_ble_eq_true rfl)
  refine lv_icmp_lt (tgt := 10) hx hb dX6_isOutside_2 (by decide) (fun z1 => ?_) (fun z1 => ?_)
  · refine lv_iconst (v := 1) hx hb dX6_isOutside_10 (by decide) ?_
    refine lv_goto (tgt := 15) hx hb dX6_isOutside_11 (by decide) ?_
    exact J3 1 (by simp only [if_pos z1])
  · refine lv_iload_n hx hb dX6_isOutside_5 rfl (lv_at hl 0 rfl) ?_
    refine lv_iload_n hx hb dX6_isOutside_6 rfl (lv_at hl 2 rfl) ?_
    refine lv_icmp_le (tgt := 14) hx hb dX6_isOutside_7 (by decide) (fun z2 => ?_) (fun z2 => ?_)
    · refine lv_iconst (v := 0) hx hb dX6_isOutside_14 (by decide) ?_
      exact J3 0 (by simp only [if_neg z1, if_pos z2])
    · refine lv_iconst (v := 1) hx hb dX6_isOutside_10 (by decide) ?_
      refine lv_goto (tgt := 15) hx hb dX6_isOutside_11 (by decide) ?_
      exact J3 1 (by simp only [if_neg z1, if_neg z2])

set_option maxHeartbeats 4000000 in
set_option maxRecDepth 100000 in
theorem k6_ticks (l : Launch) (D : va_G) (cI cJ : ClassId) (xb : Nat) (xb_0 xb_1 xb_2 xb_3 xb_4 : Value) (b : Nat → Int32) : cw_Mi l yX6_ticks wsX6_ticks (cw_rm 0) D [(cI, .int)] [.ref xb] [(xb, c6 xb_0 xb_1 xb_2 xb_3 xb_4 b)] 0 0 (fun r (_ : Unit) => r = (s6_ticks b)) (fun _ : Unit => [(xb, c6 xb_0 xb_1 xb_2 xb_3 xb_4 b)]) := by
  refine cw_ofi (cc := cX6_ticks) (maxL := 1) (ret := (some .int)) (by decide) rfl (Nat.le_of_ble_eq_true rfl) rfl ?_
  intro p e s m args below meth c A ls Q hin0 hret
  obtain ⟨hx, hb, hr, hml, hts, hown, hlocks, hin, hP, hK, hD, hN, hA, hl⟩ := hin0
  have hS : va_S A s.heap s.heap [] := va_S.rf
  have hl : lv_has ls 1 [(0, .ref xb)] := hl
  have lf116 := hts (.fieldLink RX6 116 "Burnerline" "ticks" "I") (by decide +kernel)
  have i6 : ∀ w ∈ wsX60, w ∈ wsX6_ticks := by decide +kernel
  refine lv_aload_n hx hb dX6_ticks_0 rfl (lv_at hl 0 rfl) ?_
  refine va_get (D := D) (ci := 6) (v := .int (b 6)) (C := RX6) (T := TX6) (N := 7) hx hb hts i6 hown hK hP 0 rfl rfl 6 (by decide) lf116 (fun _ h9 => h9) rfl dX6_ticks_1 ?_
  have hsp : (s6_ticks b) = ((b 6) : Int32) := rfl
  exact hret _ _ _ _ _ _ _ _ hP hD hS dX6_ticks_4 rfl ⟨(), (by rw [hsp]), rfl⟩ (Nat.le_of_ble_eq_true rfl) (Nat.le_of_ble_eq_true rfl)

set_option maxHeartbeats 4000000 in
set_option maxRecDepth 100000 in
theorem k6_state (l : Launch) (D : va_G) (cI cJ : ClassId) (xb xf : Nat) (xb_0 xb_2 xb_3 xb_4 xf_0 xf_1 xf_2 : Value) (b : Nat → Int32) (f : Nat → Int32) : cw_Mi l yX6_state wsX6_state (cw_rm 0) D [(cI, .int)] [.ref xb] [(xb, c6 xb_0 (.ref xf) xb_2 xb_3 xb_4 b), (xf, c2 xf_0 xf_1 xf_2 f)] 0 0 (fun r (_ : Unit) => r = (s6_state b f)) (fun _ : Unit => [(xb, c6 xb_0 (.ref xf) xb_2 xb_3 xb_4 b), (xf, c2 xf_0 xf_1 xf_2 f)]) := by
  refine cw_ofi (cc := cX6_state) (maxL := 1) (ret := (some .int)) (by decide) rfl (Nat.le_of_ble_eq_true rfl) rfl ?_
  intro p e s m args below meth c A ls Q hin0 hret
  obtain ⟨hx, hb, hr, hml, hts, hown, hlocks, hin, hP, hK, hD, hN, hA, hl⟩ := hin0
  have hS : va_S A s.heap s.heap [] := va_S.rf
  have hl : lv_has ls 1 [(0, .ref xb)] := hl
  have lf21 := hts (.fieldLink RX6 21 "Burnerline" "furnace" "LBurnerline$Furnace;") (by decide +kernel)
  have i6 : ∀ w ∈ wsX60, w ∈ wsX6_state := by decide +kernel
  have lf154 := hN.use (args := args) (w := .fieldLinkNest "Burnerline" 154 "Burnerline$Furnace" "state" "I" "Burnerline") (by decide +kernel)
  have i2 : ∀ w ∈ wsX20, w ∈ wsX6_state := by decide +kernel
  refine lv_aload_n hx hb dX6_state_0 rfl (lv_at hl 0 rfl) ?_
  refine va_get (D := D) (ci := 6) (v := .ref xf) (C := RX6) (T := TX6) (N := 7) hx hb hts i6 hown hK hP 0 rfl rfl 1 (by decide) lf21 (fun _ h9 => h9) rfl dX6_state_1 ?_
  refine va_getN (D := D) (ci := 2) (v := .int (f 3)) (C := RX2) (T := TX2) (N := 11) hx hb hts i2 hown hK hP 1 rfl rfl 3 (by decide) lf154 (fun _ h9 => h9) rfl dX6_state_4 ?_
  have hsp : (s6_state b f) = ((f 3) : Int32) := rfl
  exact hret _ _ _ _ _ _ _ _ hP hD hS dX6_state_7 rfl ⟨(), (by rw [hsp]), rfl⟩ (Nat.le_of_ble_eq_true rfl) (Nat.le_of_ble_eq_true rfl)

set_option maxHeartbeats 4000000 in
set_option maxRecDepth 100000 in
theorem k6_reason (l : Launch) (D : va_G) (cI cJ : ClassId) (xb xf : Nat) (xb_0 xb_2 xb_3 xb_4 xf_0 xf_1 xf_2 : Value) (b : Nat → Int32) (f : Nat → Int32) : cw_Mi l yX6_reason wsX6_reason (cw_rm 0) D [(cI, .int)] [.ref xb] [(xb, c6 xb_0 (.ref xf) xb_2 xb_3 xb_4 b), (xf, c2 xf_0 xf_1 xf_2 f)] 0 0 (fun r (_ : Unit) => r = (s6_reason b f)) (fun _ : Unit => [(xb, c6 xb_0 (.ref xf) xb_2 xb_3 xb_4 b), (xf, c2 xf_0 xf_1 xf_2 f)]) := by
  refine cw_ofi (cc := cX6_reason) (maxL := 1) (ret := (some .int)) (by decide) rfl (Nat.le_of_ble_eq_true rfl) rfl ?_
  intro p e s m args below meth c A ls Q hin0 hret
  obtain ⟨hx, hb, hr, hml, hts, hown, hlocks, hin, hP, hK, hD, hN, hA, hl⟩ := hin0
  have hS : va_S A s.heap s.heap [] := va_S.rf
  have hl : lv_has ls 1 [(0, .ref xb)] := hl
  have lf21 := hts (.fieldLink RX6 21 "Burnerline" "furnace" "LBurnerline$Furnace;") (by decide +kernel)
  have i6 : ∀ w ∈ wsX60, w ∈ wsX6_reason := by decide +kernel
  have lf157 := hN.use (args := args) (w := .fieldLinkNest "Burnerline" 157 "Burnerline$Furnace" "reason" "I" "Burnerline") (by decide +kernel)
  have i2 : ∀ w ∈ wsX20, w ∈ wsX6_reason := by decide +kernel
  refine lv_aload_n hx hb dX6_reason_0 rfl (lv_at hl 0 rfl) ?_
  refine va_get (D := D) (ci := 6) (v := .ref xf) (C := RX6) (T := TX6) (N := 7) hx hb hts i6 hown hK hP 0 rfl rfl 1 (by decide) lf21 (fun _ h9 => h9) rfl dX6_reason_1 ?_
  refine va_getN (D := D) (ci := 2) (v := .int (f 4)) (C := RX2) (T := TX2) (N := 11) hx hb hts i2 hown hK hP 1 rfl rfl 4 (by decide) lf157 (fun _ h9 => h9) rfl dX6_reason_4 ?_
  have hsp : (s6_reason b f) = ((f 4) : Int32) := rfl
  exact hret _ _ _ _ _ _ _ _ hP hD hS dX6_reason_7 rfl ⟨(), (by rw [hsp]), rfl⟩ (Nat.le_of_ble_eq_true rfl) (Nat.le_of_ble_eq_true rfl)

set_option maxHeartbeats 4000000 in
set_option maxRecDepth 100000 in
theorem k6_time (l : Launch) (D : va_G) (cI cJ : ClassId) (xb xf : Nat) (xb_0 xb_2 xb_3 xb_4 xf_0 xf_1 xf_2 : Value) (b : Nat → Int32) (f : Nat → Int32) : cw_Mi l yX6_time wsX6_time (cw_rm 0) D [(cI, .int)] [.ref xb] [(xb, c6 xb_0 (.ref xf) xb_2 xb_3 xb_4 b), (xf, c2 xf_0 xf_1 xf_2 f)] 0 0 (fun r (_ : Unit) => r = (s6_time b f)) (fun _ : Unit => [(xb, c6 xb_0 (.ref xf) xb_2 xb_3 xb_4 b), (xf, c2 xf_0 xf_1 xf_2 f)]) := by
  refine cw_ofi (cc := cX6_time) (maxL := 1) (ret := (some .int)) (by decide) rfl (Nat.le_of_ble_eq_true rfl) rfl ?_
  intro p e s m args below meth c A ls Q hin0 hret
  obtain ⟨hx, hb, hr, hml, hts, hown, hlocks, hin, hP, hK, hD, hN, hA, hl⟩ := hin0
  have hS : va_S A s.heap s.heap [] := va_S.rf
  have hl : lv_has ls 1 [(0, .ref xb)] := hl
  have lf21 := hts (.fieldLink RX6 21 "Burnerline" "furnace" "LBurnerline$Furnace;") (by decide +kernel)
  have i6 : ∀ w ∈ wsX60, w ∈ wsX6_time := by decide +kernel
  have lf138 := hN.use (args := args) (w := .fieldLinkNest "Burnerline" 138 "Burnerline$Furnace" "time" "I" "Burnerline") (by decide +kernel)
  have i2 : ∀ w ∈ wsX20, w ∈ wsX6_time := by decide +kernel
  refine lv_aload_n hx hb dX6_time_0 rfl (lv_at hl 0 rfl) ?_
  refine va_get (D := D) (ci := 6) (v := .ref xf) (C := RX6) (T := TX6) (N := 7) hx hb hts i6 hown hK hP 0 rfl rfl 1 (by decide) lf21 (fun _ h9 => h9) rfl dX6_time_1 ?_
  refine va_getN (D := D) (ci := 2) (v := .int (f 5)) (C := RX2) (T := TX2) (N := 11) hx hb hts i2 hown hK hP 1 rfl rfl 5 (by decide) lf138 (fun _ h9 => h9) rfl dX6_time_4 ?_
  have hsp : (s6_time b f) = ((f 5) : Int32) := rfl
  exact hret _ _ _ _ _ _ _ _ hP hD hS dX6_time_7 rfl ⟨(), (by rw [hsp]), rfl⟩ (Nat.le_of_ble_eq_true rfl) (Nat.le_of_ble_eq_true rfl)

set_option maxHeartbeats 4000000 in
set_option maxRecDepth 100000 in
theorem k6_isOpen (l : Launch) (D : va_G) (cI cJ : ClassId) (xb xf : Nat) (xb_0 xb_2 xb_3 xb_4 xf_0 xf_1 xf_2 : Value) (b : Nat → Int32) (f : Nat → Int32) (a1 : Int32) : cw_Mi l yX6_isOpen wsX6_isOpen (cw_rm 1) D [(cI, .int)] [.ref xb, .int a1] [(xb, c6 xb_0 (.ref xf) xb_2 xb_3 xb_4 b), (xf, c2 xf_0 xf_1 xf_2 f)] 0 0 (fun r (_ : Unit) => r = (s6_isOpen b f a1)) (fun _ : Unit => [(xb, c6 xb_0 (.ref xf) xb_2 xb_3 xb_4 b), (xf, c2 xf_0 xf_1 xf_2 f)]) := by
  refine cw_ofi (cc := cX6_isOpen) (maxL := 2) (ret := (some .boolean)) (by decide) rfl (Nat.le_of_ble_eq_true rfl) rfl ?_
  intro p e s m args below meth c A ls Q hin0 hret
  obtain ⟨hx, hb, hr, hml, hts, hown, hlocks, hin, hP, hK, hD, hN, hA, hl⟩ := hin0
  have hS : va_S A s.heap s.heap [] := va_S.rf
  have hl : lv_has ls 2 [(0, .ref xb), (1, .int a1)] := hl
  have lf21 := hts (.fieldLink RX6 21 "Burnerline" "furnace" "LBurnerline$Furnace;") (by decide +kernel)
  have i6 : ∀ w ∈ wsX60, w ∈ wsX6_isOpen := by decide +kernel
  refine lv_iload_n hx hb dX6_isOpen_0 rfl (lv_at hl 1 rfl) ?_
  have J6 : ∀ (w7 : Int32), w7 = (if a1 = 0 then (s2_isPilotOpen f) else (s2_isMainOpen f)) → ∀ (H : Heap) (locs : List Loc), va_P D vwCl [(xb, c6 xb_0 (.ref xf) xb_2 xb_3 xb_4 b), (xf, c2 xf_0 xf_1 xf_2 f)] H → va_D A [(xb, c6 xb_0 (.ref xf) xb_2 xb_3 xb_4 b), (xf, c2 xf_0 xf_1 xf_2 f)] → va_S A s.heap H locs → W p l e (cw_rm 1) s m args below meth c H locs 0 0 (Q) (F0 m 21 ls [.int w7]) := by
    intro w7 hw7 H locs hP hD hS
    have hsp : (s6_isOpen b f a1) = (w7 : Int32) := by simp only [s6_isOpen, ← hw7]
    exact hret _ _ _ _ _ _ _ _ hP hD hS dX6_isOpen_21 (cw_b01 (by (try simp only [hw7]); (repeat' split) <;> first | exact Or.inl rfl | exact Or.inr rfl | assumption | exact z2_isMainOpen _ | exact z2_isPilotOpen _)) ⟨(), (by rw [hsp]), rfl⟩ (Nat.le_of_ble_eq_true rfl) (Nat.le_of_ble_eq_true rfl)
  refine lv_if_eq (tgt := 14) hx hb dX6_isOpen_1 (by decide) (fun z1 => ?_) (fun z1 => ?_)
  · refine lv_aload_n hx hb dX6_isOpen_14 rfl (lv_at hl 0 rfl) ?_
    refine va_get (D := D) (ci := 6) (v := .ref xf) (C := RX6) (T := TX6) (N := 7) hx hb hts i6 hown hK hP 0 rfl rfl 1 (by decide) lf21 (fun _ h9 => h9) rfl dX6_isOpen_15 ?_
    refine cw_cVi (As := []) (rest := []) (wc := [(xf, c2 xf_0 xf_1 xf_2 f)]) (wr := [(xb, c6 xb_0 (.ref xf) xb_2 xb_3 xb_4 b)]) ⟨hx, hb, hml, hown, hts⟩ (k2_isPilotOpen l D cI cJ xf xf_0 xf_1 xf_2 f) (cwV 0 hts gX6_isOpen_X2_isPilotOpen rfl rfl rfl (by decide +kernel) ⟨Nat.le_of_ble_eq_true rfl, Nat.le_of_ble_eq_true rfl⟩) hK hN hP hD hS hA [1] [0] rfl rfl (by decide) (by decide) (by decide) 0 (ci := 2) rfl rfl rfl rfl hl.1 rfl (Nat.le_of_ble_eq_true rfl) dX6_isOpen_18 ⟨Nat.le_of_ble_eq_true rfl, Nat.le_of_ble_eq_true rfl⟩ (fun r3 u2 H locs hw hP hD hS => ?_)
    have hr3 : r3 = (s2_isPilotOpen f) := hw
    have hP : va_P D vwCl [(xb, c6 xb_0 (.ref xf) xb_2 xb_3 xb_4 b), (xf, c2 xf_0 xf_1 xf_2 f)] H := hP
    have hD : va_D A [(xb, c6 xb_0 (.ref xf) xb_2 xb_3 xb_4 b), (xf, c2 xf_0 xf_1 xf_2 f)] := hD
    exact J6 r3 (by simp only [← hr3, if_pos z1]) _ _ hP hD hS
  · refine lv_aload_n hx hb dX6_isOpen_4 rfl (lv_at hl 0 rfl) ?_
    refine va_get (D := D) (ci := 6) (v := .ref xf) (C := RX6) (T := TX6) (N := 7) hx hb hts i6 hown hK hP 0 rfl rfl 1 (by decide) lf21 (fun _ h9 => h9) rfl dX6_isOpen_5 ?_
    refine cw_cVi (As := []) (rest := []) (wc := [(xf, c2 xf_0 xf_1 xf_2 f)]) (wr := [(xb, c6 xb_0 (.ref xf) xb_2 xb_3 xb_4 b)]) ⟨hx, hb, hml, hown, hts⟩ (k2_isMainOpen l D cI cJ xf xf_0 xf_1 xf_2 f) (cwV 0 hts gX6_isOpen_X2_isMainOpen rfl rfl rfl (by decide +kernel) ⟨Nat.le_of_ble_eq_true rfl, Nat.le_of_ble_eq_true rfl⟩) hK hN hP hD hS hA [1] [0] rfl rfl (by decide) (by decide) (by decide) 0 (ci := 2) rfl rfl rfl rfl hl.1 rfl (Nat.le_of_ble_eq_true rfl) dX6_isOpen_8 ⟨Nat.le_of_ble_eq_true rfl, Nat.le_of_ble_eq_true rfl⟩ (fun r5 u4 H locs hw hP hD hS => ?_)
    have hr5 : r5 = (s2_isMainOpen f) := hw
    have hP : va_P D vwCl [(xb, c6 xb_0 (.ref xf) xb_2 xb_3 xb_4 b), (xf, c2 xf_0 xf_1 xf_2 f)] H := hP
    have hD : va_D A [(xb, c6 xb_0 (.ref xf) xb_2 xb_3 xb_4 b), (xf, c2 xf_0 xf_1 xf_2 f)] := hD
    refine lv_goto (tgt := 21) hx hb dX6_isOpen_11 (by decide) ?_
    exact J6 r5 (by simp only [← hr5, if_neg z1]) _ _ hP hD hS

set_option maxHeartbeats 4000000 in
set_option maxRecDepth 100000 in
theorem k6_sees (l : Launch) (D : va_G) (cI cJ : ClassId) (xb xf xp xq : Nat) (xb_0 xb_2 xb_3 xb_4 xf_0 : Value) (b : Nat → Int32) (f : Nat → Int32) (ep : Nat → Int32) (eq : Nat → Int32) (a1 : Int32) (hep : ep 0 = 0 ∨ ep 0 = 1) (heq : eq 0 = 0 ∨ eq 0 = 1) : cw_Mi l yX6_sees wsX6_sees (cw_rm 0) D [(cI, .int)] [.ref xb, .int a1] [(xb, c6 xb_0 (.ref xf) xb_2 xb_3 xb_4 b), (xf, c2 xf_0 (.ref xp) (.ref xq) f), (xp, c1 ep), (xq, c1 eq)] 0 0 (fun r (_ : Unit) => r = (s6_sees b f ep eq a1)) (fun _ : Unit => [(xb, c6 xb_0 (.ref xf) xb_2 xb_3 xb_4 b), (xf, c2 xf_0 (.ref xp) (.ref xq) f), (xp, c1 ep), (xq, c1 eq)]) := by
  refine cw_ofi (cc := cX6_sees) (maxL := 2) (ret := (some .boolean)) (by decide) rfl (Nat.le_of_ble_eq_true rfl) rfl ?_
  intro p e s m args below meth c A ls Q hin0 hret
  obtain ⟨hx, hb, hr, hml, hts, hown, hlocks, hin, hP, hK, hD, hN, hA, hl⟩ := hin0
  have hS : va_S A s.heap s.heap [] := va_S.rf
  have hl : lv_has ls 2 [(0, .ref xb), (1, .int a1)] := hl
  have lf21 := hts (.fieldLink RX6 21 "Burnerline" "furnace" "LBurnerline$Furnace;") (by decide +kernel)
  have i6 : ∀ w ∈ wsX60, w ∈ wsX6_sees := by decide +kernel
  have lf176 := hN.use (args := args) (w := .fieldLinkNest "Burnerline" 176 "Burnerline$Furnace" "pilotEye" "LBurnerline$Eye;" "Burnerline") (by decide +kernel)
  have i2 : ∀ w ∈ wsX20, w ∈ wsX6_sees := by decide +kernel
  have lf170 := hN.use (args := args) (w := .fieldLinkNest "Burnerline" 170 "Burnerline$Eye" "seesFlame" "Z" "Burnerline") (by decide +kernel)
  have i1 : ∀ w ∈ wsX10, w ∈ wsX6_sees := by decide +kernel
  have lf166 := hN.use (args := args) (w := .fieldLinkNest "Burnerline" 166 "Burnerline$Furnace" "mainEye" "LBurnerline$Eye;" "Burnerline") (by decide +kernel)
  refine lv_iload_n hx hb dX6_sees_0 rfl (lv_at hl 1 rfl) ?_
  have J2 : ∀ (w3 : Int32), w3 = (if a1 = 0 then (ep 0) else (eq 0)) → W p l e (cw_rm 0) s m args below meth c s.heap [] 0 0 (Q) (F0 m 27 ls [.int w3]) := by
    intro w3 hw3
    have hsp : (s6_sees b f ep eq a1) = (w3 : Int32) := by simp only [s6_sees, ← hw3]
    exact hret _ _ _ _ _ _ _ _ hP hD hS dX6_sees_27 (cw_b01 (by (try simp only [hw3]); (repeat' split) <;> first | exact Or.inl rfl | exact Or.inr rfl | assumption)) ⟨(), (by rw [hsp]), rfl⟩ (Nat.le_of_ble_eq_true rfl) (Nat.le_of_ble_eq_true rfl)
  refine lv_if_eq (tgt := 17) hx hb dX6_sees_1 (by decide) (fun z1 => ?_) (fun z1 => ?_)
  · refine lv_aload_n hx hb dX6_sees_17 rfl (lv_at hl 0 rfl) ?_
    refine va_get (D := D) (ci := 6) (v := .ref xf) (C := RX6) (T := TX6) (N := 7) hx hb hts i6 hown hK hP 0 rfl rfl 1 (by decide) lf21 (fun _ h9 => h9) rfl dX6_sees_18 ?_
    refine va_getN (D := D) (ci := 2) (v := .ref xp) (C := RX2) (T := TX2) (N := 11) hx hb hts i2 hown hK hP 1 rfl rfl 1 (by decide) lf176 (fun _ h9 => h9) rfl dX6_sees_21 ?_
    refine va_getN (D := D) (ci := 1) (v := .int (ep 0)) (C := RX1) (T := TX1) (N := 2) hx hb hts i1 hown hK hP 2 rfl rfl 0 (by decide) lf170 (fun _ h9 => h9) rfl dX6_sees_24 ?_
    exact J2 (ep 0) (by simp only [if_pos z1])
  · refine lv_aload_n hx hb dX6_sees_4 rfl (lv_at hl 0 rfl) ?_
    refine va_get (D := D) (ci := 6) (v := .ref xf) (C := RX6) (T := TX6) (N := 7) hx hb hts i6 hown hK hP 0 rfl rfl 1 (by decide) lf21 (fun _ h9 => h9) rfl dX6_sees_5 ?_
    refine va_getN (D := D) (ci := 2) (v := .ref xq) (C := RX2) (T := TX2) (N := 11) hx hb hts i2 hown hK hP 1 rfl rfl 2 (by decide) lf166 (fun _ h9 => h9) rfl dX6_sees_8 ?_
    refine va_getN (D := D) (ci := 1) (v := .int (eq 0)) (C := RX1) (T := TX1) (N := 2) hx hb hts i1 hown hK hP 3 rfl rfl 0 (by decide) lf170 (fun _ h9 => h9) rfl dX6_sees_11 ?_
    refine lv_goto (tgt := 27) hx hb dX6_sees_14 (by decide) ?_
    exact J2 (eq 0) (by simp only [if_neg z1])

set_option maxHeartbeats 4000000 in
set_option maxRecDepth 100000 in
theorem k6_air (l : Launch) (D : va_G) (cI cJ : ClassId) (xb xf : Nat) (xb_0 xb_2 xb_3 xb_4 xf_0 xf_1 xf_2 : Value) (b : Nat → Int32) (f : Nat → Int32) : cw_Mi l yX6_air wsX6_air (cw_rm 0) D [(cI, .int)] [.ref xb] [(xb, c6 xb_0 (.ref xf) xb_2 xb_3 xb_4 b), (xf, c2 xf_0 xf_1 xf_2 f)] 0 0 (fun r (_ : Unit) => r = (s6_air b f)) (fun _ : Unit => [(xb, c6 xb_0 (.ref xf) xb_2 xb_3 xb_4 b), (xf, c2 xf_0 xf_1 xf_2 f)]) := by
  refine cw_ofi (cc := cX6_air) (maxL := 1) (ret := (some .int)) (by decide) rfl (Nat.le_of_ble_eq_true rfl) rfl ?_
  intro p e s m args below meth c A ls Q hin0 hret
  obtain ⟨hx, hb, hr, hml, hts, hown, hlocks, hin, hP, hK, hD, hN, hA, hl⟩ := hin0
  have hS : va_S A s.heap s.heap [] := va_S.rf
  have hl : lv_has ls 1 [(0, .ref xb)] := hl
  have lf21 := hts (.fieldLink RX6 21 "Burnerline" "furnace" "LBurnerline$Furnace;") (by decide +kernel)
  have i6 : ∀ w ∈ wsX60, w ∈ wsX6_air := by decide +kernel
  have lf179 := hN.use (args := args) (w := .fieldLinkNest "Burnerline" 179 "Burnerline$Furnace" "air" "I" "Burnerline") (by decide +kernel)
  have i2 : ∀ w ∈ wsX20, w ∈ wsX6_air := by decide +kernel
  refine lv_aload_n hx hb dX6_air_0 rfl (lv_at hl 0 rfl) ?_
  refine va_get (D := D) (ci := 6) (v := .ref xf) (C := RX6) (T := TX6) (N := 7) hx hb hts i6 hown hK hP 0 rfl rfl 1 (by decide) lf21 (fun _ h9 => h9) rfl dX6_air_1 ?_
  refine va_getN (D := D) (ci := 2) (v := .int (f 6)) (C := RX2) (T := TX2) (N := 11) hx hb hts i2 hown hK hP 1 rfl rfl 6 (by decide) lf179 (fun _ h9 => h9) rfl dX6_air_4 ?_
  have hsp : (s6_air b f) = ((f 6) : Int32) := rfl
  exact hret _ _ _ _ _ _ _ _ hP hD hS dX6_air_7 rfl ⟨(), (by rw [hsp]), rfl⟩ (Nat.le_of_ble_eq_true rfl) (Nat.le_of_ble_eq_true rfl)

set_option maxHeartbeats 4000000 in
set_option maxRecDepth 100000 in
theorem k6_fuel (l : Launch) (D : va_G) (cI cJ : ClassId) (xb xf : Nat) (xb_0 xb_2 xb_3 xb_4 xf_0 xf_1 xf_2 : Value) (b : Nat → Int32) (f : Nat → Int32) : cw_Mi l yX6_fuel wsX6_fuel (cw_rm 0) D [(cI, .int)] [.ref xb] [(xb, c6 xb_0 (.ref xf) xb_2 xb_3 xb_4 b), (xf, c2 xf_0 xf_1 xf_2 f)] 0 0 (fun r (_ : Unit) => r = (s6_fuel b f)) (fun _ : Unit => [(xb, c6 xb_0 (.ref xf) xb_2 xb_3 xb_4 b), (xf, c2 xf_0 xf_1 xf_2 f)]) := by
  refine cw_ofi (cc := cX6_fuel) (maxL := 1) (ret := (some .int)) (by decide) rfl (Nat.le_of_ble_eq_true rfl) rfl ?_
  intro p e s m args below meth c A ls Q hin0 hret
  obtain ⟨hx, hb, hr, hml, hts, hown, hlocks, hin, hP, hK, hD, hN, hA, hl⟩ := hin0
  have hS : va_S A s.heap s.heap [] := va_S.rf
  have hl : lv_has ls 1 [(0, .ref xb)] := hl
  have lf21 := hts (.fieldLink RX6 21 "Burnerline" "furnace" "LBurnerline$Furnace;") (by decide +kernel)
  have i6 : ∀ w ∈ wsX60, w ∈ wsX6_fuel := by decide +kernel
  have lf182 := hN.use (args := args) (w := .fieldLinkNest "Burnerline" 182 "Burnerline$Furnace" "fuel" "I" "Burnerline") (by decide +kernel)
  have i2 : ∀ w ∈ wsX20, w ∈ wsX6_fuel := by decide +kernel
  refine lv_aload_n hx hb dX6_fuel_0 rfl (lv_at hl 0 rfl) ?_
  refine va_get (D := D) (ci := 6) (v := .ref xf) (C := RX6) (T := TX6) (N := 7) hx hb hts i6 hown hK hP 0 rfl rfl 1 (by decide) lf21 (fun _ h9 => h9) rfl dX6_fuel_1 ?_
  refine va_getN (D := D) (ci := 2) (v := .int (f 7)) (C := RX2) (T := TX2) (N := 11) hx hb hts i2 hown hK hP 1 rfl rfl 7 (by decide) lf182 (fun _ h9 => h9) rfl dX6_fuel_4 ?_
  have hsp : (s6_fuel b f) = ((f 7) : Int32) := rfl
  exact hret _ _ _ _ _ _ _ _ hP hD hS dX6_fuel_7 rfl ⟨(), (by rw [hsp]), rfl⟩ (Nat.le_of_ble_eq_true rfl) (Nat.le_of_ble_eq_true rfl)

set_option maxHeartbeats 4000000 in
set_option maxRecDepth 100000 in
theorem k6_purged (l : Launch) (D : va_G) (cI cJ : ClassId) (xb xf : Nat) (xb_0 xb_2 xb_3 xb_4 xf_0 xf_1 xf_2 : Value) (b : Nat → Int32) (f : Nat → Int32) : cw_Mi l yX6_purged wsX6_purged (cw_rm 0) D [(cI, .int)] [.ref xb] [(xb, c6 xb_0 (.ref xf) xb_2 xb_3 xb_4 b), (xf, c2 xf_0 xf_1 xf_2 f)] 0 0 (fun r (_ : Unit) => r = (s6_purged b f)) (fun _ : Unit => [(xb, c6 xb_0 (.ref xf) xb_2 xb_3 xb_4 b), (xf, c2 xf_0 xf_1 xf_2 f)]) := by
  refine cw_ofi (cc := cX6_purged) (maxL := 1) (ret := (some .int)) (by decide) rfl (Nat.le_of_ble_eq_true rfl) rfl ?_
  intro p e s m args below meth c A ls Q hin0 hret
  obtain ⟨hx, hb, hr, hml, hts, hown, hlocks, hin, hP, hK, hD, hN, hA, hl⟩ := hin0
  have hS : va_S A s.heap s.heap [] := va_S.rf
  have hl : lv_has ls 1 [(0, .ref xb)] := hl
  have lf21 := hts (.fieldLink RX6 21 "Burnerline" "furnace" "LBurnerline$Furnace;") (by decide +kernel)
  have i6 : ∀ w ∈ wsX60, w ∈ wsX6_purged := by decide +kernel
  have lf185 := hN.use (args := args) (w := .fieldLinkNest "Burnerline" 185 "Burnerline$Furnace" "purged" "I" "Burnerline") (by decide +kernel)
  have i2 : ∀ w ∈ wsX20, w ∈ wsX6_purged := by decide +kernel
  refine lv_aload_n hx hb dX6_purged_0 rfl (lv_at hl 0 rfl) ?_
  refine va_get (D := D) (ci := 6) (v := .ref xf) (C := RX6) (T := TX6) (N := 7) hx hb hts i6 hown hK hP 0 rfl rfl 1 (by decide) lf21 (fun _ h9 => h9) rfl dX6_purged_1 ?_
  refine va_getN (D := D) (ci := 2) (v := .int (f 8)) (C := RX2) (T := TX2) (N := 11) hx hb hts i2 hown hK hP 1 rfl rfl 8 (by decide) lf185 (fun _ h9 => h9) rfl dX6_purged_4 ?_
  have hsp : (s6_purged b f) = ((f 8) : Int32) := rfl
  exact hret _ _ _ _ _ _ _ _ hP hD hS dX6_purged_7 rfl ⟨(), (by rw [hsp]), rfl⟩ (Nat.le_of_ble_eq_true rfl) (Nat.le_of_ble_eq_true rfl)

set_option maxHeartbeats 4000000 in
set_option maxRecDepth 100000 in
theorem k6_unlit (l : Launch) (D : va_G) (cI cJ : ClassId) (xb xf : Nat) (xb_0 xb_2 xb_3 xb_4 xf_0 xf_1 xf_2 : Value) (b : Nat → Int32) (f : Nat → Int32) : cw_Mi l yX6_unlit wsX6_unlit (cw_rm 0) D [(cI, .int)] [.ref xb] [(xb, c6 xb_0 (.ref xf) xb_2 xb_3 xb_4 b), (xf, c2 xf_0 xf_1 xf_2 f)] 0 0 (fun r (_ : Unit) => r = (s6_unlit b f)) (fun _ : Unit => [(xb, c6 xb_0 (.ref xf) xb_2 xb_3 xb_4 b), (xf, c2 xf_0 xf_1 xf_2 f)]) := by
  refine cw_ofi (cc := cX6_unlit) (maxL := 1) (ret := (some .int)) (by decide) rfl (Nat.le_of_ble_eq_true rfl) rfl ?_
  intro p e s m args below meth c A ls Q hin0 hret
  obtain ⟨hx, hb, hr, hml, hts, hown, hlocks, hin, hP, hK, hD, hN, hA, hl⟩ := hin0
  have hS : va_S A s.heap s.heap [] := va_S.rf
  have hl : lv_has ls 1 [(0, .ref xb)] := hl
  have lf21 := hts (.fieldLink RX6 21 "Burnerline" "furnace" "LBurnerline$Furnace;") (by decide +kernel)
  have i6 : ∀ w ∈ wsX60, w ∈ wsX6_unlit := by decide +kernel
  have lf188 := hN.use (args := args) (w := .fieldLinkNest "Burnerline" 188 "Burnerline$Furnace" "unlit" "I" "Burnerline") (by decide +kernel)
  have i2 : ∀ w ∈ wsX20, w ∈ wsX6_unlit := by decide +kernel
  refine lv_aload_n hx hb dX6_unlit_0 rfl (lv_at hl 0 rfl) ?_
  refine va_get (D := D) (ci := 6) (v := .ref xf) (C := RX6) (T := TX6) (N := 7) hx hb hts i6 hown hK hP 0 rfl rfl 1 (by decide) lf21 (fun _ h9 => h9) rfl dX6_unlit_1 ?_
  refine va_getN (D := D) (ci := 2) (v := .int (f 9)) (C := RX2) (T := TX2) (N := 11) hx hb hts i2 hown hK hP 1 rfl rfl 9 (by decide) lf188 (fun _ h9 => h9) rfl dX6_unlit_4 ?_
  have hsp : (s6_unlit b f) = ((f 9) : Int32) := rfl
  exact hret _ _ _ _ _ _ _ _ hP hD hS dX6_unlit_7 rfl ⟨(), (by rw [hsp]), rfl⟩ (Nat.le_of_ble_eq_true rfl) (Nat.le_of_ble_eq_true rfl)

set_option maxHeartbeats 4000000 in
set_option maxRecDepth 100000 in
theorem k6_longestUnlit (l : Launch) (D : va_G) (cI cJ : ClassId) (xb xf : Nat) (xb_0 xb_2 xb_3 xb_4 xf_0 xf_1 xf_2 : Value) (b : Nat → Int32) (f : Nat → Int32) : cw_Mi l yX6_longestUnlit wsX6_longestUnlit (cw_rm 0) D [(cI, .int)] [.ref xb] [(xb, c6 xb_0 (.ref xf) xb_2 xb_3 xb_4 b), (xf, c2 xf_0 xf_1 xf_2 f)] 0 0 (fun r (_ : Unit) => r = (s6_longestUnlit b f)) (fun _ : Unit => [(xb, c6 xb_0 (.ref xf) xb_2 xb_3 xb_4 b), (xf, c2 xf_0 xf_1 xf_2 f)]) := by
  refine cw_ofi (cc := cX6_longestUnlit) (maxL := 1) (ret := (some .int)) (by decide) rfl (Nat.le_of_ble_eq_true rfl) rfl ?_
  intro p e s m args below meth c A ls Q hin0 hret
  obtain ⟨hx, hb, hr, hml, hts, hown, hlocks, hin, hP, hK, hD, hN, hA, hl⟩ := hin0
  have hS : va_S A s.heap s.heap [] := va_S.rf
  have hl : lv_has ls 1 [(0, .ref xb)] := hl
  have lf21 := hts (.fieldLink RX6 21 "Burnerline" "furnace" "LBurnerline$Furnace;") (by decide +kernel)
  have i6 : ∀ w ∈ wsX60, w ∈ wsX6_longestUnlit := by decide +kernel
  have lf191 := hN.use (args := args) (w := .fieldLinkNest "Burnerline" 191 "Burnerline$Furnace" "longestUnlit" "I" "Burnerline") (by decide +kernel)
  have i2 : ∀ w ∈ wsX20, w ∈ wsX6_longestUnlit := by decide +kernel
  refine lv_aload_n hx hb dX6_longestUnlit_0 rfl (lv_at hl 0 rfl) ?_
  refine va_get (D := D) (ci := 6) (v := .ref xf) (C := RX6) (T := TX6) (N := 7) hx hb hts i6 hown hK hP 0 rfl rfl 1 (by decide) lf21 (fun _ h9 => h9) rfl dX6_longestUnlit_1 ?_
  refine va_getN (D := D) (ci := 2) (v := .int (f 10)) (C := RX2) (T := TX2) (N := 11) hx hb hts i2 hown hK hP 1 rfl rfl 10 (by decide) lf191 (fun _ h9 => h9) rfl dX6_longestUnlit_4 ?_
  have hsp : (s6_longestUnlit b f) = ((f 10) : Int32) := rfl
  exact hret _ _ _ _ _ _ _ _ hP hD hS dX6_longestUnlit_7 rfl ⟨(), (by rw [hsp]), rfl⟩ (Nat.le_of_ble_eq_true rfl) (Nat.le_of_ble_eq_true rfl)

set_option maxHeartbeats 4000000 in
set_option maxRecDepth 100000 in
theorem k6_changes (l : Launch) (D : va_G) (cI cJ : ClassId) (xb xh : Nat) (xb_0 xb_1 xb_3 xb_4 xh_0 xh_1 xh_2 : Value) (b : Nat → Int32) (hh : Nat → Int32) : cw_Mi l yX6_changes wsX6_changes (cw_rm 0) D [(cI, .int)] [.ref xb] [(xb, c6 xb_0 xb_1 (.ref xh) xb_3 xb_4 b), (xh, c3 xh_0 xh_1 xh_2 hh)] 0 0 (fun r (_ : Unit) => r = (s6_changes b hh)) (fun _ : Unit => [(xb, c6 xb_0 xb_1 (.ref xh) xb_3 xb_4 b), (xh, c3 xh_0 xh_1 xh_2 hh)]) := by
  refine cw_ofi (cc := cX6_changes) (maxL := 1) (ret := (some .int)) (by decide) rfl (Nat.le_of_ble_eq_true rfl) rfl ?_
  intro p e s m args below meth c A ls Q hin0 hret
  obtain ⟨hx, hb, hr, hml, hts, hown, hlocks, hin, hP, hK, hD, hN, hA, hl⟩ := hin0
  have hS : va_S A s.heap s.heap [] := va_S.rf
  have hl : lv_has ls 1 [(0, .ref xb)] := hl
  have lf28 := hts (.fieldLink RX6 28 "Burnerline" "history" "LBurnerline$History;") (by decide +kernel)
  have i6 : ∀ w ∈ wsX60, w ∈ wsX6_changes := by decide +kernel
  have lf194 := hN.use (args := args) (w := .fieldLinkNest "Burnerline" 194 "Burnerline$History" "added" "I" "Burnerline") (by decide +kernel)
  have i3 : ∀ w ∈ wsX30, w ∈ wsX6_changes := by decide +kernel
  refine lv_aload_n hx hb dX6_changes_0 rfl (lv_at hl 0 rfl) ?_
  refine va_get (D := D) (ci := 6) (v := .ref xh) (C := RX6) (T := TX6) (N := 7) hx hb hts i6 hown hK hP 0 rfl rfl 2 (by decide) lf28 (fun _ h9 => h9) rfl dX6_changes_1 ?_
  refine va_getN (D := D) (ci := 3) (v := .int (hh 3)) (C := RX3) (T := TX3) (N := 6) hx hb hts i3 hown hK hP 1 rfl rfl 3 (by decide) lf194 (fun _ h9 => h9) rfl dX6_changes_4 ?_
  have hsp : (s6_changes b hh) = ((hh 3) : Int32) := rfl
  exact hret _ _ _ _ _ _ _ _ hP hD hS dX6_changes_7 rfl ⟨(), (by rw [hsp]), rfl⟩ (Nat.le_of_ble_eq_true rfl) (Nat.le_of_ble_eq_true rfl)

set_option maxHeartbeats 4000000 in
set_option maxRecDepth 100000 in
theorem k6_records (l : Launch) (D : va_G) (cI cJ : ClassId) (xb xh : Nat) (xb_0 xb_1 xb_3 xb_4 xh_0 xh_1 xh_2 : Value) (b : Nat → Int32) (hh : Nat → Int32) : cw_Mi l yX6_records wsX6_records (cw_rm 0) D [(cI, .int)] [.ref xb] [(xb, c6 xb_0 xb_1 (.ref xh) xb_3 xb_4 b), (xh, c3 xh_0 xh_1 xh_2 hh)] 0 0 (fun r (_ : Unit) => r = (s6_records b hh)) (fun _ : Unit => [(xb, c6 xb_0 xb_1 (.ref xh) xb_3 xb_4 b), (xh, c3 xh_0 xh_1 xh_2 hh)]) := by
  refine cw_ofi (cc := cX6_records) (maxL := 1) (ret := (some .int)) (by decide) rfl (Nat.le_of_ble_eq_true rfl) rfl ?_
  intro p e s m args below meth c A ls Q hin0 hret
  obtain ⟨hx, hb, hr, hml, hts, hown, hlocks, hin, hP, hK, hD, hN, hA, hl⟩ := hin0
  have hS : va_S A s.heap s.heap [] := va_S.rf
  have hl : lv_has ls 1 [(0, .ref xb)] := hl
  have lf28 := hts (.fieldLink RX6 28 "Burnerline" "history" "LBurnerline$History;") (by decide +kernel)
  have i6 : ∀ w ∈ wsX60, w ∈ wsX6_records := by decide +kernel
  have lf197 := hN.use (args := args) (w := .fieldLinkNest "Burnerline" 197 "Burnerline$History" "kept" "I" "Burnerline") (by decide +kernel)
  have i3 : ∀ w ∈ wsX30, w ∈ wsX6_records := by decide +kernel
  refine lv_aload_n hx hb dX6_records_0 rfl (lv_at hl 0 rfl) ?_
  refine va_get (D := D) (ci := 6) (v := .ref xh) (C := RX6) (T := TX6) (N := 7) hx hb hts i6 hown hK hP 0 rfl rfl 2 (by decide) lf28 (fun _ h9 => h9) rfl dX6_records_1 ?_
  refine va_getN (D := D) (ci := 3) (v := .int (hh 4)) (C := RX3) (T := TX3) (N := 6) hx hb hts i3 hown hK hP 1 rfl rfl 4 (by decide) lf197 (fun _ h9 => h9) rfl dX6_records_4 ?_
  have hsp : (s6_records b hh) = ((hh 4) : Int32) := rfl
  exact hret _ _ _ _ _ _ _ _ hP hD hS dX6_records_7 rfl ⟨(), (by rw [hsp]), rfl⟩ (Nat.le_of_ble_eq_true rfl) (Nat.le_of_ble_eq_true rfl)

set_option maxHeartbeats 4000000 in
set_option maxRecDepth 100000 in
theorem k6_recordChange (l : Launch) (D : va_G) (cI cJ : ClassId) (xb xf xh ja jb jc : Nat) (xb_0 xb_3 xb_4 xf_0 xf_1 xf_2 : Value) (b : Nat → Int32) (f : Nat → Int32) (hh : Nat → Int32) (t1 : Nat → Int32) (t2 : Nat → Int32) (t3 : Nat → Int32) : cw_Mv l yX6_recordChange wsX6_recordChange (cw_rm 2) D [(cI, .int)] [.ref xb] [(xb, c6 xb_0 (.ref xf) (.ref xh) xb_3 xb_4 b), (xf, c2 xf_0 xf_1 xf_2 f), (xh, c3 (.ref ja) (.ref jb) (.ref jc) hh), (ja, .inl (cI, 100, .inl t1)), (jb, .inl (cI, 100, .inl t2)), (jc, .inl (cI, 100, .inl t3))] 0 0 (fun _ : Unit => True) (fun _ : Unit => [(xb, c6 xb_0 (.ref xf) (.ref xh) xb_3 xb_4 b), (xf, c2 xf_0 xf_1 xf_2 f), (xh, c3 (.ref ja) (.ref jb) (.ref jc) (s6_recordChange b f hh t1 t2 t3).1), (ja, .inl (cI, 100, .inl (s6_recordChange b f hh t1 t2 t3).2.1)), (jb, .inl (cI, 100, .inl (s6_recordChange b f hh t1 t2 t3).2.2.1)), (jc, .inl (cI, 100, .inl (s6_recordChange b f hh t1 t2 t3).2.2.2))]) := by
  refine cw_ofv (cc := cX6_recordChange) (maxL := 1) (ret := none) (by decide) rfl (Nat.le_of_ble_eq_true rfl) rfl ?_
  intro p e s m args below meth c A ls Q hin0 hret
  obtain ⟨hx, hb, hr, hml, hts, hown, hlocks, hin, hP, hK, hD, hN, hA, hl⟩ := hin0
  have hS : va_S A s.heap s.heap [] := va_S.rf
  have hl : lv_has ls 1 [(0, .ref xb)] := hl
  have lf28 := hts (.fieldLink RX6 28 "Burnerline" "history" "LBurnerline$History;") (by decide +kernel)
  have i6 : ∀ w ∈ wsX60, w ∈ wsX6_recordChange := by decide +kernel
  have lf116 := hts (.fieldLink RX6 116 "Burnerline" "ticks" "I") (by decide +kernel)
  have lf21 := hts (.fieldLink RX6 21 "Burnerline" "furnace" "LBurnerline$Furnace;") (by decide +kernel)
  have lf154 := hN.use (args := args) (w := .fieldLinkNest "Burnerline" 154 "Burnerline$Furnace" "state" "I" "Burnerline") (by decide +kernel)
  have i2 : ∀ w ∈ wsX20, w ∈ wsX6_recordChange := by decide +kernel
  have lf157 := hN.use (args := args) (w := .fieldLinkNest "Burnerline" 157 "Burnerline$Furnace" "reason" "I" "Burnerline") (by decide +kernel)
  refine lv_aload_n hx hb dX6_recordChange_0 rfl (lv_at hl 0 rfl) ?_
  refine va_get (D := D) (ci := 6) (v := .ref xh) (C := RX6) (T := TX6) (N := 7) hx hb hts i6 hown hK hP 0 rfl rfl 2 (by decide) lf28 (fun _ h9 => h9) rfl dX6_recordChange_1 ?_
  refine lv_aload_n hx hb dX6_recordChange_4 rfl (lv_at hl 0 rfl) ?_
  refine va_get (D := D) (ci := 6) (v := .int (b 6)) (C := RX6) (T := TX6) (N := 7) hx hb hts i6 hown hK hP 0 rfl rfl 6 (by decide) lf116 (fun _ h9 => h9) rfl dX6_recordChange_5 ?_
  refine lv_aload_n hx hb dX6_recordChange_8 rfl (lv_at hl 0 rfl) ?_
  refine va_get (D := D) (ci := 6) (v := .ref xf) (C := RX6) (T := TX6) (N := 7) hx hb hts i6 hown hK hP 0 rfl rfl 1 (by decide) lf21 (fun _ h9 => h9) rfl dX6_recordChange_9 ?_
  refine va_getN (D := D) (ci := 2) (v := .int (f 3)) (C := RX2) (T := TX2) (N := 11) hx hb hts i2 hown hK hP 1 rfl rfl 3 (by decide) lf154 (fun _ h9 => h9) rfl dX6_recordChange_12 ?_
  refine lv_aload_n hx hb dX6_recordChange_15 rfl (lv_at hl 0 rfl) ?_
  refine va_get (D := D) (ci := 6) (v := .ref xf) (C := RX6) (T := TX6) (N := 7) hx hb hts i6 hown hK hP 0 rfl rfl 1 (by decide) lf21 (fun _ h9 => h9) rfl dX6_recordChange_16 ?_
  refine va_getN (D := D) (ci := 2) (v := .int (f 4)) (C := RX2) (T := TX2) (N := 11) hx hb hts i2 hown hK hP 1 rfl rfl 4 (by decide) lf157 (fun _ h9 => h9) rfl dX6_recordChange_19 ?_
  refine cw_cVv (As := [.int (b 6), .int (f 3), .int (f 4)]) (rest := []) (wc := [(xh, c3 (.ref ja) (.ref jb) (.ref jc) hh), (ja, .inl (cI, 100, .inl t1)), (jb, .inl (cI, 100, .inl t2)), (jc, .inl (cI, 100, .inl t3))]) (wr := [(xb, c6 xb_0 (.ref xf) (.ref xh) xb_3 xb_4 b), (xf, c2 xf_0 xf_1 xf_2 f)]) ⟨hx, hb, hml, hown, hts⟩ (k3_add l D cI cJ xh ja jb jc hh t1 t2 t3 (b 6) (f 3) (f 4)) (cwV 3 hts gX6_recordChange_X3_add rfl rfl rfl (by decide +kernel) ⟨Nat.le_of_ble_eq_true rfl, Nat.le_of_ble_eq_true rfl⟩) hK hN hP hD hS hA [2, 3, 4, 5] [0, 1] rfl rfl (by decide) (by decide) (by decide) 0 (ci := 3) rfl rfl rfl rfl hl.1 rfl (Nat.le_of_ble_eq_true rfl) dX6_recordChange_22 ⟨Nat.le_of_ble_eq_true rfl, Nat.le_of_ble_eq_true rfl⟩ (fun u1 H locs hw hP hD hS => ?_)
  obtain ⟨v3, hv3⟩ : ∃ z : Nat → Int32, z = ((s3_add hh t1 t2 t3 (b 6) (f 3) (f 4)).1) := ⟨_, rfl⟩
  obtain ⟨v4, hv4⟩ : ∃ z : Nat → Int32, z = ((s3_add hh t1 t2 t3 (b 6) (f 3) (f 4)).2.1) := ⟨_, rfl⟩
  obtain ⟨v5, hv5⟩ : ∃ z : Nat → Int32, z = ((s3_add hh t1 t2 t3 (b 6) (f 3) (f 4)).2.2.1) := ⟨_, rfl⟩
  obtain ⟨v6, hv6⟩ : ∃ z : Nat → Int32, z = ((s3_add hh t1 t2 t3 (b 6) (f 3) (f 4)).2.2.2) := ⟨_, rfl⟩
  have hP : va_P D vwCl [(xb, c6 xb_0 (.ref xf) (.ref xh) xb_3 xb_4 b), (xf, c2 xf_0 xf_1 xf_2 f), (xh, c3 (.ref ja) (.ref jb) (.ref jc) v3), (ja, .inl (cI, 100, .inl v4)), (jb, .inl (cI, 100, .inl v5)), (jc, .inl (cI, 100, .inl v6))] H := by rw [hv3, hv4, hv5, hv6]; exact hP
  have hD : va_D A [(xb, c6 xb_0 (.ref xf) (.ref xh) xb_3 xb_4 b), (xf, c2 xf_0 xf_1 xf_2 f), (xh, c3 (.ref ja) (.ref jb) (.ref jc) v3), (ja, .inl (cI, 100, .inl v4)), (jb, .inl (cI, 100, .inl v5)), (jc, .inl (cI, 100, .inl v6))] := by rw [hv3, hv4, hv5, hv6]; exact hD
  have hsp : (s6_recordChange b f hh t1 t2 t3) = ((v3, v4, v5, v6) : (Nat → Int32) × (Nat → Int32) × (Nat → Int32) × (Nat → Int32)) := by simp only [s6_recordChange, ← hv3, ← hv4, ← hv5, ← hv6]
  exact hret _ _ _ _ _ _ _ hP hD hS dX6_recordChange_25 ⟨(), trivial, (by rw [hsp])⟩ (Nat.le_of_ble_eq_true rfl) (Nat.le_of_ble_eq_true rfl)

set_option maxHeartbeats 4000000 in
set_option maxRecDepth 100000 in
theorem k6_tellingSignals (l : Launch) (D : va_G) (cI cJ : ClassId) (a1 : Int32) : cw_Mi l yX6_tellingSignals wsX6_tellingSignals (cw_rm 0) D [(cI, .int)] [.int a1] [] 0 0 (fun r (_ : Unit) => r = (s6_tellingSignals a1)) (fun _ : Unit => []) := by
  refine cw_ofi (cc := cX6_tellingSignals) (maxL := 1) (ret := (some .int)) (by decide) rfl (Nat.le_of_ble_eq_true rfl) rfl ?_
  intro p e s m args below meth c A ls Q hin0 hret
  obtain ⟨hx, hb, hr, hml, hts, hown, hlocks, hin, hP, hK, hD, hN, hA, hl⟩ := hin0
  have hS : va_S A s.heap s.heap [] := va_S.rf
  have hl : lv_has ls 1 [(0, .int a1)] := hl
  refine lv_iload_n hx hb dX6_tellingSignals_0 rfl (lv_at hl 0 rfl) ?_
  by_cases z1 : a1 = 0
  · refine lv_tableIn (off := 35) (tgt := 36) hx hb dX6_tellingSignals_1 (by rw [z1]; decide) (by rw [z1]; decide) (by rw [z1]; rfl) (by decide) ?_
    refine lv_bipush (v := 25) hx hb dX6_tellingSignals_36 (by decide) ?_
    have hsp : (s6_tellingSignals a1) = (25 : Int32) := by simp only [s6_tellingSignals, if_pos z1]
    exact hret _ _ _ _ _ _ _ _ hP hD hS dX6_tellingSignals_38 rfl ⟨(), (by rw [hsp]), rfl⟩ (Nat.le_of_ble_eq_true rfl) (Nat.le_of_ble_eq_true rfl)
  · by_cases z2 : a1 = 1
    · refine lv_tableIn (off := 38) (tgt := 39) hx hb dX6_tellingSignals_1 (by rw [z2]; decide) (by rw [z2]; decide) (by rw [z2]; rfl) (by decide) ?_
      refine lv_bipush (v := 27) hx hb dX6_tellingSignals_39 (by decide) ?_
      have hsp : (s6_tellingSignals a1) = (27 : Int32) := by simp only [s6_tellingSignals, if_neg z1, if_pos z2]
      exact hret _ _ _ _ _ _ _ _ hP hD hS dX6_tellingSignals_41 rfl ⟨(), (by rw [hsp]), rfl⟩ (Nat.le_of_ble_eq_true rfl) (Nat.le_of_ble_eq_true rfl)
    · by_cases z3 : a1 = 2
      · refine lv_tableIn (off := 41) (tgt := 42) hx hb dX6_tellingSignals_1 (by rw [z3]; decide) (by rw [z3]; decide) (by rw [z3]; rfl) (by decide) ?_
        refine lv_bipush (v := 31) hx hb dX6_tellingSignals_42 (by decide) ?_
        have hsp : (s6_tellingSignals a1) = (31 : Int32) := by simp only [s6_tellingSignals, if_neg z1, if_neg z2, if_pos z3]
        exact hret _ _ _ _ _ _ _ _ hP hD hS dX6_tellingSignals_44 rfl ⟨(), (by rw [hsp]), rfl⟩ (Nat.le_of_ble_eq_true rfl) (Nat.le_of_ble_eq_true rfl)
      · by_cases z4 : a1 = 3
        · refine lv_tableIn (off := 41) (tgt := 42) hx hb dX6_tellingSignals_1 (by rw [z4]; decide) (by rw [z4]; decide) (by rw [z4]; rfl) (by decide) ?_
          refine lv_bipush (v := 31) hx hb dX6_tellingSignals_42 (by decide) ?_
          have hsp : (s6_tellingSignals a1) = (31 : Int32) := by simp only [s6_tellingSignals, if_neg z1, if_neg z2, if_neg z3, if_pos z4]
          exact hret _ _ _ _ _ _ _ _ hP hD hS dX6_tellingSignals_44 rfl ⟨(), (by rw [hsp]), rfl⟩ (Nat.le_of_ble_eq_true rfl) (Nat.le_of_ble_eq_true rfl)
        · by_cases z5 : a1 = 4
          · refine lv_tableIn (off := 44) (tgt := 45) hx hb dX6_tellingSignals_1 (by rw [z5]; decide) (by rw [z5]; decide) (by rw [z5]; rfl) (by decide) ?_
            refine lv_bipush (v := 63) hx hb dX6_tellingSignals_45 (by decide) ?_
            have hsp : (s6_tellingSignals a1) = (63 : Int32) := by simp only [s6_tellingSignals, if_neg z1, if_neg z2, if_neg z3, if_neg z4, if_pos z5]
            exact hret _ _ _ _ _ _ _ _ hP hD hS dX6_tellingSignals_47 rfl ⟨(), (by rw [hsp]), rfl⟩ (Nat.le_of_ble_eq_true rfl) (Nat.le_of_ble_eq_true rfl)
          · refine lv_tableOut (tgt := 48) hx hb dX6_tellingSignals_1 (by have y0 := lv_neT z1 (a := 0) (by decide); have y1 := lv_neT z2 (a := 1) (by decide); have y2 := lv_neT z3 (a := 2) (by decide); have y3 := lv_neT z4 (a := 3) (by decide); have y4 := lv_neT z5 (a := 4) (by decide); omega) (by decide) ?_
            refine lv_bipush (v := 24) hx hb dX6_tellingSignals_48 (by decide) ?_
            have hsp : (s6_tellingSignals a1) = (24 : Int32) := by simp only [s6_tellingSignals, if_neg z1, if_neg z2, if_neg z3, if_neg z4, if_neg z5]
            exact hret _ _ _ _ _ _ _ _ hP hD hS dX6_tellingSignals_50 rfl ⟨(), (by rw [hsp]), rfl⟩ (Nat.le_of_ble_eq_true rfl) (Nat.le_of_ble_eq_true rfl)

set_option maxHeartbeats 4000000 in
set_option maxRecDepth 100000 in
theorem k6_foundAt (l : Launch) (D : va_G) (cI cJ : ClassId) (xf : Nat) (xf_0 xf_1 xf_2 : Value) (f : Nat → Int32) : cw_Mi l yX6_foundAt wsX6_foundAt (cw_rm 1) D [(cI, .int)] [.ref xf] [(xf, c2 xf_0 xf_1 xf_2 f)] 0 0 (fun r (_ : Unit) => r = (s6_foundAt f)) (fun _ : Unit => [(xf, c2 xf_0 xf_1 xf_2 f)]) := by
  refine cw_ofi (cc := cX6_foundAt) (maxL := 2) (ret := (some .int)) (by decide) rfl (Nat.le_of_ble_eq_true rfl) rfl ?_
  intro p e s m args below meth c A ls Q hin0 hret
  obtain ⟨hx, hb, hr, hml, hts, hown, hlocks, hin, hP, hK, hD, hN, hA, hl⟩ := hin0
  have hS : va_S A s.heap s.heap [] := va_S.rf
  have hl : lv_has ls 2 [(0, .ref xf)] := hl
  have lf154 := hN.use (args := args) (w := .fieldLinkNest "Burnerline" 154 "Burnerline$Furnace" "state" "I" "Burnerline") (by decide +kernel)
  have i2 : ∀ w ∈ wsX20, w ∈ wsX6_foundAt := by decide +kernel
  have lf157 := hN.use (args := args) (w := .fieldLinkNest "Burnerline" 157 "Burnerline$Furnace" "reason" "I" "Burnerline") (by decide +kernel)
  refine lv_iconst (v := 1) hx hb dX6_foundAt_0 (by decide) ?_
  refine lv_aload_n hx hb dX6_foundAt_1 rfl (lv_at hl 0 rfl) ?_
  refine va_getN (D := D) (ci := 2) (v := .int (f 3)) (C := RX2) (T := TX2) (N := 11) hx hb hts i2 hown hK hP 0 rfl rfl 3 (by decide) lf154 (fun _ h9 => h9) rfl dX6_foundAt_2 ?_
  refine lv_ishl hx hb dX6_foundAt_5 ?_
  refine lv_istore_n (lv' := [(1, .int ((1 : Int32) <<< ((f 3) &&& 31))), (0, .ref xf)]) hx hb dX6_foundAt_6 rfl hl (by decide) rfl (fun ls hl => ?_)
  refine lv_aload_n hx hb dX6_foundAt_7 rfl (lv_at hl 1 rfl) ?_
  refine cw_cVi (As := []) (rest := []) (wc := [(xf, c2 xf_0 xf_1 xf_2 f)]) (wr := []) ⟨hx, hb, hml, hown, hts⟩ (k2_isLockedOut l D cI cJ xf xf_0 xf_1 xf_2 f) (cwV 0 hts gX6_foundAt_X2_isLockedOut rfl rfl rfl (by decide +kernel) ⟨Nat.le_of_ble_eq_true rfl, Nat.le_of_ble_eq_true rfl⟩) hK hN hP hD hS hA [0] [] rfl rfl (by decide) (by decide) (by decide) 0 (ci := 2) rfl rfl rfl rfl hl.1 rfl (Nat.le_of_ble_eq_true rfl) dX6_foundAt_8 ⟨Nat.le_of_ble_eq_true rfl, Nat.le_of_ble_eq_true rfl⟩ (fun r2 u1 H locs hw hP hD hS => ?_)
  have hr2 : r2 = (s2_isLockedOut f) := hw
  have hP : va_P D vwCl [(xf, c2 xf_0 xf_1 xf_2 f)] H := hP
  have hD : va_D A [(xf, c2 xf_0 xf_1 xf_2 f)] := hD
  have J4 : ∀ (w5 : Int32), w5 = (if r2 = 0 then ((1 : Int32) <<< ((f 3) &&& 31)) else (((1 : Int32) <<< ((f 3) &&& 31)) ||| ((1 : Int32) <<< ((8 + (f 4)) &&& 31)))) → ∀ (ls : Array Slot), lv_has ls 2 [(0, .ref xf), (1, .int w5)] → W p l e (cw_rm 1) s m args below meth c H locs 0 0 (Q) (F0 m 26 ls []) := by
    intro w5 hw5 ls hl
    refine lv_iload_n hx hb dX6_foundAt_26 rfl (lv_at hl 1 rfl) ?_
    have hsp : (s6_foundAt f) = (w5 : Int32) := by simp only [s6_foundAt, ← hr2, ← hw5]
    exact hret _ _ _ _ _ _ _ _ hP hD hS dX6_foundAt_27 rfl ⟨(), (by rw [hsp]), rfl⟩ (Nat.le_of_ble_eq_true rfl) (Nat.le_of_ble_eq_true rfl)
  refine lv_if_eq (tgt := 26) hx hb dX6_foundAt_11 (by decide) (fun z3 => ?_) (fun z3 => ?_)
  · exact J4 ((1 : Int32) <<< ((f 3) &&& 31)) (by simp only [if_pos z3]) _ (lv_sub hl [1, 0] rfl)
  · refine lv_iload_n hx hb dX6_foundAt_14 rfl (lv_at hl 0 rfl) ?_
    refine lv_iconst (v := 1) hx hb dX6_foundAt_15 (by decide) ?_
    refine lv_bipush (v := 8) hx hb dX6_foundAt_16 (by decide) ?_
    refine lv_aload_n hx hb dX6_foundAt_18 rfl (lv_at hl 1 rfl) ?_
    refine va_getN (D := D) (ci := 2) (v := .int (f 4)) (C := RX2) (T := TX2) (N := 11) hx hb hts i2 hown hK hP 0 rfl rfl 4 (by decide) lf157 (fun _ h9 => h9) rfl dX6_foundAt_19 ?_
    refine lv_iadd hx hb dX6_foundAt_22 ?_
    refine lv_ishl hx hb dX6_foundAt_23 ?_
    refine lv_ior hx hb dX6_foundAt_24 ?_
    refine lv_istore_n (lv' := [(1, .int (((1 : Int32) <<< ((f 3) &&& 31)) ||| ((1 : Int32) <<< ((8 + (f 4)) &&& 31)))), (0, .ref xf)]) hx hb dX6_foundAt_25 rfl hl (by decide) rfl (fun ls hl => ?_)
    exact J4 (((1 : Int32) <<< ((f 3) &&& 31)) ||| ((1 : Int32) <<< ((8 + (f 4)) &&& 31))) (by simp only [if_neg z3]) _ (lv_sub hl [1, 0] rfl)
