def s6_isOn (a1 : Int32) (a2 : Int32) : Int32 := (let w3 : Int32 := (if (a1 &&& a2) = 0 then 0 else 1); w3)
theorem z6_isOn (a1 : Int32) (a2 : Int32) : (s6_isOn a1 a2) = 0 ∨ (s6_isOn a1 a2) = 1 := by
  simp only [s6_isOn]
  (repeat' split) <;> (try dsimp only) <;> first | exact Or.inl rfl | exact Or.inr rfl | (simp; done)

def s2_isLockedOut (f : Nat → Int32) : Int32 := (let w3 : Int32 := (if (f 3) = 6 then 1 else 0); w3)
theorem z2_isLockedOut (f : Nat → Int32) : (s2_isLockedOut f) = 0 ∨ (s2_isLockedOut f) = 1 := by
  simp only [s2_isLockedOut]
  (repeat' split) <;> (try dsimp only) <;> first | exact Or.inl rfl | exact Or.inr rfl | (simp; done)

def s2_isPilotOpen (f : Nat → Int32) : Int32 := (let w4 : Int32 := (if (f 3) = 2 then 1 else (if (f 3) = 3 then 1 else 0)); w4)
theorem z2_isPilotOpen (f : Nat → Int32) : (s2_isPilotOpen f) = 0 ∨ (s2_isPilotOpen f) = 1 := by
  simp only [s2_isPilotOpen]
  (repeat' split) <;> (try dsimp only) <;> first | exact Or.inl rfl | exact Or.inr rfl | (simp; done)

def s2_isMainOpen (f : Nat → Int32) : Int32 := (let w4 : Int32 := (if (f 3) = 3 then 1 else (if (f 3) = 4 then 1 else 0)); w4)
theorem z2_isMainOpen (f : Nat → Int32) : (s2_isMainOpen f) = 0 ∨ (s2_isMainOpen f) = 1 := by
  simp only [s2_isMainOpen]
  (repeat' split) <;> (try dsimp only) <;> first | exact Or.inl rfl | exact Or.inr rfl | (simp; done)

def s2_hasFlame (f : Nat → Int32) (ep : Nat → Int32) (eq : Nat → Int32) (st : Nat → Int32) : Int32 := (let w4 : Int32 := (if (ep 0) = 0 then (if (eq 0) = 0 then 0 else 1) else 1); w4)
theorem z2_hasFlame (f : Nat → Int32) (ep : Nat → Int32) (eq : Nat → Int32) (st : Nat → Int32) : (s2_hasFlame f ep eq st) = 0 ∨ (s2_hasFlame f ep eq st) = 1 := by
  simp only [s2_hasFlame]
  (repeat' split) <;> (try dsimp only) <;> first | exact Or.inl rfl | exact Or.inr rfl | (simp; done)

def s2_moved (a1 : Int32) (a2 : Int32) (a3 : Int32) : Int32 := (if a2 ≤ a1 then (if (a1 - a3) < a2 then a2 else (a1 - a3)) else (if a2 < (a1 + a3) then a2 else (a1 + a3)))

def s2_begin (f : Nat → Int32) (a1 : Int32) (a2 : Int32) : Int32 × (Nat → Int32) := (let w4 : Nat → Int32 := (if a1 = 3 then (upd (upd (upd (upd f 3 a1) 4 a2) 5 0) 8 0) else (if a1 = 4 then (upd (upd (upd (upd f 3 a1) 4 a2) 5 0) 8 0) else (upd (upd (upd (upd (upd f 3 a1) 4 a2) 5 0) 8 0) 7 0))); (1, w4))
theorem z2_begin (f : Nat → Int32) (a1 : Int32) (a2 : Int32) : (s2_begin f a1 a2).1 = 0 ∨ (s2_begin f a1 a2).1 = 1 := by
  simp only [s2_begin]
  (repeat' split) <;> (try dsimp only) <;> first | exact Or.inl rfl | exact Or.inr rfl | (simp; done)

def s2_lockOut (f : Nat → Int32) (a1 : Int32) : Int32 × (Nat → Int32) := (let v3 : Nat → Int32 := ((s2_begin f 6 a1).2); (let r2 : Int32 := ((s2_begin f 6 a1).1); (r2, v3)))
theorem z2_lockOut (f : Nat → Int32) (a1 : Int32) : (s2_lockOut f a1).1 = 0 ∨ (s2_lockOut f a1).1 = 1 := by
  simp only [s2_lockOut]
  (repeat' split) <;> (try dsimp only) <;> first | exact Or.inl rfl | exact Or.inr rfl | (simp; done) | exact z2_begin _ _ _

def s2_isCheckDue (f : Nat → Int32) (ep : Nat → Int32) (eq : Nat → Int32) (st : Nat → Int32) : Int32 := (let w4 : Int32 := (if (st 7) ≤ 0 then 0 else (if ((f 5) - (f 5) / (st 7) * (st 7)) = 0 then 1 else 0)); w4)
theorem z2_isCheckDue (f : Nat → Int32) (ep : Nat → Int32) (eq : Nat → Int32) (st : Nat → Int32) : (s2_isCheckDue f ep eq st) = 0 ∨ (s2_isCheckDue f ep eq st) = 1 := by
  simp only [s2_isCheckDue]
  (repeat' split) <;> (try dsimp only) <;> first | exact Or.inl rfl | exact Or.inr rfl | (simp; done)

def s2_airGoal (f : Nat → Int32) (ep : Nat → Int32) (eq : Nat → Int32) (st : Nat → Int32) : Int32 := (if (f 3) = 0 then 0 else (if (f 3) = 1 then 100 else (if (f 3) = 2 then 30 else (if (f 3) = 3 then 30 else (if (f 3) = 4 then (if (st 0) < (f 7) then (f 7) else (st 0)) else 60)))))

def s2_fuelGoal (f : Nat → Int32) (ep : Nat → Int32) (eq : Nat → Int32) (st : Nat → Int32) : Int32 := (if (f 3) = 3 then 20 else (if (f 3) = 4 then (if (f 6) < (st 0) then (f 6) else (st 0)) else 0))

set_option maxHeartbeats 4000000 in
set_option maxRecDepth 100000 in
theorem k6_isOn (l : Launch) (D : va_G) (cI cJ : ClassId) (a1 : Int32) (a2 : Int32) : cw_Mi l yX6_isOn wsX6_isOn (cw_rm 0) D [(cI, .int)] [.int a1, .int a2] [] 0 0 (fun r (_ : Unit) => r = (s6_isOn a1 a2)) (fun _ : Unit => []) := by
  refine cw_ofi (cc := cX6_isOn) (maxL := 2) (ret := (some .boolean)) (by decide) rfl (Nat.le_of_ble_eq_true rfl) rfl ?_
  intro p e s m args below meth c A ls Q hin0 hret
  obtain ⟨hx, hb, hr, hml, hts, hown, hlocks, hin, hP, hK, hD, hN, hA, hl⟩ := hin0
  have hS : va_S A s.heap s.heap [] := va_S.rf
  have hl : lv_has ls 2 [(0, .int a1), (1, .int a2)] := hl
  refine lv_iload_n hx hb dX6_isOn_0 rfl (lv_at hl 0 rfl) ?_
  refine lv_iload_n hx hb dX6_isOn_1 rfl (lv_at hl 1 rfl) ?_
  refine lv_iand hx hb dX6_isOn_2 ?_
  have J2 : ∀ (w3 : Int32), w3 = (if (a1 &&& a2) = 0 then 0 else 1) → W p l e (cw_rm 0) s m args below meth c s.heap [] 0 0 (Q) (F0 m 11 ls [.int w3]) := by
    intro w3 hw3
    have hsp : (s6_isOn a1 a2) = (w3 : Int32) := by simp only [s6_isOn, ← hw3]
    exact hret _ _ _ _ _ _ _ _ hP hD hS dX6_isOn_11 (cw_b01 (by (try simp only [hw3]); (repeat' split) <;> first | exact Or.inl rfl | exact Or.inr rfl | assumption)) ⟨(), (by rw [hsp]), rfl⟩ (Nat.le_of_ble_eq_true rfl) (Nat.le_of_ble_eq_true rfl)
  refine lv_if_eq (tgt := 10) hx hb dX6_isOn_3 (by decide) (fun z1 => ?_) (fun z1 => ?_)
  · refine lv_iconst (v := 0) hx hb dX6_isOn_10 (by decide) ?_
    exact J2 0 (by simp only [if_pos z1])
  · refine lv_iconst (v := 1) hx hb dX6_isOn_6 (by decide) ?_
    refine lv_goto (tgt := 11) hx hb dX6_isOn_7 (by decide) ?_
    exact J2 1 (by simp only [if_neg z1])

set_option maxHeartbeats 4000000 in
set_option maxRecDepth 100000 in
theorem k2_isLockedOut (l : Launch) (D : va_G) (cI cJ : ClassId) (xf : Nat) (xf_0 xf_1 xf_2 : Value) (f : Nat → Int32) : cw_Mi l yX2_isLockedOut wsX2_isLockedOut (cw_rm 0) D [(cI, .int)] [.ref xf] [(xf, c2 xf_0 xf_1 xf_2 f)] 0 0 (fun r (_ : Unit) => r = (s2_isLockedOut f)) (fun _ : Unit => [(xf, c2 xf_0 xf_1 xf_2 f)]) := by
  refine cw_ofi (cc := cX2_isLockedOut) (maxL := 1) (ret := (some .boolean)) (by decide) rfl (Nat.le_of_ble_eq_true rfl) rfl ?_
  intro p e s m args below meth c A ls Q hin0 hret
  obtain ⟨hx, hb, hr, hml, hts, hown, hlocks, hin, hP, hK, hD, hN, hA, hl⟩ := hin0
  have hS : va_S A s.heap s.heap [] := va_S.rf
  have hl : lv_has ls 1 [(0, .ref xf)] := hl
  have lf29 := hts (.fieldLink RX2 29 "Burnerline$Furnace" "state" "I") (by decide +kernel)
  have i2 : ∀ w ∈ wsX20, w ∈ wsX2_isLockedOut := by decide +kernel
  refine lv_aload_n hx hb dX2_isLockedOut_0 rfl (lv_at hl 0 rfl) ?_
  refine va_get (D := D) (ci := 2) (v := .int (f 3)) (C := RX2) (T := TX2) (N := 11) hx hb hts i2 hown hK hP 0 rfl rfl 3 (by decide) lf29 (fun _ h9 => h9) rfl dX2_isLockedOut_1 ?_
  refine lv_bipush (v := 6) hx hb dX2_isLockedOut_4 (by decide) ?_
  have J2 : ∀ (w3 : Int32), w3 = (if (f 3) = 6 then 1 else 0) → W p l e (cw_rm 0) s m args below meth c s.heap [] 0 0 (Q) (F0 m 14 ls [.int w3]) := by
    intro w3 hw3
    have hsp : (s2_isLockedOut f) = (w3 : Int32) := by simp only [s2_isLockedOut, ← hw3]
    exact hret _ _ _ _ _ _ _ _ hP hD hS dX2_isLockedOut_14 (cw_b01 (by (try simp only [hw3]); (repeat' split) <;> first | exact Or.inl rfl | exact Or.inr rfl | assumption)) ⟨(), (by rw [hsp]), rfl⟩ (Nat.le_of_ble_eq_true rfl) (Nat.le_of_ble_eq_true rfl)
  refine lv_icmp_ne (tgt := 13) hx hb dX2_isLockedOut_6 (by decide) (fun z1 => ?_) (fun z1 => ?_)
  · refine lv_iconst (v := 0) hx hb dX2_isLockedOut_13 (by decide) ?_
    exact J2 0 (by simp only [if_neg z1])
  · refine lv_iconst (v := 1) hx hb dX2_isLockedOut_9 (by decide) ?_
    refine lv_goto (tgt := 14) hx hb dX2_isLockedOut_10 (by decide) ?_
    exact J2 1 (by simp only [if_pos z1])

set_option maxHeartbeats 4000000 in
set_option maxRecDepth 100000 in
theorem k2_isPilotOpen (l : Launch) (D : va_G) (cI cJ : ClassId) (xf : Nat) (xf_0 xf_1 xf_2 : Value) (f : Nat → Int32) : cw_Mi l yX2_isPilotOpen wsX2_isPilotOpen (cw_rm 0) D [(cI, .int)] [.ref xf] [(xf, c2 xf_0 xf_1 xf_2 f)] 0 0 (fun r (_ : Unit) => r = (s2_isPilotOpen f)) (fun _ : Unit => [(xf, c2 xf_0 xf_1 xf_2 f)]) := by
  refine cw_ofi (cc := cX2_isPilotOpen) (maxL := 1) (ret := (some .boolean)) (by decide) rfl (Nat.le_of_ble_eq_true rfl) rfl ?_
  intro p e s m args below meth c A ls Q hin0 hret
  obtain ⟨hx, hb, hr, hml, hts, hown, hlocks, hin, hP, hK, hD, hN, hA, hl⟩ := hin0
  have hS : va_S A s.heap s.heap [] := va_S.rf
  have hl : lv_has ls 1 [(0, .ref xf)] := hl
  have lf29 := hts (.fieldLink RX2 29 "Burnerline$Furnace" "state" "I") (by decide +kernel)
  have i2 : ∀ w ∈ wsX20, w ∈ wsX2_isPilotOpen := by decide +kernel
  refine lv_aload_n hx hb dX2_isPilotOpen_0 rfl (lv_at hl 0 rfl) ?_
  refine va_get (D := D) (ci := 2) (v := .int (f 3)) (C := RX2) (T := TX2) (N := 11) hx hb hts i2 hown hK hP 0 rfl rfl 3 (by decide) lf29 (fun _ h9 => h9) rfl dX2_isPilotOpen_1 ?_
  refine lv_iconst (v := 2) hx hb dX2_isPilotOpen_4 (by decide) ?_
  have J3 : ∀ (w4 : Int32), w4 = (if (f 3) = 2 then 1 else (if (f 3) = 3 then 1 else 0)) → W p l e (cw_rm 0) s m args below meth c s.heap [] 0 0 (Q) (F0 m 21 ls [.int w4]) := by
    intro w4 hw4
    have hsp : (s2_isPilotOpen f) = (w4 : Int32) := by simp only [s2_isPilotOpen, ← hw4]
    exact hret _ _ _ _ _ _ _ _ hP hD hS dX2_isPilotOpen_21 (cw_b01 (by (try simp only [hw4]); (repeat' split) <;> first | exact Or.inl rfl | exact Or.inr rfl | assumption)) ⟨(), (by rw [hsp]), rfl⟩ (Nat.le_of_ble_eq_true rfl) (Nat.le_of_ble_eq_true rfl)
  refine lv_icmp_eq (tgt := 16) hx hb dX2_isPilotOpen_5 (by decide) (fun z1 => ?_) (fun z1 => ?_)
  · refine lv_iconst (v := 1) hx hb dX2_isPilotOpen_16 (by decide) ?_
    refine lv_goto (tgt := 21) hx hb dX2_isPilotOpen_17 (by decide) ?_
    exact J3 1 (by simp only [if_pos z1])
  · refine lv_aload_n hx hb dX2_isPilotOpen_8 rfl (lv_at hl 0 rfl) ?_
    refine va_get (D := D) (ci := 2) (v := .int (f 3)) (C := RX2) (T := TX2) (N := 11) hx hb hts i2 hown hK hP 0 rfl rfl 3 (by decide) lf29 (fun _ h9 => h9) rfl dX2_isPilotOpen_9 ?_
    refine lv_iconst (v := 3) hx hb dX2_isPilotOpen_12 (by decide) ?_
    refine lv_icmp_ne (tgt := 20) hx hb dX2_isPilotOpen_13 (by decide) (fun z2 => ?_) (fun z2 => ?_)
    · refine lv_iconst (v := 0) hx hb dX2_isPilotOpen_20 (by decide) ?_
      exact J3 0 (by simp only [if_neg z1, if_neg z2])
    · refine lv_iconst (v := 1) hx hb dX2_isPilotOpen_16 (by decide) ?_
      refine lv_goto (tgt := 21) hx hb dX2_isPilotOpen_17 (by decide) ?_
      exact J3 1 (by simp only [if_neg z1, if_pos z2])

set_option maxHeartbeats 4000000 in
set_option maxRecDepth 100000 in
theorem k2_isMainOpen (l : Launch) (D : va_G) (cI cJ : ClassId) (xf : Nat) (xf_0 xf_1 xf_2 : Value) (f : Nat → Int32) : cw_Mi l yX2_isMainOpen wsX2_isMainOpen (cw_rm 0) D [(cI, .int)] [.ref xf] [(xf, c2 xf_0 xf_1 xf_2 f)] 0 0 (fun r (_ : Unit) => r = (s2_isMainOpen f)) (fun _ : Unit => [(xf, c2 xf_0 xf_1 xf_2 f)]) := by
  refine cw_ofi (cc := cX2_isMainOpen) (maxL := 1) (ret := (some .boolean)) (by decide) rfl (Nat.le_of_ble_eq_true rfl) rfl ?_
  intro p e s m args below meth c A ls Q hin0 hret
  obtain ⟨hx, hb, hr, hml, hts, hown, hlocks, hin, hP, hK, hD, hN, hA, hl⟩ := hin0
  have hS : va_S A s.heap s.heap [] := va_S.rf
  have hl : lv_has ls 1 [(0, .ref xf)] := hl
  have lf29 := hts (.fieldLink RX2 29 "Burnerline$Furnace" "state" "I") (by decide +kernel)
  have i2 : ∀ w ∈ wsX20, w ∈ wsX2_isMainOpen := by decide +kernel
  refine lv_aload_n hx hb dX2_isMainOpen_0 rfl (lv_at hl 0 rfl) ?_
  refine va_get (D := D) (ci := 2) (v := .int (f 3)) (C := RX2) (T := TX2) (N := 11) hx hb hts i2 hown hK hP 0 rfl rfl 3 (by decide) lf29 (fun _ h9 => h9) rfl dX2_isMainOpen_1 ?_
  refine lv_iconst (v := 3) hx hb dX2_isMainOpen_4 (by decide) ?_
  have J3 : ∀ (w4 : Int32), w4 = (if (f 3) = 3 then 1 else (if (f 3) = 4 then 1 else 0)) → W p l e (cw_rm 0) s m args below meth c s.heap [] 0 0 (Q) (F0 m 21 ls [.int w4]) := by
    intro w4 hw4
    have hsp : (s2_isMainOpen f) = (w4 : Int32) := by simp only [s2_isMainOpen, ← hw4]
    exact hret _ _ _ _ _ _ _ _ hP hD hS dX2_isMainOpen_21 (cw_b01 (by (try simp only [hw4]); (repeat' split) <;> first | exact Or.inl rfl | exact Or.inr rfl | assumption)) ⟨(), (by rw [hsp]), rfl⟩ (Nat.le_of_ble_eq_true rfl) (Nat.le_of_ble_eq_true rfl)
  refine lv_icmp_eq (tgt := 16) hx hb dX2_isMainOpen_5 (by decide) (fun z1 => ?_) (fun z1 => ?_)
  · refine lv_iconst (v := 1) hx hb dX2_isMainOpen_16 (by decide) ?_
    refine lv_goto (tgt := 21) hx hb dX2_isMainOpen_17 (by decide) ?_
    exact J3 1 (by simp only [if_pos z1])
  · refine lv_aload_n hx hb dX2_isMainOpen_8 rfl (lv_at hl 0 rfl) ?_
    refine va_get (D := D) (ci := 2) (v := .int (f 3)) (C := RX2) (T := TX2) (N := 11) hx hb hts i2 hown hK hP 0 rfl rfl 3 (by decide) lf29 (fun _ h9 => h9) rfl dX2_isMainOpen_9 ?_
    refine lv_iconst (v := 4) hx hb dX2_isMainOpen_12 (by decide) ?_
    refine lv_icmp_ne (tgt := 20) hx hb dX2_isMainOpen_13 (by decide) (fun z2 => ?_) (fun z2 => ?_)
    · refine lv_iconst (v := 0) hx hb dX2_isMainOpen_20 (by decide) ?_
      exact J3 0 (by simp only [if_neg z1, if_neg z2])
    · refine lv_iconst (v := 1) hx hb dX2_isMainOpen_16 (by decide) ?_
      refine lv_goto (tgt := 21) hx hb dX2_isMainOpen_17 (by decide) ?_
      exact J3 1 (by simp only [if_neg z1, if_pos z2])

set_option maxHeartbeats 4000000 in
set_option maxRecDepth 100000 in
theorem k2_hasFlame (l : Launch) (D : va_G) (cI cJ : ClassId) (xf xp xq xs : Nat) (f : Nat → Int32) (ep : Nat → Int32) (eq : Nat → Int32) (st : Nat → Int32) : cw_Mi l yX2_hasFlame wsX2_hasFlame (cw_rm 0) D [(cI, .int)] [.ref xf] [(xf, c2 (.ref xs) (.ref xp) (.ref xq) f), (xp, c1 ep), (xq, c1 eq), (xs, c5 st)] 0 0 (fun r (_ : Unit) => r = (s2_hasFlame f ep eq st)) (fun _ : Unit => [(xf, c2 (.ref xs) (.ref xp) (.ref xq) f), (xp, c1 ep), (xq, c1 eq), (xs, c5 st)]) := by
  refine cw_ofi (cc := cX2_hasFlame) (maxL := 1) (ret := (some .boolean)) (by decide) rfl (Nat.le_of_ble_eq_true rfl) rfl ?_
  intro p e s m args below meth c A ls Q hin0 hret
  obtain ⟨hx, hb, hr, hml, hts, hown, hlocks, hin, hP, hK, hD, hN, hA, hl⟩ := hin0
  have hS : va_S A s.heap s.heap [] := va_S.rf
  have hl : lv_has ls 1 [(0, .ref xf)] := hl
  have lf12 := hts (.fieldLink RX2 12 "Burnerline$Furnace" "pilotEye" "LBurnerline$Eye;") (by decide +kernel)
  have i2 : ∀ w ∈ wsX20, w ∈ wsX2_hasFlame := by decide +kernel
  have lf54 := hN.use (args := args) (w := .fieldLinkNest "Burnerline$Furnace" 54 "Burnerline$Eye" "seesFlame" "Z" "Burnerline") (by decide +kernel)
  have i1 : ∀ w ∈ wsX10, w ∈ wsX2_hasFlame := by decide +kernel
  have lf18 := hts (.fieldLink RX2 18 "Burnerline$Furnace" "mainEye" "LBurnerline$Eye;") (by decide +kernel)
  refine lv_aload_n hx hb dX2_hasFlame_0 rfl (lv_at hl 0 rfl) ?_
  refine va_get (D := D) (ci := 2) (v := .ref xp) (C := RX2) (T := TX2) (N := 11) hx hb hts i2 hown hK hP 0 rfl rfl 1 (by decide) lf12 (fun _ h9 => h9) rfl dX2_hasFlame_1 ?_
  refine va_getN (D := D) (ci := 1) (v := .int (ep 0)) (C := RX1) (T := TX1) (N := 2) hx hb hts i1 hown hK hP 1 rfl rfl 0 (by decide) lf54 (fun _ h9 => h9) rfl dX2_hasFlame_4 ?_
  have J3 : ∀ (w4 : Int32), w4 = (if (ep 0) = 0 then (if (eq 0) = 0 then 0 else 1) else 1) → W p l e (cw_rm 0) s m args below meth c s.heap [] 0 0 (Q) (F0 m 25 ls [.int w4]) := by
    intro w4 hw4
    have hsp : (s2_hasFlame f ep eq st) = (w4 : Int32) := by simp only [s2_hasFlame, ← hw4]
    exact hret _ _ _ _ _ _ _ _ hP hD hS dX2_hasFlame_25 (cw_b01 (by (try simp only [hw4]); (repeat' split) <;> first | exact Or.inl rfl | exact Or.inr rfl | assumption)) ⟨(), (by rw [hsp]), rfl⟩ (Nat.le_of_ble_eq_true rfl) (Nat.le_of_ble_eq_true rfl)
  refine lv_if_ne (tgt := 20) hx hb dX2_hasFlame_7 (by decide) (fun z1 => ?_) (fun z1 => ?_)
  · refine lv_iconst (v := 1) hx hb dX2_hasFlame_20 (by decide) ?_
    refine lv_goto (tgt := 25) hx hb dX2_hasFlame_21 (by decide) ?_
    exact J3 1 (by simp only [if_neg z1])
  · refine lv_aload_n hx hb dX2_hasFlame_10 rfl (lv_at hl 0 rfl) ?_
    refine va_get (D := D) (ci := 2) (v := .ref xq) (C := RX2) (T := TX2) (N := 11) hx hb hts i2 hown hK hP 0 rfl rfl 2 (by decide) lf18 (fun _ h9 => h9) rfl dX2_hasFlame_11 ?_
    refine va_getN (D := D) (ci := 1) (v := .int (eq 0)) (C := RX1) (T := TX1) (N := 2) hx hb hts i1 hown hK hP 2 rfl rfl 0 (by decide) lf54 (fun _ h9 => h9) rfl dX2_hasFlame_14 ?_
    refine lv_if_eq (tgt := 24) hx hb dX2_hasFlame_17 (by decide) (fun z2 => ?_) (fun z2 => ?_)
    · refine lv_iconst (v := 0) hx hb dX2_hasFlame_24 (by decide) ?_
      exact J3 0 (by simp only [if_pos z1, if_pos z2])
    · refine lv_iconst (v := 1) hx hb dX2_hasFlame_20 (by decide) ?_
      refine lv_goto (tgt := 25) hx hb dX2_hasFlame_21 (by decide) ?_
      exact J3 1 (by simp only [if_pos z1, if_neg z2])

set_option maxHeartbeats 4000000 in
set_option maxRecDepth 100000 in
theorem k2_moved (l : Launch) (D : va_G) (cI cJ : ClassId) (a1 : Int32) (a2 : Int32) (a3 : Int32) : cw_Mi l yX2_moved wsX2_moved (cw_rm 1) D [(cI, .int)] [.int a1, .int a2, .int a3] [] 0 0 (fun r (_ : Unit) => r = (s2_moved a1 a2 a3)) (fun _ : Unit => []) := by
  refine cw_ofi (cc := cX2_moved) (maxL := 3) (ret := (some .int)) (by decide) rfl (Nat.le_of_ble_eq_true rfl) rfl ?_
  intro p e s m args below meth c A ls Q hin0 hret
  obtain ⟨hx, hb, hr, hml, hts, hown, hlocks, hin, hP, hK, hD, hN, hA, hl⟩ := hin0
  have hS : va_S A s.heap s.heap [] := va_S.rf
  have hl : lv_has ls 3 [(0, .int a1), (1, .int a2), (2, .int a3)] := hl
  have lmmax0 := hts (.methodLink RX2 115 Lib.Math.max.name) (by decide +kernel)
  have lmmax1 := hts (.static Lib.Math.max.name) (by decide +kernel)
  have lmmax2 := hts (.initialized "java/lang/Math") (by decide +kernel)
  have lmmax3 := hts (.code Lib.Math.max.name Lib.Math.max.code 2 (some .int)) (by decide +kernel)
  have lmmin0 := hts (.methodLink RX2 121 Lib.Math.min.name) (by decide +kernel)
  have lmmin1 := hts (.static Lib.Math.min.name) (by decide +kernel)
  have lmmin2 := hts (.initialized "java/lang/Math") (by decide +kernel)
  have lmmin3 := hts (.code Lib.Math.min.name Lib.Math.min.code 2 (some .int)) (by decide +kernel)
  refine lv_iload_n hx hb dX2_moved_0 rfl (lv_at hl 0 rfl) ?_
  refine lv_iload_n hx hb dX2_moved_1 rfl (lv_at hl 1 rfl) ?_
  refine lv_icmp_ge (tgt := 13) hx hb dX2_moved_2 (by decide) (fun z1 => ?_) (fun z1 => ?_)
  · refine lv_iload_n hx hb dX2_moved_13 rfl (lv_at hl 0 rfl) ?_
    refine lv_iload_n hx hb dX2_moved_14 rfl (lv_at hl 2 rfl) ?_
    refine lv_isub hx hb dX2_moved_15 ?_
    refine lv_iload_n hx hb dX2_moved_16 rfl (lv_at hl 1 rfl) ?_
    refine va_mmax hx hb (by rw [hml]; exact hl.1.symm) hown lmmax0 lmmax1 lmmax2 lmmax3 (Nat.le_of_ble_eq_true rfl) (Nat.le_of_ble_eq_true rfl) (Nat.le_of_ble_eq_true rfl) (Nat.le_of_ble_eq_true rfl) dX2_moved_17 ?_
    have hsp : (s2_moved a1 a2 a3) = ((if (a1 - a3) < a2 then a2 else (a1 - a3)) : Int32) := by simp only [s2_moved, if_pos z1]
    exact hret _ _ _ _ _ _ _ _ hP hD hS dX2_moved_20 rfl ⟨(), (by rw [hsp]), rfl⟩ (Nat.le_of_ble_eq_true rfl) (Nat.le_of_ble_eq_true rfl)
  · refine lv_iload_n hx hb dX2_moved_5 rfl (lv_at hl 0 rfl) ?_
    refine lv_iload_n hx hb dX2_moved_6 rfl (lv_at hl 2 rfl) ?_
    refine lv_iadd hx hb dX2_moved_7 ?_
    refine lv_iload_n hx hb dX2_moved_8 rfl (lv_at hl 1 rfl) ?_
    refine va_mmin hx hb (by rw [hml]; exact hl.1.symm) hown lmmin0 lmmin1 lmmin2 lmmin3 (Nat.le_of_ble_eq_true rfl) (Nat.le_of_ble_eq_true rfl) (Nat.le_of_ble_eq_true rfl) (Nat.le_of_ble_eq_true rfl) dX2_moved_9 ?_
    have hsp : (s2_moved a1 a2 a3) = ((if a2 < (a1 + a3) then a2 else (a1 + a3)) : Int32) := by simp only [s2_moved, if_neg z1]
    exact hret _ _ _ _ _ _ _ _ hP hD hS dX2_moved_12 rfl ⟨(), (by rw [hsp]), rfl⟩ (Nat.le_of_ble_eq_true rfl) (Nat.le_of_ble_eq_true rfl)

set_option maxHeartbeats 4000000 in
set_option maxRecDepth 100000 in
theorem k2_begin (l : Launch) (D : va_G) (cI cJ : ClassId) (xf : Nat) (xf_0 xf_1 xf_2 : Value) (f : Nat → Int32) (a1 : Int32) (a2 : Int32) : cw_Mi l yX2_begin wsX2_begin (cw_rm 1) D [(cI, .int)] [.ref xf, .int a1, .int a2] [(xf, c2 xf_0 xf_1 xf_2 f)] 0 0 (fun r (_ : Unit) => r = (s2_begin f a1 a2).1) (fun _ : Unit => [(xf, c2 xf_0 xf_1 xf_2 (s2_begin f a1 a2).2)]) := by
  refine cw_ofi (cc := cX2_begin) (maxL := 3) (ret := (some .boolean)) (by decide) rfl (Nat.le_of_ble_eq_true rfl) rfl ?_
  intro p e s m args below meth c A ls Q hin0 hret
  obtain ⟨hx, hb, hr, hml, hts, hown, hlocks, hin, hP, hK, hD, hN, hA, hl⟩ := hin0
  have hS : va_S A s.heap s.heap [] := va_S.rf
  have hl : lv_has ls 3 [(0, .ref xf), (1, .int a1), (2, .int a2)] := hl
  have lf29 := hts (.fieldLink RX2 29 "Burnerline$Furnace" "state" "I") (by decide +kernel)
  have i2 : ∀ w ∈ wsX20, w ∈ wsX2_begin := by decide +kernel
  have lf33 := hts (.fieldLink RX2 33 "Burnerline$Furnace" "reason" "I") (by decide +kernel)
  have lf36 := hts (.fieldLink RX2 36 "Burnerline$Furnace" "time" "I") (by decide +kernel)
  have lf45 := hts (.fieldLink RX2 45 "Burnerline$Furnace" "purged" "I") (by decide +kernel)
  have lf42 := hts (.fieldLink RX2 42 "Burnerline$Furnace" "fuel" "I") (by decide +kernel)
  refine lv_aload_n hx hb dX2_begin_0 rfl (lv_at hl 0 rfl) ?_
  refine lv_iload_n hx hb dX2_begin_1 rfl (lv_at hl 1 rfl) ?_
  refine va_put (D := D) (ci := 2) (v := .int a1) (ty := .int) (C := RX2) (T := TX2) (N := 11) hx hb hts i2 tyX2 tyX2_ok nmX2 hown hK hP hD hS 0 rfl rfl 3 (by decide) lf29 (fun _ h9 => h9) rfl (by decide +kernel) rfl rfl (Nat.le_of_ble_eq_true rfl) dX2_begin_2 (fun H locs hP hD hS => ?_)
  have hP : va_P D vwCl [(xf, c2 xf_0 xf_1 xf_2 (upd f 3 a1))] H := (congrArg (fun z9 => va_P D vwCl [(xf, .inr (2, z9))] H) (cs2_3 xf_0 xf_1 xf_2 f a1)).mp hP
  have hD : va_D A [(xf, c2 xf_0 xf_1 xf_2 (upd f 3 a1))] := (congrArg (fun z9 => va_D A [(xf, .inr (2, z9))]) (cs2_3 xf_0 xf_1 xf_2 f a1)).mp hD
  refine lv_aload_n hx hb dX2_begin_5 rfl (lv_at hl 0 rfl) ?_
  refine lv_iload_n hx hb dX2_begin_6 rfl (lv_at hl 2 rfl) ?_
  refine va_put (D := D) (ci := 2) (v := .int a2) (ty := .int) (C := RX2) (T := TX2) (N := 11) hx hb hts i2 tyX2 tyX2_ok nmX2 hown hK hP hD hS 0 rfl rfl 4 (by decide) lf33 (fun _ h9 => h9) rfl (by decide +kernel) rfl rfl (Nat.le_of_ble_eq_true rfl) dX2_begin_7 (fun H locs hP hD hS => ?_)
  have hP : va_P D vwCl [(xf, c2 xf_0 xf_1 xf_2 (upd (upd f 3 a1) 4 a2))] H := (congrArg (fun z9 => va_P D vwCl [(xf, .inr (2, z9))] H) (cs2_4 xf_0 xf_1 xf_2 (upd f 3 a1) a2)).mp hP
  have hD : va_D A [(xf, c2 xf_0 xf_1 xf_2 (upd (upd f 3 a1) 4 a2))] := (congrArg (fun z9 => va_D A [(xf, .inr (2, z9))]) (cs2_4 xf_0 xf_1 xf_2 (upd f 3 a1) a2)).mp hD
  refine lv_aload_n hx hb dX2_begin_10 rfl (lv_at hl 0 rfl) ?_
  refine lv_iconst (v := 0) hx hb dX2_begin_11 (by decide) ?_
  refine va_put (D := D) (ci := 2) (v := .int 0) (ty := .int) (C := RX2) (T := TX2) (N := 11) hx hb hts i2 tyX2 tyX2_ok nmX2 hown hK hP hD hS 0 rfl rfl 5 (by decide) lf36 (fun _ h9 => h9) rfl (by decide +kernel) rfl rfl (Nat.le_of_ble_eq_true rfl) dX2_begin_12 (fun H locs hP hD hS => ?_)
  have hP : va_P D vwCl [(xf, c2 xf_0 xf_1 xf_2 (upd (upd (upd f 3 a1) 4 a2) 5 0))] H := (congrArg (fun z9 => va_P D vwCl [(xf, .inr (2, z9))] H) (cs2_5 xf_0 xf_1 xf_2 (upd (upd f 3 a1) 4 a2) 0)).mp hP
  have hD : va_D A [(xf, c2 xf_0 xf_1 xf_2 (upd (upd (upd f 3 a1) 4 a2) 5 0))] := (congrArg (fun z9 => va_D A [(xf, .inr (2, z9))]) (cs2_5 xf_0 xf_1 xf_2 (upd (upd f 3 a1) 4 a2) 0)).mp hD
  refine lv_aload_n hx hb dX2_begin_15 rfl (lv_at hl 0 rfl) ?_
  refine lv_iconst (v := 0) hx hb dX2_begin_16 (by decide) ?_
  refine va_put (D := D) (ci := 2) (v := .int 0) (ty := .int) (C := RX2) (T := TX2) (N := 11) hx hb hts i2 tyX2 tyX2_ok nmX2 hown hK hP hD hS 0 rfl rfl 8 (by decide) lf45 (fun _ h9 => h9) rfl (by decide +kernel) rfl rfl (Nat.le_of_ble_eq_true rfl) dX2_begin_17 (fun H locs hP hD hS => ?_)
  have hP : va_P D vwCl [(xf, c2 xf_0 xf_1 xf_2 (upd (upd (upd (upd f 3 a1) 4 a2) 5 0) 8 0))] H := (congrArg (fun z9 => va_P D vwCl [(xf, .inr (2, z9))] H) (cs2_8 xf_0 xf_1 xf_2 (upd (upd (upd f 3 a1) 4 a2) 5 0) 0)).mp hP
  have hD : va_D A [(xf, c2 xf_0 xf_1 xf_2 (upd (upd (upd (upd f 3 a1) 4 a2) 5 0) 8 0))] := (congrArg (fun z9 => va_D A [(xf, .inr (2, z9))]) (cs2_8 xf_0 xf_1 xf_2 (upd (upd (upd f 3 a1) 4 a2) 5 0) 0)).mp hD
  refine lv_iload_n hx hb dX2_begin_20 rfl (lv_at hl 1 rfl) ?_
  refine lv_iconst (v := 3) hx hb dX2_begin_21 (by decide) ?_
  have J3 : ∀ (w4 : Nat → Int32), w4 = (if a1 = 3 then (upd (upd (upd (upd f 3 a1) 4 a2) 5 0) 8 0) else (if a1 = 4 then (upd (upd (upd (upd f 3 a1) 4 a2) 5 0) 8 0) else (upd (upd (upd (upd (upd f 3 a1) 4 a2) 5 0) 8 0) 7 0))) → ∀ (H : Heap) (locs : List Loc), va_P D vwCl [(xf, c2 xf_0 xf_1 xf_2 w4)] H → va_D A [(xf, c2 xf_0 xf_1 xf_2 w4)] → va_S A s.heap H locs → W p l e (cw_rm 1) s m args below meth c H locs 0 0 (Q) (F0 m 35 ls []) := by
    intro w4 hw4 H locs hP hD hS
    refine lv_iconst (v := 1) hx hb dX2_begin_35 (by decide) ?_
    have hsp : (s2_begin f a1 a2) = ((1, w4) : Int32 × (Nat → Int32)) := by simp only [s2_begin, ← hw4]
    exact hret _ _ _ _ _ _ _ _ hP hD hS dX2_begin_36 rfl ⟨(), (by rw [hsp]), (by rw [hsp])⟩ (Nat.le_of_ble_eq_true rfl) (Nat.le_of_ble_eq_true rfl)
  refine lv_icmp_eq (tgt := 35) hx hb dX2_begin_22 (by decide) (fun z1 => ?_) (fun z1 => ?_)
  · exact J3 (upd (upd (upd (upd f 3 a1) 4 a2) 5 0) 8 0) (by simp only [if_pos z1]) _ _ hP hD hS
  · refine lv_iload_n hx hb dX2_begin_25 rfl (lv_at hl 1 rfl) ?_
    refine lv_iconst (v := 4) hx hb dX2_begin_26 (by decide) ?_
    refine lv_icmp_eq (tgt := 35) hx hb dX2_begin_27 (by decide) (fun z2 => ?_) (fun z2 => ?_)
    · exact J3 (upd (upd (upd (upd f 3 a1) 4 a2) 5 0) 8 0) (by simp only [if_neg z1, if_pos z2]) _ _ hP hD hS
    · refine lv_aload_n hx hb dX2_begin_30 rfl (lv_at hl 0 rfl) ?_
      refine lv_iconst (v := 0) hx hb dX2_begin_31 (by decide) ?_
      refine va_put (D := D) (ci := 2) (v := .int 0) (ty := .int) (C := RX2) (T := TX2) (N := 11) hx hb hts i2 tyX2 tyX2_ok nmX2 hown hK hP hD hS 0 rfl rfl 7 (by decide) lf42 (fun _ h9 => h9) rfl (by decide +kernel) rfl rfl (Nat.le_of_ble_eq_true rfl) dX2_begin_32 (fun H locs hP hD hS => ?_)
      have hP : va_P D vwCl [(xf, c2 xf_0 xf_1 xf_2 (upd (upd (upd (upd (upd f 3 a1) 4 a2) 5 0) 8 0) 7 0))] H := (congrArg (fun z9 => va_P D vwCl [(xf, .inr (2, z9))] H) (cs2_7 xf_0 xf_1 xf_2 (upd (upd (upd (upd f 3 a1) 4 a2) 5 0) 8 0) 0)).mp hP
      have hD : va_D A [(xf, c2 xf_0 xf_1 xf_2 (upd (upd (upd (upd (upd f 3 a1) 4 a2) 5 0) 8 0) 7 0))] := (congrArg (fun z9 => va_D A [(xf, .inr (2, z9))]) (cs2_7 xf_0 xf_1 xf_2 (upd (upd (upd (upd f 3 a1) 4 a2) 5 0) 8 0) 0)).mp hD
      exact J3 (upd (upd (upd (upd (upd f 3 a1) 4 a2) 5 0) 8 0) 7 0) (by simp only [if_neg z1, if_neg z2]) _ _ hP hD hS

set_option maxHeartbeats 4000000 in
set_option maxRecDepth 100000 in
theorem k2_lockOut (l : Launch) (D : va_G) (cI cJ : ClassId) (xf : Nat) (xf_0 xf_1 xf_2 : Value) (f : Nat → Int32) (a1 : Int32) : cw_Mi l yX2_lockOut wsX2_lockOut (cw_rm 2) D [(cI, .int)] [.ref xf, .int a1] [(xf, c2 xf_0 xf_1 xf_2 f)] 0 0 (fun r (_ : Unit) => r = (s2_lockOut f a1).1) (fun _ : Unit => [(xf, c2 xf_0 xf_1 xf_2 (s2_lockOut f a1).2)]) := by
  refine cw_ofi (cc := cX2_lockOut) (maxL := 2) (ret := (some .boolean)) (by decide) rfl (Nat.le_of_ble_eq_true rfl) rfl ?_
  intro p e s m args below meth c A ls Q hin0 hret
  obtain ⟨hx, hb, hr, hml, hts, hown, hlocks, hin, hP, hK, hD, hN, hA, hl⟩ := hin0
  have hS : va_S A s.heap s.heap [] := va_S.rf
  have hl : lv_has ls 2 [(0, .ref xf), (1, .int a1)] := hl
  refine lv_aload_n hx hb dX2_lockOut_0 rfl (lv_at hl 0 rfl) ?_
  refine lv_bipush (v := 6) hx hb dX2_lockOut_1 (by decide) ?_
  refine lv_iload_n hx hb dX2_lockOut_3 rfl (lv_at hl 1 rfl) ?_
  refine cw_cVi (As := [.int 6, .int a1]) (rest := []) (wc := [(xf, c2 xf_0 xf_1 xf_2 f)]) (wr := []) ⟨hx, hb, hml, hown, hts⟩ (k2_begin l D cI cJ xf xf_0 xf_1 xf_2 f 6 a1) (cwV 2 hts gX2_lockOut_X2_begin rfl rfl rfl (by decide +kernel) ⟨Nat.le_of_ble_eq_true rfl, Nat.le_of_ble_eq_true rfl⟩) hK hN hP hD hS hA [0] [] rfl rfl (by decide) (by decide) (by decide) 0 (ci := 2) rfl rfl rfl rfl hl.1 rfl (Nat.le_of_ble_eq_true rfl) dX2_lockOut_4 ⟨Nat.le_of_ble_eq_true rfl, Nat.le_of_ble_eq_true rfl⟩ (fun r2 u1 H locs hw hP hD hS => ?_)
  have hr2 : r2 = ((s2_begin f 6 a1).1) := hw
  obtain ⟨v3, hv3⟩ : ∃ z : Nat → Int32, z = ((s2_begin f 6 a1).2) := ⟨_, rfl⟩
  have hP : va_P D vwCl [(xf, c2 xf_0 xf_1 xf_2 v3)] H := by rw [hv3]; exact hP
  have hD : va_D A [(xf, c2 xf_0 xf_1 xf_2 v3)] := by rw [hv3]; exact hD
  have hsp : (s2_lockOut f a1) = ((r2, v3) : Int32 × (Nat → Int32)) := by simp only [s2_lockOut, ← hv3, ← hr2]
  exact hret _ _ _ _ _ _ _ _ hP hD hS dX2_lockOut_7 (cw_b01 (by (try simp only [hr2]); (repeat' split) <;> first | exact Or.inl rfl | exact Or.inr rfl | assumption | exact z2_begin _ _ _)) ⟨(), (by rw [hsp]), (by rw [hsp])⟩ (Nat.le_of_ble_eq_true rfl) (Nat.le_of_ble_eq_true rfl)

set_option maxHeartbeats 4000000 in
set_option maxRecDepth 100000 in
theorem k2_isCheckDue (l : Launch) (D : va_G) (cI cJ : ClassId) (xf xp xq xs : Nat) (f : Nat → Int32) (ep : Nat → Int32) (eq : Nat → Int32) (st : Nat → Int32) : cw_Mi l yX2_isCheckDue wsX2_isCheckDue (cw_rm 0) D [(cI, .int)] [.ref xf] [(xf, c2 (.ref xs) (.ref xp) (.ref xq) f), (xp, c1 ep), (xq, c1 eq), (xs, c5 st)] 0 0 (fun r (_ : Unit) => r = (s2_isCheckDue f ep eq st)) (fun _ : Unit => [(xf, c2 (.ref xs) (.ref xp) (.ref xq) f), (xp, c1 ep), (xq, c1 eq), (xs, c5 st)]) := by
  refine cw_ofi (cc := cX2_isCheckDue) (maxL := 1) (ret := (some .boolean)) (by decide) rfl (Nat.le_of_ble_eq_true rfl) rfl ?_
  intro p e s m args below meth c A ls Q hin0 hret
  obtain ⟨hx, hb, hr, hml, hts, hown, hlocks, hin, hP, hK, hD, hN, hA, hl⟩ := hin0
  have hS : va_S A s.heap s.heap [] := va_S.rf
  have hl : lv_has ls 1 [(0, .ref xf)] := hl
  have lf21 := hts (.fieldLink RX2 21 "Burnerline$Furnace" "settings" "LBurnerline$Settings;") (by decide +kernel)
  have i2 : ∀ w ∈ wsX20, w ∈ wsX2_isCheckDue := by decide +kernel
  have lf169 := hN.use (args := args) (w := .fieldLinkNest "Burnerline$Furnace" 169 "Burnerline$Settings" "ticksToCheck" "I" "Burnerline") (by decide +kernel)
  have i5 : ∀ w ∈ wsX50, w ∈ wsX2_isCheckDue := by decide +kernel
  have lf36 := hts (.fieldLink RX2 36 "Burnerline$Furnace" "time" "I") (by decide +kernel)
  refine lv_aload_n hx hb dX2_isCheckDue_0 rfl (lv_at hl 0 rfl) ?_
  refine va_get (D := D) (ci := 2) (v := .ref xs) (C := RX2) (T := TX2) (N := 11) hx hb hts i2 hown hK hP 0 rfl rfl 0 (by decide) lf21 (fun _ h9 => h9) rfl dX2_isCheckDue_1 ?_
  refine va_getN (D := D) (ci := 5) (v := .int (st 7)) (C := RX5) (T := TX5) (N := 11) hx hb hts i5 hown hK hP 3 rfl rfl 7 (by decide) lf169 (fun _ h9 => h9) rfl dX2_isCheckDue_4 ?_
  have J3 : ∀ (w4 : Int32), w4 = (if (st 7) ≤ 0 then 0 else (if ((f 5) - (f 5) / (st 7) * (st 7)) = 0 then 1 else 0)) → W p l e (cw_rm 0) s m args below meth c s.heap [] 0 0 (Q) (F0 m 30 ls [.int w4]) := by
    intro w4 hw4
    have hsp : (s2_isCheckDue f ep eq st) = (w4 : Int32) := by simp only [s2_isCheckDue, ← hw4]
    exact hret _ _ _ _ _ _ _ _ hP hD hS dX2_isCheckDue_30 (cw_b01 (by (try simp only [hw4]); (repeat' split) <;> first | exact Or.inl rfl | exact Or.inr rfl | assumption)) ⟨(), (by rw [hsp]), rfl⟩ (Nat.le_of_ble_eq_true rfl) (Nat.le_of_ble_eq_true rfl)
  refine lv_if_le (tgt := 29) hx hb dX2_isCheckDue_7 (by decide) (fun z1 => ?_) (fun z1 => ?_)
  · refine lv_iconst (v := 0) hx hb dX2_isCheckDue_29 (by decide) ?_
    exact J3 0 (by simp only [if_pos z1])
  · refine lv_aload_n hx hb dX2_isCheckDue_10 rfl (lv_at hl 0 rfl) ?_
    refine va_get (D := D) (ci := 2) (v := .int (f 5)) (C := RX2) (T := TX2) (N := 11) hx hb hts i2 hown hK hP 0 rfl rfl 5 (by decide) lf36 (fun _ h9 => h9) rfl dX2_isCheckDue_11 ?_
    refine lv_aload_n hx hb dX2_isCheckDue_14 rfl (lv_at hl 0 rfl) ?_
    refine va_get (D := D) (ci := 2) (v := .ref xs) (C := RX2) (T := TX2) (N := 11) hx hb hts i2 hown hK hP 0 rfl rfl 0 (by decide) lf21 (fun _ h9 => h9) rfl dX2_isCheckDue_15 ?_
    refine va_getN (D := D) (ci := 5) (v := .int (st 7)) (C := RX5) (T := TX5) (N := 11) hx hb hts i5 hown hK hP 3 rfl rfl 7 (by decide) lf169 (fun _ h9 => h9) rfl dX2_isCheckDue_18 ?_
    refine lv_irem hx hb dX2_isCheckDue_21 (by intro h0; rw [h0] at z1; exact absurd z1 (by decide)) ?_
    refine lv_if_ne (tgt := 29) hx hb dX2_isCheckDue_22 (by decide) (fun z2 => ?_) (fun z2 => ?_)
    · refine lv_iconst (v := 0) hx hb dX2_isCheckDue_29 (by decide) ?_
      exact J3 0 (by simp only [if_neg z1, if_neg z2])
    · refine lv_iconst (v := 1) hx hb dX2_isCheckDue_25 (by decide) ?_
      refine lv_goto (tgt := 30) hx hb dX2_isCheckDue_26 (by decide) ?_
      exact J3 1 (by simp only [if_neg z1, if_pos z2])

set_option maxHeartbeats 4000000 in
set_option maxRecDepth 100000 in
theorem k2_airGoal (l : Launch) (D : va_G) (cI cJ : ClassId) (xf xp xq xs : Nat) (f : Nat → Int32) (ep : Nat → Int32) (eq : Nat → Int32) (st : Nat → Int32) : cw_Mi l yX2_airGoal wsX2_airGoal (cw_rm 1) D [(cI, .int)] [.ref xf] [(xf, c2 (.ref xs) (.ref xp) (.ref xq) f), (xp, c1 ep), (xq, c1 eq), (xs, c5 st)] 0 0 (fun r (_ : Unit) => r = (s2_airGoal f ep eq st)) (fun _ : Unit => [(xf, c2 (.ref xs) (.ref xp) (.ref xq) f), (xp, c1 ep), (xq, c1 eq), (xs, c5 st)]) := by
  refine cw_ofi (cc := cX2_airGoal) (maxL := 1) (ret := (some .int)) (by decide) rfl (Nat.le_of_ble_eq_true rfl) rfl ?_
  intro p e s m args below meth c A ls Q hin0 hret
  obtain ⟨hx, hb, hr, hml, hts, hown, hlocks, hin, hP, hK, hD, hN, hA, hl⟩ := hin0
  have hS : va_S A s.heap s.heap [] := va_S.rf
  have hl : lv_has ls 1 [(0, .ref xf)] := hl
  have lf29 := hts (.fieldLink RX2 29 "Burnerline$Furnace" "state" "I") (by decide +kernel)
  have i2 : ∀ w ∈ wsX20, w ∈ wsX2_airGoal := by decide +kernel
  have lf21 := hts (.fieldLink RX2 21 "Burnerline$Furnace" "settings" "LBurnerline$Settings;") (by decide +kernel)
  have lf112 := hN.use (args := args) (w := .fieldLinkNest "Burnerline$Furnace" 112 "Burnerline$Settings" "rate" "I" "Burnerline") (by decide +kernel)
  have i5 : ∀ w ∈ wsX50, w ∈ wsX2_airGoal := by decide +kernel
  have lf42 := hts (.fieldLink RX2 42 "Burnerline$Furnace" "fuel" "I") (by decide +kernel)
  have lmmax0 := hts (.methodLink RX2 115 Lib.Math.max.name) (by decide +kernel)
  have lmmax1 := hts (.static Lib.Math.max.name) (by decide +kernel)
  have lmmax2 := hts (.initialized "java/lang/Math") (by decide +kernel)
  have lmmax3 := hts (.code Lib.Math.max.name Lib.Math.max.code 2 (some .int)) (by decide +kernel)
  refine lv_aload_n hx hb dX2_airGoal_0 rfl (lv_at hl 0 rfl) ?_
  refine va_get (D := D) (ci := 2) (v := .int (f 3)) (C := RX2) (T := TX2) (N := 11) hx hb hts i2 hown hK hP 0 rfl rfl 3 (by decide) lf29 (fun _ h9 => h9) rfl dX2_airGoal_1 ?_
  by_cases z1 : (f 3) = 0
  · refine lv_tableIn (off := 36) (tgt := 40) hx hb dX2_airGoal_4 (by rw [z1]; decide) (by rw [z1]; decide) (by rw [z1]; rfl) (by decide) ?_
    refine lv_iconst (v := 0) hx hb dX2_airGoal_40 (by decide) ?_
    have hsp : (s2_airGoal f ep eq st) = (0 : Int32) := by simp only [s2_airGoal, if_pos z1]
    exact hret _ _ _ _ _ _ _ _ hP hD hS dX2_airGoal_41 rfl ⟨(), (by rw [hsp]), rfl⟩ (Nat.le_of_ble_eq_true rfl) (Nat.le_of_ble_eq_true rfl)
  · by_cases z2 : (f 3) = 1
    · refine lv_tableIn (off := 38) (tgt := 42) hx hb dX2_airGoal_4 (by rw [z2]; decide) (by rw [z2]; decide) (by rw [z2]; rfl) (by decide) ?_
      refine lv_bipush (v := 100) hx hb dX2_airGoal_42 (by decide) ?_
      have hsp : (s2_airGoal f ep eq st) = (100 : Int32) := by simp only [s2_airGoal, if_neg z1, if_pos z2]
      exact hret _ _ _ _ _ _ _ _ hP hD hS dX2_airGoal_44 rfl ⟨(), (by rw [hsp]), rfl⟩ (Nat.le_of_ble_eq_true rfl) (Nat.le_of_ble_eq_true rfl)
    · by_cases z3 : (f 3) = 2
      · refine lv_tableIn (off := 41) (tgt := 45) hx hb dX2_airGoal_4 (by rw [z3]; decide) (by rw [z3]; decide) (by rw [z3]; rfl) (by decide) ?_
        refine lv_bipush (v := 30) hx hb dX2_airGoal_45 (by decide) ?_
        have hsp : (s2_airGoal f ep eq st) = (30 : Int32) := by simp only [s2_airGoal, if_neg z1, if_neg z2, if_pos z3]
        exact hret _ _ _ _ _ _ _ _ hP hD hS dX2_airGoal_47 rfl ⟨(), (by rw [hsp]), rfl⟩ (Nat.le_of_ble_eq_true rfl) (Nat.le_of_ble_eq_true rfl)
      · by_cases z4 : (f 3) = 3
        · refine lv_tableIn (off := 41) (tgt := 45) hx hb dX2_airGoal_4 (by rw [z4]; decide) (by rw [z4]; decide) (by rw [z4]; rfl) (by decide) ?_
          refine lv_bipush (v := 30) hx hb dX2_airGoal_45 (by decide) ?_
          have hsp : (s2_airGoal f ep eq st) = (30 : Int32) := by simp only [s2_airGoal, if_neg z1, if_neg z2, if_neg z3, if_pos z4]
          exact hret _ _ _ _ _ _ _ _ hP hD hS dX2_airGoal_47 rfl ⟨(), (by rw [hsp]), rfl⟩ (Nat.le_of_ble_eq_true rfl) (Nat.le_of_ble_eq_true rfl)
        · by_cases z5 : (f 3) = 4
          · refine lv_tableIn (off := 44) (tgt := 48) hx hb dX2_airGoal_4 (by rw [z5]; decide) (by rw [z5]; decide) (by rw [z5]; rfl) (by decide) ?_
            refine lv_aload_n hx hb dX2_airGoal_48 rfl (lv_at hl 0 rfl) ?_
            refine va_get (D := D) (ci := 2) (v := .ref xs) (C := RX2) (T := TX2) (N := 11) hx hb hts i2 hown hK hP 0 rfl rfl 0 (by decide) lf21 (fun _ h9 => h9) rfl dX2_airGoal_49 ?_
            refine va_getN (D := D) (ci := 5) (v := .int (st 0)) (C := RX5) (T := TX5) (N := 11) hx hb hts i5 hown hK hP 3 rfl rfl 0 (by decide) lf112 (fun _ h9 => h9) rfl dX2_airGoal_52 ?_
            refine lv_aload_n hx hb dX2_airGoal_55 rfl (lv_at hl 0 rfl) ?_
            refine va_get (D := D) (ci := 2) (v := .int (f 7)) (C := RX2) (T := TX2) (N := 11) hx hb hts i2 hown hK hP 0 rfl rfl 7 (by decide) lf42 (fun _ h9 => h9) rfl dX2_airGoal_56 ?_
            refine va_mmax hx hb (by rw [hml]; exact hl.1.symm) hown lmmax0 lmmax1 lmmax2 lmmax3 (Nat.le_of_ble_eq_true rfl) (Nat.le_of_ble_eq_true rfl) (Nat.le_of_ble_eq_true rfl) (Nat.le_of_ble_eq_true rfl) dX2_airGoal_59 ?_
            have hsp : (s2_airGoal f ep eq st) = ((if (st 0) < (f 7) then (f 7) else (st 0)) : Int32) := by simp only [s2_airGoal, if_neg z1, if_neg z2, if_neg z3, if_neg z4, if_pos z5]
            exact hret _ _ _ _ _ _ _ _ hP hD hS dX2_airGoal_62 rfl ⟨(), (by rw [hsp]), rfl⟩ (Nat.le_of_ble_eq_true rfl) (Nat.le_of_ble_eq_true rfl)
          · refine lv_tableOut (tgt := 63) hx hb dX2_airGoal_4 (by have y0 := lv_neT z1 (a := 0) (by decide); have y1 := lv_neT z2 (a := 1) (by decide); have y2 := lv_neT z3 (a := 2) (by decide); have y3 := lv_neT z4 (a := 3) (by decide); have y4 := lv_neT z5 (a := 4) (by decide); omega) (by decide) ?_
            refine lv_bipush (v := 60) hx hb dX2_airGoal_63 (by decide) ?_
            have hsp : (s2_airGoal f ep eq st) = (60 : Int32) := by simp only [s2_airGoal, if_neg z1, if_neg z2, if_neg z3, if_neg z4, if_neg z5]
            exact hret _ _ _ _ _ _ _ _ hP hD hS dX2_airGoal_65 rfl ⟨(), (by rw [hsp]), rfl⟩ (Nat.le_of_ble_eq_true rfl) (Nat.le_of_ble_eq_true rfl)

set_option maxHeartbeats 4000000 in
set_option maxRecDepth 100000 in
theorem k2_fuelGoal (l : Launch) (D : va_G) (cI cJ : ClassId) (xf xp xq xs : Nat) (f : Nat → Int32) (ep : Nat → Int32) (eq : Nat → Int32) (st : Nat → Int32) : cw_Mi l yX2_fuelGoal wsX2_fuelGoal (cw_rm 1) D [(cI, .int)] [.ref xf] [(xf, c2 (.ref xs) (.ref xp) (.ref xq) f), (xp, c1 ep), (xq, c1 eq), (xs, c5 st)] 0 0 (fun r (_ : Unit) => r = (s2_fuelGoal f ep eq st)) (fun _ : Unit => [(xf, c2 (.ref xs) (.ref xp) (.ref xq) f), (xp, c1 ep), (xq, c1 eq), (xs, c5 st)]) := by
  refine cw_ofi (cc := cX2_fuelGoal) (maxL := 1) (ret := (some .int)) (by decide) rfl (Nat.le_of_ble_eq_true rfl) rfl ?_
  intro p e s m args below meth c A ls Q hin0 hret
  obtain ⟨hx, hb, hr, hml, hts, hown, hlocks, hin, hP, hK, hD, hN, hA, hl⟩ := hin0
  have hS : va_S A s.heap s.heap [] := va_S.rf
  have hl : lv_has ls 1 [(0, .ref xf)] := hl
  have lf29 := hts (.fieldLink RX2 29 "Burnerline$Furnace" "state" "I") (by decide +kernel)
  have i2 : ∀ w ∈ wsX20, w ∈ wsX2_fuelGoal := by decide +kernel
  have lf21 := hts (.fieldLink RX2 21 "Burnerline$Furnace" "settings" "LBurnerline$Settings;") (by decide +kernel)
  have lf112 := hN.use (args := args) (w := .fieldLinkNest "Burnerline$Furnace" 112 "Burnerline$Settings" "rate" "I" "Burnerline") (by decide +kernel)
  have i5 : ∀ w ∈ wsX50, w ∈ wsX2_fuelGoal := by decide +kernel
  have lf39 := hts (.fieldLink RX2 39 "Burnerline$Furnace" "air" "I") (by decide +kernel)
  have lmmin0 := hts (.methodLink RX2 121 Lib.Math.min.name) (by decide +kernel)
  have lmmin1 := hts (.static Lib.Math.min.name) (by decide +kernel)
  have lmmin2 := hts (.initialized "java/lang/Math") (by decide +kernel)
  have lmmin3 := hts (.code Lib.Math.min.name Lib.Math.min.code 2 (some .int)) (by decide +kernel)
  refine lv_aload_n hx hb dX2_fuelGoal_0 rfl (lv_at hl 0 rfl) ?_
  refine va_get (D := D) (ci := 2) (v := .int (f 3)) (C := RX2) (T := TX2) (N := 11) hx hb hts i2 hown hK hP 0 rfl rfl 3 (by decide) lf29 (fun _ h9 => h9) rfl dX2_fuelGoal_1 ?_
  by_cases z1 : (f 3) = 3
  · refine lv_lookup (off := 28) (tgt := 32) hx hb dX2_fuelGoal_4 (by decide) (by rw [z1]; rfl) (by decide) ?_
    refine lv_bipush (v := 20) hx hb dX2_fuelGoal_32 (by decide) ?_
    have hsp : (s2_fuelGoal f ep eq st) = (20 : Int32) := by simp only [s2_fuelGoal, if_pos z1]
    exact hret _ _ _ _ _ _ _ _ hP hD hS dX2_fuelGoal_34 rfl ⟨(), (by rw [hsp]), rfl⟩ (Nat.le_of_ble_eq_true rfl) (Nat.le_of_ble_eq_true rfl)
  · by_cases z2 : (f 3) = 4
    · refine lv_lookup (off := 31) (tgt := 35) hx hb dX2_fuelGoal_4 (by decide) (by rw [z2]; rfl) (by decide) ?_
      refine lv_aload_n hx hb dX2_fuelGoal_35 rfl (lv_at hl 0 rfl) ?_
      refine va_get (D := D) (ci := 2) (v := .ref xs) (C := RX2) (T := TX2) (N := 11) hx hb hts i2 hown hK hP 0 rfl rfl 0 (by decide) lf21 (fun _ h9 => h9) rfl dX2_fuelGoal_36 ?_
      refine va_getN (D := D) (ci := 5) (v := .int (st 0)) (C := RX5) (T := TX5) (N := 11) hx hb hts i5 hown hK hP 3 rfl rfl 0 (by decide) lf112 (fun _ h9 => h9) rfl dX2_fuelGoal_39 ?_
      refine lv_aload_n hx hb dX2_fuelGoal_42 rfl (lv_at hl 0 rfl) ?_
      refine va_get (D := D) (ci := 2) (v := .int (f 6)) (C := RX2) (T := TX2) (N := 11) hx hb hts i2 hown hK hP 0 rfl rfl 6 (by decide) lf39 (fun _ h9 => h9) rfl dX2_fuelGoal_43 ?_
      refine va_mmin hx hb (by rw [hml]; exact hl.1.symm) hown lmmin0 lmmin1 lmmin2 lmmin3 (Nat.le_of_ble_eq_true rfl) (Nat.le_of_ble_eq_true rfl) (Nat.le_of_ble_eq_true rfl) (Nat.le_of_ble_eq_true rfl) dX2_fuelGoal_46 ?_
      have hsp : (s2_fuelGoal f ep eq st) = ((if (f 6) < (st 0) then (f 6) else (st 0)) : Int32) := by simp only [s2_fuelGoal, if_neg z1, if_pos z2]
      exact hret _ _ _ _ _ _ _ _ hP hD hS dX2_fuelGoal_49 rfl ⟨(), (by rw [hsp]), rfl⟩ (Nat.le_of_ble_eq_true rfl) (Nat.le_of_ble_eq_true rfl)
    · refine lv_lookup (off := 46) (tgt := 50) hx hb dX2_fuelGoal_4 (by decide) (by show Op.lookupswitch.offset [(3, 28), (4, 31)] _ _ = _; rw [lv_osw z1 (by decide)]; rw [lv_osw z2 (by decide)]; rfl) (by decide) ?_
      refine lv_iconst (v := 0) hx hb dX2_fuelGoal_50 (by decide) ?_
      have hsp : (s2_fuelGoal f ep eq st) = (0 : Int32) := by simp only [s2_fuelGoal, if_neg z1, if_neg z2]
      exact hret _ _ _ _ _ _ _ _ hP hD hS dX2_fuelGoal_51 rfl ⟨(), (by rw [hsp]), rfl⟩ (Nat.le_of_ble_eq_true rfl) (Nat.le_of_ble_eq_true rfl)
