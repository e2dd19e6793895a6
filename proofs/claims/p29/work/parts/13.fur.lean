def s2_look (f : Nat → Int32) (st : Nat → Int32) (ea : Nat → Int32) (a2 : Int32) : (Nat → Int32) := (let w3 : Int32 := (if a2 = 0 then (st 6) else (st 5)); (let v6 : Nat → Int32 := (s1_look ea a2 w3); v6))

def s2_movePositions (f : Nat → Int32) (ep : Nat → Int32) (eq : Nat → Int32) (st : Nat → Int32) : (Nat → Int32) := (let r2 : Int32 := (s2_airGoal f ep eq st); (let r4 : Int32 := (s2_fuelGoal f ep eq st); (let r6 : Int32 := (s2_moved (f 6) r2 (st 9)); (let r8 : Int32 := (s2_isMainOpen (upd f 6 r6)); (let w13 : Int32 := (if r8 = 0 then r4 else (s2_moved (f 7) r4 (st 10))); (upd (upd f 6 r6) 7 w13))))))

def s2_countUnlit (f : Nat → Int32) (ep : Nat → Int32) (eq : Nat → Int32) (st : Nat → Int32) (a1 : Int32) : (Nat → Int32) := (let w6 : Int32 := (if a1 = 0 then 0 else (if (s2_hasFlame f ep eq st) = 0 then ((f 9) + 1) else 0)); (upd (upd f 9 w6) 10 (if (f 10) < w6 then w6 else (f 10))))

def s2_lightPilot (f : Nat → Int32) (ep : Nat → Int32) (eq : Nat → Int32) (st : Nat → Int32) : Int32 × (Nat → Int32) := (if (ep 0) = 0 then (let w8 : Int32 := (if (f 5) < (st 2) then 0 else (if ((s2_lockOut f 4).1) = 0 then 0 else 1)); (let w9 : Nat → Int32 := (if (f 5) < (st 2) then f else ((s2_lockOut f 4).2)); (w8, w9))) else (let v12 : Nat → Int32 := ((s2_begin f 3 0).2); (let r11 : Int32 := ((s2_begin f 3 0).1); (r11, v12))))
theorem z2_lightPilot (f : Nat → Int32) (ep : Nat → Int32) (eq : Nat → Int32) (st : Nat → Int32) : (s2_lightPilot f ep eq st).1 = 0 ∨ (s2_lightPilot f ep eq st).1 = 1 := by
  simp only [s2_lightPilot]
  (repeat' split) <;> (try dsimp only) <;> first | exact Or.inl rfl | exact Or.inr rfl | (simp; done) | exact z2_begin _ _ _ | exact z2_lockOut _ _

def s2_lightMain (f : Nat → Int32) (ep : Nat → Int32) (eq : Nat → Int32) (st : Nat → Int32) : Int32 × (Nat → Int32) := (if (eq 0) = 0 then (let w8 : Int32 := (if (f 5) < (st 3) then 0 else (if ((s2_lockOut f 5).1) = 0 then 0 else 1)); (let w9 : Nat → Int32 := (if (f 5) < (st 3) then f else ((s2_lockOut f 5).2)); (w8, w9))) else (let v12 : Nat → Int32 := ((s2_begin f 4 0).2); (let r11 : Int32 := ((s2_begin f 4 0).1); (r11, v12))))
theorem z2_lightMain (f : Nat → Int32) (ep : Nat → Int32) (eq : Nat → Int32) (st : Nat → Int32) : (s2_lightMain f ep eq st).1 = 0 ∨ (s2_lightMain f ep eq st).1 = 1 := by
  simp only [s2_lightMain]
  (repeat' split) <;> (try dsimp only) <;> first | exact Or.inl rfl | exact Or.inr rfl | (simp; done) | exact z2_begin _ _ _ | exact z2_lockOut _ _

def s2_sequenceAfterPurge (f : Nat → Int32) (ep : Nat → Int32) (eq : Nat → Int32) (st : Nat → Int32) : Int32 × (Nat → Int32) := (if (st 4) ≤ (f 5) then (let r3 : Int32 := (s2_hasFlame f ep eq st); (let w12 : Int32 := (if r3 = 0 then ((s2_begin f 0 0).1) else ((s2_lockOut f 3).1)); (let w13 : Nat → Int32 := (if r3 = 0 then ((s2_begin f 0 0).2) else ((s2_lockOut f 3).2)); (w12, w13)))) else (0, f))
theorem z2_sequenceAfterPurge (f : Nat → Int32) (ep : Nat → Int32) (eq : Nat → Int32) (st : Nat → Int32) : (s2_sequenceAfterPurge f ep eq st).1 = 0 ∨ (s2_sequenceAfterPurge f ep eq st).1 = 1 := by
  simp only [s2_sequenceAfterPurge]
  (repeat' split) <;> (try dsimp only) <;> first | exact Or.inl rfl | exact Or.inr rfl | (simp; done) | exact z2_begin _ _ _ | exact z2_hasFlame _ _ _ _ | exact z2_lockOut _ _

def s2_sequenceOff (f : Nat → Int32) (ep : Nat → Int32) (eq : Nat → Int32) (st : Nat → Int32) (a1 : Int32) : Int32 × (Nat → Int32) := (let r2 : Int32 := (s2_hasFlame f ep eq st); (if r2 = 0 then (let r5 : Int32 := (s6_isOn a1 1); (let w12 : Int32 := (if r5 = 0 then 0 else (if ((s2_begin f 1 0).1) = 0 then 0 else 1)); (let w13 : Nat → Int32 := (if r5 = 0 then f else ((s2_begin f 1 0).2)); (w12, w13)))) else (let v16 : Nat → Int32 := ((s2_lockOut f 3).2); (let r15 : Int32 := ((s2_lockOut f 3).1); (r15, v16)))))
theorem z2_sequenceOff (f : Nat → Int32) (ep : Nat → Int32) (eq : Nat → Int32) (st : Nat → Int32) (a1 : Int32) : (s2_sequenceOff f ep eq st a1).1 = 0 ∨ (s2_sequenceOff f ep eq st a1).1 = 1 := by
  simp only [s2_sequenceOff]
  (repeat' split) <;> (try dsimp only) <;> first | exact Or.inl rfl | exact Or.inr rfl | (simp; done) | exact z2_begin _ _ _ | exact z2_hasFlame _ _ _ _ | exact z2_lockOut _ _ | exact z6_isOn _ _

def s2_sequencePurge (f : Nat → Int32) (ep : Nat → Int32) (eq : Nat → Int32) (st : Nat → Int32) (a1 : Int32) : Int32 × (Nat → Int32) := (let r2 : Int32 := (s6_isOn a1 1); (if r2 = 0 then (let v30 : Nat → Int32 := ((s2_begin f 0 0).2); (let r29 : Int32 := ((s2_begin f 0 0).1); (r29, v30))) else (let r5 : Int32 := (s2_hasFlame f ep eq st); (if r5 = 0 then (let r8 : Int32 := (s6_isOn a1 2); (let w12 : Int32 := (if r8 = 0 then 0 else (if (f 6) < 70 then 0 else ((f 8) + (f 6)))); (if w12 < (4 * (st 8)) then (let w20 : Int32 := (if (f 5) < (st 1) then 0 else (if ((s2_lockOut (upd f 8 w12) 7).1) = 0 then 0 else 1)); (let w21 : Nat → Int32 := (if (f 5) < (st 1) then (upd f 8 w12) else ((s2_lockOut (upd f 8 w12) 7).2)); (w20, w21))) else (let v24 : Nat → Int32 := ((s2_begin (upd f 8 w12) 2 0).2); (let r23 : Int32 := ((s2_begin (upd f 8 w12) 2 0).1); (r23, v24)))))) else (let v27 : Nat → Int32 := ((s2_lockOut f 3).2); (let r26 : Int32 := ((s2_lockOut f 3).1); (r26, v27)))))))
theorem z2_sequencePurge (f : Nat → Int32) (ep : Nat → Int32) (eq : Nat → Int32) (st : Nat → Int32) (a1 : Int32) : (s2_sequencePurge f ep eq st a1).1 = 0 ∨ (s2_sequencePurge f ep eq st a1).1 = 1 := by
  simp only [s2_sequencePurge]
  (repeat' split) <;> (try dsimp only) <;> first | exact Or.inl rfl | exact Or.inr rfl | (simp; done) | exact z2_begin _ _ _ | exact z2_hasFlame _ _ _ _ | exact z2_lockOut _ _ | exact z6_isOn _ _

def s2_sequenceLighting (f : Nat → Int32) (ep : Nat → Int32) (eq : Nat → Int32) (st : Nat → Int32) (a1 : Int32) : Int32 × (Nat → Int32) := (let r2 : Int32 := (s6_isOn a1 2); (if r2 = 0 then (let v28 : Nat → Int32 := ((s2_lockOut f 1).2); (let r27 : Int32 := ((s2_lockOut f 1).1); (r27, v28))) else (let r5 : Int32 := (s6_isOn a1 4); (if r5 = 0 then (let v25 : Nat → Int32 := ((s2_lockOut f 2).2); (let r24 : Int32 := ((s2_lockOut f 2).1); (r24, v25))) else (let r8 : Int32 := (s6_isOn a1 1); (if r8 = 0 then (let v22 : Nat → Int32 := ((s2_begin f 5 0).2); (let r21 : Int32 := ((s2_begin f 5 0).1); (r21, v22))) else (let w18 : Int32 := (if (f 3) = 2 then ((s2_lightPilot f ep eq st).1) else ((s2_lightMain f ep eq st).1)); (let w19 : Nat → Int32 := (if (f 3) = 2 then ((s2_lightPilot f ep eq st).2) else ((s2_lightMain f ep eq st).2)); (w18, w19)))))))))
theorem z2_sequenceLighting (f : Nat → Int32) (ep : Nat → Int32) (eq : Nat → Int32) (st : Nat → Int32) (a1 : Int32) : (s2_sequenceLighting f ep eq st a1).1 = 0 ∨ (s2_sequenceLighting f ep eq st a1).1 = 1 := by
  simp only [s2_sequenceLighting]
  (repeat' split) <;> (try dsimp only) <;> first | exact Or.inl rfl | exact Or.inr rfl | (simp; done) | exact z2_begin _ _ _ | exact z2_lightMain _ _ _ _ | exact z2_lightPilot _ _ _ _ | exact z2_lockOut _ _ | exact z6_isOn _ _

def s2_sequenceRun (f : Nat → Int32) (ep : Nat → Int32) (eq : Nat → Int32) (st : Nat → Int32) (a1 : Int32) : Int32 × (Nat → Int32) := (let r2 : Int32 := (s6_isOn a1 2); (if r2 = 0 then (let v45 : Nat → Int32 := ((s2_lockOut f 1).2); (let r44 : Int32 := ((s2_lockOut f 1).1); (r44, v45))) else (let r5 : Int32 := (s6_isOn a1 4); (if r5 = 0 then (let v42 : Nat → Int32 := ((s2_lockOut f 2).2); (let r41 : Int32 := ((s2_lockOut f 2).1); (r41, v42))) else (if (eq 0) = 0 then (let v39 : Nat → Int32 := ((s2_lockOut f 6).2); (let r38 : Int32 := ((s2_lockOut f 6).1); (r38, v39))) else (let r9 : Int32 := (s2_isCheckDue f ep eq st); (if r9 = 0 then (let r12 : Int32 := (s6_isOn a1 1); (let w19 : Int32 := (if r12 = 0 then (if ((s2_begin f 5 0).1) = 0 then 0 else 1) else 0); (let w20 : Nat → Int32 := (if r12 = 0 then ((s2_begin f 5 0).2) else f); (w19, w20)))) else (let r22 : Int32 := (s6_isOn a1 32); (if r22 = 0 then (let v36 : Nat → Int32 := ((s2_lockOut f 8).2); (let r35 : Int32 := ((s2_lockOut f 8).1); (r35, v36))) else (let r25 : Int32 := (s6_isOn a1 1); (let w32 : Int32 := (if r25 = 0 then (if ((s2_begin f 5 0).1) = 0 then 0 else 1) else 0); (let w33 : Nat → Int32 := (if r25 = 0 then ((s2_begin f 5 0).2) else f); (w32, w33)))))))))))))
theorem z2_sequenceRun (f : Nat → Int32) (ep : Nat → Int32) (eq : Nat → Int32) (st : Nat → Int32) (a1 : Int32) : (s2_sequenceRun f ep eq st a1).1 = 0 ∨ (s2_sequenceRun f ep eq st a1).1 = 1 := by
  simp only [s2_sequenceRun]
  (repeat' split) <;> (try dsimp only) <;> first | exact Or.inl rfl | exact Or.inr rfl | (simp; done) | exact z2_begin _ _ _ | exact z2_isCheckDue _ _ _ _ | exact z2_lockOut _ _ | exact z6_isOn _ _

def s2_sequence (f : Nat → Int32) (ep : Nat → Int32) (eq : Nat → Int32) (st : Nat → Int32) (a1 : Int32) : Int32 × (Nat → Int32) := (if (f 3) = 0 then (let v4 : Nat → Int32 := ((s2_sequenceOff f ep eq st a1).2); (let r3 : Int32 := ((s2_sequenceOff f ep eq st a1).1); (r3, v4))) else (if (f 3) = 1 then (let v8 : Nat → Int32 := ((s2_sequencePurge f ep eq st a1).2); (let r7 : Int32 := ((s2_sequencePurge f ep eq st a1).1); (r7, v8))) else (if (f 3) = 2 then (let v12 : Nat → Int32 := ((s2_sequenceLighting f ep eq st a1).2); (let r11 : Int32 := ((s2_sequenceLighting f ep eq st a1).1); (r11, v12))) else (if (f 3) = 3 then (let v16 : Nat → Int32 := ((s2_sequenceLighting f ep eq st a1).2); (let r15 : Int32 := ((s2_sequenceLighting f ep eq st a1).1); (r15, v16))) else (if (f 3) = 4 then (let v20 : Nat → Int32 := ((s2_sequenceRun f ep eq st a1).2); (let r19 : Int32 := ((s2_sequenceRun f ep eq st a1).1); (r19, v20))) else (if (f 3) = 5 then (let v24 : Nat → Int32 := ((s2_sequenceAfterPurge f ep eq st).2); (let r23 : Int32 := ((s2_sequenceAfterPurge f ep eq st).1); (r23, v24))) else (0, f)))))))
theorem z2_sequence (f : Nat → Int32) (ep : Nat → Int32) (eq : Nat → Int32) (st : Nat → Int32) (a1 : Int32) : (s2_sequence f ep eq st a1).1 = 0 ∨ (s2_sequence f ep eq st a1).1 = 1 := by
  simp only [s2_sequence]
  (repeat' split) <;> (try dsimp only) <;> first | exact Or.inl rfl | exact Or.inr rfl | (simp; done) | exact z2_sequenceAfterPurge _ _ _ _ | exact z2_sequenceLighting _ _ _ _ _ | exact z2_sequenceOff _ _ _ _ _ | exact z2_sequencePurge _ _ _ _ _ | exact z2_sequenceRun _ _ _ _ _

def s2_tick (f : Nat → Int32) (ep : Nat → Int32) (eq : Nat → Int32) (st : Nat → Int32) (a1 : Int32) : Int32 × (Nat → Int32) × (Nat → Int32) × (Nat → Int32) := (let r2 : Int32 := (s2_isPilotOpen f); (let w8 : Int32 := (if r2 = 0 then (if (s2_isMainOpen f) = 0 then 0 else 1) else 1); (let r10 : Int32 := (s6_isOn a1 8); (let v13 : Nat → Int32 := (s2_look f st ep r10); (let r15 : Int32 := (s6_isOn a1 16); (let v18 : Nat → Int32 := (s2_look f st eq r15); (let v21 : Nat → Int32 := (s2_movePositions f v13 v18 st); (let v24 : Nat → Int32 := ((s2_sequence (upd v21 5 ((v21 5) + 1)) v13 v18 st a1).2); (let r23 : Int32 := ((s2_sequence (upd v21 5 ((v21 5) + 1)) v13 v18 st a1).1); (let v27 : Nat → Int32 := (s2_countUnlit v24 v13 v18 st w8); (r23, v27, v13, v18)))))))))))
theorem z2_tick (f : Nat → Int32) (ep : Nat → Int32) (eq : Nat → Int32) (st : Nat → Int32) (a1 : Int32) : (s2_tick f ep eq st a1).1 = 0 ∨ (s2_tick f ep eq st a1).1 = 1 := by
  simp only [s2_tick]
  (repeat' split) <;> (try dsimp only) <;> first | exact Or.inl rfl | exact Or.inr rfl | (simp; done) | exact z2_isMainOpen _ | exact z2_isPilotOpen _ | exact z2_sequence _ _ _ _ _ | exact z6_isOn _ _

set_option maxHeartbeats 4000000 in
set_option maxRecDepth 100000 in
theorem k2_look (l : Launch) (D : va_G) (cI cJ : ClassId) (xf xs xe : Nat) (xf_1 xf_2 : Value) (f : Nat → Int32) (st : Nat → Int32) (ea : Nat → Int32) (a2 : Int32) (ha : a2 = 0 ∨ a2 = 1) : cw_Mv l yX2_look wsX2_look (cw_rm 1) D [(cI, .int)] [.ref xf, .ref xe, .int a2] [(xf, c2 (.ref xs) xf_1 xf_2 f), (xs, c5 st), (xe, c1 ea)] 0 0 (fun _ : Unit => True) (fun _ : Unit => [(xf, c2 (.ref xs) xf_1 xf_2 f), (xs, c5 st), (xe, c1 (s2_look f st ea a2))]) := by
  refine cw_ofv (cc := cX2_look) (maxL := 3) (ret := none) (by decide) rfl (Nat.le_of_ble_eq_true rfl) rfl ?_
  intro p e s m args below meth c A ls Q hin0 hret
  obtain ⟨hx, hb, hr, hml, hts, hown, hlocks, hin, hP, hK, hD, hN, hA, hl⟩ := hin0
  have hS : va_S A s.heap s.heap [] := va_S.rf
  have hl : lv_has ls 3 [(0, .ref xf), (1, .ref xe), (2, .int a2)] := hl
  have lf21 := hts (.fieldLink RX2 21 "Burnerline$Furnace" "settings" "LBurnerline$Settings;") (by decide +kernel)
  have i2 : ∀ w ∈ wsX20, w ∈ wsX2_look := by decide +kernel
  have lf89 := hN.use (args := args) (w := .fieldLinkNest "Burnerline$Furnace" 89 "Burnerline$Settings" "ticksToNone" "I" "Burnerline") (by decide +kernel)
  have i5 : ∀ w ∈ wsX50, w ∈ wsX2_look := by decide +kernel
  have lf84 := hN.use (args := args) (w := .fieldLinkNest "Burnerline$Furnace" 84 "Burnerline$Settings" "ticksToLight" "I" "Burnerline") (by decide +kernel)
  refine lv_aload_n hx hb dX2_look_0 rfl (lv_at hl 1 rfl) ?_
  refine lv_iload_n hx hb dX2_look_1 rfl (lv_at hl 2 rfl) ?_
  refine lv_iload_n hx hb dX2_look_2 rfl (lv_at hl 2 rfl) ?_
  have J2 : ∀ (w3 : Int32), w3 = (if a2 = 0 then (st 6) else (st 5)) → W p l e (cw_rm 1) s m args below meth c s.heap [] 0 0 (Q) (F0 m 23 ls [.int w3, .int a2, .ref xe]) := by
    intro w3 hw3
    refine cw_cVv (As := [.int a2, .int w3]) (rest := []) (wc := [(xe, c1 ea)]) (wr := [(xf, c2 (.ref xs) xf_1 xf_2 f), (xs, c5 st)]) ⟨hx, hb, hml, hown, hts⟩ (k1_look l D cI cJ xe ea a2 w3 (by (try simp only [hw3]); (repeat' split) <;> first | exact Or.inl rfl | exact Or.inr rfl | assumption)) (cwV 2 hts gX2_look_X1_look rfl rfl rfl (by decide +kernel) ⟨Nat.le_of_ble_eq_true rfl, Nat.le_of_ble_eq_true rfl⟩) hK hN hP hD hS hA [2] [0, 1] rfl rfl (by decide) (by decide) (by decide) 0 (ci := 1) rfl rfl rfl rfl hl.1 rfl (Nat.le_of_ble_eq_true rfl) dX2_look_23 ⟨Nat.le_of_ble_eq_true rfl, Nat.le_of_ble_eq_true rfl⟩ (fun u4 H locs hw hP hD hS => ?_)
    obtain ⟨v6, hv6⟩ : ∃ z : Nat → Int32, z = (s1_look ea a2 w3) := ⟨_, rfl⟩
    have hP : va_P D vwCl [(xf, c2 (.ref xs) xf_1 xf_2 f), (xs, c5 st), (xe, c1 v6)] H := by rw [hv6]; exact hP
    have hD : va_D A [(xf, c2 (.ref xs) xf_1 xf_2 f), (xs, c5 st), (xe, c1 v6)] := by rw [hv6]; exact hD
    have hsp : (s2_look f st ea a2) = (v6 : (Nat → Int32)) := by simp only [s2_look, ← hw3, ← hv6]
    exact hret _ _ _ _ _ _ _ hP hD hS dX2_look_26 ⟨(), trivial, (by rw [hsp])⟩ (Nat.le_of_ble_eq_true rfl) (Nat.le_of_ble_eq_true rfl)
  refine lv_if_eq (tgt := 16) hx hb dX2_look_3 (by decide) (fun z1 => ?_) (fun z1 => ?_)
  · refine lv_aload_n hx hb dX2_look_16 rfl (lv_at hl 0 rfl) ?_
    refine va_get (D := D) (ci := 2) (v := .ref xs) (C := RX2) (T := TX2) (N := 11) hx hb hts i2 hown hK hP 0 rfl rfl 0 (by decide) lf21 (fun _ h9 => h9) rfl dX2_look_17 ?_
    refine va_getN (D := D) (ci := 5) (v := .int (st 6)) (C := RX5) (T := TX5) (N := 11) hx hb hts i5 hown hK hP 1 rfl rfl 6 (by decide) lf89 (fun _ h9 => h9) rfl dX2_look_20 ?_
    exact J2 (st 6) (by simp only [if_pos z1])
  · refine lv_aload_n hx hb dX2_look_6 rfl (lv_at hl 0 rfl) ?_
    refine va_get (D := D) (ci := 2) (v := .ref xs) (C := RX2) (T := TX2) (N := 11) hx hb hts i2 hown hK hP 0 rfl rfl 0 (by decide) lf21 (fun _ h9 => h9) rfl dX2_look_7 ?_
    refine va_getN (D := D) (ci := 5) (v := .int (st 5)) (C := RX5) (T := TX5) (N := 11) hx hb hts i5 hown hK hP 1 rfl rfl 5 (by decide) lf84 (fun _ h9 => h9) rfl dX2_look_10 ?_
    refine lv_goto (tgt := 23) hx hb dX2_look_13 (by decide) ?_
    exact J2 (st 5) (by simp only [if_neg z1])

set_option maxHeartbeats 4000000 in
set_option maxRecDepth 100000 in
theorem k2_movePositions (l : Launch) (D : va_G) (cI cJ : ClassId) (xf xp xq xs : Nat) (f : Nat → Int32) (ep : Nat → Int32) (eq : Nat → Int32) (st : Nat → Int32) : cw_Mv l yX2_movePositions wsX2_movePositions (cw_rm 2) D [(cI, .int)] [.ref xf] [(xf, c2 (.ref xs) (.ref xp) (.ref xq) f), (xp, c1 ep), (xq, c1 eq), (xs, c5 st)] 0 0 (fun _ : Unit => True) (fun _ : Unit => [(xf, c2 (.ref xs) (.ref xp) (.ref xq) (s2_movePositions f ep eq st)), (xp, c1 ep), (xq, c1 eq), (xs, c5 st)]) := by
  refine cw_ofv (cc := cX2_movePositions) (maxL := 3) (ret := none) (by decide) rfl (Nat.le_of_ble_eq_true rfl) rfl ?_
  intro p e s m args below meth c A ls Q hin0 hret
  obtain ⟨hx, hb, hr, hml, hts, hown, hlocks, hin, hP, hK, hD, hN, hA, hl⟩ := hin0
  have hS : va_S A s.heap s.heap [] := va_S.rf
  have hl : lv_has ls 3 [(0, .ref xf)] := hl
  have lf39 := hts (.fieldLink RX2 39 "Burnerline$Furnace" "air" "I") (by decide +kernel)
  have i2 : ∀ w ∈ wsX20, w ∈ wsX2_movePositions := by decide +kernel
  have lf21 := hts (.fieldLink RX2 21 "Burnerline$Furnace" "settings" "LBurnerline$Settings;") (by decide +kernel)
  have lf102 := hN.use (args := args) (w := .fieldLinkNest "Burnerline$Furnace" 102 "Burnerline$Settings" "airStep" "I" "Burnerline") (by decide +kernel)
  have i5 : ∀ w ∈ wsX50, w ∈ wsX2_movePositions := by decide +kernel
  have lf42 := hts (.fieldLink RX2 42 "Burnerline$Furnace" "fuel" "I") (by decide +kernel)
  have lf109 := hN.use (args := args) (w := .fieldLinkNest "Burnerline$Furnace" 109 "Burnerline$Settings" "fuelStep" "I" "Burnerline") (by decide +kernel)
  refine lv_aload_n hx hb dX2_movePositions_0 rfl (lv_at hl 0 rfl) ?_
  refine cw_cVi (As := []) (rest := []) (wc := [(xf, c2 (.ref xs) (.ref xp) (.ref xq) f), (xp, c1 ep), (xq, c1 eq), (xs, c5 st)]) (wr := []) ⟨hx, hb, hml, hown, hts⟩ (k2_airGoal l D cI cJ xf xp xq xs f ep eq st) (cwV 0 hts gX2_movePositions_X2_airGoal rfl rfl rfl (by decide +kernel) ⟨Nat.le_of_ble_eq_true rfl, Nat.le_of_ble_eq_true rfl⟩) hK hN hP hD hS hA [0, 1, 2, 3] [] rfl rfl (by decide) (by decide) (by decide) 0 (ci := 2) rfl rfl rfl rfl hl.1 rfl (Nat.le_of_ble_eq_true rfl) dX2_movePositions_1 ⟨Nat.le_of_ble_eq_true rfl, Nat.le_of_ble_eq_true rfl⟩ (fun r2 u1 H locs hw hP hD hS => ?_)
  have hr2 : r2 = (s2_airGoal f ep eq st) := hw
  have hP : va_P D vwCl [(xf, c2 (.ref xs) (.ref xp) (.ref xq) f), (xp, c1 ep), (xq, c1 eq), (xs, c5 st)] H := hP
  have hD : va_D A [(xf, c2 (.ref xs) (.ref xp) (.ref xq) f), (xp, c1 ep), (xq, c1 eq), (xs, c5 st)] := hD
  refine lv_istore_n (lv' := [(1, .int r2), (0, .ref xf)]) hx hb dX2_movePositions_4 rfl hl (by decide) rfl (fun ls hl => ?_)
  refine lv_aload_n hx hb dX2_movePositions_5 rfl (lv_at hl 1 rfl) ?_
  refine cw_cVi (As := []) (rest := []) (wc := [(xf, c2 (.ref xs) (.ref xp) (.ref xq) f), (xp, c1 ep), (xq, c1 eq), (xs, c5 st)]) (wr := []) ⟨hx, hb, hml, hown, hts⟩ (k2_fuelGoal l D cI cJ xf xp xq xs f ep eq st) (cwV 0 hts gX2_movePositions_X2_fuelGoal rfl rfl rfl (by decide +kernel) ⟨Nat.le_of_ble_eq_true rfl, Nat.le_of_ble_eq_true rfl⟩) hK hN hP hD hS hA [0, 1, 2, 3] [] rfl rfl (by decide) (by decide) (by decide) 0 (ci := 2) rfl rfl rfl rfl hl.1 rfl (Nat.le_of_ble_eq_true rfl) dX2_movePositions_6 ⟨Nat.le_of_ble_eq_true rfl, Nat.le_of_ble_eq_true rfl⟩ (fun r4 u3 H locs hw hP hD hS => ?_)
  have hr4 : r4 = (s2_fuelGoal f ep eq st) := hw
  have hP : va_P D vwCl [(xf, c2 (.ref xs) (.ref xp) (.ref xq) f), (xp, c1 ep), (xq, c1 eq), (xs, c5 st)] H := hP
  have hD : va_D A [(xf, c2 (.ref xs) (.ref xp) (.ref xq) f), (xp, c1 ep), (xq, c1 eq), (xs, c5 st)] := hD
  refine lv_istore_n (lv' := [(2, .int r4), (1, .int r2), (0, .ref xf)]) hx hb dX2_movePositions_9 rfl hl (by decide) rfl (fun ls hl => ?_)
  refine lv_aload_n hx hb dX2_movePositions_10 rfl (lv_at hl 2 rfl) ?_
  refine lv_aload_n hx hb dX2_movePositions_11 rfl (lv_at hl 2 rfl) ?_
  refine va_get (D := D) (ci := 2) (v := .int (f 6)) (C := RX2) (T := TX2) (N := 11) hx hb hts i2 hown hK hP 0 rfl rfl 6 (by decide) lf39 (fun _ h9 => h9) rfl dX2_movePositions_12 ?_
  refine lv_iload_n hx hb dX2_movePositions_15 rfl (lv_at hl 1 rfl) ?_
  refine lv_aload_n hx hb dX2_movePositions_16 rfl (lv_at hl 2 rfl) ?_
  refine va_get (D := D) (ci := 2) (v := .ref xs) (C := RX2) (T := TX2) (N := 11) hx hb hts i2 hown hK hP 0 rfl rfl 0 (by decide) lf21 (fun _ h9 => h9) rfl dX2_movePositions_17 ?_
  refine va_getN (D := D) (ci := 5) (v := .int (st 9)) (C := RX5) (T := TX5) (N := 11) hx hb hts i5 hown hK hP 3 rfl rfl 9 (by decide) lf102 (fun _ h9 => h9) rfl dX2_movePositions_20 ?_
  refine cw_cSi (As := [.int (f 6), .int r2, .int (st 9)]) (rest := [.ref xf]) (wc := []) (wr := [(xf, c2 (.ref xs) (.ref xp) (.ref xq) f), (xp, c1 ep), (xq, c1 eq), (xs, c5 st)]) ⟨hx, hb, hml, hown, hts⟩ (k2_moved l D cI cJ (f 6) r2 (st 9)) (va_cwS 3 hts gX2_movePositions_X2_moved rfl rfl rfl (by decide +kernel) ⟨Nat.le_of_ble_eq_true rfl, Nat.le_of_ble_eq_true rfl⟩) hK hN hP hD hS hA [] [0, 1, 2, 3] rfl rfl (by decide) (by decide) (by decide) rfl hl.1 rfl (Nat.le_of_ble_eq_true rfl) dX2_movePositions_23 ⟨Nat.le_of_ble_eq_true rfl, Nat.le_of_ble_eq_true rfl⟩ (fun r6 u5 H locs hw hP hD hS => ?_)
  have hr6 : r6 = (s2_moved (f 6) r2 (st 9)) := hw
  have hP : va_P D vwCl [(xf, c2 (.ref xs) (.ref xp) (.ref xq) f), (xp, c1 ep), (xq, c1 eq), (xs, c5 st)] H := hP
  have hD : va_D A [(xf, c2 (.ref xs) (.ref xp) (.ref xq) f), (xp, c1 ep), (xq, c1 eq), (xs, c5 st)] := hD
  refine va_put (D := D) (ci := 2) (v := .int r6) (ty := .int) (C := RX2) (T := TX2) (N := 11) hx hb hts i2 tyX2 tyX2_ok nmX2 hown hK hP hD hS 0 rfl rfl 6 (by decide) lf39 (fun _ h9 => h9) rfl (by decide +kernel) rfl rfl (Nat.le_of_ble_eq_true rfl) dX2_movePositions_26 (fun H locs hP hD hS => ?_)
  have hP : va_P D vwCl [(xf, c2 (.ref xs) (.ref xp) (.ref xq) (upd f 6 r6)), (xp, c1 ep), (xq, c1 eq), (xs, c5 st)] H := (congrArg (fun z9 => va_P D vwCl [(xf, .inr (2, z9)), (xp, c1 ep), (xq, c1 eq), (xs, c5 st)] H) (cs2_6 (.ref xs) (.ref xp) (.ref xq) f r6)).mp hP
  have hD : va_D A [(xf, c2 (.ref xs) (.ref xp) (.ref xq) (upd f 6 r6)), (xp, c1 ep), (xq, c1 eq), (xs, c5 st)] := (congrArg (fun z9 => va_D A [(xf, .inr (2, z9)), (xp, c1 ep), (xq, c1 eq), (xs, c5 st)]) (cs2_6 (.ref xs) (.ref xp) (.ref xq) f r6)).mp hD
  refine lv_aload_n hx hb dX2_movePositions_29 rfl (lv_at hl 2 rfl) ?_
  refine lv_aload_n hx hb dX2_movePositions_30 rfl (lv_at hl 2 rfl) ?_
  refine cw_cVi (As := []) (rest := [.ref xf]) (wc := [(xf, c2 (.ref xs) (.ref xp) (.ref xq) (upd f 6 r6))]) (wr := [(xp, c1 ep), (xq, c1 eq), (xs, c5 st)]) ⟨hx, hb, hml, hown, hts⟩ (k2_isMainOpen l D cI cJ xf (.ref xs) (.ref xp) (.ref xq) (upd f 6 r6)) (cwV 0 hts gX2_movePositions_X2_isMainOpen rfl rfl rfl (by decide +kernel) ⟨Nat.le_of_ble_eq_true rfl, Nat.le_of_ble_eq_true rfl⟩) hK hN hP hD hS hA [0] [1, 2, 3] rfl rfl (by decide) (by decide) (by decide) 0 (ci := 2) rfl rfl rfl rfl hl.1 rfl (Nat.le_of_ble_eq_true rfl) dX2_movePositions_31 ⟨Nat.le_of_ble_eq_true rfl, Nat.le_of_ble_eq_true rfl⟩ (fun r8 u7 H locs hw hP hD hS => ?_)
  have hr8 : r8 = (s2_isMainOpen (upd f 6 r6)) := hw
  have hP : va_P D vwCl [(xp, c1 ep), (xq, c1 eq), (xs, c5 st), (xf, c2 (.ref xs) (.ref xp) (.ref xq) (upd f 6 r6))] H := hP
  have hD : va_D A [(xp, c1 ep), (xq, c1 eq), (xs, c5 st), (xf, c2 (.ref xs) (.ref xp) (.ref xq) (upd f 6 r6))] := hD
  have J12 : ∀ (w13 : Int32), w13 = (if r8 = 0 then r4 else (s2_moved (f 7) r4 (st 10))) → ∀ (H : Heap) (locs : List Loc), va_P D vwCl [(xp, c1 ep), (xq, c1 eq), (xs, c5 st), (xf, c2 (.ref xs) (.ref xp) (.ref xq) (upd f 6 r6))] H → va_D A [(xp, c1 ep), (xq, c1 eq), (xs, c5 st), (xf, c2 (.ref xs) (.ref xp) (.ref xq) (upd f 6 r6))] → va_S A s.heap H locs → W p l e (cw_rm 2) s m args below meth c H locs 0 0 (Q) (F0 m 56 ls [.int w13, .ref xf]) := by
    intro w13 hw13 H locs hP hD hS
    refine va_put (D := D) (ci := 2) (v := .int w13) (ty := .int) (C := RX2) (T := TX2) (N := 11) hx hb hts i2 tyX2 tyX2_ok nmX2 hown hK hP hD hS 3 rfl rfl 7 (by decide) lf42 (fun _ h9 => h9) rfl (by decide +kernel) rfl rfl (Nat.le_of_ble_eq_true rfl) dX2_movePositions_56 (fun H locs hP hD hS => ?_)
    have hP : va_P D vwCl [(xp, c1 ep), (xq, c1 eq), (xs, c5 st), (xf, c2 (.ref xs) (.ref xp) (.ref xq) (upd (upd f 6 r6) 7 w13))] H := (congrArg (fun z9 => va_P D vwCl [(xp, c1 ep), (xq, c1 eq), (xs, c5 st), (xf, .inr (2, z9))] H) (cs2_7 (.ref xs) (.ref xp) (.ref xq) (upd f 6 r6) w13)).mp hP
    have hD : va_D A [(xp, c1 ep), (xq, c1 eq), (xs, c5 st), (xf, c2 (.ref xs) (.ref xp) (.ref xq) (upd (upd f 6 r6) 7 w13))] := (congrArg (fun z9 => va_D A [(xp, c1 ep), (xq, c1 eq), (xs, c5 st), (xf, .inr (2, z9))]) (cs2_7 (.ref xs) (.ref xp) (.ref xq) (upd f 6 r6) w13)).mp hD
    have hsp : (s2_movePositions f ep eq st) = ((upd (upd f 6 r6) 7 w13) : (Nat → Int32)) := by simp only [s2_movePositions, ← hr2, ← hr4, ← hr6, ← hr8, ← hw13]
    exact hret _ _ _ _ _ _ _ (hP.sub (ws' := [(xf, c2 (.ref xs) (.ref xp) (.ref xq) (upd (upd f 6 r6) 7 w13)), (xp, c1 ep), (xq, c1 eq), (xs, c5 st)]) [3, 0, 1, 2] rfl) (hD.sub (ws' := [(xf, c2 (.ref xs) (.ref xp) (.ref xq) (upd (upd f 6 r6) 7 w13)), (xp, c1 ep), (xq, c1 eq), (xs, c5 st)]) [3, 0, 1, 2] (by decide) rfl) hS dX2_movePositions_59 ⟨(), trivial, (by rw [hsp])⟩ (Nat.le_of_ble_eq_true rfl) (Nat.le_of_ble_eq_true rfl)
  refine lv_if_eq (tgt := 55) hx hb dX2_movePositions_34 (by decide) (fun z9 => ?_) (fun z9 => ?_)
  · refine lv_iload_n hx hb dX2_movePositions_55 rfl (lv_at hl 0 rfl) ?_
    exact J12 r4 (by simp only [if_pos z9]) _ _ hP hD hS
  · refine lv_aload_n hx hb dX2_movePositions_37 rfl (lv_at hl 2 rfl) ?_
    refine va_get (D := D) (ci := 2) (v := .int ((upd f 6 r6) 7)) (C := RX2) (T := TX2) (N := 11) hx hb hts i2 hown hK hP 3 rfl rfl 7 (by decide) lf42 (fun _ h9 => h9) rfl dX2_movePositions_38 ?_
    refine cw_topi (y := (f 7)) (cw_updn _ _ (by decide)) ?_
    refine lv_iload_n hx hb dX2_movePositions_41 rfl (lv_at hl 0 rfl) ?_
    refine lv_aload_n hx hb dX2_movePositions_42 rfl (lv_at hl 2 rfl) ?_
    refine va_get (D := D) (ci := 2) (v := .ref xs) (C := RX2) (T := TX2) (N := 11) hx hb hts i2 hown hK hP 3 rfl rfl 0 (by decide) lf21 (fun _ h9 => h9) rfl dX2_movePositions_43 ?_
    refine va_getN (D := D) (ci := 5) (v := .int (st 10)) (C := RX5) (T := TX5) (N := 11) hx hb hts i5 hown hK hP 2 rfl rfl 10 (by decide) lf109 (fun _ h9 => h9) rfl dX2_movePositions_46 ?_
    refine cw_cSi (As := [.int (f 7), .int r4, .int (st 10)]) (rest := [.ref xf]) (wc := []) (wr := [(xp, c1 ep), (xq, c1 eq), (xs, c5 st), (xf, c2 (.ref xs) (.ref xp) (.ref xq) (upd f 6 r6))]) ⟨hx, hb, hml, hown, hts⟩ (k2_moved l D cI cJ (f 7) r4 (st 10)) (va_cwS 3 hts gX2_movePositions_X2_moved rfl rfl rfl (by decide +kernel) ⟨Nat.le_of_ble_eq_true rfl, Nat.le_of_ble_eq_true rfl⟩) hK hN hP hD hS hA [] [0, 1, 2, 3] rfl rfl (by decide) (by decide) (by decide) rfl hl.1 rfl (Nat.le_of_ble_eq_true rfl) dX2_movePositions_49 ⟨Nat.le_of_ble_eq_true rfl, Nat.le_of_ble_eq_true rfl⟩ (fun r11 u10 H locs hw hP hD hS => ?_)
    have hr11 : r11 = (s2_moved (f 7) r4 (st 10)) := hw
    have hP : va_P D vwCl [(xp, c1 ep), (xq, c1 eq), (xs, c5 st), (xf, c2 (.ref xs) (.ref xp) (.ref xq) (upd f 6 r6))] H := hP
    have hD : va_D A [(xp, c1 ep), (xq, c1 eq), (xs, c5 st), (xf, c2 (.ref xs) (.ref xp) (.ref xq) (upd f 6 r6))] := hD
    refine lv_goto (tgt := 56) hx hb dX2_movePositions_52 (by decide) ?_
    exact J12 r11 (by simp only [← hr11, if_neg z9]) _ _ hP hD hS

set_option maxHeartbeats 4000000 in
set_option maxRecDepth 100000 in
theorem k2_countUnlit (l : Launch) (D : va_G) (cI cJ : ClassId) (xf xp xq xs : Nat) (f : Nat → Int32) (ep : Nat → Int32) (eq : Nat → Int32) (st : Nat → Int32) (a1 : Int32) : cw_Mv l yX2_countUnlit wsX2_countUnlit (cw_rm 1) D [(cI, .int)] [.ref xf, .int a1] [(xf, c2 (.ref xs) (.ref xp) (.ref xq) f), (xp, c1 ep), (xq, c1 eq), (xs, c5 st)] 0 0 (fun _ : Unit => True) (fun _ : Unit => [(xf, c2 (.ref xs) (.ref xp) (.ref xq) (s2_countUnlit f ep eq st a1)), (xp, c1 ep), (xq, c1 eq), (xs, c5 st)]) := by
  refine cw_ofv (cc := cX2_countUnlit) (maxL := 2) (ret := none) (by decide) rfl (Nat.le_of_ble_eq_true rfl) rfl ?_
  intro p e s m args below meth c A ls Q hin0 hret
  obtain ⟨hx, hb, hr, hml, hts, hown, hlocks, hin, hP, hK, hD, hN, hA, hl⟩ := hin0
  have hS : va_S A s.heap s.heap [] := va_S.rf
  have hl : lv_has ls 2 [(0, .ref xf), (1, .int a1)] := hl
  have lf48 := hts (.fieldLink RX2 48 "Burnerline$Furnace" "unlit" "I") (by decide +kernel)
  have i2 : ∀ w ∈ wsX20, w ∈ wsX2_countUnlit := by decide +kernel
  have lf51 := hts (.fieldLink RX2 51 "Burnerline$Furnace" "longestUnlit" "I") (by decide +kernel)
  have lmmax0 := hts (.methodLink RX2 115 Lib.Math.max.name) (by decide +kernel)
  have lmmax1 := hts (.static Lib.Math.max.name) (by decide +kernel)
  have lmmax2 := hts (.initialized "java/lang/Math") (by decide +kernel)
  have lmmax3 := hts (.code Lib.Math.max.name Lib.Math.max.code 2 (some .int)) (by decide +kernel)
  refine lv_aload_n hx hb dX2_countUnlit_0 rfl (lv_at hl 0 rfl) ?_
  refine lv_iload_n hx hb dX2_countUnlit_1 rfl (lv_at hl 1 rfl) ?_
  have J5 : ∀ (w6 : Int32), w6 = (if a1 = 0 then 0 else (if (s2_hasFlame f ep eq st) = 0 then ((f 9) + 1) else 0)) → ∀ (H : Heap) (locs : List Loc), va_P D vwCl [(xf, c2 (.ref xs) (.ref xp) (.ref xq) f), (xp, c1 ep), (xq, c1 eq), (xs, c5 st)] H → va_D A [(xf, c2 (.ref xs) (.ref xp) (.ref xq) f), (xp, c1 ep), (xq, c1 eq), (xs, c5 st)] → va_S A s.heap H locs → W p l e (cw_rm 1) s m args below meth c H locs 0 0 (Q) (F0 m 22 ls [.int w6, .ref xf]) := by
    intro w6 hw6 H locs hP hD hS
    refine va_put (D := D) (ci := 2) (v := .int w6) (ty := .int) (C := RX2) (T := TX2) (N := 11) hx hb hts i2 tyX2 tyX2_ok nmX2 hown hK hP hD hS 0 rfl rfl 9 (by decide) lf48 (fun _ h9 => h9) rfl (by decide +kernel) rfl rfl (Nat.le_of_ble_eq_true rfl) dX2_countUnlit_22 (fun H locs hP hD hS => ?_)
    have hP : va_P D vwCl [(xf, c2 (.ref xs) (.ref xp) (.ref xq) (upd f 9 w6)), (xp, c1 ep), (xq, c1 eq), (xs, c5 st)] H := (congrArg (fun z9 => va_P D vwCl [(xf, .inr (2, z9)), (xp, c1 ep), (xq, c1 eq), (xs, c5 st)] H) (cs2_9 (.ref xs) (.ref xp) (.ref xq) f w6)).mp hP
    have hD : va_D A [(xf, c2 (.ref xs) (.ref xp) (.ref xq) (upd f 9 w6)), (xp, c1 ep), (xq, c1 eq), (xs, c5 st)] := (congrArg (fun z9 => va_D A [(xf, .inr (2, z9)), (xp, c1 ep), (xq, c1 eq), (xs, c5 st)]) (cs2_9 (.ref xs) (.ref xp) (.ref xq) f w6)).mp hD
    refine lv_aload_n hx hb dX2_countUnlit_25 rfl (lv_at hl 0 rfl) ?_
    refine lv_aload_n hx hb dX2_countUnlit_26 rfl (lv_at hl 0 rfl) ?_
    refine va_get (D := D) (ci := 2) (v := .int ((upd f 9 w6) 10)) (C := RX2) (T := TX2) (N := 11) hx hb hts i2 hown hK hP 0 rfl rfl 10 (by decide) lf51 (fun _ h9 => h9) rfl dX2_countUnlit_27 ?_
    refine cw_topi (y := (f 10)) (cw_updn _ _ (by decide)) ?_
    refine lv_aload_n hx hb dX2_countUnlit_30 rfl (lv_at hl 0 rfl) ?_
    refine va_get (D := D) (ci := 2) (v := .int ((upd f 9 w6) 9)) (C := RX2) (T := TX2) (N := 11) hx hb hts i2 hown hK hP 0 rfl rfl 9 (by decide) lf48 (fun _ h9 => h9) rfl dX2_countUnlit_31 ?_
    refine cw_topi (y := w6) (cw_upd0 _ _ _) ?_
    refine va_mmax hx hb (by rw [hml]; exact hl.1.symm) hown lmmax0 lmmax1 lmmax2 lmmax3 (Nat.le_of_ble_eq_true rfl) (Nat.le_of_ble_eq_true rfl) (Nat.le_of_ble_eq_true rfl) (Nat.le_of_ble_eq_true rfl) dX2_countUnlit_34 ?_
    refine va_put (D := D) (ci := 2) (v := .int (if (f 10) < w6 then w6 else (f 10))) (ty := .int) (C := RX2) (T := TX2) (N := 11) hx hb hts i2 tyX2 tyX2_ok nmX2 hown hK hP hD hS 0 rfl rfl 10 (by decide) lf51 (fun _ h9 => h9) rfl (by decide +kernel) rfl rfl (Nat.le_of_ble_eq_true rfl) dX2_countUnlit_37 (fun H locs hP hD hS => ?_)
    have hP : va_P D vwCl [(xf, c2 (.ref xs) (.ref xp) (.ref xq) (upd (upd f 9 w6) 10 (if (f 10) < w6 then w6 else (f 10)))), (xp, c1 ep), (xq, c1 eq), (xs, c5 st)] H := (congrArg (fun z9 => va_P D vwCl [(xf, .inr (2, z9)), (xp, c1 ep), (xq, c1 eq), (xs, c5 st)] H) (cs2_10 (.ref xs) (.ref xp) (.ref xq) (upd f 9 w6) (if (f 10) < w6 then w6 else (f 10)))).mp hP
    have hD : va_D A [(xf, c2 (.ref xs) (.ref xp) (.ref xq) (upd (upd f 9 w6) 10 (if (f 10) < w6 then w6 else (f 10)))), (xp, c1 ep), (xq, c1 eq), (xs, c5 st)] := (congrArg (fun z9 => va_D A [(xf, .inr (2, z9)), (xp, c1 ep), (xq, c1 eq), (xs, c5 st)]) (cs2_10 (.ref xs) (.ref xp) (.ref xq) (upd f 9 w6) (if (f 10) < w6 then w6 else (f 10)))).mp hD
    have hsp : (s2_countUnlit f ep eq st a1) = ((upd (upd f 9 w6) 10 (if (f 10) < w6 then w6 else (f 10))) : (Nat → Int32)) := by simp only [s2_countUnlit, ← hw6]
    exact hret _ _ _ _ _ _ _ hP hD hS dX2_countUnlit_40 ⟨(), trivial, (by rw [hsp])⟩ (Nat.le_of_ble_eq_true rfl) (Nat.le_of_ble_eq_true rfl)
  refine lv_if_eq (tgt := 21) hx hb dX2_countUnlit_2 (by decide) (fun z1 => ?_) (fun z1 => ?_)
  · refine lv_iconst (v := 0) hx hb dX2_countUnlit_21 (by decide) ?_
    exact J5 0 (by simp only [if_pos z1]) _ _ hP hD hS
  · refine lv_aload_n hx hb dX2_countUnlit_5 rfl (lv_at hl 0 rfl) ?_
    refine cw_cVi (As := []) (rest := [.ref xf]) (wc := [(xf, c2 (.ref xs) (.ref xp) (.ref xq) f), (xp, c1 ep), (xq, c1 eq), (xs, c5 st)]) (wr := []) ⟨hx, hb, hml, hown, hts⟩ (k2_hasFlame l D cI cJ xf xp xq xs f ep eq st) (cwV 0 hts gX2_countUnlit_X2_hasFlame rfl rfl rfl (by decide +kernel) ⟨Nat.le_of_ble_eq_true rfl, Nat.le_of_ble_eq_true rfl⟩) hK hN hP hD hS hA [0, 1, 2, 3] [] rfl rfl (by decide) (by decide) (by decide) 0 (ci := 2) rfl rfl rfl rfl hl.1 rfl (Nat.le_of_ble_eq_true rfl) dX2_countUnlit_6 ⟨Nat.le_of_ble_eq_true rfl, Nat.le_of_ble_eq_true rfl⟩ (fun r3 u2 H locs hw hP hD hS => ?_)
    have hr3 : r3 = (s2_hasFlame f ep eq st) := hw
    have hP : va_P D vwCl [(xf, c2 (.ref xs) (.ref xp) (.ref xq) f), (xp, c1 ep), (xq, c1 eq), (xs, c5 st)] H := hP
    have hD : va_D A [(xf, c2 (.ref xs) (.ref xp) (.ref xq) f), (xp, c1 ep), (xq, c1 eq), (xs, c5 st)] := hD
    refine lv_if_ne (tgt := 21) hx hb dX2_countUnlit_9 (by decide) (fun z4 => ?_) (fun z4 => ?_)
    · refine lv_iconst (v := 0) hx hb dX2_countUnlit_21 (by decide) ?_
      exact J5 0 (by simp only [← hr3, if_neg z1, if_neg z4]) _ _ hP hD hS
    · refine lv_aload_n hx hb dX2_countUnlit_12 rfl (lv_at hl 0 rfl) ?_
      refine va_get (D := D) (ci := 2) (v := .int (f 9)) (C := RX2) (T := TX2) (N := 11) hx hb hts i2 hown hK hP 0 rfl rfl 9 (by decide) lf48 (fun _ h9 => h9) rfl dX2_countUnlit_13 ?_
      refine lv_iconst (v := 1) hx hb dX2_countUnlit_16 (by decide) ?_
      refine lv_iadd hx hb dX2_countUnlit_17 ?_
      refine lv_goto (tgt := 22) hx hb dX2_countUnlit_18 (by decide) ?_
      exact J5 ((f 9) + 1) (by simp only [← hr3, if_neg z1, if_pos z4]) _ _ hP hD hS

set_option maxHeartbeats 4000000 in
set_option maxRecDepth 100000 in
theorem k2_lightPilot (l : Launch) (D : va_G) (cI cJ : ClassId) (xf xp xq xs : Nat) (f : Nat → Int32) (ep : Nat → Int32) (eq : Nat → Int32) (st : Nat → Int32) : cw_Mi l yX2_lightPilot wsX2_lightPilot (cw_rm 3) D [(cI, .int)] [.ref xf] [(xf, c2 (.ref xs) (.ref xp) (.ref xq) f), (xp, c1 ep), (xq, c1 eq), (xs, c5 st)] 0 0 (fun r (_ : Unit) => r = (s2_lightPilot f ep eq st).1) (fun _ : Unit => [(xf, c2 (.ref xs) (.ref xp) (.ref xq) (s2_lightPilot f ep eq st).2), (xp, c1 ep), (xq, c1 eq), (xs, c5 st)]) := by
  refine cw_ofi (cc := cX2_lightPilot) (maxL := 1) (ret := (some .boolean)) (by decide) rfl (Nat.le_of_ble_eq_true rfl) rfl ?_
  intro p e s m args below meth c A ls Q hin0 hret
  obtain ⟨hx, hb, hr, hml, hts, hown, hlocks, hin, hP, hK, hD, hN, hA, hl⟩ := hin0
  have hS : va_S A s.heap s.heap [] := va_S.rf
  have hl : lv_has ls 1 [(0, .ref xf)] := hl
  have lf12 := hts (.fieldLink RX2 12 "Burnerline$Furnace" "pilotEye" "LBurnerline$Eye;") (by decide +kernel)
  have i2 : ∀ w ∈ wsX20, w ∈ wsX2_lightPilot := by decide +kernel
  have lf54 := hN.use (args := args) (w := .fieldLinkNest "Burnerline$Furnace" 54 "Burnerline$Eye" "seesFlame" "Z" "Burnerline") (by decide +kernel)
  have i1 : ∀ w ∈ wsX10, w ∈ wsX2_lightPilot := by decide +kernel
  have lf36 := hts (.fieldLink RX2 36 "Burnerline$Furnace" "time" "I") (by decide +kernel)
  have lf21 := hts (.fieldLink RX2 21 "Burnerline$Furnace" "settings" "LBurnerline$Settings;") (by decide +kernel)
  have lf160 := hN.use (args := args) (w := .fieldLinkNest "Burnerline$Furnace" 160 "Burnerline$Settings" "longestPilot" "I" "Burnerline") (by decide +kernel)
  have i5 : ∀ w ∈ wsX50, w ∈ wsX2_lightPilot := by decide +kernel
  refine lv_aload_n hx hb dX2_lightPilot_0 rfl (lv_at hl 0 rfl) ?_
  refine va_get (D := D) (ci := 2) (v := .ref xp) (C := RX2) (T := TX2) (N := 11) hx hb hts i2 hown hK hP 0 rfl rfl 1 (by decide) lf12 (fun _ h9 => h9) rfl dX2_lightPilot_1 ?_
  refine va_getN (D := D) (ci := 1) (v := .int (ep 0)) (C := RX1) (T := TX1) (N := 2) hx hb hts i1 hown hK hP 1 rfl rfl 0 (by decide) lf54 (fun _ h9 => h9) rfl dX2_lightPilot_4 ?_
  refine lv_if_eq (tgt := 17) hx hb dX2_lightPilot_7 (by decide) (fun z1 => ?_) (fun z1 => ?_)
  · refine lv_aload_n hx hb dX2_lightPilot_17 rfl (lv_at hl 0 rfl) ?_
    refine va_get (D := D) (ci := 2) (v := .int (f 5)) (C := RX2) (T := TX2) (N := 11) hx hb hts i2 hown hK hP 0 rfl rfl 5 (by decide) lf36 (fun _ h9 => h9) rfl dX2_lightPilot_18 ?_
    refine lv_aload_n hx hb dX2_lightPilot_21 rfl (lv_at hl 0 rfl) ?_
    refine va_get (D := D) (ci := 2) (v := .ref xs) (C := RX2) (T := TX2) (N := 11) hx hb hts i2 hown hK hP 0 rfl rfl 0 (by decide) lf21 (fun _ h9 => h9) rfl dX2_lightPilot_22 ?_
    refine va_getN (D := D) (ci := 5) (v := .int (st 2)) (C := RX5) (T := TX5) (N := 11) hx hb hts i5 hown hK hP 3 rfl rfl 2 (by decide) lf160 (fun _ h9 => h9) rfl dX2_lightPilot_25 ?_
    have J7 : ∀ (w8 : Int32), w8 = (if (f 5) < (st 2) then 0 else (if ((s2_lockOut f 4).1) = 0 then 0 else 1)) → ∀ (w9 : Nat → Int32), w9 = (if (f 5) < (st 2) then f else ((s2_lockOut f 4).2)) → ∀ (H : Heap) (locs : List Loc), va_P D vwCl [(xf, c2 (.ref xs) (.ref xp) (.ref xq) w9), (xp, c1 ep), (xq, c1 eq), (xs, c5 st)] H → va_D A [(xf, c2 (.ref xs) (.ref xp) (.ref xq) w9), (xp, c1 ep), (xq, c1 eq), (xs, c5 st)] → va_S A s.heap H locs → W p l e (cw_rm 3) s m args below meth c H locs 0 0 (Q) (F0 m 44 ls [.int w8]) := by
      intro w8 hw8 w9 hw9 H locs hP hD hS
      have hsp : (s2_lightPilot f ep eq st) = ((w8, w9) : Int32 × (Nat → Int32)) := by simp only [s2_lightPilot, ← hw8, ← hw9, if_pos z1]
      exact hret _ _ _ _ _ _ _ _ hP hD hS dX2_lightPilot_44 (cw_b01 (by (try simp only [hw8]); (repeat' split) <;> first | exact Or.inl rfl | exact Or.inr rfl | assumption | exact z2_lockOut _ _)) ⟨(), (by rw [hsp]), (by rw [hsp])⟩ (Nat.le_of_ble_eq_true rfl) (Nat.le_of_ble_eq_true rfl)
    refine lv_icmp_lt (tgt := 43) hx hb dX2_lightPilot_28 (by decide) (fun z2 => ?_) (fun z2 => ?_)
    · refine lv_iconst (v := 0) hx hb dX2_lightPilot_43 (by decide) ?_
      exact J7 0 (by simp only [if_pos z2]) f (by simp only [if_pos z2]) _ _ hP hD hS
    · refine lv_aload_n hx hb dX2_lightPilot_31 rfl (lv_at hl 0 rfl) ?_
      refine lv_iconst (v := 4) hx hb dX2_lightPilot_32 (by decide) ?_
      refine cw_cVi (As := [.int 4]) (rest := []) (wc := [(xf, c2 (.ref xs) (.ref xp) (.ref xq) f)]) (wr := [(xp, c1 ep), (xq, c1 eq), (xs, c5 st)]) ⟨hx, hb, hml, hown, hts⟩ (k2_lockOut l D cI cJ xf (.ref xs) (.ref xp) (.ref xq) f 4) (cwV 1 hts gX2_lightPilot_X2_lockOut rfl rfl rfl (by decide +kernel) ⟨Nat.le_of_ble_eq_true rfl, Nat.le_of_ble_eq_true rfl⟩) hK hN hP hD hS hA [0] [1, 2, 3] rfl rfl (by decide) (by decide) (by decide) 0 (ci := 2) rfl rfl rfl rfl hl.1 rfl (Nat.le_of_ble_eq_true rfl) dX2_lightPilot_33 ⟨Nat.le_of_ble_eq_true rfl, Nat.le_of_ble_eq_true rfl⟩ (fun r4 u3 H locs hw hP hD hS => ?_)
      have hr4 : r4 = ((s2_lockOut f 4).1) := hw
      obtain ⟨v5, hv5⟩ : ∃ z : Nat → Int32, z = ((s2_lockOut f 4).2) := ⟨_, rfl⟩
      have hP : va_P D vwCl [(xp, c1 ep), (xq, c1 eq), (xs, c5 st), (xf, c2 (.ref xs) (.ref xp) (.ref xq) v5)] H := by rw [hv5]; exact hP
      have hD : va_D A [(xp, c1 ep), (xq, c1 eq), (xs, c5 st), (xf, c2 (.ref xs) (.ref xp) (.ref xq) v5)] := by rw [hv5]; exact hD
      refine lv_if_eq (tgt := 43) hx hb dX2_lightPilot_36 (by decide) (fun z6 => ?_) (fun z6 => ?_)
      · refine lv_iconst (v := 0) hx hb dX2_lightPilot_43 (by decide) ?_
        exact J7 0 (by simp only [← hv5, ← hr4, if_neg z2, if_pos z6]) v5 (by simp only [← hv5, ← hr4, if_neg z2, if_pos z6]) _ _ (hP.sub [3, 0, 1, 2] rfl) (hD.sub [3, 0, 1, 2] (by decide) rfl) hS
      · refine lv_iconst (v := 1) hx hb dX2_lightPilot_39 (by decide) ?_
        refine lv_goto (tgt := 44) hx hb dX2_lightPilot_40 (by decide) ?_
        exact J7 1 (by simp only [← hv5, ← hr4, if_neg z2, if_neg z6]) v5 (by simp only [← hv5, ← hr4, if_neg z2, if_neg z6]) _ _ (hP.sub [3, 0, 1, 2] rfl) (hD.sub [3, 0, 1, 2] (by decide) rfl) hS
  · refine lv_aload_n hx hb dX2_lightPilot_10 rfl (lv_at hl 0 rfl) ?_
    refine lv_iconst (v := 3) hx hb dX2_lightPilot_11 (by decide) ?_
    refine lv_iconst (v := 0) hx hb dX2_lightPilot_12 (by decide) ?_
    refine cw_cVi (As := [.int 3, .int 0]) (rest := []) (wc := [(xf, c2 (.ref xs) (.ref xp) (.ref xq) f)]) (wr := [(xp, c1 ep), (xq, c1 eq), (xs, c5 st)]) ⟨hx, hb, hml, hown, hts⟩ (k2_begin l D cI cJ xf (.ref xs) (.ref xp) (.ref xq) f 3 0) (cwV 2 hts gX2_lightPilot_X2_begin rfl rfl rfl (by decide +kernel) ⟨Nat.le_of_ble_eq_true rfl, Nat.le_of_ble_eq_true rfl⟩) hK hN hP hD hS hA [0] [1, 2, 3] rfl rfl (by decide) (by decide) (by decide) 0 (ci := 2) rfl rfl rfl rfl hl.1 rfl (Nat.le_of_ble_eq_true rfl) dX2_lightPilot_13 ⟨Nat.le_of_ble_eq_true rfl, Nat.le_of_ble_eq_true rfl⟩ (fun r11 u10 H locs hw hP hD hS => ?_)
    have hr11 : r11 = ((s2_begin f 3 0).1) := hw
    obtain ⟨v12, hv12⟩ : ∃ z : Nat → Int32, z = ((s2_begin f 3 0).2) := ⟨_, rfl⟩
    have hP : va_P D vwCl [(xp, c1 ep), (xq, c1 eq), (xs, c5 st), (xf, c2 (.ref xs) (.ref xp) (.ref xq) v12)] H := by rw [hv12]; exact hP
    have hD : va_D A [(xp, c1 ep), (xq, c1 eq), (xs, c5 st), (xf, c2 (.ref xs) (.ref xp) (.ref xq) v12)] := by rw [hv12]; exact hD
    have hsp : (s2_lightPilot f ep eq st) = ((r11, v12) : Int32 × (Nat → Int32)) := by simp only [s2_lightPilot, ← hv12, ← hr11, if_neg z1]
    exact hret _ _ _ _ _ _ _ _ (hP.sub (ws' := [(xf, c2 (.ref xs) (.ref xp) (.ref xq) v12), (xp, c1 ep), (xq, c1 eq), (xs, c5 st)]) [3, 0, 1, 2] rfl) (hD.sub (ws' := [(xf, c2 (.ref xs) (.ref xp) (.ref xq) v12), (xp, c1 ep), (xq, c1 eq), (xs, c5 st)]) [3, 0, 1, 2] (by decide) rfl) hS dX2_lightPilot_16 (cw_b01 (by (try simp only [hr11]); (repeat' split) <;> first | exact Or.inl rfl | exact Or.inr rfl | assumption | exact z2_begin _ _ _)) ⟨(), (by rw [hsp]), (by rw [hsp])⟩ (Nat.le_of_ble_eq_true rfl) (Nat.le_of_ble_eq_true rfl)

set_option maxHeartbeats 4000000 in
set_option maxRecDepth 100000 in
theorem k2_lightMain (l : Launch) (D : va_G) (cI cJ : ClassId) (xf xp xq xs : Nat) (f : Nat → Int32) (ep : Nat → Int32) (eq : Nat → Int32) (st : Nat → Int32) : cw_Mi l yX2_lightMain wsX2_lightMain (cw_rm 3) D [(cI, .int)] [.ref xf] [(xf, c2 (.ref xs) (.ref xp) (.ref xq) f), (xp, c1 ep), (xq, c1 eq), (xs, c5 st)] 0 0 (fun r (_ : Unit) => r = (s2_lightMain f ep eq st).1) (fun _ : Unit => [(xf, c2 (.ref xs) (.ref xp) (.ref xq) (s2_lightMain f ep eq st).2), (xp, c1 ep), (xq, c1 eq), (xs, c5 st)]) := by
  refine cw_ofi (cc := cX2_lightMain) (maxL := 1) (ret := (some .boolean)) (by decide) rfl (Nat.le_of_ble_eq_true rfl) rfl ?_
  intro p e s m args below meth c A ls Q hin0 hret
  obtain ⟨hx, hb, hr, hml, hts, hown, hlocks, hin, hP, hK, hD, hN, hA, hl⟩ := hin0
  have hS : va_S A s.heap s.heap [] := va_S.rf
  have hl : lv_has ls 1 [(0, .ref xf)] := hl
  have lf18 := hts (.fieldLink RX2 18 "Burnerline$Furnace" "mainEye" "LBurnerline$Eye;") (by decide +kernel)
  have i2 : ∀ w ∈ wsX20, w ∈ wsX2_lightMain := by decide +kernel
  have lf54 := hN.use (args := args) (w := .fieldLinkNest "Burnerline$Furnace" 54 "Burnerline$Eye" "seesFlame" "Z" "Burnerline") (by decide +kernel)
  have i1 : ∀ w ∈ wsX10, w ∈ wsX2_lightMain := by decide +kernel
  have lf36 := hts (.fieldLink RX2 36 "Burnerline$Furnace" "time" "I") (by decide +kernel)
  have lf21 := hts (.fieldLink RX2 21 "Burnerline$Furnace" "settings" "LBurnerline$Settings;") (by decide +kernel)
  have lf163 := hN.use (args := args) (w := .fieldLinkNest "Burnerline$Furnace" 163 "Burnerline$Settings" "longestMain" "I" "Burnerline") (by decide +kernel)
  have i5 : ∀ w ∈ wsX50, w ∈ wsX2_lightMain := by decide +kernel
  refine lv_aload_n hx hb dX2_lightMain_0 rfl (lv_at hl 0 rfl) ?_
  refine va_get (D := D) (ci := 2) (v := .ref xq) (C := RX2) (T := TX2) (N := 11) hx hb hts i2 hown hK hP 0 rfl rfl 2 (by decide) lf18 (fun _ h9 => h9) rfl dX2_lightMain_1 ?_
  refine va_getN (D := D) (ci := 1) (v := .int (eq 0)) (C := RX1) (T := TX1) (N := 2) hx hb hts i1 hown hK hP 2 rfl rfl 0 (by decide) lf54 (fun _ h9 => h9) rfl dX2_lightMain_4 ?_
  refine lv_if_eq (tgt := 17) hx hb dX2_lightMain_7 (by decide) (fun z1 => ?_) (fun z1 => ?_)
  · refine lv_aload_n hx hb dX2_lightMain_17 rfl (lv_at hl 0 rfl) ?_
    refine va_get (D := D) (ci := 2) (v := .int (f 5)) (C := RX2) (T := TX2) (N := 11) hx hb hts i2 hown hK hP 0 rfl rfl 5 (by decide) lf36 (fun _ h9 => h9) rfl dX2_lightMain_18 ?_
    refine lv_aload_n hx hb dX2_lightMain_21 rfl (lv_at hl 0 rfl) ?_
    refine va_get (D := D) (ci := 2) (v := .ref xs) (C := RX2) (T := TX2) (N := 11) hx hb hts i2 hown hK hP 0 rfl rfl 0 (by decide) lf21 (fun _ h9 => h9) rfl dX2_lightMain_22 ?_
    refine va_getN (D := D) (ci := 5) (v := .int (st 3)) (C := RX5) (T := TX5) (N := 11) hx hb hts i5 hown hK hP 3 rfl rfl 3 (by decide) lf163 (fun _ h9 => h9) rfl dX2_lightMain_25 ?_
    have J7 : ∀ (w8 : Int32), w8 = (if (f 5) < (st 3) then 0 else (if ((s2_lockOut f 5).1) = 0 then 0 else 1)) → ∀ (w9 : Nat → Int32), w9 = (if (f 5) < (st 3) then f else ((s2_lockOut f 5).2)) → ∀ (H : Heap) (locs : List Loc), va_P D vwCl [(xf, c2 (.ref xs) (.ref xp) (.ref xq) w9), (xp, c1 ep), (xq, c1 eq), (xs, c5 st)] H → va_D A [(xf, c2 (.ref xs) (.ref xp) (.ref xq) w9), (xp, c1 ep), (xq, c1 eq), (xs, c5 st)] → va_S A s.heap H locs → W p l e (cw_rm 3) s m args below meth c H locs 0 0 (Q) (F0 m 44 ls [.int w8]) := by
      intro w8 hw8 w9 hw9 H locs hP hD hS
      have hsp : (s2_lightMain f ep eq st) = ((w8, w9) : Int32 × (Nat → Int32)) := by simp only [s2_lightMain, ← hw8, ← hw9, if_pos z1]
      exact hret _ _ _ _ _ _ _ _ hP hD hS dX2_lightMain_44 (cw_b01 (by (try simp only [hw8]); (repeat' split) <;> first | exact Or.inl rfl | exact Or.inr rfl | assumption | exact z2_lockOut _ _)) ⟨(), (by rw [hsp]), (by rw [hsp])⟩ (Nat.le_of_ble_eq_true rfl) (Nat.le_of_ble_eq_true rfl)
    refine lv_icmp_lt (tgt := 43) hx hb dX2_lightMain_28 (by decide) (fun z2 => ?_) (fun z2 => ?_)
    · refine lv_iconst (v := 0) hx hb dX2_lightMain_43 (by decide) ?_
      exact J7 0 (by simp only [if_pos z2]) f (by simp only [if_pos z2]) _ _ hP hD hS
    · refine lv_aload_n hx hb dX2_lightMain_31 rfl (lv_at hl 0 rfl) ?_
      refine lv_iconst (v := 5) hx hb dX2_lightMain_32 (by decide) ?_
      refine cw_cVi (As := [.int 5]) (rest := []) (wc := [(xf, c2 (.ref xs) (.ref xp) (.ref xq) f)]) (wr := [(xp, c1 ep), (xq, c1 eq), (xs, c5 st)]) ⟨hx, hb, hml, hown, hts⟩ (k2_lockOut l D cI cJ xf (.ref xs) (.ref xp) (.ref xq) f 5) (cwV 1 hts gX2_lightMain_X2_lockOut rfl rfl rfl (by decide +kernel) ⟨Nat.le_of_ble_eq_true rfl, Nat.le_of_ble_eq_true rfl⟩) hK hN hP hD hS hA [0] [1, 2, 3] rfl rfl (by decide) (by decide) (by decide) 0 (ci := 2) rfl rfl rfl rfl hl.1 rfl (Nat.le_of_ble_eq_true rfl) dX2_lightMain_33 ⟨Nat.le_of_ble_eq_true rfl, Nat.le_of_ble_eq_true rfl⟩ (fun r4 u3 H locs hw hP hD hS => ?_)
      have hr4 : r4 = ((s2_lockOut f 5).1) := hw
      obtain ⟨v5, hv5⟩ : ∃ z : Nat → Int32, z = ((s2_lockOut f 5).2) := ⟨_, rfl⟩
      have hP : va_P D vwCl [(xp, c1 ep), (xq, c1 eq), (xs, c5 st), (xf, c2 (.ref xs) (.ref xp) (.ref xq) v5)] H := by rw [hv5]; exact hP
      have hD : va_D A [(xp, c1 ep), (xq, c1 eq), (xs, c5 st), (xf, c2 (.ref xs) (.ref xp) (.ref xq) v5)] := by rw [hv5]; exact hD
      refine lv_if_eq (tgt := 43) hx hb dX2_lightMain_36 (by decide) (fun z6 => ?_) (fun z6 => ?_)
      · refine lv_iconst (v := 0) hx hb dX2_lightMain_43 (by decide) ?_
        exact J7 0 (by simp only [← hv5, ← hr4, if_neg z2, if_pos z6]) v5 (by simp only [← hv5, ← hr4, if_neg z2, if_pos z6]) _ _ (hP.sub [3, 0, 1, 2] rfl) (hD.sub [3, 0, 1, 2] (by decide) rfl) hS
      · refine lv_iconst (v := 1) hx hb dX2_lightMain_39 (by decide) ?_
        refine lv_goto (tgt := 44) hx hb dX2_lightMain_40 (by decide) ?_
        exact J7 1 (by simp only [← hv5, ← hr4, if_neg z2, if_neg z6]) v5 (by simp only [← hv5, ← hr4, if_neg z2, if_neg z6]) _ _ (hP.sub [3, 0, 1, 2] rfl) (hD.sub [3, 0, 1, 2] (by decide) rfl) hS
  · refine lv_aload_n hx hb dX2_lightMain_10 rfl (lv_at hl 0 rfl) ?_
    refine lv_iconst (v := 4) hx hb dX2_lightMain_11 (by decide) ?_
    refine lv_iconst (v := 0) hx hb dX2_lightMain_12 (by decide) ?_
    refine cw_cVi (As := [.int 4, .int 0]) (rest := []) (wc := [(xf, c2 (.ref xs) (.ref xp) (.ref xq) f)]) (wr := [(xp, c1 ep), (xq, c1 eq), (xs, c5 st)]) ⟨hx, hb, hml, hown, hts⟩ (k2_begin l D cI cJ xf (.ref xs) (.ref xp) (.ref xq) f 4 0) (cwV 2 hts gX2_lightMain_X2_begin rfl rfl rfl (by decide +kernel) ⟨Nat.le_of_ble_eq_true rfl, Nat.le_of_ble_eq_true rfl⟩) hK hN hP hD hS hA [0] [1, 2, 3] rfl rfl (by decide) (by decide) (by decide) 0 (ci := 2) rfl rfl rfl rfl hl.1 rfl (Nat.le_of_ble_eq_true rfl) dX2_lightMain_13 ⟨Nat.le_of_ble_eq_true rfl, Nat.le_of_ble_eq_true rfl⟩ (fun r11 u10 H locs hw hP hD hS => ?_)
    have hr11 : r11 = ((s2_begin f 4 0).1) := hw
    obtain ⟨v12, hv12⟩ : ∃ z : Nat → Int32, z = ((s2_begin f 4 0).2) := ⟨_, rfl⟩
    have hP : va_P D vwCl [(xp, c1 ep), (xq, c1 eq), (xs, c5 st), (xf, c2 (.ref xs) (.ref xp) (.ref xq) v12)] H := by rw [hv12]; exact hP
    have hD : va_D A [(xp, c1 ep), (xq, c1 eq), (xs, c5 st), (xf, c2 (.ref xs) (.ref xp) (.ref xq) v12)] := by rw [hv12]; exact hD
    have hsp : (s2_lightMain f ep eq st) = ((r11, v12) : Int32 × (Nat → Int32)) := by simp only [s2_lightMain, ← hv12, ← hr11, if_neg z1]
    exact hret _ _ _ _ _ _ _ _ (hP.sub (ws' := [(xf, c2 (.ref xs) (.ref xp) (.ref xq) v12), (xp, c1 ep), (xq, c1 eq), (xs, c5 st)]) [3, 0, 1, 2] rfl) (hD.sub (ws' := [(xf, c2 (.ref xs) (.ref xp) (.ref xq) v12), (xp, c1 ep), (xq, c1 eq), (xs, c5 st)]) [3, 0, 1, 2] (by decide) rfl) hS dX2_lightMain_16 (cw_b01 (by (try simp only [hr11]); (repeat' split) <;> first | exact Or.inl rfl | exact Or.inr rfl | assumption | exact z2_begin _ _ _)) ⟨(), (by rw [hsp]), (by rw [hsp])⟩ (Nat.le_of_ble_eq_true rfl) (Nat.le_of_ble_eq_true rfl)

set_option maxHeartbeats 4000000 in
set_option maxRecDepth 100000 in
theorem k2_sequenceAfterPurge (l : Launch) (D : va_G) (cI cJ : ClassId) (xf xp xq xs : Nat) (f : Nat → Int32) (ep : Nat → Int32) (eq : Nat → Int32) (st : Nat → Int32) : cw_Mi l yX2_sequenceAfterPurge wsX2_sequenceAfterPurge (cw_rm 3) D [(cI, .int)] [.ref xf] [(xf, c2 (.ref xs) (.ref xp) (.ref xq) f), (xp, c1 ep), (xq, c1 eq), (xs, c5 st)] 0 0 (fun r (_ : Unit) => r = (s2_sequenceAfterPurge f ep eq st).1) (fun _ : Unit => [(xf, c2 (.ref xs) (.ref xp) (.ref xq) (s2_sequenceAfterPurge f ep eq st).2), (xp, c1 ep), (xq, c1 eq), (xs, c5 st)]) := by
  refine cw_ofi (cc := cX2_sequenceAfterPurge) (maxL := 1) (ret := (some .boolean)) (by decide) rfl (Nat.le_of_ble_eq_true rfl) rfl ?_
  intro p e s m args below meth c A ls Q hin0 hret
  obtain ⟨hx, hb, hr, hml, hts, hown, hlocks, hin, hP, hK, hD, hN, hA, hl⟩ := hin0
  have hS : va_S A s.heap s.heap [] := va_S.rf
  have hl : lv_has ls 1 [(0, .ref xf)] := hl
  have lf36 := hts (.fieldLink RX2 36 "Burnerline$Furnace" "time" "I") (by decide +kernel)
  have i2 : ∀ w ∈ wsX20, w ∈ wsX2_sequenceAfterPurge := by decide +kernel
  have lf21 := hts (.fieldLink RX2 21 "Burnerline$Furnace" "settings" "LBurnerline$Settings;") (by decide +kernel)
  have lf172 := hN.use (args := args) (w := .fieldLinkNest "Burnerline$Furnace" 172 "Burnerline$Settings" "afterPurge" "I" "Burnerline") (by decide +kernel)
  have i5 : ∀ w ∈ wsX50, w ∈ wsX2_sequenceAfterPurge := by decide +kernel
  refine lv_aload_n hx hb dX2_sequenceAfterPurge_0 rfl (lv_at hl 0 rfl) ?_
  refine va_get (D := D) (ci := 2) (v := .int (f 5)) (C := RX2) (T := TX2) (N := 11) hx hb hts i2 hown hK hP 0 rfl rfl 5 (by decide) lf36 (fun _ h9 => h9) rfl dX2_sequenceAfterPurge_1 ?_
  refine lv_aload_n hx hb dX2_sequenceAfterPurge_4 rfl (lv_at hl 0 rfl) ?_
  refine va_get (D := D) (ci := 2) (v := .ref xs) (C := RX2) (T := TX2) (N := 11) hx hb hts i2 hown hK hP 0 rfl rfl 0 (by decide) lf21 (fun _ h9 => h9) rfl dX2_sequenceAfterPurge_5 ?_
  refine va_getN (D := D) (ci := 5) (v := .int (st 4)) (C := RX5) (T := TX5) (N := 11) hx hb hts i5 hown hK hP 3 rfl rfl 4 (by decide) lf172 (fun _ h9 => h9) rfl dX2_sequenceAfterPurge_8 ?_
  refine lv_icmp_ge (tgt := 16) hx hb dX2_sequenceAfterPurge_11 (by decide) (fun z1 => ?_) (fun z1 => ?_)
  · refine lv_aload_n hx hb dX2_sequenceAfterPurge_16 rfl (lv_at hl 0 rfl) ?_
    refine cw_cVi (As := []) (rest := []) (wc := [(xf, c2 (.ref xs) (.ref xp) (.ref xq) f), (xp, c1 ep), (xq, c1 eq), (xs, c5 st)]) (wr := []) ⟨hx, hb, hml, hown, hts⟩ (k2_hasFlame l D cI cJ xf xp xq xs f ep eq st) (cwV 0 hts gX2_sequenceAfterPurge_X2_hasFlame rfl rfl rfl (by decide +kernel) ⟨Nat.le_of_ble_eq_true rfl, Nat.le_of_ble_eq_true rfl⟩) hK hN hP hD hS hA [0, 1, 2, 3] [] rfl rfl (by decide) (by decide) (by decide) 0 (ci := 2) rfl rfl rfl rfl hl.1 rfl (Nat.le_of_ble_eq_true rfl) dX2_sequenceAfterPurge_17 ⟨Nat.le_of_ble_eq_true rfl, Nat.le_of_ble_eq_true rfl⟩ (fun r3 u2 H locs hw hP hD hS => ?_)
    have hr3 : r3 = (s2_hasFlame f ep eq st) := hw
    have hP : va_P D vwCl [(xf, c2 (.ref xs) (.ref xp) (.ref xq) f), (xp, c1 ep), (xq, c1 eq), (xs, c5 st)] H := hP
    have hD : va_D A [(xf, c2 (.ref xs) (.ref xp) (.ref xq) f), (xp, c1 ep), (xq, c1 eq), (xs, c5 st)] := hD
    have J11 : ∀ (w12 : Int32), w12 = (if r3 = 0 then ((s2_begin f 0 0).1) else ((s2_lockOut f 3).1)) → ∀ (w13 : Nat → Int32), w13 = (if r3 = 0 then ((s2_begin f 0 0).2) else ((s2_lockOut f 3).2)) → ∀ (H : Heap) (locs : List Loc), va_P D vwCl [(xf, c2 (.ref xs) (.ref xp) (.ref xq) w13), (xp, c1 ep), (xq, c1 eq), (xs, c5 st)] H → va_D A [(xf, c2 (.ref xs) (.ref xp) (.ref xq) w13), (xp, c1 ep), (xq, c1 eq), (xs, c5 st)] → va_S A s.heap H locs → W p l e (cw_rm 3) s m args below meth c H locs 0 0 (Q) (F0 m 37 ls [.int w12]) := by
      intro w12 hw12 w13 hw13 H locs hP hD hS
      have hsp : (s2_sequenceAfterPurge f ep eq st) = ((w12, w13) : Int32 × (Nat → Int32)) := by simp only [s2_sequenceAfterPurge, ← hr3, ← hw12, ← hw13, if_pos z1]
      exact hret _ _ _ _ _ _ _ _ hP hD hS dX2_sequenceAfterPurge_37 (cw_b01 (by (try simp only [hr3, hw12]); (repeat' split) <;> first | exact Or.inl rfl | exact Or.inr rfl | assumption | exact z2_begin _ _ _ | exact z2_hasFlame _ _ _ _ | exact z2_lockOut _ _)) ⟨(), (by rw [hsp]), (by rw [hsp])⟩ (Nat.le_of_ble_eq_true rfl) (Nat.le_of_ble_eq_true rfl)
    refine lv_if_eq (tgt := 31) hx hb dX2_sequenceAfterPurge_20 (by decide) (fun z4 => ?_) (fun z4 => ?_)
    · refine lv_aload_n hx hb dX2_sequenceAfterPurge_31 rfl (lv_at hl 0 rfl) ?_
      refine lv_iconst (v := 0) hx hb dX2_sequenceAfterPurge_32 (by decide) ?_
      refine lv_iconst (v := 0) hx hb dX2_sequenceAfterPurge_33 (by decide) ?_
      refine cw_cVi (As := [.int 0, .int 0]) (rest := []) (wc := [(xf, c2 (.ref xs) (.ref xp) (.ref xq) f)]) (wr := [(xp, c1 ep), (xq, c1 eq), (xs, c5 st)]) ⟨hx, hb, hml, hown, hts⟩ (k2_begin l D cI cJ xf (.ref xs) (.ref xp) (.ref xq) f 0 0) (cwV 2 hts gX2_sequenceAfterPurge_X2_begin rfl rfl rfl (by decide +kernel) ⟨Nat.le_of_ble_eq_true rfl, Nat.le_of_ble_eq_true rfl⟩) hK hN hP hD hS hA [0] [1, 2, 3] rfl rfl (by decide) (by decide) (by decide) 0 (ci := 2) rfl rfl rfl rfl hl.1 rfl (Nat.le_of_ble_eq_true rfl) dX2_sequenceAfterPurge_34 ⟨Nat.le_of_ble_eq_true rfl, Nat.le_of_ble_eq_true rfl⟩ (fun r6 u5 H locs hw hP hD hS => ?_)
      have hr6 : r6 = ((s2_begin f 0 0).1) := hw
      obtain ⟨v7, hv7⟩ : ∃ z : Nat → Int32, z = ((s2_begin f 0 0).2) := ⟨_, rfl⟩
      have hP : va_P D vwCl [(xp, c1 ep), (xq, c1 eq), (xs, c5 st), (xf, c2 (.ref xs) (.ref xp) (.ref xq) v7)] H := by rw [hv7]; exact hP
      have hD : va_D A [(xp, c1 ep), (xq, c1 eq), (xs, c5 st), (xf, c2 (.ref xs) (.ref xp) (.ref xq) v7)] := by rw [hv7]; exact hD
      exact J11 r6 (by simp only [← hv7, ← hr6, if_pos z4]) v7 (by simp only [← hv7, ← hr6, if_pos z4]) _ _ (hP.sub [3, 0, 1, 2] rfl) (hD.sub [3, 0, 1, 2] (by decide) rfl) hS
    · refine lv_aload_n hx hb dX2_sequenceAfterPurge_23 rfl (lv_at hl 0 rfl) ?_
      refine lv_iconst (v := 3) hx hb dX2_sequenceAfterPurge_24 (by decide) ?_
      refine cw_cVi (As := [.int 3]) (rest := []) (wc := [(xf, c2 (.ref xs) (.ref xp) (.ref xq) f)]) (wr := [(xp, c1 ep), (xq, c1 eq), (xs, c5 st)]) ⟨hx, hb, hml, hown, hts⟩ (k2_lockOut l D cI cJ xf (.ref xs) (.ref xp) (.ref xq) f 3) (cwV 1 hts gX2_sequenceAfterPurge_X2_lockOut rfl rfl rfl (by decide +kernel) ⟨Nat.le_of_ble_eq_true rfl, Nat.le_of_ble_eq_true rfl⟩) hK hN hP hD hS hA [0] [1, 2, 3] rfl rfl (by decide) (by decide) (by decide) 0 (ci := 2) rfl rfl rfl rfl hl.1 rfl (Nat.le_of_ble_eq_true rfl) dX2_sequenceAfterPurge_25 ⟨Nat.le_of_ble_eq_true rfl, Nat.le_of_ble_eq_true rfl⟩ (fun r9 u8 H locs hw hP hD hS => ?_)
      have hr9 : r9 = ((s2_lockOut f 3).1) := hw
      obtain ⟨v10, hv10⟩ : ∃ z : Nat → Int32, z = ((s2_lockOut f 3).2) := ⟨_, rfl⟩
      have hP : va_P D vwCl [(xp, c1 ep), (xq, c1 eq), (xs, c5 st), (xf, c2 (.ref xs) (.ref xp) (.ref xq) v10)] H := by rw [hv10]; exact hP
      have hD : va_D A [(xp, c1 ep), (xq, c1 eq), (xs, c5 st), (xf, c2 (.ref xs) (.ref xp) (.ref xq) v10)] := by rw [hv10]; exact hD
      refine lv_goto (tgt := 37) hx hb dX2_sequenceAfterPurge_28 (by decide) ?_
      exact J11 r9 (by simp only [← hv10, ← hr9, if_neg z4]) v10 (by simp only [← hv10, ← hr9, if_neg z4]) _ _ (hP.sub [3, 0, 1, 2] rfl) (hD.sub [3, 0, 1, 2] (by decide) rfl) hS
  · refine lv_iconst (v := 0) hx hb dX2_sequenceAfterPurge_14 (by decide) ?_
    have hsp : (s2_sequenceAfterPurge f ep eq st) = ((0, f) : Int32 × (Nat → Int32)) := by simp only [s2_sequenceAfterPurge, if_neg z1]
    exact hret _ _ _ _ _ _ _ _ hP hD hS dX2_sequenceAfterPurge_15 rfl ⟨(), (by rw [hsp]), (by rw [hsp])⟩ (Nat.le_of_ble_eq_true rfl) (Nat.le_of_ble_eq_true rfl)

set_option maxHeartbeats 4000000 in
set_option maxRecDepth 100000 in
theorem k2_sequenceOff (l : Launch) (D : va_G) (cI cJ : ClassId) (xf xp xq xs : Nat) (f : Nat → Int32) (ep : Nat → Int32) (eq : Nat → Int32) (st : Nat → Int32) (a1 : Int32) : cw_Mi l yX2_sequenceOff wsX2_sequenceOff (cw_rm 3) D [(cI, .int)] [.ref xf, .int a1] [(xf, c2 (.ref xs) (.ref xp) (.ref xq) f), (xp, c1 ep), (xq, c1 eq), (xs, c5 st)] 0 0 (fun r (_ : Unit) => r = (s2_sequenceOff f ep eq st a1).1) (fun _ : Unit => [(xf, c2 (.ref xs) (.ref xp) (.ref xq) (s2_sequenceOff f ep eq st a1).2), (xp, c1 ep), (xq, c1 eq), (xs, c5 st)]) := by
  refine cw_ofi (cc := cX2_sequenceOff) (maxL := 2) (ret := (some .boolean)) (by decide) rfl (Nat.le_of_ble_eq_true rfl) rfl ?_
  intro p e s m args below meth c A ls Q hin0 hret
  obtain ⟨hx, hb, hr, hml, hts, hown, hlocks, hin, hP, hK, hD, hN, hA, hl⟩ := hin0
  have hS : va_S A s.heap s.heap [] := va_S.rf
  have hl : lv_has ls 2 [(0, .ref xf), (1, .int a1)] := hl
  have ln65 : va_Nw (.methodLinkNest RX2 65 yX6_isOn "Burnerline") s := hN _ (by decide +kernel)
  have ls65 := hts (.static yX6_isOn) (by decide +kernel)
  have liRX6 := hts (.initialized RX6) (by decide +kernel)
  refine lv_aload_n hx hb dX2_sequenceOff_0 rfl (lv_at hl 0 rfl) ?_
  refine cw_cVi (As := []) (rest := []) (wc := [(xf, c2 (.ref xs) (.ref xp) (.ref xq) f), (xp, c1 ep), (xq, c1 eq), (xs, c5 st)]) (wr := []) ⟨hx, hb, hml, hown, hts⟩ (k2_hasFlame l D cI cJ xf xp xq xs f ep eq st) (cwV 0 hts gX2_sequenceOff_X2_hasFlame rfl rfl rfl (by decide +kernel) ⟨Nat.le_of_ble_eq_true rfl, Nat.le_of_ble_eq_true rfl⟩) hK hN hP hD hS hA [0, 1, 2, 3] [] rfl rfl (by decide) (by decide) (by decide) 0 (ci := 2) rfl rfl rfl rfl hl.1 rfl (Nat.le_of_ble_eq_true rfl) dX2_sequenceOff_1 ⟨Nat.le_of_ble_eq_true rfl, Nat.le_of_ble_eq_true rfl⟩ (fun r2 u1 H locs hw hP hD hS => ?_)
  have hr2 : r2 = (s2_hasFlame f ep eq st) := hw
  have hP : va_P D vwCl [(xf, c2 (.ref xs) (.ref xp) (.ref xq) f), (xp, c1 ep), (xq, c1 eq), (xs, c5 st)] H := hP
  have hD : va_D A [(xf, c2 (.ref xs) (.ref xp) (.ref xq) f), (xp, c1 ep), (xq, c1 eq), (xs, c5 st)] := hD
  refine lv_if_eq (tgt := 13) hx hb dX2_sequenceOff_4 (by decide) (fun z3 => ?_) (fun z3 => ?_)
  · refine lv_iload_n hx hb dX2_sequenceOff_13 rfl (lv_at hl 1 rfl) ?_
    refine lv_iconst (v := 1) hx hb dX2_sequenceOff_14 (by decide) ?_
    refine cw_cSNi (As := [.int a1, .int 1]) (rest := []) (wc := []) (wr := [(xf, c2 (.ref xs) (.ref xp) (.ref xq) f), (xp, c1 ep), (xq, c1 eq), (xs, c5 st)]) ⟨hx, hb, hml, hown, hts⟩ (k6_isOn l D cI cJ a1 1) (va_cnB 2 hts gX2_sequenceOff_X6_isOn_n65 rfl rfl rfl ln65 liRX6 (by decide +kernel) ⟨Nat.le_of_ble_eq_true rfl, Nat.le_of_ble_eq_true rfl⟩) ls65 hK hN hP hD hS hA [] [0, 1, 2, 3] rfl rfl (by decide) (by decide) (by decide) rfl hl.1 rfl (Nat.le_of_ble_eq_true rfl) dX2_sequenceOff_15 ⟨Nat.le_of_ble_eq_true rfl, Nat.le_of_ble_eq_true rfl⟩ (fun r5 u4 H locs hw hP hD hS => ?_)
    have hr5 : r5 = (s6_isOn a1 1) := hw
    have hP : va_P D vwCl [(xf, c2 (.ref xs) (.ref xp) (.ref xq) f), (xp, c1 ep), (xq, c1 eq), (xs, c5 st)] H := hP
    have hD : va_D A [(xf, c2 (.ref xs) (.ref xp) (.ref xq) f), (xp, c1 ep), (xq, c1 eq), (xs, c5 st)] := hD
    have J11 : ∀ (w12 : Int32), w12 = (if r5 = 0 then 0 else (if ((s2_begin f 1 0).1) = 0 then 0 else 1)) → ∀ (w13 : Nat → Int32), w13 = (if r5 = 0 then f else ((s2_begin f 1 0).2)) → ∀ (H : Heap) (locs : List Loc), va_P D vwCl [(xf, c2 (.ref xs) (.ref xp) (.ref xq) w13), (xp, c1 ep), (xq, c1 eq), (xs, c5 st)] H → va_D A [(xf, c2 (.ref xs) (.ref xp) (.ref xq) w13), (xp, c1 ep), (xq, c1 eq), (xs, c5 st)] → va_S A s.heap H locs → W p l e (cw_rm 3) s m args below meth c H locs 0 0 (Q) (F0 m 35 ls [.int w12]) := by
      intro w12 hw12 w13 hw13 H locs hP hD hS
      have hsp : (s2_sequenceOff f ep eq st a1) = ((w12, w13) : Int32 × (Nat → Int32)) := by simp only [s2_sequenceOff, ← hr2, ← hr5, ← hw12, ← hw13, if_pos z3]
      exact hret _ _ _ _ _ _ _ _ hP hD hS dX2_sequenceOff_35 (cw_b01 (by (try simp only [hr5, hw12]); (repeat' split) <;> first | exact Or.inl rfl | exact Or.inr rfl | assumption | exact z2_begin _ _ _ | exact z6_isOn _ _)) ⟨(), (by rw [hsp]), (by rw [hsp])⟩ (Nat.le_of_ble_eq_true rfl) (Nat.le_of_ble_eq_true rfl)
    refine lv_if_eq (tgt := 34) hx hb dX2_sequenceOff_18 (by decide) (fun z6 => ?_) (fun z6 => ?_)
    · refine lv_iconst (v := 0) hx hb dX2_sequenceOff_34 (by decide) ?_
      exact J11 0 (by simp only [if_pos z6]) f (by simp only [if_pos z6]) _ _ hP hD hS
    · refine lv_aload_n hx hb dX2_sequenceOff_21 rfl (lv_at hl 0 rfl) ?_
      refine lv_iconst (v := 1) hx hb dX2_sequenceOff_22 (by decide) ?_
      refine lv_iconst (v := 0) hx hb dX2_sequenceOff_23 (by decide) ?_
      refine cw_cVi (As := [.int 1, .int 0]) (rest := []) (wc := [(xf, c2 (.ref xs) (.ref xp) (.ref xq) f)]) (wr := [(xp, c1 ep), (xq, c1 eq), (xs, c5 st)]) ⟨hx, hb, hml, hown, hts⟩ (k2_begin l D cI cJ xf (.ref xs) (.ref xp) (.ref xq) f 1 0) (cwV 2 hts gX2_sequenceOff_X2_begin rfl rfl rfl (by decide +kernel) ⟨Nat.le_of_ble_eq_true rfl, Nat.le_of_ble_eq_true rfl⟩) hK hN hP hD hS hA [0] [1, 2, 3] rfl rfl (by decide) (by decide) (by decide) 0 (ci := 2) rfl rfl rfl rfl hl.1 rfl (Nat.le_of_ble_eq_true rfl) dX2_sequenceOff_24 ⟨Nat.le_of_ble_eq_true rfl, Nat.le_of_ble_eq_true rfl⟩ (fun r8 u7 H locs hw hP hD hS => ?_)
      have hr8 : r8 = ((s2_begin f 1 0).1) := hw
      obtain ⟨v9, hv9⟩ : ∃ z : Nat → Int32, z = ((s2_begin f 1 0).2) := ⟨_, rfl⟩
      have hP : va_P D vwCl [(xp, c1 ep), (xq, c1 eq), (xs, c5 st), (xf, c2 (.ref xs) (.ref xp) (.ref xq) v9)] H := by rw [hv9]; exact hP
      have hD : va_D A [(xp, c1 ep), (xq, c1 eq), (xs, c5 st), (xf, c2 (.ref xs) (.ref xp) (.ref xq) v9)] := by rw [hv9]; exact hD
      refine lv_if_eq (tgt := 34) hx hb dX2_sequenceOff_27 (by decide) (fun z10 => ?_) (fun z10 => ?_)
      · refine lv_iconst (v := 0) hx hb dX2_sequenceOff_34 (by decide) ?_
        exact J11 0 (by simp only [← hv9, ← hr8, if_neg z6, if_pos z10]) v9 (by simp only [← hv9, ← hr8, if_neg z6, if_pos z10]) _ _ (hP.sub [3, 0, 1, 2] rfl) (hD.sub [3, 0, 1, 2] (by decide) rfl) hS
      · refine lv_iconst (v := 1) hx hb dX2_sequenceOff_30 (by decide) ?_
        refine lv_goto (tgt := 35) hx hb dX2_sequenceOff_31 (by decide) ?_
        exact J11 1 (by simp only [← hv9, ← hr8, if_neg z6, if_neg z10]) v9 (by simp only [← hv9, ← hr8, if_neg z6, if_neg z10]) _ _ (hP.sub [3, 0, 1, 2] rfl) (hD.sub [3, 0, 1, 2] (by decide) rfl) hS
  · refine lv_aload_n hx hb dX2_sequenceOff_7 rfl (lv_at hl 0 rfl) ?_
    refine lv_iconst (v := 3) hx hb dX2_sequenceOff_8 (by decide) ?_
    refine cw_cVi (As := [.int 3]) (rest := []) (wc := [(xf, c2 (.ref xs) (.ref xp) (.ref xq) f)]) (wr := [(xp, c1 ep), (xq, c1 eq), (xs, c5 st)]) ⟨hx, hb, hml, hown, hts⟩ (k2_lockOut l D cI cJ xf (.ref xs) (.ref xp) (.ref xq) f 3) (cwV 1 hts gX2_sequenceOff_X2_lockOut rfl rfl rfl (by decide +kernel) ⟨Nat.le_of_ble_eq_true rfl, Nat.le_of_ble_eq_true rfl⟩) hK hN hP hD hS hA [0] [1, 2, 3] rfl rfl (by decide) (by decide) (by decide) 0 (ci := 2) rfl rfl rfl rfl hl.1 rfl (Nat.le_of_ble_eq_true rfl) dX2_sequenceOff_9 ⟨Nat.le_of_ble_eq_true rfl, Nat.le_of_ble_eq_true rfl⟩ (fun r15 u14 H locs hw hP hD hS => ?_)
    have hr15 : r15 = ((s2_lockOut f 3).1) := hw
    obtain ⟨v16, hv16⟩ : ∃ z : Nat → Int32, z = ((s2_lockOut f 3).2) := ⟨_, rfl⟩
    have hP : va_P D vwCl [(xp, c1 ep), (xq, c1 eq), (xs, c5 st), (xf, c2 (.ref xs) (.ref xp) (.ref xq) v16)] H := by rw [hv16]; exact hP
    have hD : va_D A [(xp, c1 ep), (xq, c1 eq), (xs, c5 st), (xf, c2 (.ref xs) (.ref xp) (.ref xq) v16)] := by rw [hv16]; exact hD
    have hsp : (s2_sequenceOff f ep eq st a1) = ((r15, v16) : Int32 × (Nat → Int32)) := by simp only [s2_sequenceOff, ← hr2, ← hv16, ← hr15, if_neg z3]
    exact hret _ _ _ _ _ _ _ _ (hP.sub (ws' := [(xf, c2 (.ref xs) (.ref xp) (.ref xq) v16), (xp, c1 ep), (xq, c1 eq), (xs, c5 st)]) [3, 0, 1, 2] rfl) (hD.sub (ws' := [(xf, c2 (.ref xs) (.ref xp) (.ref xq) v16), (xp, c1 ep), (xq, c1 eq), (xs, c5 st)]) [3, 0, 1, 2] (by decide) rfl) hS dX2_sequenceOff_12 (cw_b01 (by (try simp only [hr15]); (repeat' split) <;> first | exact Or.inl rfl | exact Or.inr rfl | assumption | exact z2_lockOut _ _)) ⟨(), (by rw [hsp]), (by rw [hsp])⟩ (Nat.le_of_ble_eq_true rfl) (Nat.le_of_ble_eq_true rfl)

set_option maxHeartbeats 4000000 in
set_option maxRecDepth 100000 in
theorem k2_sequencePurge (l : Launch) (D : va_G) (cI cJ : ClassId) (xf xp xq xs : Nat) (f : Nat → Int32) (ep : Nat → Int32) (eq : Nat → Int32) (st : Nat → Int32) (a1 : Int32) : cw_Mi l yX2_sequencePurge wsX2_sequencePurge (cw_rm 3) D [(cI, .int)] [.ref xf, .int a1] [(xf, c2 (.ref xs) (.ref xp) (.ref xq) f), (xp, c1 ep), (xq, c1 eq), (xs, c5 st)] 0 0 (fun r (_ : Unit) => r = (s2_sequencePurge f ep eq st a1).1) (fun _ : Unit => [(xf, c2 (.ref xs) (.ref xp) (.ref xq) (s2_sequencePurge f ep eq st a1).2), (xp, c1 ep), (xq, c1 eq), (xs, c5 st)]) := by
  refine cw_ofi (cc := cX2_sequencePurge) (maxL := 2) (ret := (some .boolean)) (by decide) rfl (Nat.le_of_ble_eq_true rfl) rfl ?_
  intro p e s m args below meth c A ls Q hin0 hret
  obtain ⟨hx, hb, hr, hml, hts, hown, hlocks, hin, hP, hK, hD, hN, hA, hl⟩ := hin0
  have hS : va_S A s.heap s.heap [] := va_S.rf
  have hl : lv_has ls 2 [(0, .ref xf), (1, .int a1)] := hl
  have ln65 : va_Nw (.methodLinkNest RX2 65 yX6_isOn "Burnerline") s := hN _ (by decide +kernel)
  have ls65 := hts (.static yX6_isOn) (by decide +kernel)
  have liRX6 := hts (.initialized RX6) (by decide +kernel)
  have lf39 := hts (.fieldLink RX2 39 "Burnerline$Furnace" "air" "I") (by decide +kernel)
  have i2 : ∀ w ∈ wsX20, w ∈ wsX2_sequencePurge := by decide +kernel
  have lf45 := hts (.fieldLink RX2 45 "Burnerline$Furnace" "purged" "I") (by decide +kernel)
  have lf21 := hts (.fieldLink RX2 21 "Burnerline$Furnace" "settings" "LBurnerline$Settings;") (by decide +kernel)
  have lf148 := hN.use (args := args) (w := .fieldLinkNest "Burnerline$Furnace" 148 "Burnerline$Settings" "volume" "I" "Burnerline") (by decide +kernel)
  have i5 : ∀ w ∈ wsX50, w ∈ wsX2_sequencePurge := by decide +kernel
  have lf36 := hts (.fieldLink RX2 36 "Burnerline$Furnace" "time" "I") (by decide +kernel)
  have lf151 := hN.use (args := args) (w := .fieldLinkNest "Burnerline$Furnace" 151 "Burnerline$Settings" "longestPurge" "I" "Burnerline") (by decide +kernel)
  refine lv_iload_n hx hb dX2_sequencePurge_0 rfl (lv_at hl 1 rfl) ?_
  refine lv_iconst (v := 1) hx hb dX2_sequencePurge_1 (by decide) ?_
  refine cw_cSNi (As := [.int a1, .int 1]) (rest := []) (wc := []) (wr := [(xf, c2 (.ref xs) (.ref xp) (.ref xq) f), (xp, c1 ep), (xq, c1 eq), (xs, c5 st)]) ⟨hx, hb, hml, hown, hts⟩ (k6_isOn l D cI cJ a1 1) (va_cnB 2 hts gX2_sequencePurge_X6_isOn_n65 rfl rfl rfl ln65 liRX6 (by decide +kernel) ⟨Nat.le_of_ble_eq_true rfl, Nat.le_of_ble_eq_true rfl⟩) ls65 hK hN hP hD hS hA [] [0, 1, 2, 3] rfl rfl (by decide) (by decide) (by decide) rfl hl.1 rfl (Nat.le_of_ble_eq_true rfl) dX2_sequencePurge_2 ⟨Nat.le_of_ble_eq_true rfl, Nat.le_of_ble_eq_true rfl⟩ (fun r2 u1 H locs hw hP hD hS => ?_)
  have hr2 : r2 = (s6_isOn a1 1) := hw
  have hP : va_P D vwCl [(xf, c2 (.ref xs) (.ref xp) (.ref xq) f), (xp, c1 ep), (xq, c1 eq), (xs, c5 st)] H := hP
  have hD : va_D A [(xf, c2 (.ref xs) (.ref xp) (.ref xq) f), (xp, c1 ep), (xq, c1 eq), (xs, c5 st)] := hD
  refine lv_if_ne (tgt := 15) hx hb dX2_sequencePurge_5 (by decide) (fun z3 => ?_) (fun z3 => ?_)
  · refine lv_aload_n hx hb dX2_sequencePurge_15 rfl (lv_at hl 0 rfl) ?_
    refine cw_cVi (As := []) (rest := []) (wc := [(xf, c2 (.ref xs) (.ref xp) (.ref xq) f), (xp, c1 ep), (xq, c1 eq), (xs, c5 st)]) (wr := []) ⟨hx, hb, hml, hown, hts⟩ (k2_hasFlame l D cI cJ xf xp xq xs f ep eq st) (cwV 0 hts gX2_sequencePurge_X2_hasFlame rfl rfl rfl (by decide +kernel) ⟨Nat.le_of_ble_eq_true rfl, Nat.le_of_ble_eq_true rfl⟩) hK hN hP hD hS hA [0, 1, 2, 3] [] rfl rfl (by decide) (by decide) (by decide) 0 (ci := 2) rfl rfl rfl rfl hl.1 rfl (Nat.le_of_ble_eq_true rfl) dX2_sequencePurge_16 ⟨Nat.le_of_ble_eq_true rfl, Nat.le_of_ble_eq_true rfl⟩ (fun r5 u4 H locs hw hP hD hS => ?_)
    have hr5 : r5 = (s2_hasFlame f ep eq st) := hw
    have hP : va_P D vwCl [(xf, c2 (.ref xs) (.ref xp) (.ref xq) f), (xp, c1 ep), (xq, c1 eq), (xs, c5 st)] H := hP
    have hD : va_D A [(xf, c2 (.ref xs) (.ref xp) (.ref xq) f), (xp, c1 ep), (xq, c1 eq), (xs, c5 st)] := hD
    refine lv_if_eq (tgt := 28) hx hb dX2_sequencePurge_19 (by decide) (fun z6 => ?_) (fun z6 => ?_)
    · refine lv_aload_n hx hb dX2_sequencePurge_28 rfl (lv_at hl 0 rfl) ?_
      refine lv_iload_n hx hb dX2_sequencePurge_29 rfl (lv_at hl 1 rfl) ?_
      refine lv_iconst (v := 2) hx hb dX2_sequencePurge_30 (by decide) ?_
      refine cw_cSNi (As := [.int a1, .int 2]) (rest := [.ref xf]) (wc := []) (wr := [(xf, c2 (.ref xs) (.ref xp) (.ref xq) f), (xp, c1 ep), (xq, c1 eq), (xs, c5 st)]) ⟨hx, hb, hml, hown, hts⟩ (k6_isOn l D cI cJ a1 2) (va_cnB 2 hts gX2_sequencePurge_X6_isOn_n65 rfl rfl rfl ln65 liRX6 (by decide +kernel) ⟨Nat.le_of_ble_eq_true rfl, Nat.le_of_ble_eq_true rfl⟩) ls65 hK hN hP hD hS hA [] [0, 1, 2, 3] rfl rfl (by decide) (by decide) (by decide) rfl hl.1 rfl (Nat.le_of_ble_eq_true rfl) dX2_sequencePurge_31 ⟨Nat.le_of_ble_eq_true rfl, Nat.le_of_ble_eq_true rfl⟩ (fun r8 u7 H locs hw hP hD hS => ?_)
      have hr8 : r8 = (s6_isOn a1 2) := hw
      have hP : va_P D vwCl [(xf, c2 (.ref xs) (.ref xp) (.ref xq) f), (xp, c1 ep), (xq, c1 eq), (xs, c5 st)] H := hP
      have hD : va_D A [(xf, c2 (.ref xs) (.ref xp) (.ref xq) f), (xp, c1 ep), (xq, c1 eq), (xs, c5 st)] := hD
      have J11 : ∀ (w12 : Int32), w12 = (if r8 = 0 then 0 else (if (f 6) < 70 then 0 else ((f 8) + (f 6)))) → W p l e (cw_rm 3) s m args below meth c H locs 0 0 (Q) (F0 m 59 ls [.int w12, .ref xf]) := by
        intro w12 hw12
        refine va_put (D := D) (ci := 2) (v := .int w12) (ty := .int) (C := RX2) (T := TX2) (N := 11) hx hb hts i2 tyX2 tyX2_ok nmX2 hown hK hP hD hS 0 rfl rfl 8 (by decide) lf45 (fun _ h9 => h9) rfl (by decide +kernel) rfl rfl (Nat.le_of_ble_eq_true rfl) dX2_sequencePurge_59 (fun H locs hP hD hS => ?_)
        have hP : va_P D vwCl [(xf, c2 (.ref xs) (.ref xp) (.ref xq) (upd f 8 w12)), (xp, c1 ep), (xq, c1 eq), (xs, c5 st)] H := (congrArg (fun z9 => va_P D vwCl [(xf, .inr (2, z9)), (xp, c1 ep), (xq, c1 eq), (xs, c5 st)] H) (cs2_8 (.ref xs) (.ref xp) (.ref xq) f w12)).mp hP
        have hD : va_D A [(xf, c2 (.ref xs) (.ref xp) (.ref xq) (upd f 8 w12)), (xp, c1 ep), (xq, c1 eq), (xs, c5 st)] := (congrArg (fun z9 => va_D A [(xf, .inr (2, z9)), (xp, c1 ep), (xq, c1 eq), (xs, c5 st)]) (cs2_8 (.ref xs) (.ref xp) (.ref xq) f w12)).mp hD
        refine lv_aload_n hx hb dX2_sequencePurge_62 rfl (lv_at hl 0 rfl) ?_
        refine va_get (D := D) (ci := 2) (v := .int ((upd f 8 w12) 8)) (C := RX2) (T := TX2) (N := 11) hx hb hts i2 hown hK hP 0 rfl rfl 8 (by decide) lf45 (fun _ h9 => h9) rfl dX2_sequencePurge_63 ?_
        refine cw_topi (y := w12) (cw_upd0 _ _ _) ?_
        refine lv_iconst (v := 4) hx hb dX2_sequencePurge_66 (by decide) ?_
        refine lv_aload_n hx hb dX2_sequencePurge_67 rfl (lv_at hl 0 rfl) ?_
        refine va_get (D := D) (ci := 2) (v := .ref xs) (C := RX2) (T := TX2) (N := 11) hx hb hts i2 hown hK hP 0 rfl rfl 0 (by decide) lf21 (fun _ h9 => h9) rfl dX2_sequencePurge_68 ?_
        refine va_getN (D := D) (ci := 5) (v := .int (st 8)) (C := RX5) (T := TX5) (N := 11) hx hb hts i5 hown hK hP 3 rfl rfl 8 (by decide) lf148 (fun _ h9 => h9) rfl dX2_sequencePurge_71 ?_
        refine lv_imul hx hb dX2_sequencePurge_74 ?_
        refine lv_icmp_lt (tgt := 85) hx hb dX2_sequencePurge_75 (by decide) (fun z13 => ?_) (fun z13 => ?_)
        · refine lv_aload_n hx hb dX2_sequencePurge_85 rfl (lv_at hl 0 rfl) ?_
          refine va_get (D := D) (ci := 2) (v := .int ((upd f 8 w12) 5)) (C := RX2) (T := TX2) (N := 11) hx hb hts i2 hown hK hP 0 rfl rfl 5 (by decide) lf36 (fun _ h9 => h9) rfl dX2_sequencePurge_86 ?_
          refine cw_topi (y := (f 5)) (cw_updn _ _ (by decide)) ?_
          refine lv_aload_n hx hb dX2_sequencePurge_89 rfl (lv_at hl 0 rfl) ?_
          refine va_get (D := D) (ci := 2) (v := .ref xs) (C := RX2) (T := TX2) (N := 11) hx hb hts i2 hown hK hP 0 rfl rfl 0 (by decide) lf21 (fun _ h9 => h9) rfl dX2_sequencePurge_90 ?_
          refine va_getN (D := D) (ci := 5) (v := .int (st 1)) (C := RX5) (T := TX5) (N := 11) hx hb hts i5 hown hK hP 3 rfl rfl 1 (by decide) lf151 (fun _ h9 => h9) rfl dX2_sequencePurge_93 ?_
          have J19 : ∀ (w20 : Int32), w20 = (if (f 5) < (st 1) then 0 else (if ((s2_lockOut (upd f 8 w12) 7).1) = 0 then 0 else 1)) → ∀ (w21 : Nat → Int32), w21 = (if (f 5) < (st 1) then (upd f 8 w12) else ((s2_lockOut (upd f 8 w12) 7).2)) → ∀ (H : Heap) (locs : List Loc), va_P D vwCl [(xf, c2 (.ref xs) (.ref xp) (.ref xq) w21), (xp, c1 ep), (xq, c1 eq), (xs, c5 st)] H → va_D A [(xf, c2 (.ref xs) (.ref xp) (.ref xq) w21), (xp, c1 ep), (xq, c1 eq), (xs, c5 st)] → va_S A s.heap H locs → W p l e (cw_rm 3) s m args below meth c H locs 0 0 (Q) (F0 m 113 ls [.int w20]) := by
            intro w20 hw20 w21 hw21 H locs hP hD hS
            have hsp : (s2_sequencePurge f ep eq st a1) = ((w20, w21) : Int32 × (Nat → Int32)) := by simp only [s2_sequencePurge, ← hr2, ← hr5, ← hr8, ← hw12, ← hw20, ← hw21, if_neg z3, if_pos z6, if_pos z13]
            exact hret _ _ _ _ _ _ _ _ hP hD hS dX2_sequencePurge_113 (cw_b01 (by (try simp only [hr8, hw12, hw20]); (repeat' split) <;> first | exact Or.inl rfl | exact Or.inr rfl | assumption | exact z2_lockOut _ _ | exact z6_isOn _ _)) ⟨(), (by rw [hsp]), (by rw [hsp])⟩ (Nat.le_of_ble_eq_true rfl) (Nat.le_of_ble_eq_true rfl)
          refine lv_icmp_lt (tgt := 112) hx hb dX2_sequencePurge_96 (by decide) (fun z14 => ?_) (fun z14 => ?_)
          · refine lv_iconst (v := 0) hx hb dX2_sequencePurge_112 (by decide) ?_
            exact J19 0 (by simp only [if_pos z14]) (upd f 8 w12) (by simp only [if_pos z14]) _ _ hP hD hS
          · refine lv_aload_n hx hb dX2_sequencePurge_99 rfl (lv_at hl 0 rfl) ?_
            refine lv_bipush (v := 7) hx hb dX2_sequencePurge_100 (by decide) ?_
            refine cw_cVi (As := [.int 7]) (rest := []) (wc := [(xf, c2 (.ref xs) (.ref xp) (.ref xq) (upd f 8 w12))]) (wr := [(xp, c1 ep), (xq, c1 eq), (xs, c5 st)]) ⟨hx, hb, hml, hown, hts⟩ (k2_lockOut l D cI cJ xf (.ref xs) (.ref xp) (.ref xq) (upd f 8 w12) 7) (cwV 1 hts gX2_sequencePurge_X2_lockOut rfl rfl rfl (by decide +kernel) ⟨Nat.le_of_ble_eq_true rfl, Nat.le_of_ble_eq_true rfl⟩) hK hN hP hD hS hA [0] [1, 2, 3] rfl rfl (by decide) (by decide) (by decide) 0 (ci := 2) rfl rfl rfl rfl hl.1 rfl (Nat.le_of_ble_eq_true rfl) dX2_sequencePurge_102 ⟨Nat.le_of_ble_eq_true rfl, Nat.le_of_ble_eq_true rfl⟩ (fun r16 u15 H locs hw hP hD hS => ?_)
            have hr16 : r16 = ((s2_lockOut (upd f 8 w12) 7).1) := hw
            obtain ⟨v17, hv17⟩ : ∃ z : Nat → Int32, z = ((s2_lockOut (upd f 8 w12) 7).2) := ⟨_, rfl⟩
            have hP : va_P D vwCl [(xp, c1 ep), (xq, c1 eq), (xs, c5 st), (xf, c2 (.ref xs) (.ref xp) (.ref xq) v17)] H := by rw [hv17]; exact hP
            have hD : va_D A [(xp, c1 ep), (xq, c1 eq), (xs, c5 st), (xf, c2 (.ref xs) (.ref xp) (.ref xq) v17)] := by rw [hv17]; exact hD
            refine lv_if_eq (tgt := 112) hx hb dX2_sequencePurge_105 (by decide) (fun z18 => ?_) (fun z18 => ?_)
            · refine lv_iconst (v := 0) hx hb dX2_sequencePurge_112 (by decide) ?_
              exact J19 0 (by simp only [← hv17, ← hr16, if_neg z14, if_pos z18]) v17 (by simp only [← hv17, ← hr16, if_neg z14, if_pos z18]) _ _ (hP.sub [3, 0, 1, 2] rfl) (hD.sub [3, 0, 1, 2] (by decide) rfl) hS
            · refine lv_iconst (v := 1) hx hb dX2_sequencePurge_108 (by decide) ?_
              refine lv_goto (tgt := 113) hx hb dX2_sequencePurge_109 (by decide) ?_
              exact J19 1 (by simp only [← hv17, ← hr16, if_neg z14, if_neg z18]) v17 (by simp only [← hv17, ← hr16, if_neg z14, if_neg z18]) _ _ (hP.sub [3, 0, 1, 2] rfl) (hD.sub [3, 0, 1, 2] (by decide) rfl) hS
        · refine lv_aload_n hx hb dX2_sequencePurge_78 rfl (lv_at hl 0 rfl) ?_
          refine lv_iconst (v := 2) hx hb dX2_sequencePurge_79 (by decide) ?_
          refine lv_iconst (v := 0) hx hb dX2_sequencePurge_80 (by decide) ?_
          refine cw_cVi (As := [.int 2, .int 0]) (rest := []) (wc := [(xf, c2 (.ref xs) (.ref xp) (.ref xq) (upd f 8 w12))]) (wr := [(xp, c1 ep), (xq, c1 eq), (xs, c5 st)]) ⟨hx, hb, hml, hown, hts⟩ (k2_begin l D cI cJ xf (.ref xs) (.ref xp) (.ref xq) (upd f 8 w12) 2 0) (cwV 2 hts gX2_sequencePurge_X2_begin rfl rfl rfl (by decide +kernel) ⟨Nat.le_of_ble_eq_true rfl, Nat.le_of_ble_eq_true rfl⟩) hK hN hP hD hS hA [0] [1, 2, 3] rfl rfl (by decide) (by decide) (by decide) 0 (ci := 2) rfl rfl rfl rfl hl.1 rfl (Nat.le_of_ble_eq_true rfl) dX2_sequencePurge_81 ⟨Nat.le_of_ble_eq_true rfl, Nat.le_of_ble_eq_true rfl⟩ (fun r23 u22 H locs hw hP hD hS => ?_)
          have hr23 : r23 = ((s2_begin (upd f 8 w12) 2 0).1) := hw
          obtain ⟨v24, hv24⟩ : ∃ z : Nat → Int32, z = ((s2_begin (upd f 8 w12) 2 0).2) := ⟨_, rfl⟩
          have hP : va_P D vwCl [(xp, c1 ep), (xq, c1 eq), (xs, c5 st), (xf, c2 (.ref xs) (.ref xp) (.ref xq) v24)] H := by rw [hv24]; exact hP
          have hD : va_D A [(xp, c1 ep), (xq, c1 eq), (xs, c5 st), (xf, c2 (.ref xs) (.ref xp) (.ref xq) v24)] := by rw [hv24]; exact hD
          have hsp : (s2_sequencePurge f ep eq st a1) = ((r23, v24) : Int32 × (Nat → Int32)) := by simp only [s2_sequencePurge, ← hr2, ← hr5, ← hr8, ← hw12, ← hv24, ← hr23, if_neg z3, if_pos z6, if_neg z13]
          exact hret _ _ _ _ _ _ _ _ (hP.sub (ws' := [(xf, c2 (.ref xs) (.ref xp) (.ref xq) v24), (xp, c1 ep), (xq, c1 eq), (xs, c5 st)]) [3, 0, 1, 2] rfl) (hD.sub (ws' := [(xf, c2 (.ref xs) (.ref xp) (.ref xq) v24), (xp, c1 ep), (xq, c1 eq), (xs, c5 st)]) [3, 0, 1, 2] (by decide) rfl) hS dX2_sequencePurge_84 (cw_b01 (by (try simp only [hr8, hw12, hr23]); (repeat' split) <;> first | exact Or.inl rfl | exact Or.inr rfl | assumption | exact z2_begin _ _ _ | exact z6_isOn _ _)) ⟨(), (by rw [hsp]), (by rw [hsp])⟩ (Nat.le_of_ble_eq_true rfl) (Nat.le_of_ble_eq_true rfl)
      refine lv_if_eq (tgt := 58) hx hb dX2_sequencePurge_34 (by decide) (fun z9 => ?_) (fun z9 => ?_)
      · refine lv_iconst (v := 0) hx hb dX2_sequencePurge_58 (by decide) ?_
        exact J11 0 (by simp only [if_pos z9])
      · refine lv_aload_n hx hb dX2_sequencePurge_37 rfl (lv_at hl 0 rfl) ?_
        refine va_get (D := D) (ci := 2) (v := .int (f 6)) (C := RX2) (T := TX2) (N := 11) hx hb hts i2 hown hK hP 0 rfl rfl 6 (by decide) lf39 (fun _ h9 => h9) rfl dX2_sequencePurge_38 ?_
        refine lv_bipush (v := 70) hx hb dX2_sequencePurge_41 (by decide) ?_
        refine lv_icmp_lt (tgt := 58) hx hb dX2_sequencePurge_43 (by decide) (fun z10 => ?_) (fun z10 => ?_)
        · refine lv_iconst (v := 0) hx hb dX2_sequencePurge_58 (by decide) ?_
          exact J11 0 (by simp only [if_neg z9, if_pos z10])
        · refine lv_aload_n hx hb dX2_sequencePurge_46 rfl (lv_at hl 0 rfl) ?_
          refine va_get (D := D) (ci := 2) (v := .int (f 8)) (C := RX2) (T := TX2) (N := 11) hx hb hts i2 hown hK hP 0 rfl rfl 8 (by decide) lf45 (fun _ h9 => h9) rfl dX2_sequencePurge_47 ?_
          refine lv_aload_n hx hb dX2_sequencePurge_50 rfl (lv_at hl 0 rfl) ?_
          refine va_get (D := D) (ci := 2) (v := .int (f 6)) (C := RX2) (T := TX2) (N := 11) hx hb hts i2 hown hK hP 0 rfl rfl 6 (by decide) lf39 (fun _ h9 => h9) rfl dX2_sequencePurge_51 ?_
          refine lv_iadd hx hb dX2_sequencePurge_54 ?_
          refine lv_goto (tgt := 59) hx hb dX2_sequencePurge_55 (by decide) ?_
          exact J11 ((f 8) + (f 6)) (by simp only [if_neg z9, if_neg z10])
    · refine lv_aload_n hx hb dX2_sequencePurge_22 rfl (lv_at hl 0 rfl) ?_
      refine lv_iconst (v := 3) hx hb dX2_sequencePurge_23 (by decide) ?_
      refine cw_cVi (As := [.int 3]) (rest := []) (wc := [(xf, c2 (.ref xs) (.ref xp) (.ref xq) f)]) (wr := [(xp, c1 ep), (xq, c1 eq), (xs, c5 st)]) ⟨hx, hb, hml, hown, hts⟩ (k2_lockOut l D cI cJ xf (.ref xs) (.ref xp) (.ref xq) f 3) (cwV 1 hts gX2_sequencePurge_X2_lockOut rfl rfl rfl (by decide +kernel) ⟨Nat.le_of_ble_eq_true rfl, Nat.le_of_ble_eq_true rfl⟩) hK hN hP hD hS hA [0] [1, 2, 3] rfl rfl (by decide) (by decide) (by decide) 0 (ci := 2) rfl rfl rfl rfl hl.1 rfl (Nat.le_of_ble_eq_true rfl) dX2_sequencePurge_24 ⟨Nat.le_of_ble_eq_true rfl, Nat.le_of_ble_eq_true rfl⟩ (fun r26 u25 H locs hw hP hD hS => ?_)
      have hr26 : r26 = ((s2_lockOut f 3).1) := hw
      obtain ⟨v27, hv27⟩ : ∃ z : Nat → Int32, z = ((s2_lockOut f 3).2) := ⟨_, rfl⟩
      have hP : va_P D vwCl [(xp, c1 ep), (xq, c1 eq), (xs, c5 st), (xf, c2 (.ref xs) (.ref xp) (.ref xq) v27)] H := by rw [hv27]; exact hP
      have hD : va_D A [(xp, c1 ep), (xq, c1 eq), (xs, c5 st), (xf, c2 (.ref xs) (.ref xp) (.ref xq) v27)] := by rw [hv27]; exact hD
      have hsp : (s2_sequencePurge f ep eq st a1) = ((r26, v27) : Int32 × (Nat → Int32)) := by simp only [s2_sequencePurge, ← hr2, ← hr5, ← hv27, ← hr26, if_neg z3, if_neg z6]
      exact hret _ _ _ _ _ _ _ _ (hP.sub (ws' := [(xf, c2 (.ref xs) (.ref xp) (.ref xq) v27), (xp, c1 ep), (xq, c1 eq), (xs, c5 st)]) [3, 0, 1, 2] rfl) (hD.sub (ws' := [(xf, c2 (.ref xs) (.ref xp) (.ref xq) v27), (xp, c1 ep), (xq, c1 eq), (xs, c5 st)]) [3, 0, 1, 2] (by decide) rfl) hS dX2_sequencePurge_27 (cw_b01 (by (try simp only [hr26]); (repeat' split) <;> first | exact Or.inl rfl | exact Or.inr rfl | assumption | exact z2_lockOut _ _)) ⟨(), (by rw [hsp]), (by rw [hsp])⟩ (Nat.le_of_ble_eq_true rfl) (Nat.le_of_ble_eq_true rfl)
  · refine lv_aload_n hx hb dX2_sequencePurge_8 rfl (lv_at hl 0 rfl) ?_
    refine lv_iconst (v := 0) hx hb dX2_sequencePurge_9 (by decide) ?_
    refine lv_iconst (v := 0) hx hb dX2_sequencePurge_10 (by decide) ?_
    refine cw_cVi (As := [.int 0, .int 0]) (rest := []) (wc := [(xf, c2 (.ref xs) (.ref xp) (.ref xq) f)]) (wr := [(xp, c1 ep), (xq, c1 eq), (xs, c5 st)]) ⟨hx, hb, hml, hown, hts⟩ (k2_begin l D cI cJ xf (.ref xs) (.ref xp) (.ref xq) f 0 0) (cwV 2 hts gX2_sequencePurge_X2_begin rfl rfl rfl (by decide +kernel) ⟨Nat.le_of_ble_eq_true rfl, Nat.le_of_ble_eq_true rfl⟩) hK hN hP hD hS hA [0] [1, 2, 3] rfl rfl (by decide) (by decide) (by decide) 0 (ci := 2) rfl rfl rfl rfl hl.1 rfl (Nat.le_of_ble_eq_true rfl) dX2_sequencePurge_11 ⟨Nat.le_of_ble_eq_true rfl, Nat.le_of_ble_eq_true rfl⟩ (fun r29 u28 H locs hw hP hD hS => ?_)
    have hr29 : r29 = ((s2_begin f 0 0).1) := hw
    obtain ⟨v30, hv30⟩ : ∃ z : Nat → Int32, z = ((s2_begin f 0 0).2) := ⟨_, rfl⟩
    have hP : va_P D vwCl [(xp, c1 ep), (xq, c1 eq), (xs, c5 st), (xf, c2 (.ref xs) (.ref xp) (.ref xq) v30)] H := by rw [hv30]; exact hP
    have hD : va_D A [(xp, c1 ep), (xq, c1 eq), (xs, c5 st), (xf, c2 (.ref xs) (.ref xp) (.ref xq) v30)] := by rw [hv30]; exact hD
    have hsp : (s2_sequencePurge f ep eq st a1) = ((r29, v30) : Int32 × (Nat → Int32)) := by simp only [s2_sequencePurge, ← hr2, ← hv30, ← hr29, if_pos z3]
    exact hret _ _ _ _ _ _ _ _ (hP.sub (ws' := [(xf, c2 (.ref xs) (.ref xp) (.ref xq) v30), (xp, c1 ep), (xq, c1 eq), (xs, c5 st)]) [3, 0, 1, 2] rfl) (hD.sub (ws' := [(xf, c2 (.ref xs) (.ref xp) (.ref xq) v30), (xp, c1 ep), (xq, c1 eq), (xs, c5 st)]) [3, 0, 1, 2] (by decide) rfl) hS dX2_sequencePurge_14 (cw_b01 (by (try simp only [hr29]); (repeat' split) <;> first | exact Or.inl rfl | exact Or.inr rfl | assumption | exact z2_begin _ _ _)) ⟨(), (by rw [hsp]), (by rw [hsp])⟩ (Nat.le_of_ble_eq_true rfl) (Nat.le_of_ble_eq_true rfl)

set_option maxHeartbeats 4000000 in
set_option maxRecDepth 100000 in
theorem k2_sequenceLighting (l : Launch) (D : va_G) (cI cJ : ClassId) (xf xp xq xs : Nat) (f : Nat → Int32) (ep : Nat → Int32) (eq : Nat → Int32) (st : Nat → Int32) (a1 : Int32) : cw_Mi l yX2_sequenceLighting wsX2_sequenceLighting (cw_rm 4) D [(cI, .int)] [.ref xf, .int a1] [(xf, c2 (.ref xs) (.ref xp) (.ref xq) f), (xp, c1 ep), (xq, c1 eq), (xs, c5 st)] 0 0 (fun r (_ : Unit) => r = (s2_sequenceLighting f ep eq st a1).1) (fun _ : Unit => [(xf, c2 (.ref xs) (.ref xp) (.ref xq) (s2_sequenceLighting f ep eq st a1).2), (xp, c1 ep), (xq, c1 eq), (xs, c5 st)]) := by
  refine cw_ofi (cc := cX2_sequenceLighting) (maxL := 2) (ret := (some .boolean)) (by decide) rfl (Nat.le_of_ble_eq_true rfl) rfl ?_
  intro p e s m args below meth c A ls Q hin0 hret
  obtain ⟨hx, hb, hr, hml, hts, hown, hlocks, hin, hP, hK, hD, hN, hA, hl⟩ := hin0
  have hS : va_S A s.heap s.heap [] := va_S.rf
  have hl : lv_has ls 2 [(0, .ref xf), (1, .int a1)] := hl
  have ln65 : va_Nw (.methodLinkNest RX2 65 yX6_isOn "Burnerline") s := hN _ (by decide +kernel)
  have ls65 := hts (.static yX6_isOn) (by decide +kernel)
  have liRX6 := hts (.initialized RX6) (by decide +kernel)
  have lf29 := hts (.fieldLink RX2 29 "Burnerline$Furnace" "state" "I") (by decide +kernel)
  have i2 : ∀ w ∈ wsX20, w ∈ wsX2_sequenceLighting := by decide +kernel
  refine lv_iload_n hx hb dX2_sequenceLighting_0 rfl (lv_at hl 1 rfl) ?_
  refine lv_iconst (v := 2) hx hb dX2_sequenceLighting_1 (by decide) ?_
  refine cw_cSNi (As := [.int a1, .int 2]) (rest := []) (wc := []) (wr := [(xf, c2 (.ref xs) (.ref xp) (.ref xq) f), (xp, c1 ep), (xq, c1 eq), (xs, c5 st)]) ⟨hx, hb, hml, hown, hts⟩ (k6_isOn l D cI cJ a1 2) (va_cnB 2 hts gX2_sequenceLighting_X6_isOn_n65 rfl rfl rfl ln65 liRX6 (by decide +kernel) ⟨Nat.le_of_ble_eq_true rfl, Nat.le_of_ble_eq_true rfl⟩) ls65 hK hN hP hD hS hA [] [0, 1, 2, 3] rfl rfl (by decide) (by decide) (by decide) rfl hl.1 rfl (Nat.le_of_ble_eq_true rfl) dX2_sequenceLighting_2 ⟨Nat.le_of_ble_eq_true rfl, Nat.le_of_ble_eq_true rfl⟩ (fun r2 u1 H locs hw hP hD hS => ?_)
  have hr2 : r2 = (s6_isOn a1 2) := hw
  have hP : va_P D vwCl [(xf, c2 (.ref xs) (.ref xp) (.ref xq) f), (xp, c1 ep), (xq, c1 eq), (xs, c5 st)] H := hP
  have hD : va_D A [(xf, c2 (.ref xs) (.ref xp) (.ref xq) f), (xp, c1 ep), (xq, c1 eq), (xs, c5 st)] := hD
  refine lv_if_ne (tgt := 14) hx hb dX2_sequenceLighting_5 (by decide) (fun z3 => ?_) (fun z3 => ?_)
  · refine lv_iload_n hx hb dX2_sequenceLighting_14 rfl (lv_at hl 1 rfl) ?_
    refine lv_iconst (v := 4) hx hb dX2_sequenceLighting_15 (by decide) ?_
    refine cw_cSNi (As := [.int a1, .int 4]) (rest := []) (wc := []) (wr := [(xf, c2 (.ref xs) (.ref xp) (.ref xq) f), (xp, c1 ep), (xq, c1 eq), (xs, c5 st)]) ⟨hx, hb, hml, hown, hts⟩ (k6_isOn l D cI cJ a1 4) (va_cnB 2 hts gX2_sequenceLighting_X6_isOn_n65 rfl rfl rfl ln65 liRX6 (by decide +kernel) ⟨Nat.le_of_ble_eq_true rfl, Nat.le_of_ble_eq_true rfl⟩) ls65 hK hN hP hD hS hA [] [0, 1, 2, 3] rfl rfl (by decide) (by decide) (by decide) rfl hl.1 rfl (Nat.le_of_ble_eq_true rfl) dX2_sequenceLighting_16 ⟨Nat.le_of_ble_eq_true rfl, Nat.le_of_ble_eq_true rfl⟩ (fun r5 u4 H locs hw hP hD hS => ?_)
    have hr5 : r5 = (s6_isOn a1 4) := hw
    have hP : va_P D vwCl [(xf, c2 (.ref xs) (.ref xp) (.ref xq) f), (xp, c1 ep), (xq, c1 eq), (xs, c5 st)] H := hP
    have hD : va_D A [(xf, c2 (.ref xs) (.ref xp) (.ref xq) f), (xp, c1 ep), (xq, c1 eq), (xs, c5 st)] := hD
    refine lv_if_ne (tgt := 28) hx hb dX2_sequenceLighting_19 (by decide) (fun z6 => ?_) (fun z6 => ?_)
    · refine lv_iload_n hx hb dX2_sequenceLighting_28 rfl (lv_at hl 1 rfl) ?_
      refine lv_iconst (v := 1) hx hb dX2_sequenceLighting_29 (by decide) ?_
      refine cw_cSNi (As := [.int a1, .int 1]) (rest := []) (wc := []) (wr := [(xf, c2 (.ref xs) (.ref xp) (.ref xq) f), (xp, c1 ep), (xq, c1 eq), (xs, c5 st)]) ⟨hx, hb, hml, hown, hts⟩ (k6_isOn l D cI cJ a1 1) (va_cnB 2 hts gX2_sequenceLighting_X6_isOn_n65 rfl rfl rfl ln65 liRX6 (by decide +kernel) ⟨Nat.le_of_ble_eq_true rfl, Nat.le_of_ble_eq_true rfl⟩) ls65 hK hN hP hD hS hA [] [0, 1, 2, 3] rfl rfl (by decide) (by decide) (by decide) rfl hl.1 rfl (Nat.le_of_ble_eq_true rfl) dX2_sequenceLighting_30 ⟨Nat.le_of_ble_eq_true rfl, Nat.le_of_ble_eq_true rfl⟩ (fun r8 u7 H locs hw hP hD hS => ?_)
      have hr8 : r8 = (s6_isOn a1 1) := hw
      have hP : va_P D vwCl [(xf, c2 (.ref xs) (.ref xp) (.ref xq) f), (xp, c1 ep), (xq, c1 eq), (xs, c5 st)] H := hP
      have hD : va_D A [(xf, c2 (.ref xs) (.ref xp) (.ref xq) f), (xp, c1 ep), (xq, c1 eq), (xs, c5 st)] := hD
      refine lv_if_ne (tgt := 43) hx hb dX2_sequenceLighting_33 (by decide) (fun z9 => ?_) (fun z9 => ?_)
      · refine lv_aload_n hx hb dX2_sequenceLighting_43 rfl (lv_at hl 0 rfl) ?_
        refine va_get (D := D) (ci := 2) (v := .int (f 3)) (C := RX2) (T := TX2) (N := 11) hx hb hts i2 hown hK hP 0 rfl rfl 3 (by decide) lf29 (fun _ h9 => h9) rfl dX2_sequenceLighting_44 ?_
        refine lv_iconst (v := 2) hx hb dX2_sequenceLighting_47 (by decide) ?_
        have J17 : ∀ (w18 : Int32), w18 = (if (f 3) = 2 then ((s2_lightPilot f ep eq st).1) else ((s2_lightMain f ep eq st).1)) → ∀ (w19 : Nat → Int32), w19 = (if (f 3) = 2 then ((s2_lightPilot f ep eq st).2) else ((s2_lightMain f ep eq st).2)) → ∀ (H : Heap) (locs : List Loc), va_P D vwCl [(xf, c2 (.ref xs) (.ref xp) (.ref xq) w19), (xp, c1 ep), (xq, c1 eq), (xs, c5 st)] H → va_D A [(xf, c2 (.ref xs) (.ref xp) (.ref xq) w19), (xp, c1 ep), (xq, c1 eq), (xs, c5 st)] → va_S A s.heap H locs → W p l e (cw_rm 4) s m args below meth c H locs 0 0 (Q) (F0 m 62 ls [.int w18]) := by
          intro w18 hw18 w19 hw19 H locs hP hD hS
          have hsp : (s2_sequenceLighting f ep eq st a1) = ((w18, w19) : Int32 × (Nat → Int32)) := by simp only [s2_sequenceLighting, ← hr2, ← hr5, ← hr8, ← hw18, ← hw19, if_neg z3, if_neg z6, if_neg z9]
          exact hret _ _ _ _ _ _ _ _ hP hD hS dX2_sequenceLighting_62 (cw_b01 (by (try simp only [hw18]); (repeat' split) <;> first | exact Or.inl rfl | exact Or.inr rfl | assumption | exact z2_lightMain _ _ _ _ | exact z2_lightPilot _ _ _ _)) ⟨(), (by rw [hsp]), (by rw [hsp])⟩ (Nat.le_of_ble_eq_true rfl) (Nat.le_of_ble_eq_true rfl)
        refine lv_icmp_ne (tgt := 58) hx hb dX2_sequenceLighting_48 (by decide) (fun z10 => ?_) (fun z10 => ?_)
        · refine lv_aload_n hx hb dX2_sequenceLighting_58 rfl (lv_at hl 0 rfl) ?_
          refine cw_cVi (As := []) (rest := []) (wc := [(xf, c2 (.ref xs) (.ref xp) (.ref xq) f), (xp, c1 ep), (xq, c1 eq), (xs, c5 st)]) (wr := []) ⟨hx, hb, hml, hown, hts⟩ (k2_lightMain l D cI cJ xf xp xq xs f ep eq st) (cwV 0 hts gX2_sequenceLighting_X2_lightMain rfl rfl rfl (by decide +kernel) ⟨Nat.le_of_ble_eq_true rfl, Nat.le_of_ble_eq_true rfl⟩) hK hN hP hD hS hA [0, 1, 2, 3] [] rfl rfl (by decide) (by decide) (by decide) 0 (ci := 2) rfl rfl rfl rfl hl.1 rfl (Nat.le_of_ble_eq_true rfl) dX2_sequenceLighting_59 ⟨Nat.le_of_ble_eq_true rfl, Nat.le_of_ble_eq_true rfl⟩ (fun r12 u11 H locs hw hP hD hS => ?_)
          have hr12 : r12 = ((s2_lightMain f ep eq st).1) := hw
          obtain ⟨v13, hv13⟩ : ∃ z : Nat → Int32, z = ((s2_lightMain f ep eq st).2) := ⟨_, rfl⟩
          have hP : va_P D vwCl [(xf, c2 (.ref xs) (.ref xp) (.ref xq) v13), (xp, c1 ep), (xq, c1 eq), (xs, c5 st)] H := by rw [hv13]; exact hP
          have hD : va_D A [(xf, c2 (.ref xs) (.ref xp) (.ref xq) v13), (xp, c1 ep), (xq, c1 eq), (xs, c5 st)] := by rw [hv13]; exact hD
          exact J17 r12 (by simp only [← hv13, ← hr12, if_neg z10]) v13 (by simp only [← hv13, ← hr12, if_neg z10]) _ _ hP hD hS
        · refine lv_aload_n hx hb dX2_sequenceLighting_51 rfl (lv_at hl 0 rfl) ?_
          refine cw_cVi (As := []) (rest := []) (wc := [(xf, c2 (.ref xs) (.ref xp) (.ref xq) f), (xp, c1 ep), (xq, c1 eq), (xs, c5 st)]) (wr := []) ⟨hx, hb, hml, hown, hts⟩ (k2_lightPilot l D cI cJ xf xp xq xs f ep eq st) (cwV 0 hts gX2_sequenceLighting_X2_lightPilot rfl rfl rfl (by decide +kernel) ⟨Nat.le_of_ble_eq_true rfl, Nat.le_of_ble_eq_true rfl⟩) hK hN hP hD hS hA [0, 1, 2, 3] [] rfl rfl (by decide) (by decide) (by decide) 0 (ci := 2) rfl rfl rfl rfl hl.1 rfl (Nat.le_of_ble_eq_true rfl) dX2_sequenceLighting_52 ⟨Nat.le_of_ble_eq_true rfl, Nat.le_of_ble_eq_true rfl⟩ (fun r15 u14 H locs hw hP hD hS => ?_)
          have hr15 : r15 = ((s2_lightPilot f ep eq st).1) := hw
          obtain ⟨v16, hv16⟩ : ∃ z : Nat → Int32, z = ((s2_lightPilot f ep eq st).2) := ⟨_, rfl⟩
          have hP : va_P D vwCl [(xf, c2 (.ref xs) (.ref xp) (.ref xq) v16), (xp, c1 ep), (xq, c1 eq), (xs, c5 st)] H := by rw [hv16]; exact hP
          have hD : va_D A [(xf, c2 (.ref xs) (.ref xp) (.ref xq) v16), (xp, c1 ep), (xq, c1 eq), (xs, c5 st)] := by rw [hv16]; exact hD
          refine lv_goto (tgt := 62) hx hb dX2_sequenceLighting_55 (by decide) ?_
          exact J17 r15 (by simp only [← hv16, ← hr15, if_pos z10]) v16 (by simp only [← hv16, ← hr15, if_pos z10]) _ _ hP hD hS
      · refine lv_aload_n hx hb dX2_sequenceLighting_36 rfl (lv_at hl 0 rfl) ?_
        refine lv_iconst (v := 5) hx hb dX2_sequenceLighting_37 (by decide) ?_
        refine lv_iconst (v := 0) hx hb dX2_sequenceLighting_38 (by decide) ?_
        refine cw_cVi (As := [.int 5, .int 0]) (rest := []) (wc := [(xf, c2 (.ref xs) (.ref xp) (.ref xq) f)]) (wr := [(xp, c1 ep), (xq, c1 eq), (xs, c5 st)]) ⟨hx, hb, hml, hown, hts⟩ (k2_begin l D cI cJ xf (.ref xs) (.ref xp) (.ref xq) f 5 0) (cwV 2 hts gX2_sequenceLighting_X2_begin rfl rfl rfl (by decide +kernel) ⟨Nat.le_of_ble_eq_true rfl, Nat.le_of_ble_eq_true rfl⟩) hK hN hP hD hS hA [0] [1, 2, 3] rfl rfl (by decide) (by decide) (by decide) 0 (ci := 2) rfl rfl rfl rfl hl.1 rfl (Nat.le_of_ble_eq_true rfl) dX2_sequenceLighting_39 ⟨Nat.le_of_ble_eq_true rfl, Nat.le_of_ble_eq_true rfl⟩ (fun r21 u20 H locs hw hP hD hS => ?_)
        have hr21 : r21 = ((s2_begin f 5 0).1) := hw
        obtain ⟨v22, hv22⟩ : ∃ z : Nat → Int32, z = ((s2_begin f 5 0).2) := ⟨_, rfl⟩
        have hP : va_P D vwCl [(xp, c1 ep), (xq, c1 eq), (xs, c5 st), (xf, c2 (.ref xs) (.ref xp) (.ref xq) v22)] H := by rw [hv22]; exact hP
        have hD : va_D A [(xp, c1 ep), (xq, c1 eq), (xs, c5 st), (xf, c2 (.ref xs) (.ref xp) (.ref xq) v22)] := by rw [hv22]; exact hD
        have hsp : (s2_sequenceLighting f ep eq st a1) = ((r21, v22) : Int32 × (Nat → Int32)) := by simp only [s2_sequenceLighting, ← hr2, ← hr5, ← hr8, ← hv22, ← hr21, if_neg z3, if_neg z6, if_pos z9]
        exact hret _ _ _ _ _ _ _ _ (hP.sub (ws' := [(xf, c2 (.ref xs) (.ref xp) (.ref xq) v22), (xp, c1 ep), (xq, c1 eq), (xs, c5 st)]) [3, 0, 1, 2] rfl) (hD.sub (ws' := [(xf, c2 (.ref xs) (.ref xp) (.ref xq) v22), (xp, c1 ep), (xq, c1 eq), (xs, c5 st)]) [3, 0, 1, 2] (by decide) rfl) hS dX2_sequenceLighting_42 (cw_b01 (by (try simp only [hr21]); (repeat' split) <;> first | exact Or.inl rfl | exact Or.inr rfl | assumption | exact z2_begin _ _ _)) ⟨(), (by rw [hsp]), (by rw [hsp])⟩ (Nat.le_of_ble_eq_true rfl) (Nat.le_of_ble_eq_true rfl)
    · refine lv_aload_n hx hb dX2_sequenceLighting_22 rfl (lv_at hl 0 rfl) ?_
      refine lv_iconst (v := 2) hx hb dX2_sequenceLighting_23 (by decide) ?_
      refine cw_cVi (As := [.int 2]) (rest := []) (wc := [(xf, c2 (.ref xs) (.ref xp) (.ref xq) f)]) (wr := [(xp, c1 ep), (xq, c1 eq), (xs, c5 st)]) ⟨hx, hb, hml, hown, hts⟩ (k2_lockOut l D cI cJ xf (.ref xs) (.ref xp) (.ref xq) f 2) (cwV 1 hts gX2_sequenceLighting_X2_lockOut rfl rfl rfl (by decide +kernel) ⟨Nat.le_of_ble_eq_true rfl, Nat.le_of_ble_eq_true rfl⟩) hK hN hP hD hS hA [0] [1, 2, 3] rfl rfl (by decide) (by decide) (by decide) 0 (ci := 2) rfl rfl rfl rfl hl.1 rfl (Nat.le_of_ble_eq_true rfl) dX2_sequenceLighting_24 ⟨Nat.le_of_ble_eq_true rfl, Nat.le_of_ble_eq_true rfl⟩ (fun r24 u23 H locs hw hP hD hS => ?_)
      have hr24 : r24 = ((s2_lockOut f 2).1) := hw
      obtain ⟨v25, hv25⟩ : ∃ z : Nat → Int32, z = ((s2_lockOut f 2).2) := ⟨_, rfl⟩
      have hP : va_P D vwCl [(xp, c1 ep), (xq, c1 eq), (xs, c5 st), (xf, c2 (.ref xs) (.ref xp) (.ref xq) v25)] H := by rw [hv25]; exact hP
      have hD : va_D A [(xp, c1 ep), (xq, c1 eq), (xs, c5 st), (xf, c2 (.ref xs) (.ref xp) (.ref xq) v25)] := by rw [hv25]; exact hD
      have hsp : (s2_sequenceLighting f ep eq st a1) = ((r24, v25) : Int32 × (Nat → Int32)) := by simp only [s2_sequenceLighting, ← hr2, ← hr5, ← hv25, ← hr24, if_neg z3, if_pos z6]
      exact hret _ _ _ _ _ _ _ _ (hP.sub (ws' := [(xf, c2 (.ref xs) (.ref xp) (.ref xq) v25), (xp, c1 ep), (xq, c1 eq), (xs, c5 st)]) [3, 0, 1, 2] rfl) (hD.sub (ws' := [(xf, c2 (.ref xs) (.ref xp) (.ref xq) v25), (xp, c1 ep), (xq, c1 eq), (xs, c5 st)]) [3, 0, 1, 2] (by decide) rfl) hS dX2_sequenceLighting_27 (cw_b01 (by (try simp only [hr24]); (repeat' split) <;> first | exact Or.inl rfl | exact Or.inr rfl | assumption | exact z2_lockOut _ _)) ⟨(), (by rw [hsp]), (by rw [hsp])⟩ (Nat.le_of_ble_eq_true rfl) (Nat.le_of_ble_eq_true rfl)
  · refine lv_aload_n hx hb dX2_sequenceLighting_8 rfl (lv_at hl 0 rfl) ?_
    refine lv_iconst (v := 1) hx hb dX2_sequenceLighting_9 (by decide) ?_
    refine cw_cVi (As := [.int 1]) (rest := []) (wc := [(xf, c2 (.ref xs) (.ref xp) (.ref xq) f)]) (wr := [(xp, c1 ep), (xq, c1 eq), (xs, c5 st)]) ⟨hx, hb, hml, hown, hts⟩ (k2_lockOut l D cI cJ xf (.ref xs) (.ref xp) (.ref xq) f 1) (cwV 1 hts gX2_sequenceLighting_X2_lockOut rfl rfl rfl (by decide +kernel) ⟨Nat.le_of_ble_eq_true rfl, Nat.le_of_ble_eq_true rfl⟩) hK hN hP hD hS hA [0] [1, 2, 3] rfl rfl (by decide) (by decide) (by decide) 0 (ci := 2) rfl rfl rfl rfl hl.1 rfl (Nat.le_of_ble_eq_true rfl) dX2_sequenceLighting_10 ⟨Nat.le_of_ble_eq_true rfl, Nat.le_of_ble_eq_true rfl⟩ (fun r27 u26 H locs hw hP hD hS => ?_)
    have hr27 : r27 = ((s2_lockOut f 1).1) := hw
    obtain ⟨v28, hv28⟩ : ∃ z : Nat → Int32, z = ((s2_lockOut f 1).2) := ⟨_, rfl⟩
    have hP : va_P D vwCl [(xp, c1 ep), (xq, c1 eq), (xs, c5 st), (xf, c2 (.ref xs) (.ref xp) (.ref xq) v28)] H := by rw [hv28]; exact hP
    have hD : va_D A [(xp, c1 ep), (xq, c1 eq), (xs, c5 st), (xf, c2 (.ref xs) (.ref xp) (.ref xq) v28)] := by rw [hv28]; exact hD
    have hsp : (s2_sequenceLighting f ep eq st a1) = ((r27, v28) : Int32 × (Nat → Int32)) := by simp only [s2_sequenceLighting, ← hr2, ← hv28, ← hr27, if_pos z3]
    exact hret _ _ _ _ _ _ _ _ (hP.sub (ws' := [(xf, c2 (.ref xs) (.ref xp) (.ref xq) v28), (xp, c1 ep), (xq, c1 eq), (xs, c5 st)]) [3, 0, 1, 2] rfl) (hD.sub (ws' := [(xf, c2 (.ref xs) (.ref xp) (.ref xq) v28), (xp, c1 ep), (xq, c1 eq), (xs, c5 st)]) [3, 0, 1, 2] (by decide) rfl) hS dX2_sequenceLighting_13 (cw_b01 (by (try simp only [hr27]); (repeat' split) <;> first | exact Or.inl rfl | exact Or.inr rfl | assumption | exact z2_lockOut _ _)) ⟨(), (by rw [hsp]), (by rw [hsp])⟩ (Nat.le_of_ble_eq_true rfl) (Nat.le_of_ble_eq_true rfl)

set_option maxHeartbeats 4000000 in
set_option maxRecDepth 100000 in
theorem k2_sequenceRun (l : Launch) (D : va_G) (cI cJ : ClassId) (xf xp xq xs : Nat) (f : Nat → Int32) (ep : Nat → Int32) (eq : Nat → Int32) (st : Nat → Int32) (a1 : Int32) : cw_Mi l yX2_sequenceRun wsX2_sequenceRun (cw_rm 3) D [(cI, .int)] [.ref xf, .int a1] [(xf, c2 (.ref xs) (.ref xp) (.ref xq) f), (xp, c1 ep), (xq, c1 eq), (xs, c5 st)] 0 0 (fun r (_ : Unit) => r = (s2_sequenceRun f ep eq st a1).1) (fun _ : Unit => [(xf, c2 (.ref xs) (.ref xp) (.ref xq) (s2_sequenceRun f ep eq st a1).2), (xp, c1 ep), (xq, c1 eq), (xs, c5 st)]) := by
  refine cw_ofi (cc := cX2_sequenceRun) (maxL := 2) (ret := (some .boolean)) (by decide) rfl (Nat.le_of_ble_eq_true rfl) rfl ?_
  intro p e s m args below meth c A ls Q hin0 hret
  obtain ⟨hx, hb, hr, hml, hts, hown, hlocks, hin, hP, hK, hD, hN, hA, hl⟩ := hin0
  have hS : va_S A s.heap s.heap [] := va_S.rf
  have hl : lv_has ls 2 [(0, .ref xf), (1, .int a1)] := hl
  have ln65 : va_Nw (.methodLinkNest RX2 65 yX6_isOn "Burnerline") s := hN _ (by decide +kernel)
  have ls65 := hts (.static yX6_isOn) (by decide +kernel)
  have liRX6 := hts (.initialized RX6) (by decide +kernel)
  have lf18 := hts (.fieldLink RX2 18 "Burnerline$Furnace" "mainEye" "LBurnerline$Eye;") (by decide +kernel)
  have i2 : ∀ w ∈ wsX20, w ∈ wsX2_sequenceRun := by decide +kernel
  have lf54 := hN.use (args := args) (w := .fieldLinkNest "Burnerline$Furnace" 54 "Burnerline$Eye" "seesFlame" "Z" "Burnerline") (by decide +kernel)
  have i1 : ∀ w ∈ wsX10, w ∈ wsX2_sequenceRun := by decide +kernel
  refine lv_iload_n hx hb dX2_sequenceRun_0 rfl (lv_at hl 1 rfl) ?_
  refine lv_iconst (v := 2) hx hb dX2_sequenceRun_1 (by decide) ?_
  refine cw_cSNi (As := [.int a1, .int 2]) (rest := []) (wc := []) (wr := [(xf, c2 (.ref xs) (.ref xp) (.ref xq) f), (xp, c1 ep), (xq, c1 eq), (xs, c5 st)]) ⟨hx, hb, hml, hown, hts⟩ (k6_isOn l D cI cJ a1 2) (va_cnB 2 hts gX2_sequenceRun_X6_isOn_n65 rfl rfl rfl ln65 liRX6 (by decide +kernel) ⟨Nat.le_of_ble_eq_true rfl, Nat.le_of_ble_eq_true rfl⟩) ls65 hK hN hP hD hS hA [] [0, 1, 2, 3] rfl rfl (by decide) (by decide) (by decide) rfl hl.1 rfl (Nat.le_of_ble_eq_true rfl) dX2_sequenceRun_2 ⟨Nat.le_of_ble_eq_true rfl, Nat.le_of_ble_eq_true rfl⟩ (fun r2 u1 H locs hw hP hD hS => ?_)
  have hr2 : r2 = (s6_isOn a1 2) := hw
  have hP : va_P D vwCl [(xf, c2 (.ref xs) (.ref xp) (.ref xq) f), (xp, c1 ep), (xq, c1 eq), (xs, c5 st)] H := hP
  have hD : va_D A [(xf, c2 (.ref xs) (.ref xp) (.ref xq) f), (xp, c1 ep), (xq, c1 eq), (xs, c5 st)] := hD
  refine lv_if_ne (tgt := 14) hx hb dX2_sequenceRun_5 (by decide) (fun z3 => ?_) (fun z3 => ?_)
  · refine lv_iload_n hx hb dX2_sequenceRun_14 rfl (lv_at hl 1 rfl) ?_
    refine lv_iconst (v := 4) hx hb dX2_sequenceRun_15 (by decide) ?_
    refine cw_cSNi (As := [.int a1, .int 4]) (rest := []) (wc := []) (wr := [(xf, c2 (.ref xs) (.ref xp) (.ref xq) f), (xp, c1 ep), (xq, c1 eq), (xs, c5 st)]) ⟨hx, hb, hml, hown, hts⟩ (k6_isOn l D cI cJ a1 4) (va_cnB 2 hts gX2_sequenceRun_X6_isOn_n65 rfl rfl rfl ln65 liRX6 (by decide +kernel) ⟨Nat.le_of_ble_eq_true rfl, Nat.le_of_ble_eq_true rfl⟩) ls65 hK hN hP hD hS hA [] [0, 1, 2, 3] rfl rfl (by decide) (by decide) (by decide) rfl hl.1 rfl (Nat.le_of_ble_eq_true rfl) dX2_sequenceRun_16 ⟨Nat.le_of_ble_eq_true rfl, Nat.le_of_ble_eq_true rfl⟩ (fun r5 u4 H locs hw hP hD hS => ?_)
    have hr5 : r5 = (s6_isOn a1 4) := hw
    have hP : va_P D vwCl [(xf, c2 (.ref xs) (.ref xp) (.ref xq) f), (xp, c1 ep), (xq, c1 eq), (xs, c5 st)] H := hP
    have hD : va_D A [(xf, c2 (.ref xs) (.ref xp) (.ref xq) f), (xp, c1 ep), (xq, c1 eq), (xs, c5 st)] := hD
    refine lv_if_ne (tgt := 28) hx hb dX2_sequenceRun_19 (by decide) (fun z6 => ?_) (fun z6 => ?_)
    · refine lv_aload_n hx hb dX2_sequenceRun_28 rfl (lv_at hl 0 rfl) ?_
      refine va_get (D := D) (ci := 2) (v := .ref xq) (C := RX2) (T := TX2) (N := 11) hx hb hts i2 hown hK hP 0 rfl rfl 2 (by decide) lf18 (fun _ h9 => h9) rfl dX2_sequenceRun_29 ?_
      refine va_getN (D := D) (ci := 1) (v := .int (eq 0)) (C := RX1) (T := TX1) (N := 2) hx hb hts i1 hown hK hP 2 rfl rfl 0 (by decide) lf54 (fun _ h9 => h9) rfl dX2_sequenceRun_32 ?_
      refine lv_if_ne (tgt := 45) hx hb dX2_sequenceRun_35 (by decide) (fun z7 => ?_) (fun z7 => ?_)
      · refine lv_aload_n hx hb dX2_sequenceRun_45 rfl (lv_at hl 0 rfl) ?_
        refine cw_cVi (As := []) (rest := []) (wc := [(xf, c2 (.ref xs) (.ref xp) (.ref xq) f), (xp, c1 ep), (xq, c1 eq), (xs, c5 st)]) (wr := []) ⟨hx, hb, hml, hown, hts⟩ (k2_isCheckDue l D cI cJ xf xp xq xs f ep eq st) (cwV 0 hts gX2_sequenceRun_X2_isCheckDue rfl rfl rfl (by decide +kernel) ⟨Nat.le_of_ble_eq_true rfl, Nat.le_of_ble_eq_true rfl⟩) hK hN hP hD hS hA [0, 1, 2, 3] [] rfl rfl (by decide) (by decide) (by decide) 0 (ci := 2) rfl rfl rfl rfl hl.1 rfl (Nat.le_of_ble_eq_true rfl) dX2_sequenceRun_46 ⟨Nat.le_of_ble_eq_true rfl, Nat.le_of_ble_eq_true rfl⟩ (fun r9 u8 H locs hw hP hD hS => ?_)
        have hr9 : r9 = (s2_isCheckDue f ep eq st) := hw
        have hP : va_P D vwCl [(xf, c2 (.ref xs) (.ref xp) (.ref xq) f), (xp, c1 ep), (xq, c1 eq), (xs, c5 st)] H := hP
        have hD : va_D A [(xf, c2 (.ref xs) (.ref xp) (.ref xq) f), (xp, c1 ep), (xq, c1 eq), (xs, c5 st)] := hD
        refine lv_if_eq (tgt := 68) hx hb dX2_sequenceRun_49 (by decide) (fun z10 => ?_) (fun z10 => ?_)
        · refine lv_iload_n hx hb dX2_sequenceRun_68 rfl (lv_at hl 1 rfl) ?_
          refine lv_iconst (v := 1) hx hb dX2_sequenceRun_69 (by decide) ?_
          refine cw_cSNi (As := [.int a1, .int 1]) (rest := []) (wc := []) (wr := [(xf, c2 (.ref xs) (.ref xp) (.ref xq) f), (xp, c1 ep), (xq, c1 eq), (xs, c5 st)]) ⟨hx, hb, hml, hown, hts⟩ (k6_isOn l D cI cJ a1 1) (va_cnB 2 hts gX2_sequenceRun_X6_isOn_n65 rfl rfl rfl ln65 liRX6 (by decide +kernel) ⟨Nat.le_of_ble_eq_true rfl, Nat.le_of_ble_eq_true rfl⟩) ls65 hK hN hP hD hS hA [] [0, 1, 2, 3] rfl rfl (by decide) (by decide) (by decide) rfl hl.1 rfl (Nat.le_of_ble_eq_true rfl) dX2_sequenceRun_70 ⟨Nat.le_of_ble_eq_true rfl, Nat.le_of_ble_eq_true rfl⟩ (fun r12 u11 H locs hw hP hD hS => ?_)
          have hr12 : r12 = (s6_isOn a1 1) := hw
          have hP : va_P D vwCl [(xf, c2 (.ref xs) (.ref xp) (.ref xq) f), (xp, c1 ep), (xq, c1 eq), (xs, c5 st)] H := hP
          have hD : va_D A [(xf, c2 (.ref xs) (.ref xp) (.ref xq) f), (xp, c1 ep), (xq, c1 eq), (xs, c5 st)] := hD
          have J18 : ∀ (w19 : Int32), w19 = (if r12 = 0 then (if ((s2_begin f 5 0).1) = 0 then 0 else 1) else 0) → ∀ (w20 : Nat → Int32), w20 = (if r12 = 0 then ((s2_begin f 5 0).2) else f) → ∀ (H : Heap) (locs : List Loc), va_P D vwCl [(xf, c2 (.ref xs) (.ref xp) (.ref xq) w20), (xp, c1 ep), (xq, c1 eq), (xs, c5 st)] H → va_D A [(xf, c2 (.ref xs) (.ref xp) (.ref xq) w20), (xp, c1 ep), (xq, c1 eq), (xs, c5 st)] → va_S A s.heap H locs → W p l e (cw_rm 3) s m args below meth c H locs 0 0 (Q) (F0 m 90 ls [.int w19]) := by
            intro w19 hw19 w20 hw20 H locs hP hD hS
            have hsp : (s2_sequenceRun f ep eq st a1) = ((w19, w20) : Int32 × (Nat → Int32)) := by simp only [s2_sequenceRun, ← hr2, ← hr5, ← hr9, ← hr12, ← hw19, ← hw20, if_neg z3, if_neg z6, if_neg z7, if_pos z10]
            exact hret _ _ _ _ _ _ _ _ hP hD hS dX2_sequenceRun_90 (cw_b01 (by (try simp only [hr12, hw19]); (repeat' split) <;> first | exact Or.inl rfl | exact Or.inr rfl | assumption | exact z2_begin _ _ _ | exact z6_isOn _ _)) ⟨(), (by rw [hsp]), (by rw [hsp])⟩ (Nat.le_of_ble_eq_true rfl) (Nat.le_of_ble_eq_true rfl)
          refine lv_if_ne (tgt := 89) hx hb dX2_sequenceRun_73 (by decide) (fun z13 => ?_) (fun z13 => ?_)
          · refine lv_iconst (v := 0) hx hb dX2_sequenceRun_89 (by decide) ?_
            exact J18 0 (by simp only [if_neg z13]) f (by simp only [if_neg z13]) _ _ hP hD hS
          · refine lv_aload_n hx hb dX2_sequenceRun_76 rfl (lv_at hl 0 rfl) ?_
            refine lv_iconst (v := 5) hx hb dX2_sequenceRun_77 (by decide) ?_
            refine lv_iconst (v := 0) hx hb dX2_sequenceRun_78 (by decide) ?_
            refine cw_cVi (As := [.int 5, .int 0]) (rest := []) (wc := [(xf, c2 (.ref xs) (.ref xp) (.ref xq) f)]) (wr := [(xp, c1 ep), (xq, c1 eq), (xs, c5 st)]) ⟨hx, hb, hml, hown, hts⟩ (k2_begin l D cI cJ xf (.ref xs) (.ref xp) (.ref xq) f 5 0) (cwV 2 hts gX2_sequenceRun_X2_begin rfl rfl rfl (by decide +kernel) ⟨Nat.le_of_ble_eq_true rfl, Nat.le_of_ble_eq_true rfl⟩) hK hN hP hD hS hA [0] [1, 2, 3] rfl rfl (by decide) (by decide) (by decide) 0 (ci := 2) rfl rfl rfl rfl hl.1 rfl (Nat.le_of_ble_eq_true rfl) dX2_sequenceRun_79 ⟨Nat.le_of_ble_eq_true rfl, Nat.le_of_ble_eq_true rfl⟩ (fun r15 u14 H locs hw hP hD hS => ?_)
            have hr15 : r15 = ((s2_begin f 5 0).1) := hw
            obtain ⟨v16, hv16⟩ : ∃ z : Nat → Int32, z = ((s2_begin f 5 0).2) := ⟨_, rfl⟩
            have hP : va_P D vwCl [(xp, c1 ep), (xq, c1 eq), (xs, c5 st), (xf, c2 (.ref xs) (.ref xp) (.ref xq) v16)] H := by rw [hv16]; exact hP
            have hD : va_D A [(xp, c1 ep), (xq, c1 eq), (xs, c5 st), (xf, c2 (.ref xs) (.ref xp) (.ref xq) v16)] := by rw [hv16]; exact hD
            refine lv_if_eq (tgt := 89) hx hb dX2_sequenceRun_82 (by decide) (fun z17 => ?_) (fun z17 => ?_)
            · refine lv_iconst (v := 0) hx hb dX2_sequenceRun_89 (by decide) ?_
              exact J18 0 (by simp only [← hv16, ← hr15, if_pos z13, if_pos z17]) v16 (by simp only [← hv16, ← hr15, if_pos z13, if_pos z17]) _ _ (hP.sub [3, 0, 1, 2] rfl) (hD.sub [3, 0, 1, 2] (by decide) rfl) hS
            · refine lv_iconst (v := 1) hx hb dX2_sequenceRun_85 (by decide) ?_
              refine lv_goto (tgt := 90) hx hb dX2_sequenceRun_86 (by decide) ?_
              exact J18 1 (by simp only [← hv16, ← hr15, if_pos z13, if_neg z17]) v16 (by simp only [← hv16, ← hr15, if_pos z13, if_neg z17]) _ _ (hP.sub [3, 0, 1, 2] rfl) (hD.sub [3, 0, 1, 2] (by decide) rfl) hS
        · refine lv_iload_n hx hb dX2_sequenceRun_52 rfl (lv_at hl 1 rfl) ?_
          refine lv_bipush (v := 32) hx hb dX2_sequenceRun_53 (by decide) ?_
          refine cw_cSNi (As := [.int a1, .int 32]) (rest := []) (wc := []) (wr := [(xf, c2 (.ref xs) (.ref xp) (.ref xq) f), (xp, c1 ep), (xq, c1 eq), (xs, c5 st)]) ⟨hx, hb, hml, hown, hts⟩ (k6_isOn l D cI cJ a1 32) (va_cnB 2 hts gX2_sequenceRun_X6_isOn_n65 rfl rfl rfl ln65 liRX6 (by decide +kernel) ⟨Nat.le_of_ble_eq_true rfl, Nat.le_of_ble_eq_true rfl⟩) ls65 hK hN hP hD hS hA [] [0, 1, 2, 3] rfl rfl (by decide) (by decide) (by decide) rfl hl.1 rfl (Nat.le_of_ble_eq_true rfl) dX2_sequenceRun_55 ⟨Nat.le_of_ble_eq_true rfl, Nat.le_of_ble_eq_true rfl⟩ (fun r22 u21 H locs hw hP hD hS => ?_)
          have hr22 : r22 = (s6_isOn a1 32) := hw
          have hP : va_P D vwCl [(xf, c2 (.ref xs) (.ref xp) (.ref xq) f), (xp, c1 ep), (xq, c1 eq), (xs, c5 st)] H := hP
          have hD : va_D A [(xf, c2 (.ref xs) (.ref xp) (.ref xq) f), (xp, c1 ep), (xq, c1 eq), (xs, c5 st)] := hD
          refine lv_if_ne (tgt := 68) hx hb dX2_sequenceRun_58 (by decide) (fun z23 => ?_) (fun z23 => ?_)
          · refine lv_iload_n hx hb dX2_sequenceRun_68 rfl (lv_at hl 1 rfl) ?_
            refine lv_iconst (v := 1) hx hb dX2_sequenceRun_69 (by decide) ?_
            refine cw_cSNi (As := [.int a1, .int 1]) (rest := []) (wc := []) (wr := [(xf, c2 (.ref xs) (.ref xp) (.ref xq) f), (xp, c1 ep), (xq, c1 eq), (xs, c5 st)]) ⟨hx, hb, hml, hown, hts⟩ (k6_isOn l D cI cJ a1 1) (va_cnB 2 hts gX2_sequenceRun_X6_isOn_n65 rfl rfl rfl ln65 liRX6 (by decide +kernel) ⟨Nat.le_of_ble_eq_true rfl, Nat.le_of_ble_eq_true rfl⟩) ls65 hK hN hP hD hS hA [] [0, 1, 2, 3] rfl rfl (by decide) (by decide) (by decide) rfl hl.1 rfl (Nat.le_of_ble_eq_true rfl) dX2_sequenceRun_70 ⟨Nat.le_of_ble_eq_true rfl, Nat.le_of_ble_eq_true rfl⟩ (fun r25 u24 H locs hw hP hD hS => ?_)
            have hr25 : r25 = (s6_isOn a1 1) := hw
            have hP : va_P D vwCl [(xf, c2 (.ref xs) (.ref xp) (.ref xq) f), (xp, c1 ep), (xq, c1 eq), (xs, c5 st)] H := hP
            have hD : va_D A [(xf, c2 (.ref xs) (.ref xp) (.ref xq) f), (xp, c1 ep), (xq, c1 eq), (xs, c5 st)] := hD
            have J31 : ∀ (w32 : Int32), w32 = (if r25 = 0 then (if ((s2_begin f 5 0).1) = 0 then 0 else 1) else 0) → ∀ (w33 : Nat → Int32), w33 = (if r25 = 0 then ((s2_begin f 5 0).2) else f) → ∀ (H : Heap) (locs : List Loc), va_P D vwCl [(xf, c2 (.ref xs) (.ref xp) (.ref xq) w33), (xp, c1 ep), (xq, c1 eq), (xs, c5 st)] H → va_D A [(xf, c2 (.ref xs) (.ref xp) (.ref xq) w33), (xp, c1 ep), (xq, c1 eq), (xs, c5 st)] → va_S A s.heap H locs → W p l e (cw_rm 3) s m args below meth c H locs 0 0 (Q) (F0 m 90 ls [.int w32]) := by
              intro w32 hw32 w33 hw33 H locs hP hD hS
              have hsp : (s2_sequenceRun f ep eq st a1) = ((w32, w33) : Int32 × (Nat → Int32)) := by simp only [s2_sequenceRun, ← hr2, ← hr5, ← hr9, ← hr22, ← hr25, ← hw32, ← hw33, if_neg z3, if_neg z6, if_neg z7, if_neg z10, if_neg z23]
              exact hret _ _ _ _ _ _ _ _ hP hD hS dX2_sequenceRun_90 (cw_b01 (by (try simp only [hr25, hw32]); (repeat' split) <;> first | exact Or.inl rfl | exact Or.inr rfl | assumption | exact z2_begin _ _ _ | exact z6_isOn _ _)) ⟨(), (by rw [hsp]), (by rw [hsp])⟩ (Nat.le_of_ble_eq_true rfl) (Nat.le_of_ble_eq_true rfl)
            refine lv_if_ne (tgt := 89) hx hb dX2_sequenceRun_73 (by decide) (fun z26 => ?_) (fun z26 => ?_)
            · refine lv_iconst (v := 0) hx hb dX2_sequenceRun_89 (by decide) ?_
              exact J31 0 (by simp only [if_neg z26]) f (by simp only [if_neg z26]) _ _ hP hD hS
            · refine lv_aload_n hx hb dX2_sequenceRun_76 rfl (lv_at hl 0 rfl) ?_
              refine lv_iconst (v := 5) hx hb dX2_sequenceRun_77 (by decide) ?_
              refine lv_iconst (v := 0) hx hb dX2_sequenceRun_78 (by decide) ?_
              refine cw_cVi (As := [.int 5, .int 0]) (rest := []) (wc := [(xf, c2 (.ref xs) (.ref xp) (.ref xq) f)]) (wr := [(xp, c1 ep), (xq, c1 eq), (xs, c5 st)]) ⟨hx, hb, hml, hown, hts⟩ (k2_begin l D cI cJ xf (.ref xs) (.ref xp) (.ref xq) f 5 0) (cwV 2 hts gX2_sequenceRun_X2_begin rfl rfl rfl (by decide +kernel) ⟨Nat.le_of_ble_eq_true rfl, Nat.le_of_ble_eq_true rfl⟩) hK hN hP hD hS hA [0] [1, 2, 3] rfl rfl (by decide) (by decide) (by decide) 0 (ci := 2) rfl rfl rfl rfl hl.1 rfl (Nat.le_of_ble_eq_true rfl) dX2_sequenceRun_79 ⟨Nat.le_of_ble_eq_true rfl, Nat.le_of_ble_eq_true rfl⟩ (fun r28 u27 H locs hw hP hD hS => ?_)
              have hr28 : r28 = ((s2_begin f 5 0).1) := hw
              obtain ⟨v29, hv29⟩ : ∃ z : Nat → Int32, z = ((s2_begin f 5 0).2) := ⟨_, rfl⟩
              have hP : va_P D vwCl [(xp, c1 ep), (xq, c1 eq), (xs, c5 st), (xf, c2 (.ref xs) (.ref xp) (.ref xq) v29)] H := by rw [hv29]; exact hP
              have hD : va_D A [(xp, c1 ep), (xq, c1 eq), (xs, c5 st), (xf, c2 (.ref xs) (.ref xp) (.ref xq) v29)] := by rw [hv29]; exact hD
              refine lv_if_eq (tgt := 89) hx hb dX2_sequenceRun_82 (by decide) (fun z30 => ?_) (fun z30 => ?_)
              · refine lv_iconst (v := 0) hx hb dX2_sequenceRun_89 (by decide) ?_
                exact J31 0 (by simp only [← hv29, ← hr28, if_pos z26, if_pos z30]) v29 (by simp only [← hv29, ← hr28, if_pos z26, if_pos z30]) _ _ (hP.sub [3, 0, 1, 2] rfl) (hD.sub [3, 0, 1, 2] (by decide) rfl) hS
              · refine lv_iconst (v := 1) hx hb dX2_sequenceRun_85 (by decide) ?_
                refine lv_goto (tgt := 90) hx hb dX2_sequenceRun_86 (by decide) ?_
                exact J31 1 (by simp only [← hv29, ← hr28, if_pos z26, if_neg z30]) v29 (by simp only [← hv29, ← hr28, if_pos z26, if_neg z30]) _ _ (hP.sub [3, 0, 1, 2] rfl) (hD.sub [3, 0, 1, 2] (by decide) rfl) hS
          · refine lv_aload_n hx hb dX2_sequenceRun_61 rfl (lv_at hl 0 rfl) ?_
            refine lv_bipush (v := 8) hx hb dX2_sequenceRun_62 (by decide) ?_
            refine cw_cVi (As := [.int 8]) (rest := []) (wc := [(xf, c2 (.ref xs) (.ref xp) (.ref xq) f)]) (wr := [(xp, c1 ep), (xq, c1 eq), (xs, c5 st)]) ⟨hx, hb, hml, hown, hts⟩ (k2_lockOut l D cI cJ xf (.ref xs) (.ref xp) (.ref xq) f 8) (cwV 1 hts gX2_sequenceRun_X2_lockOut rfl rfl rfl (by decide +kernel) ⟨Nat.le_of_ble_eq_true rfl, Nat.le_of_ble_eq_true rfl⟩) hK hN hP hD hS hA [0] [1, 2, 3] rfl rfl (by decide) (by decide) (by decide) 0 (ci := 2) rfl rfl rfl rfl hl.1 rfl (Nat.le_of_ble_eq_true rfl) dX2_sequenceRun_64 ⟨Nat.le_of_ble_eq_true rfl, Nat.le_of_ble_eq_true rfl⟩ (fun r35 u34 H locs hw hP hD hS => ?_)
            have hr35 : r35 = ((s2_lockOut f 8).1) := hw
            obtain ⟨v36, hv36⟩ : ∃ z : Nat → Int32, z = ((s2_lockOut f 8).2) := ⟨_, rfl⟩
            have hP : va_P D vwCl [(xp, c1 ep), (xq, c1 eq), (xs, c5 st), (xf, c2 (.ref xs) (.ref xp) (.ref xq) v36)] H := by rw [hv36]; exact hP
            have hD : va_D A [(xp, c1 ep), (xq, c1 eq), (xs, c5 st), (xf, c2 (.ref xs) (.ref xp) (.ref xq) v36)] := by rw [hv36]; exact hD
            have hsp : (s2_sequenceRun f ep eq st a1) = ((r35, v36) : Int32 × (Nat → Int32)) := by simp only [s2_sequenceRun, ← hr2, ← hr5, ← hr9, ← hr22, ← hv36, ← hr35, if_neg z3, if_neg z6, if_neg z7, if_neg z10, if_pos z23]
            exact hret _ _ _ _ _ _ _ _ (hP.sub (ws' := [(xf, c2 (.ref xs) (.ref xp) (.ref xq) v36), (xp, c1 ep), (xq, c1 eq), (xs, c5 st)]) [3, 0, 1, 2] rfl) (hD.sub (ws' := [(xf, c2 (.ref xs) (.ref xp) (.ref xq) v36), (xp, c1 ep), (xq, c1 eq), (xs, c5 st)]) [3, 0, 1, 2] (by decide) rfl) hS dX2_sequenceRun_67 (cw_b01 (by (try simp only [hr35]); (repeat' split) <;> first | exact Or.inl rfl | exact Or.inr rfl | assumption | exact z2_lockOut _ _)) ⟨(), (by rw [hsp]), (by rw [hsp])⟩ (Nat.le_of_ble_eq_true rfl) (Nat.le_of_ble_eq_true rfl)
      · refine lv_aload_n hx hb dX2_sequenceRun_38 rfl (lv_at hl 0 rfl) ?_
        refine lv_bipush (v := 6) hx hb dX2_sequenceRun_39 (by decide) ?_
        refine cw_cVi (As := [.int 6]) (rest := []) (wc := [(xf, c2 (.ref xs) (.ref xp) (.ref xq) f)]) (wr := [(xp, c1 ep), (xq, c1 eq), (xs, c5 st)]) ⟨hx, hb, hml, hown, hts⟩ (k2_lockOut l D cI cJ xf (.ref xs) (.ref xp) (.ref xq) f 6) (cwV 1 hts gX2_sequenceRun_X2_lockOut rfl rfl rfl (by decide +kernel) ⟨Nat.le_of_ble_eq_true rfl, Nat.le_of_ble_eq_true rfl⟩) hK hN hP hD hS hA [0] [1, 2, 3] rfl rfl (by decide) (by decide) (by decide) 0 (ci := 2) rfl rfl rfl rfl hl.1 rfl (Nat.le_of_ble_eq_true rfl) dX2_sequenceRun_41 ⟨Nat.le_of_ble_eq_true rfl, Nat.le_of_ble_eq_true rfl⟩ (fun r38 u37 H locs hw hP hD hS => ?_)
        have hr38 : r38 = ((s2_lockOut f 6).1) := hw
        obtain ⟨v39, hv39⟩ : ∃ z : Nat → Int32, z = ((s2_lockOut f 6).2) := ⟨_, rfl⟩
        have hP : va_P D vwCl [(xp, c1 ep), (xq, c1 eq), (xs, c5 st), (xf, c2 (.ref xs) (.ref xp) (.ref xq) v39)] H := by rw [hv39]; exact hP
        have hD : va_D A [(xp, c1 ep), (xq, c1 eq), (xs, c5 st), (xf, c2 (.ref xs) (.ref xp) (.ref xq) v39)] := by rw [hv39]; exact hD
        have hsp : (s2_sequenceRun f ep eq st a1) = ((r38, v39) : Int32 × (Nat → Int32)) := by simp only [s2_sequenceRun, ← hr2, ← hr5, ← hv39, ← hr38, if_neg z3, if_neg z6, if_pos z7]
        exact hret _ _ _ _ _ _ _ _ (hP.sub (ws' := [(xf, c2 (.ref xs) (.ref xp) (.ref xq) v39), (xp, c1 ep), (xq, c1 eq), (xs, c5 st)]) [3, 0, 1, 2] rfl) (hD.sub (ws' := [(xf, c2 (.ref xs) (.ref xp) (.ref xq) v39), (xp, c1 ep), (xq, c1 eq), (xs, c5 st)]) [3, 0, 1, 2] (by decide) rfl) hS dX2_sequenceRun_44 (cw_b01 (by (try simp only [hr38]); (repeat' split) <;> first | exact Or.inl rfl | exact Or.inr rfl | assumption | exact z2_lockOut _ _)) ⟨(), (by rw [hsp]), (by rw [hsp])⟩ (Nat.le_of_ble_eq_true rfl) (Nat.le_of_ble_eq_true rfl)
    · refine lv_aload_n hx hb dX2_sequenceRun_22 rfl (lv_at hl 0 rfl) ?_
      refine lv_iconst (v := 2) hx hb dX2_sequenceRun_23 (by decide) ?_
      refine cw_cVi (As := [.int 2]) (rest := []) (wc := [(xf, c2 (.ref xs) (.ref xp) (.ref xq) f)]) (wr := [(xp, c1 ep), (xq, c1 eq), (xs, c5 st)]) ⟨hx, hb, hml, hown, hts⟩ (k2_lockOut l D cI cJ xf (.ref xs) (.ref xp) (.ref xq) f 2) (cwV 1 hts gX2_sequenceRun_X2_lockOut rfl rfl rfl (by decide +kernel) ⟨Nat.le_of_ble_eq_true rfl, Nat.le_of_ble_eq_true rfl⟩) hK hN hP hD hS hA [0] [1, 2, 3] rfl rfl (by decide) (by decide) (by decide) 0 (ci := 2) rfl rfl rfl rfl hl.1 rfl (Nat.le_of_ble_eq_true rfl) dX2_sequenceRun_24 ⟨Nat.le_of_ble_eq_true rfl, Nat.le_of_ble_eq_true rfl⟩ (fun r41 u40 H locs hw hP hD hS => ?_)
      have hr41 : r41 = ((s2_lockOut f 2).1) := hw
      obtain ⟨v42, hv42⟩ : ∃ z : Nat → Int32, z = ((s2_lockOut f 2).2) := ⟨_, rfl⟩
      have hP : va_P D vwCl [(xp, c1 ep), (xq, c1 eq), (xs, c5 st), (xf, c2 (.ref xs) (.ref xp) (.ref xq) v42)] H := by rw [hv42]; exact hP
      have hD : va_D A [(xp, c1 ep), (xq, c1 eq), (xs, c5 st), (xf, c2 (.ref xs) (.ref xp) (.ref xq) v42)] := by rw [hv42]; exact hD
      have hsp : (s2_sequenceRun f ep eq st a1) = ((r41, v42) : Int32 × (Nat → Int32)) := by simp only [s2_sequenceRun, ← hr2, ← hr5, ← hv42, ← hr41, if_neg z3, if_pos z6]
      exact hret _ _ _ _ _ _ _ _ (hP.sub (ws' := [(xf, c2 (.ref xs) (.ref xp) (.ref xq) v42), (xp, c1 ep), (xq, c1 eq), (xs, c5 st)]) [3, 0, 1, 2] rfl) (hD.sub (ws' := [(xf, c2 (.ref xs) (.ref xp) (.ref xq) v42), (xp, c1 ep), (xq, c1 eq), (xs, c5 st)]) [3, 0, 1, 2] (by decide) rfl) hS dX2_sequenceRun_27 (cw_b01 (by (try simp only [hr41]); (repeat' split) <;> first | exact Or.inl rfl | exact Or.inr rfl | assumption | exact z2_lockOut _ _)) ⟨(), (by rw [hsp]), (by rw [hsp])⟩ (Nat.le_of_ble_eq_true rfl) (Nat.le_of_ble_eq_true rfl)
  · refine lv_aload_n hx hb dX2_sequenceRun_8 rfl (lv_at hl 0 rfl) ?_
    refine lv_iconst (v := 1) hx hb dX2_sequenceRun_9 (by decide) ?_
    refine cw_cVi (As := [.int 1]) (rest := []) (wc := [(xf, c2 (.ref xs) (.ref xp) (.ref xq) f)]) (wr := [(xp, c1 ep), (xq, c1 eq), (xs, c5 st)]) ⟨hx, hb, hml, hown, hts⟩ (k2_lockOut l D cI cJ xf (.ref xs) (.ref xp) (.ref xq) f 1) (cwV 1 hts gX2_sequenceRun_X2_lockOut rfl rfl rfl (by decide +kernel) ⟨Nat.le_of_ble_eq_true rfl, Nat.le_of_ble_eq_true rfl⟩) hK hN hP hD hS hA [0] [1, 2, 3] rfl rfl (by decide) (by decide) (by decide) 0 (ci := 2) rfl rfl rfl rfl hl.1 rfl (Nat.le_of_ble_eq_true rfl) dX2_sequenceRun_10 ⟨Nat.le_of_ble_eq_true rfl, Nat.le_of_ble_eq_true rfl⟩ (fun r44 u43 H locs hw hP hD hS => ?_)
    have hr44 : r44 = ((s2_lockOut f 1).1) := hw
    obtain ⟨v45, hv45⟩ : ∃ z : Nat → Int32, z = ((s2_lockOut f 1).2) := ⟨_, rfl⟩
    have hP : va_P D vwCl [(xp, c1 ep), (xq, c1 eq), (xs, c5 st), (xf, c2 (.ref xs) (.ref xp) (.ref xq) v45)] H := by rw [hv45]; exact hP
    have hD : va_D A [(xp, c1 ep), (xq, c1 eq), (xs, c5 st), (xf, c2 (.ref xs) (.ref xp) (.ref xq) v45)] := by rw [hv45]; exact hD
    have hsp : (s2_sequenceRun f ep eq st a1) = ((r44, v45) : Int32 × (Nat → Int32)) := by simp only [s2_sequenceRun, ← hr2, ← hv45, ← hr44, if_pos z3]
    exact hret _ _ _ _ _ _ _ _ (hP.sub (ws' := [(xf, c2 (.ref xs) (.ref xp) (.ref xq) v45), (xp, c1 ep), (xq, c1 eq), (xs, c5 st)]) [3, 0, 1, 2] rfl) (hD.sub (ws' := [(xf, c2 (.ref xs) (.ref xp) (.ref xq) v45), (xp, c1 ep), (xq, c1 eq), (xs, c5 st)]) [3, 0, 1, 2] (by decide) rfl) hS dX2_sequenceRun_13 (cw_b01 (by (try simp only [hr44]); (repeat' split) <;> first | exact Or.inl rfl | exact Or.inr rfl | assumption | exact z2_lockOut _ _)) ⟨(), (by rw [hsp]), (by rw [hsp])⟩ (Nat.le_of_ble_eq_true rfl) (Nat.le_of_ble_eq_true rfl)

set_option maxHeartbeats 4000000 in
set_option maxRecDepth 100000 in
theorem k2_sequence (l : Launch) (D : va_G) (cI cJ : ClassId) (xf xp xq xs : Nat) (f : Nat → Int32) (ep : Nat → Int32) (eq : Nat → Int32) (st : Nat → Int32) (a1 : Int32) : cw_Mi l yX2_sequence wsX2_sequence (cw_rm 5) D [(cI, .int)] [.ref xf, .int a1] [(xf, c2 (.ref xs) (.ref xp) (.ref xq) f), (xp, c1 ep), (xq, c1 eq), (xs, c5 st)] 0 0 (fun r (_ : Unit) => r = (s2_sequence f ep eq st a1).1) (fun _ : Unit => [(xf, c2 (.ref xs) (.ref xp) (.ref xq) (s2_sequence f ep eq st a1).2), (xp, c1 ep), (xq, c1 eq), (xs, c5 st)]) := by
  refine cw_ofi (cc := cX2_sequence) (maxL := 2) (ret := (some .boolean)) (by decide) rfl (Nat.le_of_ble_eq_true rfl) rfl ?_
  intro p e s m args below meth c A ls Q hin0 hret
  obtain ⟨hx, hb, hr, hml, hts, hown, hlocks, hin, hP, hK, hD, hN, hA, hl⟩ := hin0
  have hS : va_S A s.heap s.heap [] := va_S.rf
  have hl : lv_has ls 2 [(0, .ref xf), (1, .int a1)] := hl
  have lf29 := hts (.fieldLink RX2 29 "Burnerline$Furnace" "state" "I") (by decide +kernel)
  have i2 : ∀ w ∈ wsX20, w ∈ wsX2_sequence := by decide +kernel
  refine lv_aload_n hx hb dX2_sequence_0 rfl (lv_at hl 0 rfl) ?_
  refine va_get (D := D) (ci := 2) (v := .int (f 3)) (C := RX2) (T := TX2) (N := 11) hx hb hts i2 hown hK hP 0 rfl rfl 3 (by decide) lf29 (fun _ h9 => h9) rfl dX2_sequence_1 ?_
  by_cases z1 : (f 3) = 0
  · refine lv_tableIn (off := 40) (tgt := 44) hx hb dX2_sequence_4 (by rw [z1]; decide) (by rw [z1]; decide) (by rw [z1]; rfl) (by decide) ?_
    refine lv_aload_n hx hb dX2_sequence_44 rfl (lv_at hl 0 rfl) ?_
    refine lv_iload_n hx hb dX2_sequence_45 rfl (lv_at hl 1 rfl) ?_
    refine cw_cVi (As := [.int a1]) (rest := []) (wc := [(xf, c2 (.ref xs) (.ref xp) (.ref xq) f), (xp, c1 ep), (xq, c1 eq), (xs, c5 st)]) (wr := []) ⟨hx, hb, hml, hown, hts⟩ (k2_sequenceOff l D cI cJ xf xp xq xs f ep eq st a1) (cwV 1 hts gX2_sequence_X2_sequenceOff rfl rfl rfl (by decide +kernel) ⟨Nat.le_of_ble_eq_true rfl, Nat.le_of_ble_eq_true rfl⟩) hK hN hP hD hS hA [0, 1, 2, 3] [] rfl rfl (by decide) (by decide) (by decide) 0 (ci := 2) rfl rfl rfl rfl hl.1 rfl (Nat.le_of_ble_eq_true rfl) dX2_sequence_46 ⟨Nat.le_of_ble_eq_true rfl, Nat.le_of_ble_eq_true rfl⟩ (fun r3 u2 H locs hw hP hD hS => ?_)
    have hr3 : r3 = ((s2_sequenceOff f ep eq st a1).1) := hw
    obtain ⟨v4, hv4⟩ : ∃ z : Nat → Int32, z = ((s2_sequenceOff f ep eq st a1).2) := ⟨_, rfl⟩
    have hP : va_P D vwCl [(xf, c2 (.ref xs) (.ref xp) (.ref xq) v4), (xp, c1 ep), (xq, c1 eq), (xs, c5 st)] H := by rw [hv4]; exact hP
    have hD : va_D A [(xf, c2 (.ref xs) (.ref xp) (.ref xq) v4), (xp, c1 ep), (xq, c1 eq), (xs, c5 st)] := by rw [hv4]; exact hD
    have hsp : (s2_sequence f ep eq st a1) = ((r3, v4) : Int32 × (Nat → Int32)) := by simp only [s2_sequence, ← hv4, ← hr3, if_pos z1]
    exact hret _ _ _ _ _ _ _ _ hP hD hS dX2_sequence_49 (cw_b01 (by (try simp only [hr3]); (repeat' split) <;> first | exact Or.inl rfl | exact Or.inr rfl | assumption | exact z2_sequenceOff _ _ _ _ _)) ⟨(), (by rw [hsp]), (by rw [hsp])⟩ (Nat.le_of_ble_eq_true rfl) (Nat.le_of_ble_eq_true rfl)
  · by_cases z5 : (f 3) = 1
    · refine lv_tableIn (off := 46) (tgt := 50) hx hb dX2_sequence_4 (by rw [z5]; decide) (by rw [z5]; decide) (by rw [z5]; rfl) (by decide) ?_
      refine lv_aload_n hx hb dX2_sequence_50 rfl (lv_at hl 0 rfl) ?_
      refine lv_iload_n hx hb dX2_sequence_51 rfl (lv_at hl 1 rfl) ?_
      refine cw_cVi (As := [.int a1]) (rest := []) (wc := [(xf, c2 (.ref xs) (.ref xp) (.ref xq) f), (xp, c1 ep), (xq, c1 eq), (xs, c5 st)]) (wr := []) ⟨hx, hb, hml, hown, hts⟩ (k2_sequencePurge l D cI cJ xf xp xq xs f ep eq st a1) (cwV 1 hts gX2_sequence_X2_sequencePurge rfl rfl rfl (by decide +kernel) ⟨Nat.le_of_ble_eq_true rfl, Nat.le_of_ble_eq_true rfl⟩) hK hN hP hD hS hA [0, 1, 2, 3] [] rfl rfl (by decide) (by decide) (by decide) 0 (ci := 2) rfl rfl rfl rfl hl.1 rfl (Nat.le_of_ble_eq_true rfl) dX2_sequence_52 ⟨Nat.le_of_ble_eq_true rfl, Nat.le_of_ble_eq_true rfl⟩ (fun r7 u6 H locs hw hP hD hS => ?_)
      have hr7 : r7 = ((s2_sequencePurge f ep eq st a1).1) := hw
      obtain ⟨v8, hv8⟩ : ∃ z : Nat → Int32, z = ((s2_sequencePurge f ep eq st a1).2) := ⟨_, rfl⟩
      have hP : va_P D vwCl [(xf, c2 (.ref xs) (.ref xp) (.ref xq) v8), (xp, c1 ep), (xq, c1 eq), (xs, c5 st)] H := by rw [hv8]; exact hP
      have hD : va_D A [(xf, c2 (.ref xs) (.ref xp) (.ref xq) v8), (xp, c1 ep), (xq, c1 eq), (xs, c5 st)] := by rw [hv8]; exact hD
      have hsp : (s2_sequence f ep eq st a1) = ((r7, v8) : Int32 × (Nat → Int32)) := by simp only [s2_sequence, ← hv8, ← hr7, if_neg z1, if_pos z5]
      exact hret _ _ _ _ _ _ _ _ hP hD hS dX2_sequence_55 (cw_b01 (by (try simp only [hr7]); (repeat' split) <;> first | exact Or.inl rfl | exact Or.inr rfl | assumption | exact z2_sequencePurge _ _ _ _ _)) ⟨(), (by rw [hsp]), (by rw [hsp])⟩ (Nat.le_of_ble_eq_true rfl) (Nat.le_of_ble_eq_true rfl)
    · by_cases z9 : (f 3) = 2
      · refine lv_tableIn (off := 52) (tgt := 56) hx hb dX2_sequence_4 (by rw [z9]; decide) (by rw [z9]; decide) (by rw [z9]; rfl) (by decide) ?_
        refine lv_aload_n hx hb dX2_sequence_56 rfl (lv_at hl 0 rfl) ?_
        refine lv_iload_n hx hb dX2_sequence_57 rfl (lv_at hl 1 rfl) ?_
        refine cw_cVi (As := [.int a1]) (rest := []) (wc := [(xf, c2 (.ref xs) (.ref xp) (.ref xq) f), (xp, c1 ep), (xq, c1 eq), (xs, c5 st)]) (wr := []) ⟨hx, hb, hml, hown, hts⟩ (k2_sequenceLighting l D cI cJ xf xp xq xs f ep eq st a1) (cwV 1 hts gX2_sequence_X2_sequenceLighting rfl rfl rfl (by decide +kernel) ⟨Nat.le_of_ble_eq_true rfl, Nat.le_of_ble_eq_true rfl⟩) hK hN hP hD hS hA [0, 1, 2, 3] [] rfl rfl (by decide) (by decide) (by decide) 0 (ci := 2) rfl rfl rfl rfl hl.1 rfl (Nat.le_of_ble_eq_true rfl) dX2_sequence_58 ⟨Nat.le_of_ble_eq_true rfl, Nat.le_of_ble_eq_true rfl⟩ (fun r11 u10 H locs hw hP hD hS => ?_)
        have hr11 : r11 = ((s2_sequenceLighting f ep eq st a1).1) := hw
        obtain ⟨v12, hv12⟩ : ∃ z : Nat → Int32, z = ((s2_sequenceLighting f ep eq st a1).2) := ⟨_, rfl⟩
        have hP : va_P D vwCl [(xf, c2 (.ref xs) (.ref xp) (.ref xq) v12), (xp, c1 ep), (xq, c1 eq), (xs, c5 st)] H := by rw [hv12]; exact hP
        have hD : va_D A [(xf, c2 (.ref xs) (.ref xp) (.ref xq) v12), (xp, c1 ep), (xq, c1 eq), (xs, c5 st)] := by rw [hv12]; exact hD
        have hsp : (s2_sequence f ep eq st a1) = ((r11, v12) : Int32 × (Nat → Int32)) := by simp only [s2_sequence, ← hv12, ← hr11, if_neg z1, if_neg z5, if_pos z9]
        exact hret _ _ _ _ _ _ _ _ hP hD hS dX2_sequence_61 (cw_b01 (by (try simp only [hr11]); (repeat' split) <;> first | exact Or.inl rfl | exact Or.inr rfl | assumption | exact z2_sequenceLighting _ _ _ _ _)) ⟨(), (by rw [hsp]), (by rw [hsp])⟩ (Nat.le_of_ble_eq_true rfl) (Nat.le_of_ble_eq_true rfl)
      · by_cases z13 : (f 3) = 3
        · refine lv_tableIn (off := 52) (tgt := 56) hx hb dX2_sequence_4 (by rw [z13]; decide) (by rw [z13]; decide) (by rw [z13]; rfl) (by decide) ?_
          refine lv_aload_n hx hb dX2_sequence_56 rfl (lv_at hl 0 rfl) ?_
          refine lv_iload_n hx hb dX2_sequence_57 rfl (lv_at hl 1 rfl) ?_
          refine cw_cVi (As := [.int a1]) (rest := []) (wc := [(xf, c2 (.ref xs) (.ref xp) (.ref xq) f), (xp, c1 ep), (xq, c1 eq), (xs, c5 st)]) (wr := []) ⟨hx, hb, hml, hown, hts⟩ (k2_sequenceLighting l D cI cJ xf xp xq xs f ep eq st a1) (cwV 1 hts gX2_sequence_X2_sequenceLighting rfl rfl rfl (by decide +kernel) ⟨Nat.le_of_ble_eq_true rfl, Nat.le_of_ble_eq_true rfl⟩) hK hN hP hD hS hA [0, 1, 2, 3] [] rfl rfl (by decide) (by decide) (by decide) 0 (ci := 2) rfl rfl rfl rfl hl.1 rfl (Nat.le_of_ble_eq_true rfl) dX2_sequence_58 ⟨Nat.le_of_ble_eq_true rfl, Nat.le_of_ble_eq_true rfl⟩ (fun r15 u14 H locs hw hP hD hS => ?_)
          have hr15 : r15 = ((s2_sequenceLighting f ep eq st a1).1) := hw
          obtain ⟨v16, hv16⟩ : ∃ z : Nat → Int32, z = ((s2_sequenceLighting f ep eq st a1).2) := ⟨_, rfl⟩
          have hP : va_P D vwCl [(xf, c2 (.ref xs) (.ref xp) (.ref xq) v16), (xp, c1 ep), (xq, c1 eq), (xs, c5 st)] H := by rw [hv16]; exact hP
          have hD : va_D A [(xf, c2 (.ref xs) (.ref xp) (.ref xq) v16), (xp, c1 ep), (xq, c1 eq), (xs, c5 st)] := by rw [hv16]; exact hD
          have hsp : (s2_sequence f ep eq st a1) = ((r15, v16) : Int32 × (Nat → Int32)) := by simp only [s2_sequence, ← hv16, ← hr15, if_neg z1, if_neg z5, if_neg z9, if_pos z13]
          exact hret _ _ _ _ _ _ _ _ hP hD hS dX2_sequence_61 (cw_b01 (by (try simp only [hr15]); (repeat' split) <;> first | exact Or.inl rfl | exact Or.inr rfl | assumption | exact z2_sequenceLighting _ _ _ _ _)) ⟨(), (by rw [hsp]), (by rw [hsp])⟩ (Nat.le_of_ble_eq_true rfl) (Nat.le_of_ble_eq_true rfl)
        · by_cases z17 : (f 3) = 4
          · refine lv_tableIn (off := 58) (tgt := 62) hx hb dX2_sequence_4 (by rw [z17]; decide) (by rw [z17]; decide) (by rw [z17]; rfl) (by decide) ?_
            refine lv_aload_n hx hb dX2_sequence_62 rfl (lv_at hl 0 rfl) ?_
            refine lv_iload_n hx hb dX2_sequence_63 rfl (lv_at hl 1 rfl) ?_
            refine cw_cVi (As := [.int a1]) (rest := []) (wc := [(xf, c2 (.ref xs) (.ref xp) (.ref xq) f), (xp, c1 ep), (xq, c1 eq), (xs, c5 st)]) (wr := []) ⟨hx, hb, hml, hown, hts⟩ (k2_sequenceRun l D cI cJ xf xp xq xs f ep eq st a1) (cwV 1 hts gX2_sequence_X2_sequenceRun rfl rfl rfl (by decide +kernel) ⟨Nat.le_of_ble_eq_true rfl, Nat.le_of_ble_eq_true rfl⟩) hK hN hP hD hS hA [0, 1, 2, 3] [] rfl rfl (by decide) (by decide) (by decide) 0 (ci := 2) rfl rfl rfl rfl hl.1 rfl (Nat.le_of_ble_eq_true rfl) dX2_sequence_64 ⟨Nat.le_of_ble_eq_true rfl, Nat.le_of_ble_eq_true rfl⟩ (fun r19 u18 H locs hw hP hD hS => ?_)
            have hr19 : r19 = ((s2_sequenceRun f ep eq st a1).1) := hw
            obtain ⟨v20, hv20⟩ : ∃ z : Nat → Int32, z = ((s2_sequenceRun f ep eq st a1).2) := ⟨_, rfl⟩
            have hP : va_P D vwCl [(xf, c2 (.ref xs) (.ref xp) (.ref xq) v20), (xp, c1 ep), (xq, c1 eq), (xs, c5 st)] H := by rw [hv20]; exact hP
            have hD : va_D A [(xf, c2 (.ref xs) (.ref xp) (.ref xq) v20), (xp, c1 ep), (xq, c1 eq), (xs, c5 st)] := by rw [hv20]; exact hD
            have hsp : (s2_sequence f ep eq st a1) = ((r19, v20) : Int32 × (Nat → Int32)) := by simp only [s2_sequence, ← hv20, ← hr19, if_neg z1, if_neg z5, if_neg z9, if_neg z13, if_pos z17]
            exact hret _ _ _ _ _ _ _ _ hP hD hS dX2_sequence_67 (cw_b01 (by (try simp only [hr19]); (repeat' split) <;> first | exact Or.inl rfl | exact Or.inr rfl | assumption | exact z2_sequenceRun _ _ _ _ _)) ⟨(), (by rw [hsp]), (by rw [hsp])⟩ (Nat.le_of_ble_eq_true rfl) (Nat.le_of_ble_eq_true rfl)
          · by_cases z21 : (f 3) = 5
            · refine lv_tableIn (off := 64) (tgt := 68) hx hb dX2_sequence_4 (by rw [z21]; decide) (by rw [z21]; decide) (by rw [z21]; rfl) (by decide) ?_
              refine lv_aload_n hx hb dX2_sequence_68 rfl (lv_at hl 0 rfl) ?_
              refine cw_cVi (As := []) (rest := []) (wc := [(xf, c2 (.ref xs) (.ref xp) (.ref xq) f), (xp, c1 ep), (xq, c1 eq), (xs, c5 st)]) (wr := []) ⟨hx, hb, hml, hown, hts⟩ (k2_sequenceAfterPurge l D cI cJ xf xp xq xs f ep eq st) (cwV 0 hts gX2_sequence_X2_sequenceAfterPurge rfl rfl rfl (by decide +kernel) ⟨Nat.le_of_ble_eq_true rfl, Nat.le_of_ble_eq_true rfl⟩) hK hN hP hD hS hA [0, 1, 2, 3] [] rfl rfl (by decide) (by decide) (by decide) 0 (ci := 2) rfl rfl rfl rfl hl.1 rfl (Nat.le_of_ble_eq_true rfl) dX2_sequence_69 ⟨Nat.le_of_ble_eq_true rfl, Nat.le_of_ble_eq_true rfl⟩ (fun r23 u22 H locs hw hP hD hS => ?_)
              have hr23 : r23 = ((s2_sequenceAfterPurge f ep eq st).1) := hw
              obtain ⟨v24, hv24⟩ : ∃ z : Nat → Int32, z = ((s2_sequenceAfterPurge f ep eq st).2) := ⟨_, rfl⟩
              have hP : va_P D vwCl [(xf, c2 (.ref xs) (.ref xp) (.ref xq) v24), (xp, c1 ep), (xq, c1 eq), (xs, c5 st)] H := by rw [hv24]; exact hP
              have hD : va_D A [(xf, c2 (.ref xs) (.ref xp) (.ref xq) v24), (xp, c1 ep), (xq, c1 eq), (xs, c5 st)] := by rw [hv24]; exact hD
              have hsp : (s2_sequence f ep eq st a1) = ((r23, v24) : Int32 × (Nat → Int32)) := by simp only [s2_sequence, ← hv24, ← hr23, if_neg z1, if_neg z5, if_neg z9, if_neg z13, if_neg z17, if_pos z21]
              exact hret _ _ _ _ _ _ _ _ hP hD hS dX2_sequence_72 (cw_b01 (by (try simp only [hr23]); (repeat' split) <;> first | exact Or.inl rfl | exact Or.inr rfl | assumption | exact z2_sequenceAfterPurge _ _ _ _)) ⟨(), (by rw [hsp]), (by rw [hsp])⟩ (Nat.le_of_ble_eq_true rfl) (Nat.le_of_ble_eq_true rfl)
            · refine lv_tableOut (tgt := 73) hx hb dX2_sequence_4 (by have y0 := lv_neT z1 (a := 0) (by decide); have y1 := lv_neT z5 (a := 1) (by decide); have y2 := lv_neT z9 (a := 2) (by decide); have y3 := lv_neT z13 (a := 3) (by decide); have y4 := lv_neT z17 (a := 4) (by decide); have y5 := lv_neT z21 (a := 5) (by decide); omega) (by decide) ?_
              refine lv_iconst (v := 0) hx hb dX2_sequence_73 (by decide) ?_
              have hsp : (s2_sequence f ep eq st a1) = ((0, f) : Int32 × (Nat → Int32)) := by simp only [s2_sequence, if_neg z1, if_neg z5, if_neg z9, if_neg z13, if_neg z17, if_neg z21]
              exact hret _ _ _ _ _ _ _ _ hP hD hS dX2_sequence_74 rfl ⟨(), (by rw [hsp]), (by rw [hsp])⟩ (Nat.le_of_ble_eq_true rfl) (Nat.le_of_ble_eq_true rfl)

set_option maxHeartbeats 4000000 in
set_option maxRecDepth 100000 in
theorem k2_tick (l : Launch) (D : va_G) (cI cJ : ClassId) (xf xp xq xs : Nat) (f : Nat → Int32) (ep : Nat → Int32) (eq : Nat → Int32) (st : Nat → Int32) (a1 : Int32) : cw_Mi l yX2_tick wsX2_tick (cw_rm 6) D [(cI, .int)] [.ref xf, .int a1] [(xf, c2 (.ref xs) (.ref xp) (.ref xq) f), (xp, c1 ep), (xq, c1 eq), (xs, c5 st)] 0 0 (fun r (_ : Unit) => r = (s2_tick f ep eq st a1).1) (fun _ : Unit => [(xf, c2 (.ref xs) (.ref xp) (.ref xq) (s2_tick f ep eq st a1).2.1), (xp, c1 (s2_tick f ep eq st a1).2.2.1), (xq, c1 (s2_tick f ep eq st a1).2.2.2), (xs, c5 st)]) := by
  refine cw_ofi (cc := cX2_tick) (maxL := 4) (ret := (some .boolean)) (by decide) rfl (Nat.le_of_ble_eq_true rfl) rfl ?_
  intro p e s m args below meth c A ls Q hin0 hret
  obtain ⟨hx, hb, hr, hml, hts, hown, hlocks, hin, hP, hK, hD, hN, hA, hl⟩ := hin0
  have hS : va_S A s.heap s.heap [] := va_S.rf
  have hl : lv_has ls 4 [(0, .ref xf), (1, .int a1)] := hl
  have lf12 := hts (.fieldLink RX2 12 "Burnerline$Furnace" "pilotEye" "LBurnerline$Eye;") (by decide +kernel)
  have i2 : ∀ w ∈ wsX20, w ∈ wsX2_tick := by decide +kernel
  have ln65 : va_Nw (.methodLinkNest RX2 65 yX6_isOn "Burnerline") s := hN _ (by decide +kernel)
  have ls65 := hts (.static yX6_isOn) (by decide +kernel)
  have liRX6 := hts (.initialized RX6) (by decide +kernel)
  have lf18 := hts (.fieldLink RX2 18 "Burnerline$Furnace" "mainEye" "LBurnerline$Eye;") (by decide +kernel)
  have lf36 := hts (.fieldLink RX2 36 "Burnerline$Furnace" "time" "I") (by decide +kernel)
  refine lv_aload_n hx hb dX2_tick_0 rfl (lv_at hl 0 rfl) ?_
  refine cw_cVi (As := []) (rest := []) (wc := [(xf, c2 (.ref xs) (.ref xp) (.ref xq) f)]) (wr := [(xp, c1 ep), (xq, c1 eq), (xs, c5 st)]) ⟨hx, hb, hml, hown, hts⟩ (k2_isPilotOpen l D cI cJ xf (.ref xs) (.ref xp) (.ref xq) f) (cwV 0 hts gX2_tick_X2_isPilotOpen rfl rfl rfl (by decide +kernel) ⟨Nat.le_of_ble_eq_true rfl, Nat.le_of_ble_eq_true rfl⟩) hK hN hP hD hS hA [0] [1, 2, 3] rfl rfl (by decide) (by decide) (by decide) 0 (ci := 2) rfl rfl rfl rfl hl.1 rfl (Nat.le_of_ble_eq_true rfl) dX2_tick_1 ⟨Nat.le_of_ble_eq_true rfl, Nat.le_of_ble_eq_true rfl⟩ (fun r2 u1 H locs hw hP hD hS => ?_)
  have hr2 : r2 = (s2_isPilotOpen f) := hw
  have hP : va_P D vwCl [(xp, c1 ep), (xq, c1 eq), (xs, c5 st), (xf, c2 (.ref xs) (.ref xp) (.ref xq) f)] H := hP
  have hD : va_D A [(xp, c1 ep), (xq, c1 eq), (xs, c5 st), (xf, c2 (.ref xs) (.ref xp) (.ref xq) f)] := hD
  have J7 : ∀ (w8 : Int32), w8 = (if r2 = 0 then (if (s2_isMainOpen f) = 0 then 0 else 1) else 1) → ∀ (H : Heap) (locs : List Loc), va_P D vwCl [(xp, c1 ep), (xq, c1 eq), (xs, c5 st), (xf, c2 (.ref xs) (.ref xp) (.ref xq) f)] H → va_D A [(xp, c1 ep), (xq, c1 eq), (xs, c5 st), (xf, c2 (.ref xs) (.ref xp) (.ref xq) f)] → va_S A s.heap H locs → W p l e (cw_rm 6) s m args below meth c H locs 0 0 (Q) (F0 m 19 ls [.int w8]) := by
    intro w8 hw8 H locs hP hD hS
    refine lv_istore_n (lv' := [(2, .int w8), (0, .ref xf), (1, .int a1)]) hx hb dX2_tick_19 rfl hl (by decide) rfl (fun ls hl => ?_)
    refine lv_aload_n hx hb dX2_tick_20 rfl (lv_at hl 1 rfl) ?_
    refine lv_aload_n hx hb dX2_tick_21 rfl (lv_at hl 1 rfl) ?_
    refine va_get (D := D) (ci := 2) (v := .ref xp) (C := RX2) (T := TX2) (N := 11) hx hb hts i2 hown hK hP 3 rfl rfl 1 (by decide) lf12 (fun _ h9 => h9) rfl dX2_tick_22 ?_
    refine lv_iload_n hx hb dX2_tick_25 rfl (lv_at hl 2 rfl) ?_
    refine lv_bipush (v := 8) hx hb dX2_tick_26 (by decide) ?_
    refine cw_cSNi (As := [.int a1, .int 8]) (rest := [.ref xp, .ref xf]) (wc := []) (wr := [(xp, c1 ep), (xq, c1 eq), (xs, c5 st), (xf, c2 (.ref xs) (.ref xp) (.ref xq) f)]) ⟨hx, hb, hml, hown, hts⟩ (k6_isOn l D cI cJ a1 8) (va_cnB 2 hts gX2_tick_X6_isOn_n65 rfl rfl rfl ln65 liRX6 (by decide +kernel) ⟨Nat.le_of_ble_eq_true rfl, Nat.le_of_ble_eq_true rfl⟩) ls65 hK hN hP hD hS hA [] [0, 1, 2, 3] rfl rfl (by decide) (by decide) (by decide) rfl hl.1 rfl (Nat.le_of_ble_eq_true rfl) dX2_tick_28 ⟨Nat.le_of_ble_eq_true rfl, Nat.le_of_ble_eq_true rfl⟩ (fun r10 u9 H locs hw hP hD hS => ?_)
    have hr10 : r10 = (s6_isOn a1 8) := hw
    have hP : va_P D vwCl [(xp, c1 ep), (xq, c1 eq), (xs, c5 st), (xf, c2 (.ref xs) (.ref xp) (.ref xq) f)] H := hP
    have hD : va_D A [(xp, c1 ep), (xq, c1 eq), (xs, c5 st), (xf, c2 (.ref xs) (.ref xp) (.ref xq) f)] := hD
    refine cw_cVv (As := [.ref xp, .int r10]) (rest := []) (wc := [(xf, c2 (.ref xs) (.ref xp) (.ref xq) f), (xs, c5 st), (xp, c1 ep)]) (wr := [(xq, c1 eq)]) ⟨hx, hb, hml, hown, hts⟩ (k2_look l D cI cJ xf xs xp (.ref xp) (.ref xq) f st ep r10 (by (try simp only [hr10]); (repeat' split) <;> first | exact Or.inl rfl | exact Or.inr rfl | assumption | exact z6_isOn _ _)) (cwV 2 hts gX2_tick_X2_look rfl rfl rfl (by decide +kernel) ⟨Nat.le_of_ble_eq_true rfl, Nat.le_of_ble_eq_true rfl⟩) hK hN hP hD hS hA [3, 2, 0] [1] rfl rfl (by decide) (by decide) (by decide) 0 (ci := 2) rfl rfl rfl rfl hl.1 rfl (Nat.le_of_ble_eq_true rfl) dX2_tick_31 ⟨Nat.le_of_ble_eq_true rfl, Nat.le_of_ble_eq_true rfl⟩ (fun u11 H locs hw hP hD hS => ?_)
    obtain ⟨v13, hv13⟩ : ∃ z : Nat → Int32, z = (s2_look f st ep r10) := ⟨_, rfl⟩
    have hP : va_P D vwCl [(xq, c1 eq), (xf, c2 (.ref xs) (.ref xp) (.ref xq) f), (xs, c5 st), (xp, c1 v13)] H := by rw [hv13]; exact hP
    have hD : va_D A [(xq, c1 eq), (xf, c2 (.ref xs) (.ref xp) (.ref xq) f), (xs, c5 st), (xp, c1 v13)] := by rw [hv13]; exact hD
    refine lv_aload_n hx hb dX2_tick_34 rfl (lv_at hl 1 rfl) ?_
    refine lv_aload_n hx hb dX2_tick_35 rfl (lv_at hl 1 rfl) ?_
    refine va_get (D := D) (ci := 2) (v := .ref xq) (C := RX2) (T := TX2) (N := 11) hx hb hts i2 hown hK hP 1 rfl rfl 2 (by decide) lf18 (fun _ h9 => h9) rfl dX2_tick_36 ?_
    refine lv_iload_n hx hb dX2_tick_39 rfl (lv_at hl 2 rfl) ?_
    refine lv_bipush (v := 16) hx hb dX2_tick_40 (by decide) ?_
    refine cw_cSNi (As := [.int a1, .int 16]) (rest := [.ref xq, .ref xf]) (wc := []) (wr := [(xq, c1 eq), (xf, c2 (.ref xs) (.ref xp) (.ref xq) f), (xs, c5 st), (xp, c1 v13)]) ⟨hx, hb, hml, hown, hts⟩ (k6_isOn l D cI cJ a1 16) (va_cnB 2 hts gX2_tick_X6_isOn_n65 rfl rfl rfl ln65 liRX6 (by decide +kernel) ⟨Nat.le_of_ble_eq_true rfl, Nat.le_of_ble_eq_true rfl⟩) ls65 hK hN hP hD hS hA [] [0, 1, 2, 3] rfl rfl (by decide) (by decide) (by decide) rfl hl.1 rfl (Nat.le_of_ble_eq_true rfl) dX2_tick_42 ⟨Nat.le_of_ble_eq_true rfl, Nat.le_of_ble_eq_true rfl⟩ (fun r15 u14 H locs hw hP hD hS => ?_)
    have hr15 : r15 = (s6_isOn a1 16) := hw
    have hP : va_P D vwCl [(xq, c1 eq), (xf, c2 (.ref xs) (.ref xp) (.ref xq) f), (xs, c5 st), (xp, c1 v13)] H := hP
    have hD : va_D A [(xq, c1 eq), (xf, c2 (.ref xs) (.ref xp) (.ref xq) f), (xs, c5 st), (xp, c1 v13)] := hD
    refine cw_cVv (As := [.ref xq, .int r15]) (rest := []) (wc := [(xf, c2 (.ref xs) (.ref xp) (.ref xq) f), (xs, c5 st), (xq, c1 eq)]) (wr := [(xp, c1 v13)]) ⟨hx, hb, hml, hown, hts⟩ (k2_look l D cI cJ xf xs xq (.ref xp) (.ref xq) f st eq r15 (by (try simp only [hr15]); (repeat' split) <;> first | exact Or.inl rfl | exact Or.inr rfl | assumption | exact z6_isOn _ _)) (cwV 2 hts gX2_tick_X2_look rfl rfl rfl (by decide +kernel) ⟨Nat.le_of_ble_eq_true rfl, Nat.le_of_ble_eq_true rfl⟩) hK hN hP hD hS hA [1, 2, 0] [3] rfl rfl (by decide) (by decide) (by decide) 0 (ci := 2) rfl rfl rfl rfl hl.1 rfl (Nat.le_of_ble_eq_true rfl) dX2_tick_45 ⟨Nat.le_of_ble_eq_true rfl, Nat.le_of_ble_eq_true rfl⟩ (fun u16 H locs hw hP hD hS => ?_)
    obtain ⟨v18, hv18⟩ : ∃ z : Nat → Int32, z = (s2_look f st eq r15) := ⟨_, rfl⟩
    have hP : va_P D vwCl [(xp, c1 v13), (xf, c2 (.ref xs) (.ref xp) (.ref xq) f), (xs, c5 st), (xq, c1 v18)] H := by rw [hv18]; exact hP
    have hD : va_D A [(xp, c1 v13), (xf, c2 (.ref xs) (.ref xp) (.ref xq) f), (xs, c5 st), (xq, c1 v18)] := by rw [hv18]; exact hD
    refine lv_aload_n hx hb dX2_tick_48 rfl (lv_at hl 1 rfl) ?_
    refine cw_cVv (As := []) (rest := []) (wc := [(xf, c2 (.ref xs) (.ref xp) (.ref xq) f), (xp, c1 v13), (xq, c1 v18), (xs, c5 st)]) (wr := []) ⟨hx, hb, hml, hown, hts⟩ (k2_movePositions l D cI cJ xf xp xq xs f v13 v18 st) (cwV 0 hts gX2_tick_X2_movePositions rfl rfl rfl (by decide +kernel) ⟨Nat.le_of_ble_eq_true rfl, Nat.le_of_ble_eq_true rfl⟩) hK hN hP hD hS hA [1, 0, 3, 2] [] rfl rfl (by decide) (by decide) (by decide) 0 (ci := 2) rfl rfl rfl rfl hl.1 rfl (Nat.le_of_ble_eq_true rfl) dX2_tick_49 ⟨Nat.le_of_ble_eq_true rfl, Nat.le_of_ble_eq_true rfl⟩ (fun u19 H locs hw hP hD hS => ?_)
    obtain ⟨v21, hv21⟩ : ∃ z : Nat → Int32, z = (s2_movePositions f v13 v18 st) := ⟨_, rfl⟩
    have hP : va_P D vwCl [(xf, c2 (.ref xs) (.ref xp) (.ref xq) v21), (xp, c1 v13), (xq, c1 v18), (xs, c5 st)] H := by rw [hv21]; exact hP
    have hD : va_D A [(xf, c2 (.ref xs) (.ref xp) (.ref xq) v21), (xp, c1 v13), (xq, c1 v18), (xs, c5 st)] := by rw [hv21]; exact hD
    refine lv_aload_n hx hb dX2_tick_52 rfl (lv_at hl 1 rfl) ?_
    refine lv_dup hx hb dX2_tick_53 rfl ?_
    refine va_get (D := D) (ci := 2) (v := .int (v21 5)) (C := RX2) (T := TX2) (N := 11) hx hb hts i2 hown hK hP 0 rfl rfl 5 (by decide) lf36 (fun _ h9 => h9) rfl dX2_tick_54 ?_
    refine lv_iconst (v := 1) hx hb dX2_tick_57 (by decide) ?_
    refine lv_iadd hx hb dX2_tick_58 ?_
    refine va_put (D := D) (ci := 2) (v := .int ((v21 5) + 1)) (ty := .int) (C := RX2) (T := TX2) (N := 11) hx hb hts i2 tyX2 tyX2_ok nmX2 hown hK hP hD hS 0 rfl rfl 5 (by decide) lf36 (fun _ h9 => h9) rfl (by decide +kernel) rfl rfl (Nat.le_of_ble_eq_true rfl) dX2_tick_59 (fun H locs hP hD hS => ?_)
    have hP : va_P D vwCl [(xf, c2 (.ref xs) (.ref xp) (.ref xq) (upd v21 5 ((v21 5) + 1))), (xp, c1 v13), (xq, c1 v18), (xs, c5 st)] H := (congrArg (fun z9 => va_P D vwCl [(xf, .inr (2, z9)), (xp, c1 v13), (xq, c1 v18), (xs, c5 st)] H) (cs2_5 (.ref xs) (.ref xp) (.ref xq) v21 ((v21 5) + 1))).mp hP
    have hD : va_D A [(xf, c2 (.ref xs) (.ref xp) (.ref xq) (upd v21 5 ((v21 5) + 1))), (xp, c1 v13), (xq, c1 v18), (xs, c5 st)] := (congrArg (fun z9 => va_D A [(xf, .inr (2, z9)), (xp, c1 v13), (xq, c1 v18), (xs, c5 st)]) (cs2_5 (.ref xs) (.ref xp) (.ref xq) v21 ((v21 5) + 1))).mp hD
    refine lv_aload_n hx hb dX2_tick_62 rfl (lv_at hl 1 rfl) ?_
    refine lv_iload_n hx hb dX2_tick_63 rfl (lv_at hl 2 rfl) ?_
    refine cw_cVi (As := [.int a1]) (rest := []) (wc := [(xf, c2 (.ref xs) (.ref xp) (.ref xq) (upd v21 5 ((v21 5) + 1))), (xp, c1 v13), (xq, c1 v18), (xs, c5 st)]) (wr := []) ⟨hx, hb, hml, hown, hts⟩ (k2_sequence l D cI cJ xf xp xq xs (upd v21 5 ((v21 5) + 1)) v13 v18 st a1) (cwV 1 hts gX2_tick_X2_sequence rfl rfl rfl (by decide +kernel) ⟨Nat.le_of_ble_eq_true rfl, Nat.le_of_ble_eq_true rfl⟩) hK hN hP hD hS hA [0, 1, 2, 3] [] rfl rfl (by decide) (by decide) (by decide) 0 (ci := 2) rfl rfl rfl rfl hl.1 rfl (Nat.le_of_ble_eq_true rfl) dX2_tick_64 ⟨Nat.le_of_ble_eq_true rfl, Nat.le_of_ble_eq_true rfl⟩ (fun r23 u22 H locs hw hP hD hS => ?_)
    have hr23 : r23 = ((s2_sequence (upd v21 5 ((v21 5) + 1)) v13 v18 st a1).1) := hw
    obtain ⟨v24, hv24⟩ : ∃ z : Nat → Int32, z = ((s2_sequence (upd v21 5 ((v21 5) + 1)) v13 v18 st a1).2) := ⟨_, rfl⟩
    have hP : va_P D vwCl [(xf, c2 (.ref xs) (.ref xp) (.ref xq) v24), (xp, c1 v13), (xq, c1 v18), (xs, c5 st)] H := by rw [hv24]; exact hP
    have hD : va_D A [(xf, c2 (.ref xs) (.ref xp) (.ref xq) v24), (xp, c1 v13), (xq, c1 v18), (xs, c5 st)] := by rw [hv24]; exact hD
    refine lv_istore_n (lv' := [(3, .int r23), (2, .int w8), (0, .ref xf), (1, .int a1)]) hx hb dX2_tick_67 rfl hl (by decide) rfl (fun ls hl => ?_)
    refine lv_aload_n hx hb dX2_tick_68 rfl (lv_at hl 2 rfl) ?_
    refine lv_iload_n hx hb dX2_tick_69 rfl (lv_at hl 1 rfl) ?_
    refine cw_cVv (As := [.int w8]) (rest := []) (wc := [(xf, c2 (.ref xs) (.ref xp) (.ref xq) v24), (xp, c1 v13), (xq, c1 v18), (xs, c5 st)]) (wr := []) ⟨hx, hb, hml, hown, hts⟩ (k2_countUnlit l D cI cJ xf xp xq xs v24 v13 v18 st w8) (cwV 1 hts gX2_tick_X2_countUnlit rfl rfl rfl (by decide +kernel) ⟨Nat.le_of_ble_eq_true rfl, Nat.le_of_ble_eq_true rfl⟩) hK hN hP hD hS hA [0, 1, 2, 3] [] rfl rfl (by decide) (by decide) (by decide) 0 (ci := 2) rfl rfl rfl rfl hl.1 rfl (Nat.le_of_ble_eq_true rfl) dX2_tick_70 ⟨Nat.le_of_ble_eq_true rfl, Nat.le_of_ble_eq_true rfl⟩ (fun u25 H locs hw hP hD hS => ?_)
    obtain ⟨v27, hv27⟩ : ∃ z : Nat → Int32, z = (s2_countUnlit v24 v13 v18 st w8) := ⟨_, rfl⟩
    have hP : va_P D vwCl [(xf, c2 (.ref xs) (.ref xp) (.ref xq) v27), (xp, c1 v13), (xq, c1 v18), (xs, c5 st)] H := by rw [hv27]; exact hP
    have hD : va_D A [(xf, c2 (.ref xs) (.ref xp) (.ref xq) v27), (xp, c1 v13), (xq, c1 v18), (xs, c5 st)] := by rw [hv27]; exact hD
    refine lv_iload_n hx hb dX2_tick_73 rfl (lv_at hl 0 rfl) ?_
    have hsp : (s2_tick f ep eq st a1) = ((r23, v27, v13, v18) : Int32 × (Nat → Int32) × (Nat → Int32) × (Nat → Int32)) := by simp only [s2_tick, ← hr2, ← hw8, ← hr10, ← hv13, ← hr15, ← hv18, ← hv21, ← hv24, ← hr23, ← hv27]
    exact hret _ _ _ _ _ _ _ _ hP hD hS dX2_tick_74 (cw_b01 (by (try simp only [hr10, hv13, hr15, hv18, hv21, hr23]); (repeat' split) <;> first | exact Or.inl rfl | exact Or.inr rfl | assumption | exact z2_sequence _ _ _ _ _ | exact z6_isOn _ _)) ⟨(), (by rw [hsp]), (by rw [hsp])⟩ (Nat.le_of_ble_eq_true rfl) (Nat.le_of_ble_eq_true rfl)
  refine lv_if_ne (tgt := 14) hx hb dX2_tick_4 (by decide) (fun z3 => ?_) (fun z3 => ?_)
  · refine lv_iconst (v := 1) hx hb dX2_tick_14 (by decide) ?_
    refine lv_goto (tgt := 19) hx hb dX2_tick_15 (by decide) ?_
    exact J7 1 (by simp only [if_neg z3]) _ _ hP hD hS
  · refine lv_aload_n hx hb dX2_tick_7 rfl (lv_at hl 0 rfl) ?_
    refine cw_cVi (As := []) (rest := []) (wc := [(xf, c2 (.ref xs) (.ref xp) (.ref xq) f)]) (wr := [(xp, c1 ep), (xq, c1 eq), (xs, c5 st)]) ⟨hx, hb, hml, hown, hts⟩ (k2_isMainOpen l D cI cJ xf (.ref xs) (.ref xp) (.ref xq) f) (cwV 0 hts gX2_tick_X2_isMainOpen rfl rfl rfl (by decide +kernel) ⟨Nat.le_of_ble_eq_true rfl, Nat.le_of_ble_eq_true rfl⟩) hK hN hP hD hS hA [3] [0, 1, 2] rfl rfl (by decide) (by decide) (by decide) 0 (ci := 2) rfl rfl rfl rfl hl.1 rfl (Nat.le_of_ble_eq_true rfl) dX2_tick_8 ⟨Nat.le_of_ble_eq_true rfl, Nat.le_of_ble_eq_true rfl⟩ (fun r5 u4 H locs hw hP hD hS => ?_)
    have hr5 : r5 = (s2_isMainOpen f) := hw
    have hP : va_P D vwCl [(xp, c1 ep), (xq, c1 eq), (xs, c5 st), (xf, c2 (.ref xs) (.ref xp) (.ref xq) f)] H := hP
    have hD : va_D A [(xp, c1 ep), (xq, c1 eq), (xs, c5 st), (xf, c2 (.ref xs) (.ref xp) (.ref xq) f)] := hD
    refine lv_if_eq (tgt := 18) hx hb dX2_tick_11 (by decide) (fun z6 => ?_) (fun z6 => ?_)
    · refine lv_iconst (v := 0) hx hb dX2_tick_18 (by decide) ?_
      exact J7 0 (by simp only [← hr5, if_pos z3, if_pos z6]) _ _ hP hD hS
    · refine lv_iconst (v := 1) hx hb dX2_tick_14 (by decide) ?_
      refine lv_goto (tgt := 19) hx hb dX2_tick_15 (by decide) ?_
      exact J7 1 (by simp only [← hr5, if_pos z3, if_neg z6]) _ _ hP hD hS
