theorem cw_pl (hh : Nat → Int32) : vp_in ((if (hh 5) < 0 then (upd hh 5 0) else (if (hh 5) < 100 then hh else (upd hh 5 0))) 5) 100 := by
  rw [vp_in_iff]
  by_cases h1 : hh 5 < 0
  · rw [if_pos h1]; simp [upd]
  · rw [if_neg h1]
    by_cases h2 : hh 5 < 100
    · rw [if_pos h2]
      rw [Int32.lt_iff_toInt_lt] at h1 h2
      exact ⟨Int.not_lt.mp h1, h2⟩
    · rw [if_neg h2]; simp [upd]
theorem cw_pl3 (x : Int32) (h1 : ¬ x < 0) (h2 : ¬ 100 ≤ x) : vp_in x 100 := by
  rw [vp_in_iff]
  rw [Int32.lt_iff_toInt_lt] at h1
  rw [Int32.le_iff_toInt_le] at h2
  exact ⟨Int.not_lt.mp h1, Int.not_le.mp h2⟩
theorem cw_pl2 (x : Int32) (h1 : ¬ x < 0) (h2 : x < 100) : vp_in x 100 := by
  rw [vp_in_iff]
  rw [Int32.lt_iff_toInt_lt] at h1 h2
  exact ⟨Int.not_lt.mp h1, h2⟩


def s3_add (hh : Nat → Int32) (t1 : Nat → Int32) (t2 : Nat → Int32) (t3 : Nat → Int32) (a1 : Int32) (a2 : Int32) (a3 : Int32) : (Nat → Int32) × (Nat → Int32) × (Nat → Int32) × (Nat → Int32) := (let w4 : Nat → Int32 := (if (hh 5) < 0 then (upd hh 5 0) else (if (hh 5) < 100 then hh else (upd hh 5 0))); ((upd (upd (upd w4 5 ((w4 5) + 1)) 4 (if 100 < ((w4 4) + 1) then 100 else ((w4 4) + 1))) 3 ((w4 3) + 1)), (upd t1 ((w4 5).toNatClampNeg) a1), (upd t2 ((w4 5).toNatClampNeg) a2), (upd t3 ((w4 5).toNatClampNeg) a3)))

def s3_has (hh : Nat → Int32) (a1 : Int32) : Int32 := (let w4 : Int32 := (if a1 < 0 then 0 else (if (hh 4) ≤ a1 then 0 else 1)); w4)
theorem z3_has (hh : Nat → Int32) (a1 : Int32) : (s3_has hh a1) = 0 ∨ (s3_has hh a1) = 1 := by
  simp only [s3_has]
  (repeat' split) <;> (try dsimp only) <;> first | exact Or.inl rfl | exact Or.inr rfl | (simp; done)

def s3_read (hh : Nat → Int32) (ra : Nat → Int32) (a2 : Int32) : Int32 := (let w3 : Int32 := (if 0 ≤ (((hh 5) - 1) - a2) then (((hh 5) - 1) - a2) else ((((hh 5) - 1) - a2) + 100)); (let w7 : Int32 := (if w3 < 0 then (-1) else (if 100 ≤ w3 then (-1) else (ra w3.toNatClampNeg))); w7))

def s4_init (rs : Nat → Int32) : (Nat → Int32) := (upd (upd (upd rs 0 (-100)) 1 (-100)) 2 (-100))

def s4_countOf (a1 : Int32) (a2 : Int32) : Int32 := (let w3 : Int32 := (if 100 ≤ (a2 - a1) then 0 else 1); w3)

def s4_add (rs : Nat → Int32) (a1 : Int32) : (Nat → Int32) := (upd (upd (upd rs 2 (rs 1)) 1 (rs 0)) 0 a1)

def s4_recent (rs : Nat → Int32) (a1 : Int32) : Int32 := (let r2 : Int32 := (s4_countOf (rs 0) a1); (let r4 : Int32 := (s4_countOf (rs 1) a1); (let r6 : Int32 := (s4_countOf (rs 2) a1); ((r2 + r4) + r6))))

def s5_init (st : Nat → Int32) : (Nat → Int32) := (upd (upd (upd (upd (upd (upd (upd (upd (upd (upd (upd st 0 50) 1 60) 2 10) 3 5) 4 15) 5 2) 6 3) 7 30) 8 200) 9 20) 10 10)





set_option maxHeartbeats 4000000 in
set_option maxRecDepth 100000 in
theorem k3_init (l : Launch) (D : va_G) (cI cJ : ClassId) (xh : Nat) (hh : Nat → Int32) : cw_Mv l yX3_init wsX3_init ({ frames := 1, cells := 3, slots := 300, locals := 40 } : Room) D [(cI, .int)] [.ref xh] [(xh, c3 .null .null .null hh)] 3 300 (fun _ : Nat × Nat × Nat => True) (fun u : Nat × Nat × Nat => [(xh, c3 (.ref u.1) (.ref u.2.1) (.ref u.2.2) hh), (u.1, .inl (cI, 100, .inl (fun _ => 0))), (u.2.1, .inl (cI, 100, .inl (fun _ => 0))), (u.2.2, .inl (cI, 100, .inl (fun _ => 0)))]) := by
  refine cw_ofv (cc := cX3_init) (maxL := 1) (ret := none) (by decide) rfl (Nat.le_of_ble_eq_true rfl) rfl ?_
  intro p e s m args below meth c A ls Q hin0 hret
  obtain ⟨hx, hb, hr, hml, hts, hown, hlocks, hin, hP, hK, hD, hN, hA, hl⟩ := hin0
  have hS : va_S A s.heap s.heap [] := va_S.rf
  have hl : lv_has ls 1 [(0, .ref xh)] := hl
  have lo3 := hts (.methodLink RX3 3 objectInit) (by decide +kernel)
  have loi := hts (.instanceMethod objectInit) (by decide +kernel)
  have loc9 := hts (.code objectInit ⟨#[0xb1]⟩ 1 none) (by decide +kernel)
  have laint := hts (.arrayClass .int) (by decide +kernel)
  have lf9 := hts (.fieldLink RX3 9 "Burnerline$History" "tickRow" "[I") (by decide +kernel)
  have i3 : ∀ w ∈ wsX30, w ∈ wsX3_init := by decide +kernel
  have lf15 := hts (.fieldLink RX3 15 "Burnerline$History" "stateRow" "[I") (by decide +kernel)
  have lf18 := hts (.fieldLink RX3 18 "Burnerline$History" "reasonRow" "[I") (by decide +kernel)
  refine lv_aload_n hx hb dX3_init_0 rfl (lv_at hl 0 rfl) ?_
  refine W.objInit hx hb hown lo3 loi loc9 rfl (by rw [hml]; exact hl.1) rfl dX3_init_1 (Nat.le_of_ble_eq_true rfl) (Nat.le_of_ble_eq_true rfl) ?_
  refine W.eq (g2 := F0 m 4 ls []) rfl ?_
  refine lv_aload_n hx hb dX3_init_4 rfl (lv_at hl 0 rfl) ?_
  refine lv_bipush (v := 100) hx hb dX3_init_5 (by decide) ?_
  refine cw_newaI hx hb laint hK hP hD hS hA (N := 100) (by decide) (by decide) (by decide) (Nat.le_of_ble_eq_true rfl) (Nat.le_of_ble_eq_true rfl) dX3_init_7 (fun q1 H hP hD hS => ?_)
  have hP : va_P D vwCl [(xh, c3 .null .null .null hh), (q1, .inl (cI, 100, .inl (fun _ => 0)))] H := hP
  have hD : va_D A [(xh, c3 .null .null .null hh), (q1, .inl (cI, 100, .inl (fun _ => 0)))] := hD
  refine va_putF (D := D) (ci := 3) (v := .ref q1) (ty := .array .int) (C := RX3) (T := TX3) (N := 6) hx hb hts i3 tyX3 tyX3_ok nmX3 hown hK hP hD hS 0 rfl rfl 0 (by decide) lf9 (fun _ h9 => h9) rfl hin rfl (by decide +kernel) rfl rfl (Nat.le_of_ble_eq_true rfl) dX3_init_9 (fun H locs hP hD hS => ?_)
  have hP : va_P D vwCl [(xh, c3 (.ref q1) .null .null hh), (q1, .inl (cI, 100, .inl (fun _ => 0)))] H := hP
  have hD : va_D A [(xh, c3 (.ref q1) .null .null hh), (q1, .inl (cI, 100, .inl (fun _ => 0)))] := hD
  refine lv_aload_n hx hb dX3_init_12 rfl (lv_at hl 0 rfl) ?_
  refine lv_bipush (v := 100) hx hb dX3_init_13 (by decide) ?_
  refine cw_newaI hx hb laint hK hP hD hS hA (N := 100) (by decide) (by decide) (by decide) (Nat.le_of_ble_eq_true rfl) (Nat.le_of_ble_eq_true rfl) dX3_init_15 (fun q2 H hP hD hS => ?_)
  have hP : va_P D vwCl [(xh, c3 (.ref q1) .null .null hh), (q1, .inl (cI, 100, .inl (fun _ => 0))), (q2, .inl (cI, 100, .inl (fun _ => 0)))] H := hP
  have hD : va_D A [(xh, c3 (.ref q1) .null .null hh), (q1, .inl (cI, 100, .inl (fun _ => 0))), (q2, .inl (cI, 100, .inl (fun _ => 0)))] := hD
  refine va_putF (D := D) (ci := 3) (v := .ref q2) (ty := .array .int) (C := RX3) (T := TX3) (N := 6) hx hb hts i3 tyX3 tyX3_ok nmX3 hown hK hP hD hS 0 rfl rfl 1 (by decide) lf15 (fun _ h9 => h9) rfl hin rfl (by decide +kernel) rfl rfl (Nat.le_of_ble_eq_true rfl) dX3_init_17 (fun H locs hP hD hS => ?_)
  have hP : va_P D vwCl [(xh, c3 (.ref q1) (.ref q2) .null hh), (q1, .inl (cI, 100, .inl (fun _ => 0))), (q2, .inl (cI, 100, .inl (fun _ => 0)))] H := hP
  have hD : va_D A [(xh, c3 (.ref q1) (.ref q2) .null hh), (q1, .inl (cI, 100, .inl (fun _ => 0))), (q2, .inl (cI, 100, .inl (fun _ => 0)))] := hD
  refine lv_aload_n hx hb dX3_init_20 rfl (lv_at hl 0 rfl) ?_
  refine lv_bipush (v := 100) hx hb dX3_init_21 (by decide) ?_
  refine cw_newaI hx hb laint hK hP hD hS hA (N := 100) (by decide) (by decide) (by decide) (Nat.le_of_ble_eq_true rfl) (Nat.le_of_ble_eq_true rfl) dX3_init_23 (fun q3 H hP hD hS => ?_)
  have hP : va_P D vwCl [(xh, c3 (.ref q1) (.ref q2) .null hh), (q1, .inl (cI, 100, .inl (fun _ => 0))), (q2, .inl (cI, 100, .inl (fun _ => 0))), (q3, .inl (cI, 100, .inl (fun _ => 0)))] H := hP
  have hD : va_D A [(xh, c3 (.ref q1) (.ref q2) .null hh), (q1, .inl (cI, 100, .inl (fun _ => 0))), (q2, .inl (cI, 100, .inl (fun _ => 0))), (q3, .inl (cI, 100, .inl (fun _ => 0)))] := hD
  refine va_putF (D := D) (ci := 3) (v := .ref q3) (ty := .array .int) (C := RX3) (T := TX3) (N := 6) hx hb hts i3 tyX3 tyX3_ok nmX3 hown hK hP hD hS 0 rfl rfl 2 (by decide) lf18 (fun _ h9 => h9) rfl hin rfl (by decide +kernel) rfl rfl (Nat.le_of_ble_eq_true rfl) dX3_init_25 (fun H locs hP hD hS => ?_)
  have hP : va_P D vwCl [(xh, c3 (.ref q1) (.ref q2) (.ref q3) hh), (q1, .inl (cI, 100, .inl (fun _ => 0))), (q2, .inl (cI, 100, .inl (fun _ => 0))), (q3, .inl (cI, 100, .inl (fun _ => 0)))] H := hP
  have hD : va_D A [(xh, c3 (.ref q1) (.ref q2) (.ref q3) hh), (q1, .inl (cI, 100, .inl (fun _ => 0))), (q2, .inl (cI, 100, .inl (fun _ => 0))), (q3, .inl (cI, 100, .inl (fun _ => 0)))] := hD
  exact hret _ _ _ _ _ _ _ hP hD hS dX3_init_28 ⟨(q1, q2, q3), trivial, rfl⟩ (Nat.le_of_ble_eq_true rfl) (Nat.le_of_ble_eq_true rfl)

set_option maxHeartbeats 4000000 in
set_option maxRecDepth 100000 in
theorem k3_add (l : Launch) (D : va_G) (cI cJ : ClassId) (xh ja jb jc : Nat) (hh : Nat → Int32) (t1 : Nat → Int32) (t2 : Nat → Int32) (t3 : Nat → Int32) (a1 : Int32) (a2 : Int32) (a3 : Int32) : cw_Mv l yX3_add wsX3_add (cw_rm 1) D [(cI, .int)] [.ref xh, .int a1, .int a2, .int a3] [(xh, c3 (.ref ja) (.ref jb) (.ref jc) hh), (ja, .inl (cI, 100, .inl t1)), (jb, .inl (cI, 100, .inl t2)), (jc, .inl (cI, 100, .inl t3))] 0 0 (fun _ : Unit => True) (fun _ : Unit => [(xh, c3 (.ref ja) (.ref jb) (.ref jc) (s3_add hh t1 t2 t3 a1 a2 a3).1), (ja, .inl (cI, 100, .inl (s3_add hh t1 t2 t3 a1 a2 a3).2.1)), (jb, .inl (cI, 100, .inl (s3_add hh t1 t2 t3 a1 a2 a3).2.2.1)), (jc, .inl (cI, 100, .inl (s3_add hh t1 t2 t3 a1 a2 a3).2.2.2))]) := by
  refine cw_ofv (cc := cX3_add) (maxL := 4) (ret := none) (by decide) rfl (Nat.le_of_ble_eq_true rfl) rfl ?_
  intro p e s m args below meth c A ls Q hin0 hret
  obtain ⟨hx, hb, hr, hml, hts, hown, hlocks, hin, hP, hK, hD, hN, hA, hl⟩ := hin0
  have hS : va_S A s.heap s.heap [] := va_S.rf
  have hl : lv_has ls 4 [(0, .ref xh), (1, .int a1), (2, .int a2), (3, .int a3)] := hl
  have lf21 := hts (.fieldLink RX3 21 "Burnerline$History" "place" "I") (by decide +kernel)
  have i3 : ∀ w ∈ wsX30, w ∈ wsX3_add := by decide +kernel
  have lf9 := hts (.fieldLink RX3 9 "Burnerline$History" "tickRow" "[I") (by decide +kernel)
  have lf15 := hts (.fieldLink RX3 15 "Burnerline$History" "stateRow" "[I") (by decide +kernel)
  have lf18 := hts (.fieldLink RX3 18 "Burnerline$History" "reasonRow" "[I") (by decide +kernel)
  have lf25 := hts (.fieldLink RX3 25 "Burnerline$History" "kept" "I") (by decide +kernel)
  have lmmin0 := hts (.methodLink RX3 28 Lib.Math.min.name) (by decide +kernel)
  have lmmin1 := hts (.static Lib.Math.min.name) (by decide +kernel)
  have lmmin2 := hts (.initialized "java/lang/Math") (by decide +kernel)
  have lmmin3 := hts (.code Lib.Math.min.name Lib.Math.min.code 2 (some .int)) (by decide +kernel)
  have lf34 := hts (.fieldLink RX3 34 "Burnerline$History" "added" "I") (by decide +kernel)
  refine lv_aload_n hx hb dX3_add_0 rfl (lv_at hl 0 rfl) ?_
  refine va_get (D := D) (ci := 3) (v := .int (hh 5)) (C := RX3) (T := TX3) (N := 6) hx hb hts i3 hown hK hP 0 rfl rfl 5 (by decide) lf21 (fun _ h9 => h9) rfl dX3_add_1 ?_
  have J3 : ∀ (w4 : Nat → Int32), w4 = (if (hh 5) < 0 then (upd hh 5 0) else (if (hh 5) < 100 then hh else (upd hh 5 0))) → ∀ (H : Heap) (locs : List Loc), va_P D vwCl [(xh, c3 (.ref ja) (.ref jb) (.ref jc) w4), (ja, .inl (cI, 100, .inl t1)), (jb, .inl (cI, 100, .inl t2)), (jc, .inl (cI, 100, .inl t3))] H → va_D A [(xh, c3 (.ref ja) (.ref jb) (.ref jc) w4), (ja, .inl (cI, 100, .inl t1)), (jb, .inl (cI, 100, .inl t2)), (jc, .inl (cI, 100, .inl t3))] → va_S A s.heap H locs → W p l e (cw_rm 1) s m args below meth c H locs 0 0 (Q) (F0 m 21 ls []) := by
    intro w4 hw4 H locs hP hD hS
    refine lv_aload_n hx hb dX3_add_21 rfl (lv_at hl 0 rfl) ?_
    refine va_get (D := D) (ci := 3) (v := .ref ja) (C := RX3) (T := TX3) (N := 6) hx hb hts i3 hown hK hP 0 rfl rfl 0 (by decide) lf9 (fun _ h9 => h9) rfl dX3_add_22 ?_
    refine lv_aload_n hx hb dX3_add_25 rfl (lv_at hl 0 rfl) ?_
    refine va_get (D := D) (ci := 3) (v := .int (w4 5)) (C := RX3) (T := TX3) (N := 6) hx hb hts i3 hown hK hP 0 rfl rfl 5 (by decide) lf21 (fun _ h9 => h9) rfl dX3_add_26 ?_
    refine lv_iload_n hx hb dX3_add_29 rfl (lv_at hl 1 rfl) ?_
    refine va_iast hx hb hK hP hD hS 1 0 rfl rfl (by rw [hw4]; exact cw_pl hh) dX3_add_30 (fun H locs hP hD hS => ?_)
    have hP : va_P D vwCl [(xh, c3 (.ref ja) (.ref jb) (.ref jc) w4), (ja, .inl (cI, 100, .inl (upd t1 ((w4 5).toNatClampNeg) a1))), (jb, .inl (cI, 100, .inl t2)), (jc, .inl (cI, 100, .inl t3))] H := hP
    have hD : va_D A [(xh, c3 (.ref ja) (.ref jb) (.ref jc) w4), (ja, .inl (cI, 100, .inl (upd t1 ((w4 5).toNatClampNeg) a1))), (jb, .inl (cI, 100, .inl t2)), (jc, .inl (cI, 100, .inl t3))] := hD
    refine lv_aload_n hx hb dX3_add_31 rfl (lv_at hl 0 rfl) ?_
    refine va_get (D := D) (ci := 3) (v := .ref jb) (C := RX3) (T := TX3) (N := 6) hx hb hts i3 hown hK hP 0 rfl rfl 1 (by decide) lf15 (fun _ h9 => h9) rfl dX3_add_32 ?_
    refine lv_aload_n hx hb dX3_add_35 rfl (lv_at hl 0 rfl) ?_
    refine va_get (D := D) (ci := 3) (v := .int (w4 5)) (C := RX3) (T := TX3) (N := 6) hx hb hts i3 hown hK hP 0 rfl rfl 5 (by decide) lf21 (fun _ h9 => h9) rfl dX3_add_36 ?_
    refine lv_iload_n hx hb dX3_add_39 rfl (lv_at hl 2 rfl) ?_
    refine va_iast hx hb hK hP hD hS 2 0 rfl rfl (by rw [hw4]; exact cw_pl hh) dX3_add_40 (fun H locs hP hD hS => ?_)
    have hP : va_P D vwCl [(xh, c3 (.ref ja) (.ref jb) (.ref jc) w4), (ja, .inl (cI, 100, .inl (upd t1 ((w4 5).toNatClampNeg) a1))), (jb, .inl (cI, 100, .inl (upd t2 ((w4 5).toNatClampNeg) a2))), (jc, .inl (cI, 100, .inl t3))] H := hP
    have hD : va_D A [(xh, c3 (.ref ja) (.ref jb) (.ref jc) w4), (ja, .inl (cI, 100, .inl (upd t1 ((w4 5).toNatClampNeg) a1))), (jb, .inl (cI, 100, .inl (upd t2 ((w4 5).toNatClampNeg) a2))), (jc, .inl (cI, 100, .inl t3))] := hD
    refine lv_aload_n hx hb dX3_add_41 rfl (lv_at hl 0 rfl) ?_
    refine va_get (D := D) (ci := 3) (v := .ref jc) (C := RX3) (T := TX3) (N := 6) hx hb hts i3 hown hK hP 0 rfl rfl 2 (by decide) lf18 (fun _ h9 => h9) rfl dX3_add_42 ?_
    refine lv_aload_n hx hb dX3_add_45 rfl (lv_at hl 0 rfl) ?_
    refine va_get (D := D) (ci := 3) (v := .int (w4 5)) (C := RX3) (T := TX3) (N := 6) hx hb hts i3 hown hK hP 0 rfl rfl 5 (by decide) lf21 (fun _ h9 => h9) rfl dX3_add_46 ?_
    refine lv_iload_n hx hb dX3_add_49 rfl (lv_at hl 3 rfl) ?_
    refine va_iast hx hb hK hP hD hS 3 0 rfl rfl (by rw [hw4]; exact cw_pl hh) dX3_add_50 (fun H locs hP hD hS => ?_)
    have hP : va_P D vwCl [(xh, c3 (.ref ja) (.ref jb) (.ref jc) w4), (ja, .inl (cI, 100, .inl (upd t1 ((w4 5).toNatClampNeg) a1))), (jb, .inl (cI, 100, .inl (upd t2 ((w4 5).toNatClampNeg) a2))), (jc, .inl (cI, 100, .inl (upd t3 ((w4 5).toNatClampNeg) a3)))] H := hP
    have hD : va_D A [(xh, c3 (.ref ja) (.ref jb) (.ref jc) w4), (ja, .inl (cI, 100, .inl (upd t1 ((w4 5).toNatClampNeg) a1))), (jb, .inl (cI, 100, .inl (upd t2 ((w4 5).toNatClampNeg) a2))), (jc, .inl (cI, 100, .inl (upd t3 ((w4 5).toNatClampNeg) a3)))] := hD
    refine lv_aload_n hx hb dX3_add_51 rfl (lv_at hl 0 rfl) ?_
    refine lv_dup hx hb dX3_add_52 rfl ?_
    refine va_get (D := D) (ci := 3) (v := .int (w4 5)) (C := RX3) (T := TX3) (N := 6) hx hb hts i3 hown hK hP 0 rfl rfl 5 (by decide) lf21 (fun _ h9 => h9) rfl dX3_add_53 ?_
    refine lv_iconst (v := 1) hx hb dX3_add_56 (by decide) ?_
    refine lv_iadd hx hb dX3_add_57 ?_
    refine va_put (D := D) (ci := 3) (v := .int ((w4 5) + 1)) (ty := .int) (C := RX3) (T := TX3) (N := 6) hx hb hts i3 tyX3 tyX3_ok nmX3 hown hK hP hD hS 0 rfl rfl 5 (by decide) lf21 (fun _ h9 => h9) rfl (by decide +kernel) rfl rfl (Nat.le_of_ble_eq_true rfl) dX3_add_58 (fun H locs hP hD hS => ?_)
    have hP : va_P D vwCl [(xh, c3 (.ref ja) (.ref jb) (.ref jc) (upd w4 5 ((w4 5) + 1))), (ja, .inl (cI, 100, .inl (upd t1 ((w4 5).toNatClampNeg) a1))), (jb, .inl (cI, 100, .inl (upd t2 ((w4 5).toNatClampNeg) a2))), (jc, .inl (cI, 100, .inl (upd t3 ((w4 5).toNatClampNeg) a3)))] H := (congrArg (fun z9 => va_P D vwCl [(xh, .inr (3, z9)), (ja, .inl (cI, 100, .inl (upd t1 ((w4 5).toNatClampNeg) a1))), (jb, .inl (cI, 100, .inl (upd t2 ((w4 5).toNatClampNeg) a2))), (jc, .inl (cI, 100, .inl (upd t3 ((w4 5).toNatClampNeg) a3)))] H) (cs3_5 (.ref ja) (.ref jb) (.ref jc) w4 ((w4 5) + 1))).mp hP
    have hD : va_D A [(xh, c3 (.ref ja) (.ref jb) (.ref jc) (upd w4 5 ((w4 5) + 1))), (ja, .inl (cI, 100, .inl (upd t1 ((w4 5).toNatClampNeg) a1))), (jb, .inl (cI, 100, .inl (upd t2 ((w4 5).toNatClampNeg) a2))), (jc, .inl (cI, 100, .inl (upd t3 ((w4 5).toNatClampNeg) a3)))] := (congrArg (fun z9 => va_D A [(xh, .inr (3, z9)), (ja, .inl (cI, 100, .inl (upd t1 ((w4 5).toNatClampNeg) a1))), (jb, .inl (cI, 100, .inl (upd t2 ((w4 5).toNatClampNeg) a2))), (jc, .inl (cI, 100, .inl (upd t3 ((w4 5).toNatClampNeg) a3)))]) (cs3_5 (.ref ja) (.ref jb) (.ref jc) w4 ((w4 5) + 1))).mp hD
    refine lv_aload_n hx hb dX3_add_61 rfl (lv_at hl 0 rfl) ?_
    refine lv_aload_n hx hb dX3_add_62 rfl (lv_at hl 0 rfl) ?_
    refine va_get (D := D) (ci := 3) (v := .int ((upd w4 5 ((w4 5) + 1)) 4)) (C := RX3) (T := TX3) (N := 6) hx hb hts i3 hown hK hP 0 rfl rfl 4 (by decide) lf25 (fun _ h9 => h9) rfl dX3_add_63 ?_
    refine cw_topi (y := (w4 4)) (cw_updn _ _ (by decide)) ?_
    refine lv_iconst (v := 1) hx hb dX3_add_66 (by decide) ?_
    refine lv_iadd hx hb dX3_add_67 ?_
    refine lv_bipush (v := 100) hx hb dX3_add_68 (by decide) ?_
    refine va_mmin hx hb (by rw [hml]; exact hl.1.symm) hown lmmin0 lmmin1 lmmin2 lmmin3 (Nat.le_of_ble_eq_true rfl) (Nat.le_of_ble_eq_true rfl) (Nat.le_of_ble_eq_true rfl) (Nat.le_of_ble_eq_true rfl) dX3_add_70 ?_
    refine va_put (D := D) (ci := 3) (v := .int (if 100 < ((w4 4) + 1) then 100 else ((w4 4) + 1))) (ty := .int) (C := RX3) (T := TX3) (N := 6) hx hb hts i3 tyX3 tyX3_ok nmX3 hown hK hP hD hS 0 rfl rfl 4 (by decide) lf25 (fun _ h9 => h9) rfl (by decide +kernel) rfl rfl (Nat.le_of_ble_eq_true rfl) dX3_add_73 (fun H locs hP hD hS => ?_)
    have hP : va_P D vwCl [(xh, c3 (.ref ja) (.ref jb) (.ref jc) (upd (upd w4 5 ((w4 5) + 1)) 4 (if 100 < ((w4 4) + 1) then 100 else ((w4 4) + 1)))), (ja, .inl (cI, 100, .inl (upd t1 ((w4 5).toNatClampNeg) a1))), (jb, .inl (cI, 100, .inl (upd t2 ((w4 5).toNatClampNeg) a2))), (jc, .inl (cI, 100, .inl (upd t3 ((w4 5).toNatClampNeg) a3)))] H := (congrArg (fun z9 => va_P D vwCl [(xh, .inr (3, z9)), (ja, .inl (cI, 100, .inl (upd t1 ((w4 5).toNatClampNeg) a1))), (jb, .inl (cI, 100, .inl (upd t2 ((w4 5).toNatClampNeg) a2))), (jc, .inl (cI, 100, .inl (upd t3 ((w4 5).toNatClampNeg) a3)))] H) (cs3_4 (.ref ja) (.ref jb) (.ref jc) (upd w4 5 ((w4 5) + 1)) (if 100 < ((w4 4) + 1) then 100 else ((w4 4) + 1)))).mp hP
    have hD : va_D A [(xh, c3 (.ref ja) (.ref jb) (.ref jc) (upd (upd w4 5 ((w4 5) + 1)) 4 (if 100 < ((w4 4) + 1) then 100 else ((w4 4) + 1)))), (ja, .inl (cI, 100, .inl (upd t1 ((w4 5).toNatClampNeg) a1))), (jb, .inl (cI, 100, .inl (upd t2 ((w4 5).toNatClampNeg) a2))), (jc, .inl (cI, 100, .inl (upd t3 ((w4 5).toNatClampNeg) a3)))] := (congrArg (fun z9 => va_D A [(xh, .inr (3, z9)), (ja, .inl (cI, 100, .inl (upd t1 ((w4 5).toNatClampNeg) a1))), (jb, .inl (cI, 100, .inl (upd t2 ((w4 5).toNatClampNeg) a2))), (jc, .inl (cI, 100, .inl (upd t3 ((w4 5).toNatClampNeg) a3)))]) (cs3_4 (.ref ja) (.ref jb) (.ref jc) (upd w4 5 ((w4 5) + 1)) (if 100 < ((w4 4) + 1) then 100 else ((w4 4) + 1)))).mp hD
    refine lv_aload_n hx hb dX3_add_76 rfl (lv_at hl 0 rfl) ?_
    refine lv_dup hx hb dX3_add_77 rfl ?_
    refine va_get (D := D) (ci := 3) (v := .int ((upd (upd w4 5 ((w4 5) + 1)) 4 (if 100 < ((w4 4) + 1) then 100 else ((w4 4) + 1))) 3)) (C := RX3) (T := TX3) (N := 6) hx hb hts i3 hown hK hP 0 rfl rfl 3 (by decide) lf34 (fun _ h9 => h9) rfl dX3_add_78 ?_
    refine cw_topi (y := (w4 3)) ((cw_updn _ _ (by decide)).trans (cw_updn _ _ (by decide))) ?_
    refine lv_iconst (v := 1) hx hb dX3_add_81 (by decide) ?_
    refine lv_iadd hx hb dX3_add_82 ?_
    refine va_put (D := D) (ci := 3) (v := .int ((w4 3) + 1)) (ty := .int) (C := RX3) (T := TX3) (N := 6) hx hb hts i3 tyX3 tyX3_ok nmX3 hown hK hP hD hS 0 rfl rfl 3 (by decide) lf34 (fun _ h9 => h9) rfl (by decide +kernel) rfl rfl (Nat.le_of_ble_eq_true rfl) dX3_add_83 (fun H locs hP hD hS => ?_)
    have hP : va_P D vwCl [(xh, c3 (.ref ja) (.ref jb) (.ref jc) (upd (upd (upd w4 5 ((w4 5) + 1)) 4 (if 100 < ((w4 4) + 1) then 100 else ((w4 4) + 1))) 3 ((w4 3) + 1))), (ja, .inl (cI, 100, .inl (upd t1 ((w4 5).toNatClampNeg) a1))), (jb, .inl (cI, 100, .inl (upd t2 ((w4 5).toNatClampNeg) a2))), (jc, .inl (cI, 100, .inl (upd t3 ((w4 5).toNatClampNeg) a3)))] H := (congrArg (fun z9 => va_P D vwCl [(xh, .inr (3, z9)), (ja, .inl (cI, 100, .inl (upd t1 ((w4 5).toNatClampNeg) a1))), (jb, .inl (cI, 100, .inl (upd t2 ((w4 5).toNatClampNeg) a2))), (jc, .inl (cI, 100, .inl (upd t3 ((w4 5).toNatClampNeg) a3)))] H) (cs3_3 (.ref ja) (.ref jb) (.ref jc) (upd (upd w4 5 ((w4 5) + 1)) 4 (if 100 < ((w4 4) + 1) then 100 else ((w4 4) + 1))) ((w4 3) + 1))).mp hP
    have hD : va_D A [(xh, c3 (.ref ja) (.ref jb) (.ref jc) (upd (upd (upd w4 5 ((w4 5) + 1)) 4 (if 100 < ((w4 4) + 1) then 100 else ((w4 4) + 1))) 3 ((w4 3) + 1))), (ja, .inl (cI, 100, .inl (upd t1 ((w4 5).toNatClampNeg) a1))), (jb, .inl (cI, 100, .inl (upd t2 ((w4 5).toNatClampNeg) a2))), (jc, .inl (cI, 100, .inl (upd t3 ((w4 5).toNatClampNeg) a3)))] := (congrArg (fun z9 => va_D A [(xh, .inr (3, z9)), (ja, .inl (cI, 100, .inl (upd t1 ((w4 5).toNatClampNeg) a1))), (jb, .inl (cI, 100, .inl (upd t2 ((w4 5).toNatClampNeg) a2))), (jc, .inl (cI, 100, .inl (upd t3 ((w4 5).toNatClampNeg) a3)))]) (cs3_3 (.ref ja) (.ref jb) (.ref jc) (upd (upd w4 5 ((w4 5) + 1)) 4 (if 100 < ((w4 4) + 1) then 100 else ((w4 4) + 1))) ((w4 3) + 1))).mp hD
    have hsp : (s3_add hh t1 t2 t3 a1 a2 a3) = (((upd (upd (upd w4 5 ((w4 5) + 1)) 4 (if 100 < ((w4 4) + 1) then 100 else ((w4 4) + 1))) 3 ((w4 3) + 1)), (upd t1 ((w4 5).toNatClampNeg) a1), (upd t2 ((w4 5).toNatClampNeg) a2), (upd t3 ((w4 5).toNatClampNeg) a3)) : (Nat → Int32) × (Nat → Int32) × (Nat → Int32) × (Nat → Int32)) := by simp only [s3_add, ← hw4]
    exact hret _ _ _ _ _ _ _ hP hD hS dX3_add_86 ⟨(), trivial, (by rw [hsp])⟩ (Nat.le_of_ble_eq_true rfl) (Nat.le_of_ble_eq_true rfl)
  refine lv_if_lt (tgt := 16) hx hb dX3_add_4 (by decide) (fun z1 => ?_) (fun z1 => ?_)
  · refine lv_aload_n hx hb dX3_add_16 rfl (lv_at hl 0 rfl) ?_
    refine lv_iconst (v := 0) hx hb dX3_add_17 (by decide) ?_
    refine va_put (D := D) (ci := 3) (v := .int 0) (ty := .int) (C := RX3) (T := TX3) (N := 6) hx hb hts i3 tyX3 tyX3_ok nmX3 hown hK hP hD hS 0 rfl rfl 5 (by decide) lf21 (fun _ h9 => h9) rfl (by decide +kernel) rfl rfl (Nat.le_of_ble_eq_true rfl) dX3_add_18 (fun H locs hP hD hS => ?_)
    have hP : va_P D vwCl [(xh, c3 (.ref ja) (.ref jb) (.ref jc) (upd hh 5 0)), (ja, .inl (cI, 100, .inl t1)), (jb, .inl (cI, 100, .inl t2)), (jc, .inl (cI, 100, .inl t3))] H := (congrArg (fun z9 => va_P D vwCl [(xh, .inr (3, z9)), (ja, .inl (cI, 100, .inl t1)), (jb, .inl (cI, 100, .inl t2)), (jc, .inl (cI, 100, .inl t3))] H) (cs3_5 (.ref ja) (.ref jb) (.ref jc) hh 0)).mp hP
    have hD : va_D A [(xh, c3 (.ref ja) (.ref jb) (.ref jc) (upd hh 5 0)), (ja, .inl (cI, 100, .inl t1)), (jb, .inl (cI, 100, .inl t2)), (jc, .inl (cI, 100, .inl t3))] := (congrArg (fun z9 => va_D A [(xh, .inr (3, z9)), (ja, .inl (cI, 100, .inl t1)), (jb, .inl (cI, 100, .inl t2)), (jc, .inl (cI, 100, .inl t3))]) (cs3_5 (.ref ja) (.ref jb) (.ref jc) hh 0)).mp hD
    exact J3 (upd hh 5 0) (by simp only [if_pos z1]) _ _ hP hD hS
  · refine lv_aload_n hx hb dX3_add_7 rfl (lv_at hl 0 rfl) ?_
    refine va_get (D := D) (ci := 3) (v := .int (hh 5)) (C := RX3) (T := TX3) (N := 6) hx hb hts i3 hown hK hP 0 rfl rfl 5 (by decide) lf21 (fun _ h9 => h9) rfl dX3_add_8 ?_
    refine lv_bipush (v := 100) hx hb dX3_add_11 (by decide) ?_
    refine lv_icmp_lt (tgt := 21) hx hb dX3_add_13 (by decide) (fun z2 => ?_) (fun z2 => ?_)
    · exact J3 hh (by simp only [if_neg z1, if_pos z2]) _ _ hP hD hS
    · refine lv_aload_n hx hb dX3_add_16 rfl (lv_at hl 0 rfl) ?_
      refine lv_iconst (v := 0) hx hb dX3_add_17 (by decide) ?_
      refine va_put (D := D) (ci := 3) (v := .int 0) (ty := .int) (C := RX3) (T := TX3) (N := 6) hx hb hts i3 tyX3 tyX3_ok nmX3 hown hK hP hD hS 0 rfl rfl 5 (by decide) lf21 (fun _ h9 => h9) rfl (by decide +kernel) rfl rfl (Nat.le_of_ble_eq_true rfl) dX3_add_18 (fun H locs hP hD hS => ?_)
      have hP : va_P D vwCl [(xh, c3 (.ref ja) (.ref jb) (.ref jc) (upd hh 5 0)), (ja, .inl (cI, 100, .inl t1)), (jb, .inl (cI, 100, .inl t2)), (jc, .inl (cI, 100, .inl t3))] H := (congrArg (fun z9 => va_P D vwCl [(xh, .inr (3, z9)), (ja, .inl (cI, 100, .inl t1)), (jb, .inl (cI, 100, .inl t2)), (jc, .inl (cI, 100, .inl t3))] H) (cs3_5 (.ref ja) (.ref jb) (.ref jc) hh 0)).mp hP
      have hD : va_D A [(xh, c3 (.ref ja) (.ref jb) (.ref jc) (upd hh 5 0)), (ja, .inl (cI, 100, .inl t1)), (jb, .inl (cI, 100, .inl t2)), (jc, .inl (cI, 100, .inl t3))] := (congrArg (fun z9 => va_D A [(xh, .inr (3, z9)), (ja, .inl (cI, 100, .inl t1)), (jb, .inl (cI, 100, .inl t2)), (jc, .inl (cI, 100, .inl t3))]) (cs3_5 (.ref ja) (.ref jb) (.ref jc) hh 0)).mp hD
      exact J3 (upd hh 5 0) (by simp only [if_neg z1, if_neg z2]) _ _ hP hD hS

set_option maxHeartbeats 4000000 in
set_option maxRecDepth 100000 in
theorem k3_has (l : Launch) (D : va_G) (cI cJ : ClassId) (xh : Nat) (xh_0 xh_1 xh_2 : Value) (hh : Nat → Int32) (a1 : Int32) : cw_Mi l yX3_has wsX3_has (cw_rm 0) D [(cI, .int)] [.ref xh, .int a1] [(xh, c3 xh_0 xh_1 xh_2 hh)] 0 0 (fun r (_ : Unit) => r = (s3_has hh a1)) (fun _ : Unit => [(xh, c3 xh_0 xh_1 xh_2 hh)]) := by
  refine cw_ofi (cc := cX3_has) (maxL := 2) (ret := (some .boolean)) (by decide) rfl (Nat.le_of_ble_eq_true rfl) rfl ?_
  intro p e s m args below meth c A ls Q hin0 hret
  obtain ⟨hx, hb, hr, hml, hts, hown, hlocks, hin, hP, hK, hD, hN, hA, hl⟩ := hin0
  have hS : va_S A s.heap s.heap [] := va_S.rf
  have hl : lv_has ls 2 [(0, .ref xh), (1, .int a1)] := hl
  have lf25 := hts (.fieldLink RX3 25 "Burnerline$History" "kept" "I") (by decide +kernel)
  have i3 : ∀ w ∈ wsX30, w ∈ wsX3_has := by decide +kernel
  refine lv_iload_n hx hb dX3_has_0 rfl (lv_at hl 1 rfl) ?_
  have J3 : ∀ (w4 : Int32), w4 = (if a1 < 0 then 0 else (if (hh 4) ≤ a1 then 0 else 1)) → W p l e (cw_rm 0) s m args below meth c s.heap [] 0 0 (Q) (F0 m 17 ls [.int w4]) := by
    intro w4 hw4
    have hsp : (s3_has hh a1) = (w4 : Int32) := by simp only [s3_has, ← hw4]
    exact hret _ _ _ _ _ _ _ _ hP hD hS dX3_has_17 (cw_b01 (by (try simp only [hw4]); (repeat' split) <;> first | exact Or.inl rfl | exact Or.inr rfl | assumption)) ⟨(), (by rw [hsp]), rfl⟩ (Nat.le_of_ble_eq_true rfl) (Nat.le_of_ble_eq_true rfl)
  refine lv_if_lt (tgt := 16) hx hb dX3_has_1 (by decide) (fun z1 => ?_) (fun z1 => ?_)
  · refine lv_iconst (v := 0) hx hb dX3_has_16 (by decide) ?_
    exact J3 0 (by simp only [if_pos z1])
  · refine lv_iload_n hx hb dX3_has_4 rfl (lv_at hl 1 rfl) ?_
    refine lv_aload_n hx hb dX3_has_5 rfl (lv_at hl 0 rfl) ?_
    refine va_get (D := D) (ci := 3) (v := .int (hh 4)) (C := RX3) (T := TX3) (N := 6) hx hb hts i3 hown hK hP 0 rfl rfl 4 (by decide) lf25 (fun _ h9 => h9) rfl dX3_has_6 ?_
    refine lv_icmp_ge (tgt := 16) hx hb dX3_has_9 (by decide) (fun z2 => ?_) (fun z2 => ?_)
    · refine lv_iconst (v := 0) hx hb dX3_has_16 (by decide) ?_
      exact J3 0 (by simp only [if_neg z1, if_pos z2])
    · refine lv_iconst (v := 1) hx hb dX3_has_12 (by decide) ?_
      refine lv_goto (tgt := 17) hx hb dX3_has_13 (by decide) ?_
      exact J3 1 (by simp only [if_neg z1, if_neg z2])

set_option maxHeartbeats 4000000 in
set_option maxRecDepth 100000 in
theorem k3_read (l : Launch) (D : va_G) (cI cJ : ClassId) (xh xr : Nat) (xh_0 xh_1 xh_2 : Value) (hh : Nat → Int32) (ra : Nat → Int32) (a2 : Int32) : cw_Mi l yX3_read wsX3_read (cw_rm 0) D [(cI, .int)] [.ref xh, .ref xr, .int a2] [(xh, c3 xh_0 xh_1 xh_2 hh), (xr, .inl (cI, 100, .inl ra))] 0 0 (fun r (_ : Unit) => r = (s3_read hh ra a2)) (fun _ : Unit => [(xh, c3 xh_0 xh_1 xh_2 hh), (xr, .inl (cI, 100, .inl ra))]) := by
  refine cw_ofi (cc := cX3_read) (maxL := 4) (ret := (some .int)) (by decide) rfl (Nat.le_of_ble_eq_true rfl) rfl ?_
  intro p e s m args below meth c A ls Q hin0 hret
  obtain ⟨hx, hb, hr, hml, hts, hown, hlocks, hin, hP, hK, hD, hN, hA, hl⟩ := hin0
  have hS : va_S A s.heap s.heap [] := va_S.rf
  have hl : lv_has ls 4 [(0, .ref xh), (1, .ref xr), (2, .int a2)] := hl
  have lf21 := hts (.fieldLink RX3 21 "Burnerline$History" "place" "I") (by decide +kernel)
  have i3 : ∀ w ∈ wsX30, w ∈ wsX3_read := by decide +kernel
  refine lv_aload_n hx hb dX3_read_0 rfl (lv_at hl 0 rfl) ?_
  refine va_get (D := D) (ci := 3) (v := .int (hh 5)) (C := RX3) (T := TX3) (N := 6) hx hb hts i3 hown hK hP 0 rfl rfl 5 (by decide) lf21 (fun _ h9 => h9) rfl dX3_read_1 ?_
  refine lv_iconst (v := 1) hx hb dX3_read_4 (by decide) ?_
  refine lv_isub hx hb dX3_read_5 ?_
  refine lv_iload_n hx hb dX3_read_6 rfl (lv_at hl 2 rfl) ?_
  refine lv_isub hx hb dX3_read_7 ?_
  refine lv_istore_n (lv' := [(3, .int (((hh 5) - 1) - a2)), (0, .ref xh), (1, .ref xr), (2, .int a2)]) hx hb dX3_read_8 rfl hl (by decide) rfl (fun ls hl => ?_)
  refine lv_iload_n hx hb dX3_read_9 rfl (lv_at hl 0 rfl) ?_
  have J2 : ∀ (w3 : Int32), w3 = (if 0 ≤ (((hh 5) - 1) - a2) then (((hh 5) - 1) - a2) else ((((hh 5) - 1) - a2) + 100)) → ∀ (ls : Array Slot), lv_has ls 4 [(0, .ref xh), (1, .ref xr), (2, .int a2), (3, .int w3)] → W p l e (cw_rm 0) s m args below meth c s.heap [] 0 0 (Q) (F0 m 16 ls []) := by
    intro w3 hw3 ls hl
    refine lv_iload_n hx hb dX3_read_16 rfl (lv_at hl 3 rfl) ?_
    have J6 : ∀ (w7 : Int32), w7 = (if w3 < 0 then (-1) else (if 100 ≤ w3 then (-1) else (ra w3.toNatClampNeg))) → W p l e (cw_rm 0) s m args below meth c s.heap [] 0 0 (Q) (F0 m 33 ls [.int w7]) := by
      intro w7 hw7
      have hsp : (s3_read hh ra a2) = (w7 : Int32) := by simp only [s3_read, ← hw3, ← hw7]
      exact hret _ _ _ _ _ _ _ _ hP hD hS dX3_read_33 rfl ⟨(), (by rw [hsp]), rfl⟩ (Nat.le_of_ble_eq_true rfl) (Nat.le_of_ble_eq_true rfl)
    refine lv_if_lt (tgt := 32) hx hb dX3_read_17 (by decide) (fun z4 => ?_) (fun z4 => ?_)
    · refine lv_iconst (v := (-1)) hx hb dX3_read_32 (by decide) ?_
      exact J6 (-1) (by simp only [if_pos z4])
    · refine lv_iload_n hx hb dX3_read_20 rfl (lv_at hl 3 rfl) ?_
      refine lv_aload_n hx hb dX3_read_21 rfl (lv_at hl 1 rfl) ?_
      refine va_alen hx hb hK hP 1 0 rfl rfl (v := 100) (show Int32.ofNat 100 = 100 from by decide) dX3_read_22 ?_
      refine lv_icmp_ge (tgt := 32) hx hb dX3_read_23 (by decide) (fun z5 => ?_) (fun z5 => ?_)
      · refine lv_iconst (v := (-1)) hx hb dX3_read_32 (by decide) ?_
        exact J6 (-1) (by simp only [if_neg z4, if_pos z5])
      · refine lv_aload_n hx hb dX3_read_26 rfl (lv_at hl 1 rfl) ?_
        refine lv_iload_n hx hb dX3_read_27 rfl (lv_at hl 3 rfl) ?_
        refine va_iald hx hb hK hP 1 0 rfl rfl (cw_pl3 _ (by assumption) (by assumption)) dX3_read_28 ?_
        refine lv_goto (tgt := 33) hx hb dX3_read_29 (by decide) ?_
        exact J6 (ra w3.toNatClampNeg) (by simp only [if_neg z4, if_neg z5])
  refine lv_if_ge (tgt := 16) hx hb dX3_read_10 (by decide) (fun z1 => ?_) (fun z1 => ?_)
  · exact J2 (((hh 5) - 1) - a2) (by simp only [if_pos z1]) _ (lv_sub hl [1, 2, 3, 0] rfl)
  · refine lv_iinc (v := ((((hh 5) - 1) - a2) + 100)) (lv' := [(3, .int ((((hh 5) - 1) - a2) + 100)), (0, .ref xh), (1, .ref xr), (2, .int a2)]) hx hb dX3_read_13 hl (k := 0) rfl rfl (by decide) rfl (fun ls hl => ?_)
    exact J2 ((((hh 5) - 1) - a2) + 100) (by simp only [if_neg z1]) _ (lv_sub hl [1, 2, 3, 0] rfl)

set_option maxHeartbeats 4000000 in
set_option maxRecDepth 100000 in
theorem k4_init (l : Launch) (D : va_G) (cI cJ : ClassId) (xr : Nat) (rs : Nat → Int32) : cw_Mv l yX4_init wsX4_init (cw_rm 1) D [(cI, .int)] [.ref xr] [(xr, c4 rs)] 0 0 (fun _ : Unit => True) (fun _ : Unit => [(xr, c4 (s4_init rs))]) := by
  refine cw_ofv (cc := cX4_init) (maxL := 1) (ret := none) (by decide) rfl (Nat.le_of_ble_eq_true rfl) rfl ?_
  intro p e s m args below meth c A ls Q hin0 hret
  obtain ⟨hx, hb, hr, hml, hts, hown, hlocks, hin, hP, hK, hD, hN, hA, hl⟩ := hin0
  have hS : va_S A s.heap s.heap [] := va_S.rf
  have hl : lv_has ls 1 [(0, .ref xr)] := hl
  have lo3 := hts (.methodLink RX4 3 objectInit) (by decide +kernel)
  have loi := hts (.instanceMethod objectInit) (by decide +kernel)
  have loc9 := hts (.code objectInit ⟨#[0xb1]⟩ 1 none) (by decide +kernel)
  have lf9 := hts (.fieldLink RX4 9 "Burnerline$Resets" "last" "I") (by decide +kernel)
  have i4 : ∀ w ∈ wsX40, w ∈ wsX4_init := by decide +kernel
  have lf15 := hts (.fieldLink RX4 15 "Burnerline$Resets" "second" "I") (by decide +kernel)
  have lf18 := hts (.fieldLink RX4 18 "Burnerline$Resets" "third" "I") (by decide +kernel)
  refine lv_aload_n hx hb dX4_init_0 rfl (lv_at hl 0 rfl) ?_
  refine W.objInit hx hb hown lo3 loi loc9 rfl (by rw [hml]; exact hl.1) rfl dX4_init_1 (Nat.le_of_ble_eq_true rfl) (Nat.le_of_ble_eq_true rfl) ?_
  refine W.eq (g2 := F0 m 4 ls []) rfl ?_
  refine lv_aload_n hx hb dX4_init_4 rfl (lv_at hl 0 rfl) ?_
  refine lv_bipush (v := (-100)) hx hb dX4_init_5 (by decide) ?_
  refine va_put (D := D) (ci := 4) (v := .int (-100)) (ty := .int) (C := RX4) (T := TX4) (N := 3) hx hb hts i4 tyX4 tyX4_ok nmX4 hown hK hP hD hS 0 rfl rfl 0 (by decide) lf9 (fun _ h9 => h9) rfl (by decide +kernel) rfl rfl (Nat.le_of_ble_eq_true rfl) dX4_init_7 (fun H locs hP hD hS => ?_)
  have hP : va_P D vwCl [(xr, c4 (upd rs 0 (-100)))] H := (congrArg (fun z9 => va_P D vwCl [(xr, .inr (4, z9))] H) (cs4_0 rs (-100))).mp hP
  have hD : va_D A [(xr, c4 (upd rs 0 (-100)))] := (congrArg (fun z9 => va_D A [(xr, .inr (4, z9))]) (cs4_0 rs (-100))).mp hD
  refine lv_aload_n hx hb dX4_init_10 rfl (lv_at hl 0 rfl) ?_
  refine lv_bipush (v := (-100)) hx hb dX4_init_11 (by decide) ?_
  refine va_put (D := D) (ci := 4) (v := .int (-100)) (ty := .int) (C := RX4) (T := TX4) (N := 3) hx hb hts i4 tyX4 tyX4_ok nmX4 hown hK hP hD hS 0 rfl rfl 1 (by decide) lf15 (fun _ h9 => h9) rfl (by decide +kernel) rfl rfl (Nat.le_of_ble_eq_true rfl) dX4_init_13 (fun H locs hP hD hS => ?_)
  have hP : va_P D vwCl [(xr, c4 (upd (upd rs 0 (-100)) 1 (-100)))] H := (congrArg (fun z9 => va_P D vwCl [(xr, .inr (4, z9))] H) (cs4_1 (upd rs 0 (-100)) (-100))).mp hP
  have hD : va_D A [(xr, c4 (upd (upd rs 0 (-100)) 1 (-100)))] := (congrArg (fun z9 => va_D A [(xr, .inr (4, z9))]) (cs4_1 (upd rs 0 (-100)) (-100))).mp hD
  refine lv_aload_n hx hb dX4_init_16 rfl (lv_at hl 0 rfl) ?_
  refine lv_bipush (v := (-100)) hx hb dX4_init_17 (by decide) ?_
  refine va_put (D := D) (ci := 4) (v := .int (-100)) (ty := .int) (C := RX4) (T := TX4) (N := 3) hx hb hts i4 tyX4 tyX4_ok nmX4 hown hK hP hD hS 0 rfl rfl 2 (by decide) lf18 (fun _ h9 => h9) rfl (by decide +kernel) rfl rfl (Nat.le_of_ble_eq_true rfl) dX4_init_19 (fun H locs hP hD hS => ?_)
  have hP : va_P D vwCl [(xr, c4 (upd (upd (upd rs 0 (-100)) 1 (-100)) 2 (-100)))] H := (congrArg (fun z9 => va_P D vwCl [(xr, .inr (4, z9))] H) (cs4_2 (upd (upd rs 0 (-100)) 1 (-100)) (-100))).mp hP
  have hD : va_D A [(xr, c4 (upd (upd (upd rs 0 (-100)) 1 (-100)) 2 (-100)))] := (congrArg (fun z9 => va_D A [(xr, .inr (4, z9))]) (cs4_2 (upd (upd rs 0 (-100)) 1 (-100)) (-100))).mp hD
  have hsp : (s4_init rs) = ((upd (upd (upd rs 0 (-100)) 1 (-100)) 2 (-100)) : (Nat → Int32)) := rfl
  exact hret _ _ _ _ _ _ _ hP hD hS dX4_init_22 ⟨(), trivial, (by rw [hsp])⟩ (Nat.le_of_ble_eq_true rfl) (Nat.le_of_ble_eq_true rfl)

set_option maxHeartbeats 4000000 in
set_option maxRecDepth 100000 in
theorem k4_countOf (l : Launch) (D : va_G) (cI cJ : ClassId) (a1 : Int32) (a2 : Int32) : cw_Mi l yX4_countOf wsX4_countOf (cw_rm 0) D [(cI, .int)] [.int a1, .int a2] [] 0 0 (fun r (_ : Unit) => r = (s4_countOf a1 a2)) (fun _ : Unit => []) := by
  refine cw_ofi (cc := cX4_countOf) (maxL := 2) (ret := (some .int)) (by decide) rfl (Nat.le_of_ble_eq_true rfl) rfl ?_
  intro p e s m args below meth c A ls Q hin0 hret
  obtain ⟨hx, hb, hr, hml, hts, hown, hlocks, hin, hP, hK, hD, hN, hA, hl⟩ := hin0
  have hS : va_S A s.heap s.heap [] := va_S.rf
  have hl : lv_has ls 2 [(0, .int a1), (1, .int a2)] := hl
  refine lv_iload_n hx hb dX4_countOf_0 rfl (lv_at hl 1 rfl) ?_
  refine lv_iload_n hx hb dX4_countOf_1 rfl (lv_at hl 0 rfl) ?_
  refine lv_isub hx hb dX4_countOf_2 ?_
  refine lv_bipush (v := 100) hx hb dX4_countOf_3 (by decide) ?_
  have J2 : ∀ (w3 : Int32), w3 = (if 100 ≤ (a2 - a1) then 0 else 1) → W p l e (cw_rm 0) s m args below meth c s.heap [] 0 0 (Q) (F0 m 13 ls [.int w3]) := by
    intro w3 hw3
    have hsp : (s4_countOf a1 a2) = (w3 : Int32) := by simp only [s4_countOf, ← hw3]
    exact hret _ _ _ _ _ _ _ _ hP hD hS dX4_countOf_13 rfl ⟨(), (by rw [hsp]), rfl⟩ (Nat.le_of_ble_eq_true rfl) (Nat.le_of_ble_eq_true rfl)
  refine lv_icmp_ge (tgt := 12) hx hb dX4_countOf_5 (by decide) (fun z1 => ?_) (fun z1 => ?_)
  · refine lv_iconst (v := 0) hx hb dX4_countOf_12 (by decide) ?_
    exact J2 0 (by simp only [if_pos z1])
  · refine lv_iconst (v := 1) hx hb dX4_countOf_8 (by decide) ?_
    refine lv_goto (tgt := 13) hx hb dX4_countOf_9 (by decide) ?_
    exact J2 1 (by simp only [if_neg z1])

set_option maxHeartbeats 4000000 in
set_option maxRecDepth 100000 in
theorem k4_add (l : Launch) (D : va_G) (cI cJ : ClassId) (xr : Nat) (rs : Nat → Int32) (a1 : Int32) : cw_Mv l yX4_add wsX4_add (cw_rm 0) D [(cI, .int)] [.ref xr, .int a1] [(xr, c4 rs)] 0 0 (fun _ : Unit => True) (fun _ : Unit => [(xr, c4 (s4_add rs a1))]) := by
  refine cw_ofv (cc := cX4_add) (maxL := 2) (ret := none) (by decide) rfl (Nat.le_of_ble_eq_true rfl) rfl ?_
  intro p e s m args below meth c A ls Q hin0 hret
  obtain ⟨hx, hb, hr, hml, hts, hown, hlocks, hin, hP, hK, hD, hN, hA, hl⟩ := hin0
  have hS : va_S A s.heap s.heap [] := va_S.rf
  have hl : lv_has ls 2 [(0, .ref xr), (1, .int a1)] := hl
  have lf15 := hts (.fieldLink RX4 15 "Burnerline$Resets" "second" "I") (by decide +kernel)
  have i4 : ∀ w ∈ wsX40, w ∈ wsX4_add := by decide +kernel
  have lf18 := hts (.fieldLink RX4 18 "Burnerline$Resets" "third" "I") (by decide +kernel)
  have lf9 := hts (.fieldLink RX4 9 "Burnerline$Resets" "last" "I") (by decide +kernel)
  refine lv_aload_n hx hb dX4_add_0 rfl (lv_at hl 0 rfl) ?_
  refine lv_aload_n hx hb dX4_add_1 rfl (lv_at hl 0 rfl) ?_
  refine va_get (D := D) (ci := 4) (v := .int (rs 1)) (C := RX4) (T := TX4) (N := 3) hx hb hts i4 hown hK hP 0 rfl rfl 1 (by decide) lf15 (fun _ h9 => h9) rfl dX4_add_2 ?_
  refine va_put (D := D) (ci := 4) (v := .int (rs 1)) (ty := .int) (C := RX4) (T := TX4) (N := 3) hx hb hts i4 tyX4 tyX4_ok nmX4 hown hK hP hD hS 0 rfl rfl 2 (by decide) lf18 (fun _ h9 => h9) rfl (by decide +kernel) rfl rfl (Nat.le_of_ble_eq_true rfl) dX4_add_5 (fun H locs hP hD hS => ?_)
  have hP : va_P D vwCl [(xr, c4 (upd rs 2 (rs 1)))] H := (congrArg (fun z9 => va_P D vwCl [(xr, .inr (4, z9))] H) (cs4_2 rs (rs 1))).mp hP
  have hD : va_D A [(xr, c4 (upd rs 2 (rs 1)))] := (congrArg (fun z9 => va_D A [(xr, .inr (4, z9))]) (cs4_2 rs (rs 1))).mp hD
  refine lv_aload_n hx hb dX4_add_8 rfl (lv_at hl 0 rfl) ?_
  refine lv_aload_n hx hb dX4_add_9 rfl (lv_at hl 0 rfl) ?_
  refine va_get (D := D) (ci := 4) (v := .int ((upd rs 2 (rs 1)) 0)) (C := RX4) (T := TX4) (N := 3) hx hb hts i4 hown hK hP 0 rfl rfl 0 (by decide) lf9 (fun _ h9 => h9) rfl dX4_add_10 ?_
  refine cw_topi (y := (rs 0)) (cw_updn _ _ (by decide)) ?_
  refine va_put (D := D) (ci := 4) (v := .int (rs 0)) (ty := .int) (C := RX4) (T := TX4) (N := 3) hx hb hts i4 tyX4 tyX4_ok nmX4 hown hK hP hD hS 0 rfl rfl 1 (by decide) lf15 (fun _ h9 => h9) rfl (by decide +kernel) rfl rfl (Nat.le_of_ble_eq_true rfl) dX4_add_13 (fun H locs hP hD hS => ?_)
  have hP : va_P D vwCl [(xr, c4 (upd (upd rs 2 (rs 1)) 1 (rs 0)))] H := (congrArg (fun z9 => va_P D vwCl [(xr, .inr (4, z9))] H) (cs4_1 (upd rs 2 (rs 1)) (rs 0))).mp hP
  have hD : va_D A [(xr, c4 (upd (upd rs 2 (rs 1)) 1 (rs 0)))] := (congrArg (fun z9 => va_D A [(xr, .inr (4, z9))]) (cs4_1 (upd rs 2 (rs 1)) (rs 0))).mp hD
  refine lv_aload_n hx hb dX4_add_16 rfl (lv_at hl 0 rfl) ?_
  refine lv_iload_n hx hb dX4_add_17 rfl (lv_at hl 1 rfl) ?_
  refine va_put (D := D) (ci := 4) (v := .int a1) (ty := .int) (C := RX4) (T := TX4) (N := 3) hx hb hts i4 tyX4 tyX4_ok nmX4 hown hK hP hD hS 0 rfl rfl 0 (by decide) lf9 (fun _ h9 => h9) rfl (by decide +kernel) rfl rfl (Nat.le_of_ble_eq_true rfl) dX4_add_18 (fun H locs hP hD hS => ?_)
  have hP : va_P D vwCl [(xr, c4 (upd (upd (upd rs 2 (rs 1)) 1 (rs 0)) 0 a1))] H := (congrArg (fun z9 => va_P D vwCl [(xr, .inr (4, z9))] H) (cs4_0 (upd (upd rs 2 (rs 1)) 1 (rs 0)) a1)).mp hP
  have hD : va_D A [(xr, c4 (upd (upd (upd rs 2 (rs 1)) 1 (rs 0)) 0 a1))] := (congrArg (fun z9 => va_D A [(xr, .inr (4, z9))]) (cs4_0 (upd (upd rs 2 (rs 1)) 1 (rs 0)) a1)).mp hD
  have hsp : (s4_add rs a1) = ((upd (upd (upd rs 2 (rs 1)) 1 (rs 0)) 0 a1) : (Nat → Int32)) := rfl
  exact hret _ _ _ _ _ _ _ hP hD hS dX4_add_21 ⟨(), trivial, (by rw [hsp])⟩ (Nat.le_of_ble_eq_true rfl) (Nat.le_of_ble_eq_true rfl)

set_option maxHeartbeats 4000000 in
set_option maxRecDepth 100000 in
theorem k4_recent (l : Launch) (D : va_G) (cI cJ : ClassId) (xr : Nat) (rs : Nat → Int32) (a1 : Int32) : cw_Mi l yX4_recent wsX4_recent (cw_rm 1) D [(cI, .int)] [.ref xr, .int a1] [(xr, c4 rs)] 0 0 (fun r (_ : Unit) => r = (s4_recent rs a1)) (fun _ : Unit => [(xr, c4 rs)]) := by
  refine cw_ofi (cc := cX4_recent) (maxL := 2) (ret := (some .int)) (by decide) rfl (Nat.le_of_ble_eq_true rfl) rfl ?_
  intro p e s m args below meth c A ls Q hin0 hret
  obtain ⟨hx, hb, hr, hml, hts, hown, hlocks, hin, hP, hK, hD, hN, hA, hl⟩ := hin0
  have hS : va_S A s.heap s.heap [] := va_S.rf
  have hl : lv_has ls 2 [(0, .ref xr), (1, .int a1)] := hl
  have lf9 := hts (.fieldLink RX4 9 "Burnerline$Resets" "last" "I") (by decide +kernel)
  have i4 : ∀ w ∈ wsX40, w ∈ wsX4_recent := by decide +kernel
  have lf15 := hts (.fieldLink RX4 15 "Burnerline$Resets" "second" "I") (by decide +kernel)
  have lf18 := hts (.fieldLink RX4 18 "Burnerline$Resets" "third" "I") (by decide +kernel)
  refine lv_aload_n hx hb dX4_recent_0 rfl (lv_at hl 0 rfl) ?_
  refine va_get (D := D) (ci := 4) (v := .int (rs 0)) (C := RX4) (T := TX4) (N := 3) hx hb hts i4 hown hK hP 0 rfl rfl 0 (by decide) lf9 (fun _ h9 => h9) rfl dX4_recent_1 ?_
  refine lv_iload_n hx hb dX4_recent_4 rfl (lv_at hl 1 rfl) ?_
  refine cw_cSi (As := [.int (rs 0), .int a1]) (rest := []) (wc := []) (wr := [(xr, c4 rs)]) ⟨hx, hb, hml, hown, hts⟩ (k4_countOf l D cI cJ (rs 0) a1) (va_cwS 2 hts gX4_recent_X4_countOf rfl rfl rfl (by decide +kernel) ⟨Nat.le_of_ble_eq_true rfl, Nat.le_of_ble_eq_true rfl⟩) hK hN hP hD hS hA [] [0] rfl rfl (by decide) (by decide) (by decide) rfl hl.1 rfl (Nat.le_of_ble_eq_true rfl) dX4_recent_5 ⟨Nat.le_of_ble_eq_true rfl, Nat.le_of_ble_eq_true rfl⟩ (fun r2 u1 H locs hw hP hD hS => ?_)
  have hr2 : r2 = (s4_countOf (rs 0) a1) := hw
  have hP : va_P D vwCl [(xr, c4 rs)] H := hP
  have hD : va_D A [(xr, c4 rs)] := hD
  refine lv_aload_n hx hb dX4_recent_8 rfl (lv_at hl 0 rfl) ?_
  refine va_get (D := D) (ci := 4) (v := .int (rs 1)) (C := RX4) (T := TX4) (N := 3) hx hb hts i4 hown hK hP 0 rfl rfl 1 (by decide) lf15 (fun _ h9 => h9) rfl dX4_recent_9 ?_
  refine lv_iload_n hx hb dX4_recent_12 rfl (lv_at hl 1 rfl) ?_
  refine cw_cSi (As := [.int (rs 1), .int a1]) (rest := [.int r2]) (wc := []) (wr := [(xr, c4 rs)]) ⟨hx, hb, hml, hown, hts⟩ (k4_countOf l D cI cJ (rs 1) a1) (va_cwS 2 hts gX4_recent_X4_countOf rfl rfl rfl (by decide +kernel) ⟨Nat.le_of_ble_eq_true rfl, Nat.le_of_ble_eq_true rfl⟩) hK hN hP hD hS hA [] [0] rfl rfl (by decide) (by decide) (by decide) rfl hl.1 rfl (Nat.le_of_ble_eq_true rfl) dX4_recent_13 ⟨Nat.le_of_ble_eq_true rfl, Nat.le_of_ble_eq_true rfl⟩ (fun r4 u3 H locs hw hP hD hS => ?_)
  have hr4 : r4 = (s4_countOf (rs 1) a1) := hw
  have hP : va_P D vwCl [(xr, c4 rs)] H := hP
  have hD : va_D A [(xr, c4 rs)] := hD
  refine lv_iadd hx hb dX4_recent_16 ?_
  refine lv_aload_n hx hb dX4_recent_17 rfl (lv_at hl 0 rfl) ?_
  refine va_get (D := D) (ci := 4) (v := .int (rs 2)) (C := RX4) (T := TX4) (N := 3) hx hb hts i4 hown hK hP 0 rfl rfl 2 (by decide) lf18 (fun _ h9 => h9) rfl dX4_recent_18 ?_
  refine lv_iload_n hx hb dX4_recent_21 rfl (lv_at hl 1 rfl) ?_
  refine cw_cSi (As := [.int (rs 2), .int a1]) (rest := [.int (r2 + r4)]) (wc := []) (wr := [(xr, c4 rs)]) ⟨hx, hb, hml, hown, hts⟩ (k4_countOf l D cI cJ (rs 2) a1) (va_cwS 2 hts gX4_recent_X4_countOf rfl rfl rfl (by decide +kernel) ⟨Nat.le_of_ble_eq_true rfl, Nat.le_of_ble_eq_true rfl⟩) hK hN hP hD hS hA [] [0] rfl rfl (by decide) (by decide) (by decide) rfl hl.1 rfl (Nat.le_of_ble_eq_true rfl) dX4_recent_22 ⟨Nat.le_of_ble_eq_true rfl, Nat.le_of_ble_eq_true rfl⟩ (fun r6 u5 H locs hw hP hD hS => ?_)
  have hr6 : r6 = (s4_countOf (rs 2) a1) := hw
  have hP : va_P D vwCl [(xr, c4 rs)] H := hP
  have hD : va_D A [(xr, c4 rs)] := hD
  refine lv_iadd hx hb dX4_recent_25 ?_
  have hsp : (s4_recent rs a1) = (((r2 + r4) + r6) : Int32) := by simp only [s4_recent, ← hr2, ← hr4, ← hr6]
  exact hret _ _ _ _ _ _ _ _ hP hD hS dX4_recent_26 rfl ⟨(), (by rw [hsp]), rfl⟩ (Nat.le_of_ble_eq_true rfl) (Nat.le_of_ble_eq_true rfl)

set_option maxHeartbeats 4000000 in
set_option maxRecDepth 100000 in
theorem k5_init (l : Launch) (D : va_G) (cI cJ : ClassId) (xs : Nat) (st : Nat → Int32) : cw_Mv l yX5_init wsX5_init (cw_rm 1) D [(cI, .int)] [.ref xs] [(xs, c5 st)] 0 0 (fun _ : Unit => True) (fun _ : Unit => [(xs, c5 (s5_init st))]) := by
  refine cw_ofv (cc := cX5_init) (maxL := 1) (ret := none) (by decide) rfl (Nat.le_of_ble_eq_true rfl) rfl ?_
  intro p e s m args below meth c A ls Q hin0 hret
  obtain ⟨hx, hb, hr, hml, hts, hown, hlocks, hin, hP, hK, hD, hN, hA, hl⟩ := hin0
  have hS : va_S A s.heap s.heap [] := va_S.rf
  have hl : lv_has ls 1 [(0, .ref xs)] := hl
  have lo1 := hts (.methodLink RX5 1 objectInit) (by decide +kernel)
  have loi := hts (.instanceMethod objectInit) (by decide +kernel)
  have loc9 := hts (.code objectInit ⟨#[0xb1]⟩ 1 none) (by decide +kernel)
  have lf7 := hts (.fieldLink RX5 7 "Burnerline$Settings" "rate" "I") (by decide +kernel)
  have i5 : ∀ w ∈ wsX50, w ∈ wsX5_init := by decide +kernel
  have lf13 := hts (.fieldLink RX5 13 "Burnerline$Settings" "longestPurge" "I") (by decide +kernel)
  have lf16 := hts (.fieldLink RX5 16 "Burnerline$Settings" "longestPilot" "I") (by decide +kernel)
  have lf19 := hts (.fieldLink RX5 19 "Burnerline$Settings" "longestMain" "I") (by decide +kernel)
  have lf22 := hts (.fieldLink RX5 22 "Burnerline$Settings" "afterPurge" "I") (by decide +kernel)
  have lf25 := hts (.fieldLink RX5 25 "Burnerline$Settings" "ticksToLight" "I") (by decide +kernel)
  have lf28 := hts (.fieldLink RX5 28 "Burnerline$Settings" "ticksToNone" "I") (by decide +kernel)
  have lf31 := hts (.fieldLink RX5 31 "Burnerline$Settings" "ticksToCheck" "I") (by decide +kernel)
  have lf34 := hts (.fieldLink RX5 34 "Burnerline$Settings" "volume" "I") (by decide +kernel)
  have lf37 := hts (.fieldLink RX5 37 "Burnerline$Settings" "airStep" "I") (by decide +kernel)
  have lf40 := hts (.fieldLink RX5 40 "Burnerline$Settings" "fuelStep" "I") (by decide +kernel)
  refine lv_aload_n hx hb dX5_init_0 rfl (lv_at hl 0 rfl) ?_
  refine W.objInit hx hb hown lo1 loi loc9 rfl (by rw [hml]; exact hl.1) rfl dX5_init_1 (Nat.le_of_ble_eq_true rfl) (Nat.le_of_ble_eq_true rfl) ?_
  refine W.eq (g2 := F0 m 4 ls []) rfl ?_
  refine lv_aload_n hx hb dX5_init_4 rfl (lv_at hl 0 rfl) ?_
  refine lv_bipush (v := 50) hx hb dX5_init_5 (by decide) ?_
  refine va_put (D := D) (ci := 5) (v := .int 50) (ty := .int) (C := RX5) (T := TX5) (N := 11) hx hb hts i5 tyX5 tyX5_ok nmX5 hown hK hP hD hS 0 rfl rfl 0 (by decide) lf7 (fun _ h9 => h9) rfl (by decide +kernel) rfl rfl (Nat.le_of_ble_eq_true rfl) dX5_init_7 (fun H locs hP hD hS => ?_)
  have hP : va_P D vwCl [(xs, c5 (upd st 0 50))] H := (congrArg (fun z9 => va_P D vwCl [(xs, .inr (5, z9))] H) (cs5_0 st 50)).mp hP
  have hD : va_D A [(xs, c5 (upd st 0 50))] := (congrArg (fun z9 => va_D A [(xs, .inr (5, z9))]) (cs5_0 st 50)).mp hD
  refine lv_aload_n hx hb dX5_init_10 rfl (lv_at hl 0 rfl) ?_
  refine lv_bipush (v := 60) hx hb dX5_init_11 (by decide) ?_
  refine va_put (D := D) (ci := 5) (v := .int 60) (ty := .int) (C := RX5) (T := TX5) (N := 11) hx hb hts i5 tyX5 tyX5_ok nmX5 hown hK hP hD hS 0 rfl rfl 1 (by decide) lf13 (fun _ h9 => h9) rfl (by decide +kernel) rfl rfl (Nat.le_of_ble_eq_true rfl) dX5_init_13 (fun H locs hP hD hS => ?_)
  have hP : va_P D vwCl [(xs, c5 (upd (upd st 0 50) 1 60))] H := (congrArg (fun z9 => va_P D vwCl [(xs, .inr (5, z9))] H) (cs5_1 (upd st 0 50) 60)).mp hP
  have hD : va_D A [(xs, c5 (upd (upd st 0 50) 1 60))] := (congrArg (fun z9 => va_D A [(xs, .inr (5, z9))]) (cs5_1 (upd st 0 50) 60)).mp hD
  refine lv_aload_n hx hb dX5_init_16 rfl (lv_at hl 0 rfl) ?_
  refine lv_bipush (v := 10) hx hb dX5_init_17 (by decide) ?_
  refine va_put (D := D) (ci := 5) (v := .int 10) (ty := .int) (C := RX5) (T := TX5) (N := 11) hx hb hts i5 tyX5 tyX5_ok nmX5 hown hK hP hD hS 0 rfl rfl 2 (by decide) lf16 (fun _ h9 => h9) rfl (by decide +kernel) rfl rfl (Nat.le_of_ble_eq_true rfl) dX5_init_19 (fun H locs hP hD hS => ?_)
  have hP : va_P D vwCl [(xs, c5 (upd (upd (upd st 0 50) 1 60) 2 10))] H := (congrArg (fun z9 => va_P D vwCl [(xs, .inr (5, z9))] H) (cs5_2 (upd (upd st 0 50) 1 60) 10)).mp hP
  have hD : va_D A [(xs, c5 (upd (upd (upd st 0 50) 1 60) 2 10))] := (congrArg (fun z9 => va_D A [(xs, .inr (5, z9))]) (cs5_2 (upd (upd st 0 50) 1 60) 10)).mp hD
  refine lv_aload_n hx hb dX5_init_22 rfl (lv_at hl 0 rfl) ?_
  refine lv_iconst (v := 5) hx hb dX5_init_23 (by decide) ?_
  refine va_put (D := D) (ci := 5) (v := .int 5) (ty := .int) (C := RX5) (T := TX5) (N := 11) hx hb hts i5 tyX5 tyX5_ok nmX5 hown hK hP hD hS 0 rfl rfl 3 (by decide) lf19 (fun _ h9 => h9) rfl (by decide +kernel) rfl rfl (Nat.le_of_ble_eq_true rfl) dX5_init_24 (fun H locs hP hD hS => ?_)
  have hP : va_P D vwCl [(xs, c5 (upd (upd (upd (upd st 0 50) 1 60) 2 10) 3 5))] H := (congrArg (fun z9 => va_P D vwCl [(xs, .inr (5, z9))] H) (cs5_3 (upd (upd (upd st 0 50) 1 60) 2 10) 5)).mp hP
  have hD : va_D A [(xs, c5 (upd (upd (upd (upd st 0 50) 1 60) 2 10) 3 5))] := (congrArg (fun z9 => va_D A [(xs, .inr (5, z9))]) (cs5_3 (upd (upd (upd st 0 50) 1 60) 2 10) 5)).mp hD
  refine lv_aload_n hx hb dX5_init_27 rfl (lv_at hl 0 rfl) ?_
  refine lv_bipush (v := 15) hx hb dX5_init_28 (by decide) ?_
  refine va_put (D := D) (ci := 5) (v := .int 15) (ty := .int) (C := RX5) (T := TX5) (N := 11) hx hb hts i5 tyX5 tyX5_ok nmX5 hown hK hP hD hS 0 rfl rfl 4 (by decide) lf22 (fun _ h9 => h9) rfl (by decide +kernel) rfl rfl (Nat.le_of_ble_eq_true rfl) dX5_init_30 (fun H locs hP hD hS => ?_)
  have hP : va_P D vwCl [(xs, c5 (upd (upd (upd (upd (upd st 0 50) 1 60) 2 10) 3 5) 4 15))] H := (congrArg (fun z9 => va_P D vwCl [(xs, .inr (5, z9))] H) (cs5_4 (upd (upd (upd (upd st 0 50) 1 60) 2 10) 3 5) 15)).mp hP
  have hD : va_D A [(xs, c5 (upd (upd (upd (upd (upd st 0 50) 1 60) 2 10) 3 5) 4 15))] := (congrArg (fun z9 => va_D A [(xs, .inr (5, z9))]) (cs5_4 (upd (upd (upd (upd st 0 50) 1 60) 2 10) 3 5) 15)).mp hD
  refine lv_aload_n hx hb dX5_init_33 rfl (lv_at hl 0 rfl) ?_
  refine lv_iconst (v := 2) hx hb dX5_init_34 (by decide) ?_
  refine va_put (D := D) (ci := 5) (v := .int 2) (ty := .int) (C := RX5) (T := TX5) (N := 11) hx hb hts i5 tyX5 tyX5_ok nmX5 hown hK hP hD hS 0 rfl rfl 5 (by decide) lf25 (fun _ h9 => h9) rfl (by decide +kernel) rfl rfl (Nat.le_of_ble_eq_true rfl) dX5_init_35 (fun H locs hP hD hS => ?_)
  have hP : va_P D vwCl [(xs, c5 (upd (upd (upd (upd (upd (upd st 0 50) 1 60) 2 10) 3 5) 4 15) 5 2))] H := (congrArg (fun z9 => va_P D vwCl [(xs, .inr (5, z9))] H) (cs5_5 (upd (upd (upd (upd (upd st 0 50) 1 60) 2 10) 3 5) 4 15) 2)).mp hP
  have hD : va_D A [(xs, c5 (upd (upd (upd (upd (upd (upd st 0 50) 1 60) 2 10) 3 5) 4 15) 5 2))] := (congrArg (fun z9 => va_D A [(xs, .inr (5, z9))]) (cs5_5 (upd (upd (upd (upd (upd st 0 50) 1 60) 2 10) 3 5) 4 15) 2)).mp hD
  refine lv_aload_n hx hb dX5_init_38 rfl (lv_at hl 0 rfl) ?_
  refine lv_iconst (v := 3) hx hb dX5_init_39 (by decide) ?_
  refine va_put (D := D) (ci := 5) (v := .int 3) (ty := .int) (C := RX5) (T := TX5) (N := 11) hx hb hts i5 tyX5 tyX5_ok nmX5 hown hK hP hD hS 0 rfl rfl 6 (by decide) lf28 (fun _ h9 => h9) rfl (by decide +kernel) rfl rfl (Nat.le_of_ble_eq_true rfl) dX5_init_40 (fun H locs hP hD hS => ?_)
  have hP : va_P D vwCl [(xs, c5 (upd (upd (upd (upd (upd (upd (upd st 0 50) 1 60) 2 10) 3 5) 4 15) 5 2) 6 3))] H := (congrArg (fun z9 => va_P D vwCl [(xs, .inr (5, z9))] H) (cs5_6 (upd (upd (upd (upd (upd (upd st 0 50) 1 60) 2 10) 3 5) 4 15) 5 2) 3)).mp hP
  have hD : va_D A [(xs, c5 (upd (upd (upd (upd (upd (upd (upd st 0 50) 1 60) 2 10) 3 5) 4 15) 5 2) 6 3))] := (congrArg (fun z9 => va_D A [(xs, .inr (5, z9))]) (cs5_6 (upd (upd (upd (upd (upd (upd st 0 50) 1 60) 2 10) 3 5) 4 15) 5 2) 3)).mp hD
  refine lv_aload_n hx hb dX5_init_43 rfl (lv_at hl 0 rfl) ?_
  refine lv_bipush (v := 30) hx hb dX5_init_44 (by decide) ?_
  refine va_put (D := D) (ci := 5) (v := .int 30) (ty := .int) (C := RX5) (T := TX5) (N := 11) hx hb hts i5 tyX5 tyX5_ok nmX5 hown hK hP hD hS 0 rfl rfl 7 (by decide) lf31 (fun _ h9 => h9) rfl (by decide +kernel) rfl rfl (Nat.le_of_ble_eq_true rfl) dX5_init_46 (fun H locs hP hD hS => ?_)
  have hP : va_P D vwCl [(xs, c5 (upd (upd (upd (upd (upd (upd (upd (upd st 0 50) 1 60) 2 10) 3 5) 4 15) 5 2) 6 3) 7 30))] H := (congrArg (fun z9 => va_P D vwCl [(xs, .inr (5, z9))] H) (cs5_7 (upd (upd (upd (upd (upd (upd (upd st 0 50) 1 60) 2 10) 3 5) 4 15) 5 2) 6 3) 30)).mp hP
  have hD : va_D A [(xs, c5 (upd (upd (upd (upd (upd (upd (upd (upd st 0 50) 1 60) 2 10) 3 5) 4 15) 5 2) 6 3) 7 30))] := (congrArg (fun z9 => va_D A [(xs, .inr (5, z9))]) (cs5_7 (upd (upd (upd (upd (upd (upd (upd st 0 50) 1 60) 2 10) 3 5) 4 15) 5 2) 6 3) 30)).mp hD
  refine lv_aload_n hx hb dX5_init_49 rfl (lv_at hl 0 rfl) ?_
  refine lv_sipush (v := 200) hx hb dX5_init_50 (by decide) ?_
  refine va_put (D := D) (ci := 5) (v := .int 200) (ty := .int) (C := RX5) (T := TX5) (N := 11) hx hb hts i5 tyX5 tyX5_ok nmX5 hown hK hP hD hS 0 rfl rfl 8 (by decide) lf34 (fun _ h9 => h9) rfl (by decide +kernel) rfl rfl (Nat.le_of_ble_eq_true rfl) dX5_init_53 (fun H locs hP hD hS => ?_)
  have hP : va_P D vwCl [(xs, c5 (upd (upd (upd (upd (upd (upd (upd (upd (upd st 0 50) 1 60) 2 10) 3 5) 4 15) 5 2) 6 3) 7 30) 8 200))] H := (congrArg (fun z9 => va_P D vwCl [(xs, .inr (5, z9))] H) (cs5_8 (upd (upd (upd (upd (upd (upd (upd (upd st 0 50) 1 60) 2 10) 3 5) 4 15) 5 2) 6 3) 7 30) 200)).mp hP
  have hD : va_D A [(xs, c5 (upd (upd (upd (upd (upd (upd (upd (upd (upd st 0 50) 1 60) 2 10) 3 5) 4 15) 5 2) 6 3) 7 30) 8 200))] := (congrArg (fun z9 => va_D A [(xs, .inr (5, z9))]) (cs5_8 (upd (upd (upd (upd (upd (upd (upd (upd st 0 50) 1 60) 2 10) 3 5) 4 15) 5 2) 6 3) 7 30) 200)).mp hD
  refine lv_aload_n hx hb dX5_init_56 rfl (lv_at hl 0 rfl) ?_
  refine lv_bipush (v := 20) hx hb dX5_init_57 (by decide) ?_
  refine va_put (D := D) (ci := 5) (v := .int 20) (ty := .int) (C := RX5) (T := TX5) (N := 11) hx hb hts i5 tyX5 tyX5_ok nmX5 hown hK hP hD hS 0 rfl rfl 9 (by decide) lf37 (fun _ h9 => h9) rfl (by decide +kernel) rfl rfl (Nat.le_of_ble_eq_true rfl) dX5_init_59 (fun H locs hP hD hS => ?_)
  have hP : va_P D vwCl [(xs, c5 (upd (upd (upd (upd (upd (upd (upd (upd (upd (upd st 0 50) 1 60) 2 10) 3 5) 4 15) 5 2) 6 3) 7 30) 8 200) 9 20))] H := (congrArg (fun z9 => va_P D vwCl [(xs, .inr (5, z9))] H) (cs5_9 (upd (upd (upd (upd (upd (upd (upd (upd (upd st 0 50) 1 60) 2 10) 3 5) 4 15) 5 2) 6 3) 7 30) 8 200) 20)).mp hP
  have hD : va_D A [(xs, c5 (upd (upd (upd (upd (upd (upd (upd (upd (upd (upd st 0 50) 1 60) 2 10) 3 5) 4 15) 5 2) 6 3) 7 30) 8 200) 9 20))] := (congrArg (fun z9 => va_D A [(xs, .inr (5, z9))]) (cs5_9 (upd (upd (upd (upd (upd (upd (upd (upd (upd st 0 50) 1 60) 2 10) 3 5) 4 15) 5 2) 6 3) 7 30) 8 200) 20)).mp hD
  refine lv_aload_n hx hb dX5_init_62 rfl (lv_at hl 0 rfl) ?_
  refine lv_bipush (v := 10) hx hb dX5_init_63 (by decide) ?_
  refine va_put (D := D) (ci := 5) (v := .int 10) (ty := .int) (C := RX5) (T := TX5) (N := 11) hx hb hts i5 tyX5 tyX5_ok nmX5 hown hK hP hD hS 0 rfl rfl 10 (by decide) lf40 (fun _ h9 => h9) rfl (by decide +kernel) rfl rfl (Nat.le_of_ble_eq_true rfl) dX5_init_65 (fun H locs hP hD hS => ?_)
  have hP : va_P D vwCl [(xs, c5 (upd (upd (upd (upd (upd (upd (upd (upd (upd (upd (upd st 0 50) 1 60) 2 10) 3 5) 4 15) 5 2) 6 3) 7 30) 8 200) 9 20) 10 10))] H := (congrArg (fun z9 => va_P D vwCl [(xs, .inr (5, z9))] H) (cs5_10 (upd (upd (upd (upd (upd (upd (upd (upd (upd (upd st 0 50) 1 60) 2 10) 3 5) 4 15) 5 2) 6 3) 7 30) 8 200) 9 20) 10)).mp hP
  have hD : va_D A [(xs, c5 (upd (upd (upd (upd (upd (upd (upd (upd (upd (upd (upd st 0 50) 1 60) 2 10) 3 5) 4 15) 5 2) 6 3) 7 30) 8 200) 9 20) 10 10))] := (congrArg (fun z9 => va_D A [(xs, .inr (5, z9))]) (cs5_10 (upd (upd (upd (upd (upd (upd (upd (upd (upd (upd st 0 50) 1 60) 2 10) 3 5) 4 15) 5 2) 6 3) 7 30) 8 200) 9 20) 10)).mp hD
  have hsp : (s5_init st) = ((upd (upd (upd (upd (upd (upd (upd (upd (upd (upd (upd st 0 50) 1 60) 2 10) 3 5) 4 15) 5 2) 6 3) 7 30) 8 200) 9 20) 10 10) : (Nat → Int32)) := rfl
  exact hret _ _ _ _ _ _ _ hP hD hS dX5_init_68 ⟨(), trivial, (by rw [hsp])⟩ (Nat.le_of_ble_eq_true rfl) (Nat.le_of_ble_eq_true rfl)

set_option maxHeartbeats 4000000 in
set_option maxRecDepth 100000 in
theorem k2_init (l : Launch) (D : va_G) (cI cJ : ClassId) (xf : Nat) (xs : Nat) (f : Nat → Int32) : cw_Mv l yX2_init wsX2_init ({ frames := 2, cells := 2, slots := 4, locals := 80 } : Room) D [(cI, .int)] [.ref xf, .ref xs] [(xf, c2 .null .null .null f)] 2 4 (fun _ : Nat × Nat => True) (fun u : Nat × Nat => [(xf, c2 (.ref xs) (.ref u.1) (.ref u.2) f), (u.1, c1 (fun _ => 0)), (u.2, c1 (fun _ => 0))]) := by
  refine cw_ofv (cc := cX2_init) (maxL := 2) (ret := none) (by decide) rfl (Nat.le_of_ble_eq_true rfl) rfl ?_
  intro p e s m args below meth c A ls Q hin0 hret
  obtain ⟨hx, hb, hr, hml, hts, hown, hlocks, hin, hP, hK, hD, hN, hA, hl⟩ := hin0
  have hS : va_S A s.heap s.heap [] := va_S.rf
  have hl : lv_has ls 2 [(0, .ref xf), (1, .ref xs)] := hl
  have lo3 := hts (.methodLink RX2 3 objectInit) (by decide +kernel)
  have loi := hts (.instanceMethod objectInit) (by decide +kernel)
  have loc9 := hts (.code objectInit ⟨#[0xb1]⟩ 1 none) (by decide +kernel)
  have lin1 := hts (.instantiable RX1 2) (by decide +kernel)
  have liRX1 := hts (.initialized RX1) (by decide +kernel)
  have lcl9 := hts (.classLink RX2 9 RX1) (by decide +kernel)
  have i1 : ∀ w ∈ wsX10, w ∈ wsX2_init := by decide +kernel
  have limX1_init := hts (.instanceMethod yX1_init) (by decide +kernel)
  have ln11 : va_Nw (.methodLinkNest RX2 11 yX1_init "Burnerline") s := hN _ (by decide +kernel)
  have lf12 := hts (.fieldLink RX2 12 "Burnerline$Furnace" "pilotEye" "LBurnerline$Eye;") (by decide +kernel)
  have i2 : ∀ w ∈ wsX20, w ∈ wsX2_init := by decide +kernel
  have lf18 := hts (.fieldLink RX2 18 "Burnerline$Furnace" "mainEye" "LBurnerline$Eye;") (by decide +kernel)
  have lf21 := hts (.fieldLink RX2 21 "Burnerline$Furnace" "settings" "LBurnerline$Settings;") (by decide +kernel)
  refine lv_aload_n hx hb dX2_init_0 rfl (lv_at hl 0 rfl) ?_
  refine W.objInit hx hb hown lo3 loi loc9 rfl (by rw [hml]; exact hl.1) rfl dX2_init_1 (Nat.le_of_ble_eq_true rfl) (Nat.le_of_ble_eq_true rfl) ?_
  refine W.eq (g2 := F0 m 4 ls []) rfl ?_
  refine lv_aload_n hx hb dX2_init_4 rfl (lv_at hl 0 rfl) ?_
  refine va_new (ci := 1) (fs := [.int 0, .int 0]) (C := RX1) (T := TX1) (N := 2) hx hb hts i1 tyX1 tyX1_ok hown lcl9 lin1 liRX1 hK hP hD hS hA rfl (fun j hj => by rcases (show j = 0 ∨ j = 1 by omega) with rfl | rfl <;> rfl) (Nat.le_of_ble_eq_true rfl) (Nat.le_of_ble_eq_true rfl) dX2_init_5 (fun q1 H hP hD hS => ?_)
  have hP : va_P D vwCl [(xf, c2 .null .null .null f), (q1, c1 (fun _ => 0))] H := hP
  have hD : va_D A [(xf, c2 .null .null .null f), (q1, c1 (fun _ => 0))] := hD
  refine lv_dup hx hb dX2_init_8 rfl ?_
  refine cw_cINv (As := []) (rest := [.ref q1, .ref xf]) (wc := [(q1, c1 (fun _ => 0))]) (wr := [(xf, c2 .null .null .null f)]) ⟨hx, hb, hml, hown, hts⟩ (k1_init l D cI cJ q1 (fun _ => 0)) (va_cnB 0 hts gX2_init_X1_init_n11 rfl rfl rfl ln11 liRX1 (by decide +kernel) ⟨Nat.le_of_ble_eq_true rfl, Nat.le_of_ble_eq_true rfl⟩) rfl limX1_init hK hN hP hD hS hA [1] [0] rfl rfl (by decide) (by decide) (by decide) rfl hl.1 rfl (Nat.le_of_ble_eq_true rfl) dX2_init_9 ⟨Nat.le_of_ble_eq_true rfl, Nat.le_of_ble_eq_true rfl⟩ (fun u2 H locs hw hP hD hS => ?_)
  have hP : va_P D vwCl [(xf, c2 .null .null .null f), (q1, c1 (fun _ => 0))] H := hP
  have hD : va_D A [(xf, c2 .null .null .null f), (q1, c1 (fun _ => 0))] := hD
  refine va_putF (D := D) (ci := 2) (v := .ref q1) (ty := .object "Burnerline$Eye") (C := RX2) (T := TX2) (N := 11) hx hb hts i2 tyX2 tyX2_ok nmX2 hown hK hP hD hS 0 rfl rfl 1 (by decide) lf12 (fun _ h9 => h9) rfl hin rfl (by decide +kernel) rfl rfl (Nat.le_of_ble_eq_true rfl) dX2_init_12 (fun H locs hP hD hS => ?_)
  have hP : va_P D vwCl [(xf, c2 .null (.ref q1) .null f), (q1, c1 (fun _ => 0))] H := hP
  have hD : va_D A [(xf, c2 .null (.ref q1) .null f), (q1, c1 (fun _ => 0))] := hD
  refine lv_aload_n hx hb dX2_init_15 rfl (lv_at hl 0 rfl) ?_
  refine va_new (ci := 1) (fs := [.int 0, .int 0]) (C := RX1) (T := TX1) (N := 2) hx hb hts i1 tyX1 tyX1_ok hown lcl9 lin1 liRX1 hK hP hD hS hA rfl (fun j hj => by rcases (show j = 0 ∨ j = 1 by omega) with rfl | rfl <;> rfl) (Nat.le_of_ble_eq_true rfl) (Nat.le_of_ble_eq_true rfl) dX2_init_16 (fun q4 H hP hD hS => ?_)
  have hP : va_P D vwCl [(xf, c2 .null (.ref q1) .null f), (q1, c1 (fun _ => 0)), (q4, c1 (fun _ => 0))] H := hP
  have hD : va_D A [(xf, c2 .null (.ref q1) .null f), (q1, c1 (fun _ => 0)), (q4, c1 (fun _ => 0))] := hD
  refine lv_dup hx hb dX2_init_19 rfl ?_
  refine cw_cINv (As := []) (rest := [.ref q4, .ref xf]) (wc := [(q4, c1 (fun _ => 0))]) (wr := [(xf, c2 .null (.ref q1) .null f), (q1, c1 (fun _ => 0))]) ⟨hx, hb, hml, hown, hts⟩ (k1_init l D cI cJ q4 (fun _ => 0)) (va_cnB 0 hts gX2_init_X1_init_n11 rfl rfl rfl ln11 liRX1 (by decide +kernel) ⟨Nat.le_of_ble_eq_true rfl, Nat.le_of_ble_eq_true rfl⟩) rfl limX1_init hK hN hP hD hS hA [2] [0, 1] rfl rfl (by decide) (by decide) (by decide) rfl hl.1 rfl (Nat.le_of_ble_eq_true rfl) dX2_init_20 ⟨Nat.le_of_ble_eq_true rfl, Nat.le_of_ble_eq_true rfl⟩ (fun u5 H locs hw hP hD hS => ?_)
  have hP : va_P D vwCl [(xf, c2 .null (.ref q1) .null f), (q1, c1 (fun _ => 0)), (q4, c1 (fun _ => 0))] H := hP
  have hD : va_D A [(xf, c2 .null (.ref q1) .null f), (q1, c1 (fun _ => 0)), (q4, c1 (fun _ => 0))] := hD
  refine va_putF (D := D) (ci := 2) (v := .ref q4) (ty := .object "Burnerline$Eye") (C := RX2) (T := TX2) (N := 11) hx hb hts i2 tyX2 tyX2_ok nmX2 hown hK hP hD hS 0 rfl rfl 2 (by decide) lf18 (fun _ h9 => h9) rfl hin rfl (by decide +kernel) rfl rfl (Nat.le_of_ble_eq_true rfl) dX2_init_23 (fun H locs hP hD hS => ?_)
  have hP : va_P D vwCl [(xf, c2 .null (.ref q1) (.ref q4) f), (q1, c1 (fun _ => 0)), (q4, c1 (fun _ => 0))] H := hP
  have hD : va_D A [(xf, c2 .null (.ref q1) (.ref q4) f), (q1, c1 (fun _ => 0)), (q4, c1 (fun _ => 0))] := hD
  refine lv_aload_n hx hb dX2_init_26 rfl (lv_at hl 0 rfl) ?_
  refine lv_aload_n hx hb dX2_init_27 rfl (lv_at hl 1 rfl) ?_
  refine va_putF (D := D) (ci := 2) (v := .ref xs) (ty := .object "Burnerline$Settings") (C := RX2) (T := TX2) (N := 11) hx hb hts i2 tyX2 tyX2_ok nmX2 hown hK hP hD hS 0 rfl rfl 0 (by decide) lf21 (fun _ h9 => h9) rfl hin rfl (by decide +kernel) rfl rfl (Nat.le_of_ble_eq_true rfl) dX2_init_28 (fun H locs hP hD hS => ?_)
  have hP : va_P D vwCl [(xf, c2 (.ref xs) (.ref q1) (.ref q4) f), (q1, c1 (fun _ => 0)), (q4, c1 (fun _ => 0))] H := hP
  have hD : va_D A [(xf, c2 (.ref xs) (.ref q1) (.ref q4) f), (q1, c1 (fun _ => 0)), (q4, c1 (fun _ => 0))] := hD
  exact hret _ _ _ _ _ _ _ hP hD hS dX2_init_31 ⟨(q1, q4), trivial, rfl⟩ (Nat.le_of_ble_eq_true rfl) (Nat.le_of_ble_eq_true rfl)

set_option maxHeartbeats 4000000 in
set_option maxRecDepth 100000 in
theorem k0_initN (l : Launch) (D : va_G) (cI cJ : ClassId) (xa : Nat) (xs : Nat) : cw_Mv l yX0_init wsX0_init ({ frames := 3, cells := 3, slots := 15, locals := 120 } : Room) D [(cI, .int)] [.ref xa, .ref xs, .null] [(xa, c0 .null .null)] 3 15 (fun _ : Nat × Nat × Nat => True) (fun u : Nat × Nat × Nat => [(xa, c0 (.ref u.1) .null), (u.1, c2 (.ref xs) (.ref u.2.1) (.ref u.2.2) (fun _ => 0)), (u.2.1, c1 (fun _ => 0)), (u.2.2, c1 (fun _ => 0))]) := by
  refine cw_ofv (cc := cX0_init) (maxL := 3) (ret := none) (by decide) rfl (Nat.le_of_ble_eq_true rfl) rfl ?_
  intro p e s m args below meth c A ls Q hin0 hret
  obtain ⟨hx, hb, hr, hml, hts, hown, hlocks, hin, hP, hK, hD, hN, hA, hl⟩ := hin0
  have hS : va_S A s.heap s.heap [] := va_S.rf
  have hl : lv_has ls 3 [(0, .ref xa), (1, .ref xs), (2, .null)] := hl
  have lo1 := hts (.methodLink RX0 1 objectInit) (by decide +kernel)
  have loi := hts (.instanceMethod objectInit) (by decide +kernel)
  have loc9 := hts (.code objectInit ⟨#[0xb1]⟩ 1 none) (by decide +kernel)
  have lin2 := hts (.instantiable RX2 11) (by decide +kernel)
  have liRX2 := hts (.initialized RX2) (by decide +kernel)
  have lcl7 := hts (.classLink RX0 7 RX2) (by decide +kernel)
  have i2 : ∀ w ∈ wsX20, w ∈ wsX0_init := by decide +kernel
  have limX2_init := hts (.instanceMethod yX2_init) (by decide +kernel)
  have lmk9 := hts (.methodLink RX0 9 yX2_init) (by decide +kernel)
  have lf12 := hts (.fieldLink RX0 12 "Burnerline$Ahead" "furnace" "LBurnerline$Furnace;") (by decide +kernel)
  have i0 : ∀ w ∈ wsX00, w ∈ wsX0_init := by decide +kernel
  have lf18 := hts (.fieldLink RX0 18 "Burnerline$Ahead" "next" "LBurnerline$Ahead;") (by decide +kernel)
  refine lv_aload_n hx hb dX0_init_0 rfl (lv_at hl 0 rfl) ?_
  refine W.objInit hx hb hown lo1 loi loc9 rfl (by rw [hml]; exact hl.1) rfl dX0_init_1 (Nat.le_of_ble_eq_true rfl) (Nat.le_of_ble_eq_true rfl) ?_
  refine W.eq (g2 := F0 m 4 ls []) rfl ?_
  refine lv_aload_n hx hb dX0_init_4 rfl (lv_at hl 0 rfl) ?_
  refine va_new (ci := 2) (fs := [.null, .null, .null, .int 0, .int 0, .int 0, .int 0, .int 0, .int 0, .int 0, .int 0]) (C := RX2) (T := TX2) (N := 11) hx hb hts i2 tyX2 tyX2_ok hown lcl7 lin2 liRX2 hK hP hD hS hA rfl (fun j hj => by rcases (show j = 0 ∨ j = 1 ∨ j = 2 ∨ j = 3 ∨ j = 4 ∨ j = 5 ∨ j = 6 ∨ j = 7 ∨ j = 8 ∨ j = 9 ∨ j = 10 by omega) with rfl | rfl | rfl | rfl | rfl | rfl | rfl | rfl | rfl | rfl | rfl <;> rfl) (Nat.le_of_ble_eq_true rfl) (Nat.le_of_ble_eq_true rfl) dX0_init_5 (fun q1 H hP hD hS => ?_)
  have hP : va_P D vwCl [(xa, c0 .null .null), (q1, c2 .null .null .null (fun _ => 0))] H := hP
  have hD : va_D A [(xa, c0 .null .null), (q1, c2 .null .null .null (fun _ => 0))] := hD
  refine lv_dup hx hb dX0_init_8 rfl ?_
  refine lv_aload_n hx hb dX0_init_9 rfl (lv_at hl 1 rfl) ?_
  refine cw_cIv (As := [.ref xs]) (rest := [.ref q1, .ref xa]) (wc := [(q1, c2 .null .null .null (fun _ => 0))]) (wr := [(xa, c0 .null .null)]) ⟨hx, hb, hml, hown, hts⟩ (k2_init l D cI cJ q1 xs (fun _ => 0)) (cwI 1 hts gX0_init_X2_init rfl rfl rfl liRX2 lmk9 limX2_init rfl (by decide +kernel) ⟨Nat.le_of_ble_eq_true rfl, Nat.le_of_ble_eq_true rfl⟩) hK hN hP hD hS hA [1] [0] rfl rfl (by decide) (by decide) (by decide) rfl hl.1 rfl (Nat.le_of_ble_eq_true rfl) dX0_init_10 ⟨Nat.le_of_ble_eq_true rfl, Nat.le_of_ble_eq_true rfl⟩ (fun u4 H locs hw hP hD hS => ?_)
  obtain ⟨q2, q3⟩ := u4
  have hP : va_P D vwCl [(xa, c0 .null .null), (q1, c2 (.ref xs) (.ref q2) (.ref q3) (fun _ => 0)), (q2, c1 (fun _ => 0)), (q3, c1 (fun _ => 0))] H := hP
  have hD : va_D A [(xa, c0 .null .null), (q1, c2 (.ref xs) (.ref q2) (.ref q3) (fun _ => 0)), (q2, c1 (fun _ => 0)), (q3, c1 (fun _ => 0))] := hD
  refine va_putF (D := D) (ci := 0) (v := .ref q1) (ty := .object "Burnerline$Furnace") (C := RX0) (T := TX0) (N := 2) hx hb hts i0 tyX0 tyX0_ok nmX0 hown hK hP hD hS 0 rfl rfl 0 (by decide) lf12 (fun _ h9 => h9) rfl hin rfl (by decide +kernel) rfl rfl (Nat.le_of_ble_eq_true rfl) dX0_init_13 (fun H locs hP hD hS => ?_)
  have hP : va_P D vwCl [(xa, c0 (.ref q1) .null), (q1, c2 (.ref xs) (.ref q2) (.ref q3) (fun _ => 0)), (q2, c1 (fun _ => 0)), (q3, c1 (fun _ => 0))] H := hP
  have hD : va_D A [(xa, c0 (.ref q1) .null), (q1, c2 (.ref xs) (.ref q2) (.ref q3) (fun _ => 0)), (q2, c1 (fun _ => 0)), (q3, c1 (fun _ => 0))] := hD
  refine lv_aload_n hx hb dX0_init_16 rfl (lv_at hl 0 rfl) ?_
  refine lv_aload_nN hx hb dX0_init_17 rfl (lv_at hl 2 rfl) ?_
  refine va_putF (D := D) (ci := 0) (v := .null) (ty := .object "Burnerline$Ahead") (C := RX0) (T := TX0) (N := 2) hx hb hts i0 tyX0 tyX0_ok nmX0 hown hK hP hD hS 0 rfl rfl 1 (by decide) lf18 (fun _ h9 => h9) rfl hin rfl (by decide +kernel) rfl rfl (Nat.le_of_ble_eq_true rfl) dX0_init_18 (fun H locs hP hD hS => ?_)
  have hP : va_P D vwCl [(xa, c0 (.ref q1) .null), (q1, c2 (.ref xs) (.ref q2) (.ref q3) (fun _ => 0)), (q2, c1 (fun _ => 0)), (q3, c1 (fun _ => 0))] H := hP
  have hD : va_D A [(xa, c0 (.ref q1) .null), (q1, c2 (.ref xs) (.ref q2) (.ref q3) (fun _ => 0)), (q2, c1 (fun _ => 0)), (q3, c1 (fun _ => 0))] := hD
  exact hret _ _ _ _ _ _ _ hP hD hS dX0_init_21 ⟨(q1, q2, q3), trivial, rfl⟩ (Nat.le_of_ble_eq_true rfl) (Nat.le_of_ble_eq_true rfl)

set_option maxHeartbeats 4000000 in
set_option maxRecDepth 100000 in
theorem k0_initR (l : Launch) (D : va_G) (cI cJ : ClassId) (xa : Nat) (xs xn : Nat) : cw_Mv l yX0_init wsX0_init ({ frames := 3, cells := 3, slots := 15, locals := 120 } : Room) D [(cI, .int)] [.ref xa, .ref xs, .ref xn] [(xa, c0 .null .null)] 3 15 (fun _ : Nat × Nat × Nat => True) (fun u : Nat × Nat × Nat => [(xa, c0 (.ref u.1) (.ref xn)), (u.1, c2 (.ref xs) (.ref u.2.1) (.ref u.2.2) (fun _ => 0)), (u.2.1, c1 (fun _ => 0)), (u.2.2, c1 (fun _ => 0))]) := by
  refine cw_ofv (cc := cX0_init) (maxL := 3) (ret := none) (by decide) rfl (Nat.le_of_ble_eq_true rfl) rfl ?_
  intro p e s m args below meth c A ls Q hin0 hret
  obtain ⟨hx, hb, hr, hml, hts, hown, hlocks, hin, hP, hK, hD, hN, hA, hl⟩ := hin0
  have hS : va_S A s.heap s.heap [] := va_S.rf
  have hl : lv_has ls 3 [(0, .ref xa), (1, .ref xs), (2, .ref xn)] := hl
  have lo1 := hts (.methodLink RX0 1 objectInit) (by decide +kernel)
  have loi := hts (.instanceMethod objectInit) (by decide +kernel)
  have loc9 := hts (.code objectInit ⟨#[0xb1]⟩ 1 none) (by decide +kernel)
  have lin2 := hts (.instantiable RX2 11) (by decide +kernel)
  have liRX2 := hts (.initialized RX2) (by decide +kernel)
  have lcl7 := hts (.classLink RX0 7 RX2) (by decide +kernel)
  have i2 : ∀ w ∈ wsX20, w ∈ wsX0_init := by decide +kernel
  have limX2_init := hts (.instanceMethod yX2_init) (by decide +kernel)
  have lmk9 := hts (.methodLink RX0 9 yX2_init) (by decide +kernel)
  have lf12 := hts (.fieldLink RX0 12 "Burnerline$Ahead" "furnace" "LBurnerline$Furnace;") (by decide +kernel)
  have i0 : ∀ w ∈ wsX00, w ∈ wsX0_init := by decide +kernel
  have lf18 := hts (.fieldLink RX0 18 "Burnerline$Ahead" "next" "LBurnerline$Ahead;") (by decide +kernel)
  refine lv_aload_n hx hb dX0_init_0 rfl (lv_at hl 0 rfl) ?_
  refine W.objInit hx hb hown lo1 loi loc9 rfl (by rw [hml]; exact hl.1) rfl dX0_init_1 (Nat.le_of_ble_eq_true rfl) (Nat.le_of_ble_eq_true rfl) ?_
  refine W.eq (g2 := F0 m 4 ls []) rfl ?_
  refine lv_aload_n hx hb dX0_init_4 rfl (lv_at hl 0 rfl) ?_
  refine va_new (ci := 2) (fs := [.null, .null, .null, .int 0, .int 0, .int 0, .int 0, .int 0, .int 0, .int 0, .int 0]) (C := RX2) (T := TX2) (N := 11) hx hb hts i2 tyX2 tyX2_ok hown lcl7 lin2 liRX2 hK hP hD hS hA rfl (fun j hj => by rcases (show j = 0 ∨ j = 1 ∨ j = 2 ∨ j = 3 ∨ j = 4 ∨ j = 5 ∨ j = 6 ∨ j = 7 ∨ j = 8 ∨ j = 9 ∨ j = 10 by omega) with rfl | rfl | rfl | rfl | rfl | rfl | rfl | rfl | rfl | rfl | rfl <;> rfl) (Nat.le_of_ble_eq_true rfl) (Nat.le_of_ble_eq_true rfl) dX0_init_5 (fun q1 H hP hD hS => ?_)
  have hP : va_P D vwCl [(xa, c0 .null .null), (q1, c2 .null .null .null (fun _ => 0))] H := hP
  have hD : va_D A [(xa, c0 .null .null), (q1, c2 .null .null .null (fun _ => 0))] := hD
  refine lv_dup hx hb dX0_init_8 rfl ?_
  refine lv_aload_n hx hb dX0_init_9 rfl (lv_at hl 1 rfl) ?_
  refine cw_cIv (As := [.ref xs]) (rest := [.ref q1, .ref xa]) (wc := [(q1, c2 .null .null .null (fun _ => 0))]) (wr := [(xa, c0 .null .null)]) ⟨hx, hb, hml, hown, hts⟩ (k2_init l D cI cJ q1 xs (fun _ => 0)) (cwI 1 hts gX0_init_X2_init rfl rfl rfl liRX2 lmk9 limX2_init rfl (by decide +kernel) ⟨Nat.le_of_ble_eq_true rfl, Nat.le_of_ble_eq_true rfl⟩) hK hN hP hD hS hA [1] [0] rfl rfl (by decide) (by decide) (by decide) rfl hl.1 rfl (Nat.le_of_ble_eq_true rfl) dX0_init_10 ⟨Nat.le_of_ble_eq_true rfl, Nat.le_of_ble_eq_true rfl⟩ (fun u4 H locs hw hP hD hS => ?_)
  obtain ⟨q2, q3⟩ := u4
  have hP : va_P D vwCl [(xa, c0 .null .null), (q1, c2 (.ref xs) (.ref q2) (.ref q3) (fun _ => 0)), (q2, c1 (fun _ => 0)), (q3, c1 (fun _ => 0))] H := hP
  have hD : va_D A [(xa, c0 .null .null), (q1, c2 (.ref xs) (.ref q2) (.ref q3) (fun _ => 0)), (q2, c1 (fun _ => 0)), (q3, c1 (fun _ => 0))] := hD
  refine va_putF (D := D) (ci := 0) (v := .ref q1) (ty := .object "Burnerline$Furnace") (C := RX0) (T := TX0) (N := 2) hx hb hts i0 tyX0 tyX0_ok nmX0 hown hK hP hD hS 0 rfl rfl 0 (by decide) lf12 (fun _ h9 => h9) rfl hin rfl (by decide +kernel) rfl rfl (Nat.le_of_ble_eq_true rfl) dX0_init_13 (fun H locs hP hD hS => ?_)
  have hP : va_P D vwCl [(xa, c0 (.ref q1) .null), (q1, c2 (.ref xs) (.ref q2) (.ref q3) (fun _ => 0)), (q2, c1 (fun _ => 0)), (q3, c1 (fun _ => 0))] H := hP
  have hD : va_D A [(xa, c0 (.ref q1) .null), (q1, c2 (.ref xs) (.ref q2) (.ref q3) (fun _ => 0)), (q2, c1 (fun _ => 0)), (q3, c1 (fun _ => 0))] := hD
  refine lv_aload_n hx hb dX0_init_16 rfl (lv_at hl 0 rfl) ?_
  refine lv_aload_n hx hb dX0_init_17 rfl (lv_at hl 2 rfl) ?_
  refine va_putF (D := D) (ci := 0) (v := .ref xn) (ty := .object "Burnerline$Ahead") (C := RX0) (T := TX0) (N := 2) hx hb hts i0 tyX0 tyX0_ok nmX0 hown hK hP hD hS 0 rfl rfl 1 (by decide) lf18 (fun _ h9 => h9) rfl hin rfl (by decide +kernel) rfl rfl (Nat.le_of_ble_eq_true rfl) dX0_init_18 (fun H locs hP hD hS => ?_)
  have hP : va_P D vwCl [(xa, c0 (.ref q1) (.ref xn)), (q1, c2 (.ref xs) (.ref q2) (.ref q3) (fun _ => 0)), (q2, c1 (fun _ => 0)), (q3, c1 (fun _ => 0))] H := hP
  have hD : va_D A [(xa, c0 (.ref q1) (.ref xn)), (q1, c2 (.ref xs) (.ref q2) (.ref q3) (fun _ => 0)), (q2, c1 (fun _ => 0)), (q3, c1 (fun _ => 0))] := hD
  exact hret _ _ _ _ _ _ _ hP hD hS dX0_init_21 ⟨(q1, q2, q3), trivial, rfl⟩ (Nat.le_of_ble_eq_true rfl) (Nat.le_of_ble_eq_true rfl)
