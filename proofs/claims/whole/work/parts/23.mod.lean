def s7_notes (mm : Nat → Int32) (n1 : Nat → Int32) (n2 : Nat → Int32) (n3 : Nat → Int32) : (Nat → Int32) × (Nat → Int32) × (Nat → Int32) × (Nat → Int32) := ((upd mm 24 ((mm 24) + 1)), (upd n1 (((mm 24) - (mm 24) / 100 * 100).toNatClampNeg) (mm 21)), (upd n2 (((mm 24) - (mm 24) / 100 * 100).toNatClampNeg) (mm 12)), (upd n3 (((mm 24) - (mm 24) / 100 * 100).toNatClampNeg) (mm 13)))

def s7_tickOf (mm : Nat → Int32) (n1 : Nat → Int32) (n2 : Nat → Int32) (n3 : Nat → Int32) (a1 : Int32) : Int32 × (Nat → Int32) := (let w6 : Int32 := (if a1 < 0 then 0 else (if (s7_kept mm) ≤ a1 then 0 else 1)); (let v9 : Nat → Int32 := ((s7_asks mm w6).2); (let r8 : Int32 := ((s7_asks mm w6).1); (let w14 : Int32 := (if r8 = 0 then 0 else (n1 (s7_place v9 a1).toNatClampNeg)); (w14, v9)))))

def s7_stateOf (mm : Nat → Int32) (n1 : Nat → Int32) (n2 : Nat → Int32) (n3 : Nat → Int32) (a1 : Int32) : Int32 × (Nat → Int32) := (let w6 : Int32 := (if a1 < 0 then 0 else (if (s7_kept mm) ≤ a1 then 0 else 1)); (let v9 : Nat → Int32 := ((s7_asks mm w6).2); (let r8 : Int32 := ((s7_asks mm w6).1); (let w14 : Int32 := (if r8 = 0 then 0 else (n2 (s7_place v9 a1).toNatClampNeg)); (w14, v9)))))

def s7_reasonOf (mm : Nat → Int32) (n1 : Nat → Int32) (n2 : Nat → Int32) (n3 : Nat → Int32) (a1 : Int32) : Int32 × (Nat → Int32) := (let w6 : Int32 := (if a1 < 0 then 0 else (if (s7_kept mm) ≤ a1 then 0 else 1)); (let v9 : Nat → Int32 := ((s7_asks mm w6).2); (let r8 : Int32 := ((s7_asks mm w6).1); (let w14 : Int32 := (if r8 = 0 then 0 else (n3 (s7_place v9 a1).toNatClampNeg)); (w14, v9)))))

set_option maxHeartbeats 4000000 in
set_option maxRecDepth 100000 in
theorem k7_notes (l : Launch) (D : va_G) (cI cJ : ClassId) (xm ja jb jc : Nat) (xm_29 xm_30 xm_31 : Value) (mm : Nat → Int32) (n1 : Nat → Int32) (n2 : Nat → Int32) (n3 : Nat → Int32) (hix : vp_in ((mm 24) - (mm 24) / 100 * 100) 100) : cw_Mv l yX7_notes wsX7_notes (cw_rm 0) D [(cI, .int), (cJ, .long)] [.ref xm] [(xm, c7 (.ref ja) (.ref jb) (.ref jc) xm_29 xm_30 xm_31 mm), (ja, .inl (cI, 100, .inl n1)), (jb, .inl (cI, 100, .inl n2)), (jc, .inl (cI, 100, .inl n3))] 0 0 (fun _ : Unit => True) (fun _ : Unit => [(xm, c7 (.ref ja) (.ref jb) (.ref jc) xm_29 xm_30 xm_31 (s7_notes mm n1 n2 n3).1), (ja, .inl (cI, 100, .inl (s7_notes mm n1 n2 n3).2.1)), (jb, .inl (cI, 100, .inl (s7_notes mm n1 n2 n3).2.2.1)), (jc, .inl (cI, 100, .inl (s7_notes mm n1 n2 n3).2.2.2))]) := by
  refine cw_ofv (cc := cX7_notes) (maxL := 1) (ret := none) (by decide) rfl (Nat.le_of_ble_eq_true rfl) rfl ?_
  intro p e s m args below meth c A ls Q hin0 hret
  obtain ⟨hx, hb, hr, hml, hts, hown, hlocks, hin, hP, hK, hD, hN, hA, hl⟩ := hin0
  have hS : va_S A s.heap s.heap [] := va_S.rf
  have hl : lv_has ls 1 [(0, .ref xm)] := hl
  have lf43 := hts (.fieldLink RX7 43 "BurnerlineModel" "changedAt" "[I") (by decide +kernel)
  have i7 : ∀ w ∈ wsX70, w ∈ wsX7_notes := by decide +kernel
  have lf143 := hts (.fieldLink RX7 143 "BurnerlineModel" "changes" "I") (by decide +kernel)
  have lf146 := hts (.fieldLink RX7 146 "BurnerlineModel" "ticks" "I") (by decide +kernel)
  have lf47 := hts (.fieldLink RX7 47 "BurnerlineModel" "changedTo" "[I") (by decide +kernel)
  have lf77 := hts (.fieldLink RX7 77 "BurnerlineModel" "state" "I") (by decide +kernel)
  have lf50 := hts (.fieldLink RX7 50 "BurnerlineModel" "changedFor" "[I") (by decide +kernel)
  have lf100 := hts (.fieldLink RX7 100 "BurnerlineModel" "why" "I") (by decide +kernel)
  refine lv_aload_n hx hb dX7_notes_0 rfl (lv_at hl 0 rfl) ?_
  refine va_get (D := D) (ci := 7) (v := .ref ja) (C := RX7) (T := TX7) (N := 35) hx hb hts i7 hown hK hP 0 rfl rfl 25 (by decide) lf43 (fun _ h9 => h9) rfl dX7_notes_1 ?_
  refine lv_aload_n hx hb dX7_notes_4 rfl (lv_at hl 0 rfl) ?_
  refine va_get (D := D) (ci := 7) (v := .int (mm 24)) (C := RX7) (T := TX7) (N := 35) hx hb hts i7 hown hK hP 0 rfl rfl 24 (by decide) lf143 (fun _ h9 => h9) rfl dX7_notes_5 ?_
  refine lv_bipush (v := 100) hx hb dX7_notes_8 (by decide) ?_
  refine lv_irem hx hb dX7_notes_10 (by decide) ?_
  refine lv_aload_n hx hb dX7_notes_11 rfl (lv_at hl 0 rfl) ?_
  refine va_get (D := D) (ci := 7) (v := .int (mm 21)) (C := RX7) (T := TX7) (N := 35) hx hb hts i7 hown hK hP 0 rfl rfl 21 (by decide) lf146 (fun _ h9 => h9) rfl dX7_notes_12 ?_
  refine va_iast hx hb hK hP hD hS 1 0 rfl rfl hix dX7_notes_15 (fun H locs hP hD hS => ?_)
  have hP : va_P D vwCl [(xm, c7 (.ref ja) (.ref jb) (.ref jc) xm_29 xm_30 xm_31 mm), (ja, .inl (cI, 100, .inl (upd n1 (((mm 24) - (mm 24) / 100 * 100).toNatClampNeg) (mm 21)))), (jb, .inl (cI, 100, .inl n2)), (jc, .inl (cI, 100, .inl n3))] H := hP
  have hD : va_D A [(xm, c7 (.ref ja) (.ref jb) (.ref jc) xm_29 xm_30 xm_31 mm), (ja, .inl (cI, 100, .inl (upd n1 (((mm 24) - (mm 24) / 100 * 100).toNatClampNeg) (mm 21)))), (jb, .inl (cI, 100, .inl n2)), (jc, .inl (cI, 100, .inl n3))] := hD
  refine lv_aload_n hx hb dX7_notes_16 rfl (lv_at hl 0 rfl) ?_
  refine va_get (D := D) (ci := 7) (v := .ref jb) (C := RX7) (T := TX7) (N := 35) hx hb hts i7 hown hK hP 0 rfl rfl 26 (by decide) lf47 (fun _ h9 => h9) rfl dX7_notes_17 ?_
  refine lv_aload_n hx hb dX7_notes_20 rfl (lv_at hl 0 rfl) ?_
  refine va_get (D := D) (ci := 7) (v := .int (mm 24)) (C := RX7) (T := TX7) (N := 35) hx hb hts i7 hown hK hP 0 rfl rfl 24 (by decide) lf143 (fun _ h9 => h9) rfl dX7_notes_21 ?_
  refine lv_bipush (v := 100) hx hb dX7_notes_24 (by decide) ?_
  refine lv_irem hx hb dX7_notes_26 (by decide) ?_
  refine lv_aload_n hx hb dX7_notes_27 rfl (lv_at hl 0 rfl) ?_
  refine va_get (D := D) (ci := 7) (v := .int (mm 12)) (C := RX7) (T := TX7) (N := 35) hx hb hts i7 hown hK hP 0 rfl rfl 12 (by decide) lf77 (fun _ h9 => h9) rfl dX7_notes_28 ?_
  refine va_iast hx hb hK hP hD hS 2 0 rfl rfl hix dX7_notes_31 (fun H locs hP hD hS => ?_)
  have hP : va_P D vwCl [(xm, c7 (.ref ja) (.ref jb) (.ref jc) xm_29 xm_30 xm_31 mm), (ja, .inl (cI, 100, .inl (upd n1 (((mm 24) - (mm 24) / 100 * 100).toNatClampNeg) (mm 21)))), (jb, .inl (cI, 100, .inl (upd n2 (((mm 24) - (mm 24) / 100 * 100).toNatClampNeg) (mm 12)))), (jc, .inl (cI, 100, .inl n3))] H := hP
  have hD : va_D A [(xm, c7 (.ref ja) (.ref jb) (.ref jc) xm_29 xm_30 xm_31 mm), (ja, .inl (cI, 100, .inl (upd n1 (((mm 24) - (mm 24) / 100 * 100).toNatClampNeg) (mm 21)))), (jb, .inl (cI, 100, .inl (upd n2 (((mm 24) - (mm 24) / 100 * 100).toNatClampNeg) (mm 12)))), (jc, .inl (cI, 100, .inl n3))] := hD
  refine lv_aload_n hx hb dX7_notes_32 rfl (lv_at hl 0 rfl) ?_
  refine va_get (D := D) (ci := 7) (v := .ref jc) (C := RX7) (T := TX7) (N := 35) hx hb hts i7 hown hK hP 0 rfl rfl 27 (by decide) lf50 (fun _ h9 => h9) rfl dX7_notes_33 ?_
  refine lv_aload_n hx hb dX7_notes_36 rfl (lv_at hl 0 rfl) ?_
  refine va_get (D := D) (ci := 7) (v := .int (mm 24)) (C := RX7) (T := TX7) (N := 35) hx hb hts i7 hown hK hP 0 rfl rfl 24 (by decide) lf143 (fun _ h9 => h9) rfl dX7_notes_37 ?_
  refine lv_bipush (v := 100) hx hb dX7_notes_40 (by decide) ?_
  refine lv_irem hx hb dX7_notes_42 (by decide) ?_
  refine lv_aload_n hx hb dX7_notes_43 rfl (lv_at hl 0 rfl) ?_
  refine va_get (D := D) (ci := 7) (v := .int (mm 13)) (C := RX7) (T := TX7) (N := 35) hx hb hts i7 hown hK hP 0 rfl rfl 13 (by decide) lf100 (fun _ h9 => h9) rfl dX7_notes_44 ?_
  refine va_iast hx hb hK hP hD hS 3 0 rfl rfl hix dX7_notes_47 (fun H locs hP hD hS => ?_)
  have hP : va_P D vwCl [(xm, c7 (.ref ja) (.ref jb) (.ref jc) xm_29 xm_30 xm_31 mm), (ja, .inl (cI, 100, .inl (upd n1 (((mm 24) - (mm 24) / 100 * 100).toNatClampNeg) (mm 21)))), (jb, .inl (cI, 100, .inl (upd n2 (((mm 24) - (mm 24) / 100 * 100).toNatClampNeg) (mm 12)))), (jc, .inl (cI, 100, .inl (upd n3 (((mm 24) - (mm 24) / 100 * 100).toNatClampNeg) (mm 13))))] H := hP
  have hD : va_D A [(xm, c7 (.ref ja) (.ref jb) (.ref jc) xm_29 xm_30 xm_31 mm), (ja, .inl (cI, 100, .inl (upd n1 (((mm 24) - (mm 24) / 100 * 100).toNatClampNeg) (mm 21)))), (jb, .inl (cI, 100, .inl (upd n2 (((mm 24) - (mm 24) / 100 * 100).toNatClampNeg) (mm 12)))), (jc, .inl (cI, 100, .inl (upd n3 (((mm 24) - (mm 24) / 100 * 100).toNatClampNeg) (mm 13))))] := hD
  refine lv_aload_n hx hb dX7_notes_48 rfl (lv_at hl 0 rfl) ?_
  refine lv_dup hx hb dX7_notes_49 rfl ?_
  refine va_get (D := D) (ci := 7) (v := .int (mm 24)) (C := RX7) (T := TX7) (N := 35) hx hb hts i7 hown hK hP 0 rfl rfl 24 (by decide) lf143 (fun _ h9 => h9) rfl dX7_notes_50 ?_
  refine lv_iconst (v := 1) hx hb dX7_notes_53 (by decide) ?_
  refine lv_iadd hx hb dX7_notes_54 ?_
  refine va_put (D := D) (ci := 7) (v := .int ((mm 24) + 1)) (ty := .int) (C := RX7) (T := TX7) (N := 35) hx hb hts i7 tyX7 tyX7_ok nmX7 hown hK hP hD hS 0 rfl rfl 24 (by decide) lf143 (fun _ h9 => h9) rfl (by decide +kernel) rfl rfl (Nat.le_of_ble_eq_true rfl) dX7_notes_55 (fun H locs hP hD hS => ?_)
  have hP : va_P D vwCl [(xm, c7 (.ref ja) (.ref jb) (.ref jc) xm_29 xm_30 xm_31 (upd mm 24 ((mm 24) + 1))), (ja, .inl (cI, 100, .inl (upd n1 (((mm 24) - (mm 24) / 100 * 100).toNatClampNeg) (mm 21)))), (jb, .inl (cI, 100, .inl (upd n2 (((mm 24) - (mm 24) / 100 * 100).toNatClampNeg) (mm 12)))), (jc, .inl (cI, 100, .inl (upd n3 (((mm 24) - (mm 24) / 100 * 100).toNatClampNeg) (mm 13))))] H := (congrArg (fun z9 => va_P D vwCl [(xm, .inr (7, z9)), (ja, .inl (cI, 100, .inl (upd n1 (((mm 24) - (mm 24) / 100 * 100).toNatClampNeg) (mm 21)))), (jb, .inl (cI, 100, .inl (upd n2 (((mm 24) - (mm 24) / 100 * 100).toNatClampNeg) (mm 12)))), (jc, .inl (cI, 100, .inl (upd n3 (((mm 24) - (mm 24) / 100 * 100).toNatClampNeg) (mm 13))))] H) (cs7_24 (.ref ja) (.ref jb) (.ref jc) xm_29 xm_30 xm_31 mm ((mm 24) + 1))).mp hP
  have hD : va_D A [(xm, c7 (.ref ja) (.ref jb) (.ref jc) xm_29 xm_30 xm_31 (upd mm 24 ((mm 24) + 1))), (ja, .inl (cI, 100, .inl (upd n1 (((mm 24) - (mm 24) / 100 * 100).toNatClampNeg) (mm 21)))), (jb, .inl (cI, 100, .inl (upd n2 (((mm 24) - (mm 24) / 100 * 100).toNatClampNeg) (mm 12)))), (jc, .inl (cI, 100, .inl (upd n3 (((mm 24) - (mm 24) / 100 * 100).toNatClampNeg) (mm 13))))] := (congrArg (fun z9 => va_D A [(xm, .inr (7, z9)), (ja, .inl (cI, 100, .inl (upd n1 (((mm 24) - (mm 24) / 100 * 100).toNatClampNeg) (mm 21)))), (jb, .inl (cI, 100, .inl (upd n2 (((mm 24) - (mm 24) / 100 * 100).toNatClampNeg) (mm 12)))), (jc, .inl (cI, 100, .inl (upd n3 (((mm 24) - (mm 24) / 100 * 100).toNatClampNeg) (mm 13))))]) (cs7_24 (.ref ja) (.ref jb) (.ref jc) xm_29 xm_30 xm_31 mm ((mm 24) + 1))).mp hD
  have hsp : (s7_notes mm n1 n2 n3) = (((upd mm 24 ((mm 24) + 1)), (upd n1 (((mm 24) - (mm 24) / 100 * 100).toNatClampNeg) (mm 21)), (upd n2 (((mm 24) - (mm 24) / 100 * 100).toNatClampNeg) (mm 12)), (upd n3 (((mm 24) - (mm 24) / 100 * 100).toNatClampNeg) (mm 13))) : (Nat → Int32) × (Nat → Int32) × (Nat → Int32) × (Nat → Int32)) := rfl
  exact hret _ _ _ _ _ _ _ hP hD hS dX7_notes_58 ⟨(), trivial, (by rw [hsp])⟩ (Nat.le_of_ble_eq_true rfl) (Nat.le_of_ble_eq_true rfl)

set_option maxHeartbeats 4000000 in
set_option maxRecDepth 100000 in
theorem k7_tickOf (l : Launch) (D : va_G) (cI cJ : ClassId) (xm ja jb jc : Nat) (xm_29 xm_30 xm_31 : Value) (mm : Nat → Int32) (n1 : Nat → Int32) (n2 : Nat → Int32) (n3 : Nat → Int32) (a1 : Int32) (hix : ¬ (s7_asks mm (if a1 < 0 then 0 else (if (s7_kept mm) ≤ a1 then 0 else 1))).1 = 0 → vp_in (s7_place (s7_asks mm (if a1 < 0 then 0 else (if (s7_kept mm) ≤ a1 then 0 else 1))).2 a1) 100) : cw_Mi l yX7_tickOf wsX7_tickOf (cw_rm 1) D [(cI, .int), (cJ, .long)] [.ref xm, .int a1] [(xm, c7 (.ref ja) (.ref jb) (.ref jc) xm_29 xm_30 xm_31 mm), (ja, .inl (cI, 100, .inl n1)), (jb, .inl (cI, 100, .inl n2)), (jc, .inl (cI, 100, .inl n3))] 0 0 (fun r (_ : Unit) => r = (s7_tickOf mm n1 n2 n3 a1).1) (fun _ : Unit => [(xm, c7 (.ref ja) (.ref jb) (.ref jc) xm_29 xm_30 xm_31 (s7_tickOf mm n1 n2 n3 a1).2), (ja, .inl (cI, 100, .inl n1)), (jb, .inl (cI, 100, .inl n2)), (jc, .inl (cI, 100, .inl n3))]) := by
  refine cw_ofi (cc := cX7_tickOf) (maxL := 2) (ret := (some .int)) (by decide) rfl (Nat.le_of_ble_eq_true rfl) rfl ?_
  intro p e s m args below meth c A ls Q hin0 hret
  obtain ⟨hx, hb, hr, hml, hts, hown, hlocks, hin, hP, hK, hD, hN, hA, hl⟩ := hin0
  have hS : va_S A s.heap s.heap [] := va_S.rf
  have hl : lv_has ls 2 [(0, .ref xm), (1, .int a1)] := hl
  have lf43 := hts (.fieldLink RX7 43 "BurnerlineModel" "changedAt" "[I") (by decide +kernel)
  have i7 : ∀ w ∈ wsX70, w ∈ wsX7_tickOf := by decide +kernel
  refine lv_aload_n hx hb dX7_tickOf_0 rfl (lv_at hl 0 rfl) ?_
  refine lv_iload_n hx hb dX7_tickOf_1 rfl (lv_at hl 1 rfl) ?_
  have J5 : ∀ (w6 : Int32), w6 = (if a1 < 0 then 0 else (if (s7_kept mm) ≤ a1 then 0 else 1)) → ∀ (H : Heap) (locs : List Loc), va_P D vwCl [(xm, c7 (.ref ja) (.ref jb) (.ref jc) xm_29 xm_30 xm_31 mm), (ja, .inl (cI, 100, .inl n1)), (jb, .inl (cI, 100, .inl n2)), (jc, .inl (cI, 100, .inl n3))] H → va_D A [(xm, c7 (.ref ja) (.ref jb) (.ref jc) xm_29 xm_30 xm_31 mm), (ja, .inl (cI, 100, .inl n1)), (jb, .inl (cI, 100, .inl n2)), (jc, .inl (cI, 100, .inl n3))] → va_S A s.heap H locs → W p l e (cw_rm 1) s m args below meth c H locs 0 0 (Q) (F0 m 18 ls [.int w6, .ref xm]) := by
    intro w6 hw6 H locs hP hD hS
    refine cw_cVi (As := [.int w6]) (rest := []) (wc := [(xm, c7 (.ref ja) (.ref jb) (.ref jc) xm_29 xm_30 xm_31 mm)]) (wr := [(ja, .inl (cI, 100, .inl n1)), (jb, .inl (cI, 100, .inl n2)), (jc, .inl (cI, 100, .inl n3))]) ⟨hx, hb, hml, hown, hts⟩ (k7_asks l D cI cJ xm (.ref ja) (.ref jb) (.ref jc) xm_29 xm_30 xm_31 mm w6 (by (try simp only [hw6]); (repeat' split) <;> first | exact Or.inl rfl | exact Or.inr rfl | assumption)) (cwV 1 hts gX7_tickOf_X7_asks rfl rfl rfl (by decide +kernel) ⟨Nat.le_of_ble_eq_true rfl, Nat.le_of_ble_eq_true rfl⟩) hK hN hP hD hS hA [0] [1, 2, 3] rfl rfl (by decide) (by decide) (by decide) 0 (ci := 7) rfl rfl rfl rfl hl.1 rfl (Nat.le_of_ble_eq_true rfl) dX7_tickOf_18 ⟨Nat.le_of_ble_eq_true rfl, Nat.le_of_ble_eq_true rfl⟩ (fun r8 u7 H locs hw hP hD hS => ?_)
    have hr8 : r8 = ((s7_asks mm w6).1) := hw
    obtain ⟨v9, hv9⟩ : ∃ z : Nat → Int32, z = ((s7_asks mm w6).2) := ⟨_, rfl⟩
    have hP : va_P D vwCl [(ja, .inl (cI, 100, .inl n1)), (jb, .inl (cI, 100, .inl n2)), (jc, .inl (cI, 100, .inl n3)), (xm, c7 (.ref ja) (.ref jb) (.ref jc) xm_29 xm_30 xm_31 v9)] H := by rw [hv9]; exact hP
    have hD : va_D A [(ja, .inl (cI, 100, .inl n1)), (jb, .inl (cI, 100, .inl n2)), (jc, .inl (cI, 100, .inl n3)), (xm, c7 (.ref ja) (.ref jb) (.ref jc) xm_29 xm_30 xm_31 v9)] := by rw [hv9]; exact hD
    have J13 : ∀ (w14 : Int32), w14 = (if r8 = 0 then 0 else (n1 (s7_place v9 a1).toNatClampNeg)) → ∀ (H : Heap) (locs : List Loc), va_P D vwCl [(ja, .inl (cI, 100, .inl n1)), (jb, .inl (cI, 100, .inl n2)), (jc, .inl (cI, 100, .inl n3)), (xm, c7 (.ref ja) (.ref jb) (.ref jc) xm_29 xm_30 xm_31 v9)] H → va_D A [(ja, .inl (cI, 100, .inl n1)), (jb, .inl (cI, 100, .inl n2)), (jc, .inl (cI, 100, .inl n3)), (xm, c7 (.ref ja) (.ref jb) (.ref jc) xm_29 xm_30 xm_31 v9)] → va_S A s.heap H locs → W p l e (cw_rm 1) s m args below meth c H locs 0 0 (Q) (F0 m 38 ls [.int w14]) := by
      intro w14 hw14 H locs hP hD hS
      have hsp : (s7_tickOf mm n1 n2 n3 a1) = ((w14, v9) : Int32 × (Nat → Int32)) := by simp only [s7_tickOf, ← hw6, ← hv9, ← hr8, ← hw14]
      exact hret _ _ _ _ _ _ _ _ (hP.sub (ws' := [(xm, c7 (.ref ja) (.ref jb) (.ref jc) xm_29 xm_30 xm_31 v9), (ja, .inl (cI, 100, .inl n1)), (jb, .inl (cI, 100, .inl n2)), (jc, .inl (cI, 100, .inl n3))]) [3, 0, 1, 2] rfl) (hD.sub (ws' := [(xm, c7 (.ref ja) (.ref jb) (.ref jc) xm_29 xm_30 xm_31 v9), (ja, .inl (cI, 100, .inl n1)), (jb, .inl (cI, 100, .inl n2)), (jc, .inl (cI, 100, .inl n3))]) [3, 0, 1, 2] (by decide) rfl) hS dX7_tickOf_38 rfl ⟨(), (by rw [hsp]), (by rw [hsp])⟩ (Nat.le_of_ble_eq_true rfl) (Nat.le_of_ble_eq_true rfl)
    refine lv_if_eq (tgt := 37) hx hb dX7_tickOf_21 (by decide) (fun z10 => ?_) (fun z10 => ?_)
    · refine lv_iconst (v := 0) hx hb dX7_tickOf_37 (by decide) ?_
      exact J13 0 (by simp only [if_pos z10]) _ _ hP hD hS
    · refine lv_aload_n hx hb dX7_tickOf_24 rfl (lv_at hl 0 rfl) ?_
      refine va_get (D := D) (ci := 7) (v := .ref ja) (C := RX7) (T := TX7) (N := 35) hx hb hts i7 hown hK hP 3 rfl rfl 25 (by decide) lf43 (fun _ h9 => h9) rfl dX7_tickOf_25 ?_
      refine lv_aload_n hx hb dX7_tickOf_28 rfl (lv_at hl 0 rfl) ?_
      refine lv_iload_n hx hb dX7_tickOf_29 rfl (lv_at hl 1 rfl) ?_
      refine cw_cVi (As := [.int a1]) (rest := [.ref ja]) (wc := [(xm, c7 (.ref ja) (.ref jb) (.ref jc) xm_29 xm_30 xm_31 v9)]) (wr := [(ja, .inl (cI, 100, .inl n1)), (jb, .inl (cI, 100, .inl n2)), (jc, .inl (cI, 100, .inl n3))]) ⟨hx, hb, hml, hown, hts⟩ (k7_place l D cI cJ xm (.ref ja) (.ref jb) (.ref jc) xm_29 xm_30 xm_31 v9 a1) (cwV 1 hts gX7_tickOf_X7_place rfl rfl rfl (by decide +kernel) ⟨Nat.le_of_ble_eq_true rfl, Nat.le_of_ble_eq_true rfl⟩) hK hN hP hD hS hA [3] [0, 1, 2] rfl rfl (by decide) (by decide) (by decide) 0 (ci := 7) rfl rfl rfl rfl hl.1 rfl (Nat.le_of_ble_eq_true rfl) dX7_tickOf_30 ⟨Nat.le_of_ble_eq_true rfl, Nat.le_of_ble_eq_true rfl⟩ (fun r12 u11 H locs hw hP hD hS => ?_)
      have hr12 : r12 = (s7_place v9 a1) := hw
      have hP : va_P D vwCl [(ja, .inl (cI, 100, .inl n1)), (jb, .inl (cI, 100, .inl n2)), (jc, .inl (cI, 100, .inl n3)), (xm, c7 (.ref ja) (.ref jb) (.ref jc) xm_29 xm_30 xm_31 v9)] H := hP
      have hD : va_D A [(ja, .inl (cI, 100, .inl n1)), (jb, .inl (cI, 100, .inl n2)), (jc, .inl (cI, 100, .inl n3)), (xm, c7 (.ref ja) (.ref jb) (.ref jc) xm_29 xm_30 xm_31 v9)] := hD
      refine va_iald hx hb hK hP 0 0 rfl rfl (by subst_vars; exact hix (by assumption)) dX7_tickOf_33 ?_
      refine lv_goto (tgt := 38) hx hb dX7_tickOf_34 (by decide) ?_
      exact J13 (n1 r12.toNatClampNeg) (by simp only [← hr12, if_neg z10]) _ _ hP hD hS
  refine lv_if_lt (tgt := 17) hx hb dX7_tickOf_2 (by decide) (fun z1 => ?_) (fun z1 => ?_)
  · refine lv_iconst (v := 0) hx hb dX7_tickOf_17 (by decide) ?_
    exact J5 0 (by simp only [if_pos z1]) _ _ hP hD hS
  · refine lv_iload_n hx hb dX7_tickOf_5 rfl (lv_at hl 1 rfl) ?_
    refine lv_aload_n hx hb dX7_tickOf_6 rfl (lv_at hl 0 rfl) ?_
    refine cw_cVi (As := []) (rest := [.int a1, .ref xm]) (wc := [(xm, c7 (.ref ja) (.ref jb) (.ref jc) xm_29 xm_30 xm_31 mm)]) (wr := [(ja, .inl (cI, 100, .inl n1)), (jb, .inl (cI, 100, .inl n2)), (jc, .inl (cI, 100, .inl n3))]) ⟨hx, hb, hml, hown, hts⟩ (k7_kept l D cI cJ xm (.ref ja) (.ref jb) (.ref jc) xm_29 xm_30 xm_31 mm) (cwV 0 hts gX7_tickOf_X7_kept rfl rfl rfl (by decide +kernel) ⟨Nat.le_of_ble_eq_true rfl, Nat.le_of_ble_eq_true rfl⟩) hK hN hP hD hS hA [0] [1, 2, 3] rfl rfl (by decide) (by decide) (by decide) 0 (ci := 7) rfl rfl rfl rfl hl.1 rfl (Nat.le_of_ble_eq_true rfl) dX7_tickOf_7 ⟨Nat.le_of_ble_eq_true rfl, Nat.le_of_ble_eq_true rfl⟩ (fun r3 u2 H locs hw hP hD hS => ?_)
    have hr3 : r3 = (s7_kept mm) := hw
    have hP : va_P D vwCl [(ja, .inl (cI, 100, .inl n1)), (jb, .inl (cI, 100, .inl n2)), (jc, .inl (cI, 100, .inl n3)), (xm, c7 (.ref ja) (.ref jb) (.ref jc) xm_29 xm_30 xm_31 mm)] H := hP
    have hD : va_D A [(ja, .inl (cI, 100, .inl n1)), (jb, .inl (cI, 100, .inl n2)), (jc, .inl (cI, 100, .inl n3)), (xm, c7 (.ref ja) (.ref jb) (.ref jc) xm_29 xm_30 xm_31 mm)] := hD
    refine lv_icmp_ge (tgt := 17) hx hb dX7_tickOf_10 (by decide) (fun z4 => ?_) (fun z4 => ?_)
    · refine lv_iconst (v := 0) hx hb dX7_tickOf_17 (by decide) ?_
      exact J5 0 (by simp only [← hr3, if_neg z1, if_pos z4]) _ _ (hP.sub [3, 0, 1, 2] rfl) (hD.sub [3, 0, 1, 2] (by decide) rfl) hS
    · refine lv_iconst (v := 1) hx hb dX7_tickOf_13 (by decide) ?_
      refine lv_goto (tgt := 18) hx hb dX7_tickOf_14 (by decide) ?_
      exact J5 1 (by simp only [← hr3, if_neg z1, if_neg z4]) _ _ (hP.sub [3, 0, 1, 2] rfl) (hD.sub [3, 0, 1, 2] (by decide) rfl) hS

set_option maxHeartbeats 4000000 in
set_option maxRecDepth 100000 in
theorem k7_stateOf (l : Launch) (D : va_G) (cI cJ : ClassId) (xm ja jb jc : Nat) (xm_29 xm_30 xm_31 : Value) (mm : Nat → Int32) (n1 : Nat → Int32) (n2 : Nat → Int32) (n3 : Nat → Int32) (a1 : Int32) (hix : ¬ (s7_asks mm (if a1 < 0 then 0 else (if (s7_kept mm) ≤ a1 then 0 else 1))).1 = 0 → vp_in (s7_place (s7_asks mm (if a1 < 0 then 0 else (if (s7_kept mm) ≤ a1 then 0 else 1))).2 a1) 100) : cw_Mi l yX7_stateOf wsX7_stateOf (cw_rm 1) D [(cI, .int), (cJ, .long)] [.ref xm, .int a1] [(xm, c7 (.ref ja) (.ref jb) (.ref jc) xm_29 xm_30 xm_31 mm), (ja, .inl (cI, 100, .inl n1)), (jb, .inl (cI, 100, .inl n2)), (jc, .inl (cI, 100, .inl n3))] 0 0 (fun r (_ : Unit) => r = (s7_stateOf mm n1 n2 n3 a1).1) (fun _ : Unit => [(xm, c7 (.ref ja) (.ref jb) (.ref jc) xm_29 xm_30 xm_31 (s7_stateOf mm n1 n2 n3 a1).2), (ja, .inl (cI, 100, .inl n1)), (jb, .inl (cI, 100, .inl n2)), (jc, .inl (cI, 100, .inl n3))]) := by
  refine cw_ofi (cc := cX7_stateOf) (maxL := 2) (ret := (some .int)) (by decide) rfl (Nat.le_of_ble_eq_true rfl) rfl ?_
  intro p e s m args below meth c A ls Q hin0 hret
  obtain ⟨hx, hb, hr, hml, hts, hown, hlocks, hin, hP, hK, hD, hN, hA, hl⟩ := hin0
  have hS : va_S A s.heap s.heap [] := va_S.rf
  have hl : lv_has ls 2 [(0, .ref xm), (1, .int a1)] := hl
  have lf47 := hts (.fieldLink RX7 47 "BurnerlineModel" "changedTo" "[I") (by decide +kernel)
  have i7 : ∀ w ∈ wsX70, w ∈ wsX7_stateOf := by decide +kernel
  refine lv_aload_n hx hb dX7_stateOf_0 rfl (lv_at hl 0 rfl) ?_
  refine lv_iload_n hx hb dX7_stateOf_1 rfl (lv_at hl 1 rfl) ?_
  have J5 : ∀ (w6 : Int32), w6 = (if a1 < 0 then 0 else (if (s7_kept mm) ≤ a1 then 0 else 1)) → ∀ (H : Heap) (locs : List Loc), va_P D vwCl [(xm, c7 (.ref ja) (.ref jb) (.ref jc) xm_29 xm_30 xm_31 mm), (ja, .inl (cI, 100, .inl n1)), (jb, .inl (cI, 100, .inl n2)), (jc, .inl (cI, 100, .inl n3))] H → va_D A [(xm, c7 (.ref ja) (.ref jb) (.ref jc) xm_29 xm_30 xm_31 mm), (ja, .inl (cI, 100, .inl n1)), (jb, .inl (cI, 100, .inl n2)), (jc, .inl (cI, 100, .inl n3))] → va_S A s.heap H locs → W p l e (cw_rm 1) s m args below meth c H locs 0 0 (Q) (F0 m 18 ls [.int w6, .ref xm]) := by
    intro w6 hw6 H locs hP hD hS
    refine cw_cVi (As := [.int w6]) (rest := []) (wc := [(xm, c7 (.ref ja) (.ref jb) (.ref jc) xm_29 xm_30 xm_31 mm)]) (wr := [(ja, .inl (cI, 100, .inl n1)), (jb, .inl (cI, 100, .inl n2)), (jc, .inl (cI, 100, .inl n3))]) ⟨hx, hb, hml, hown, hts⟩ (k7_asks l D cI cJ xm (.ref ja) (.ref jb) (.ref jc) xm_29 xm_30 xm_31 mm w6 (by (try simp only [hw6]); (repeat' split) <;> first | exact Or.inl rfl | exact Or.inr rfl | assumption)) (cwV 1 hts gX7_stateOf_X7_asks rfl rfl rfl (by decide +kernel) ⟨Nat.le_of_ble_eq_true rfl, Nat.le_of_ble_eq_true rfl⟩) hK hN hP hD hS hA [0] [1, 2, 3] rfl rfl (by decide) (by decide) (by decide) 0 (ci := 7) rfl rfl rfl rfl hl.1 rfl (Nat.le_of_ble_eq_true rfl) dX7_stateOf_18 ⟨Nat.le_of_ble_eq_true rfl, Nat.le_of_ble_eq_true rfl⟩ (fun r8 u7 H locs hw hP hD hS => ?_)
    have hr8 : r8 = ((s7_asks mm w6).1) := hw
    obtain ⟨v9, hv9⟩ : ∃ z : Nat → Int32, z = ((s7_asks mm w6).2) := ⟨_, rfl⟩
    have hP : va_P D vwCl [(ja, .inl (cI, 100, .inl n1)), (jb, .inl (cI, 100, .inl n2)), (jc, .inl (cI, 100, .inl n3)), (xm, c7 (.ref ja) (.ref jb) (.ref jc) xm_29 xm_30 xm_31 v9)] H := by rw [hv9]; exact hP
    have hD : va_D A [(ja, .inl (cI, 100, .inl n1)), (jb, .inl (cI, 100, .inl n2)), (jc, .inl (cI, 100, .inl n3)), (xm, c7 (.ref ja) (.ref jb) (.ref jc) xm_29 xm_30 xm_31 v9)] := by rw [hv9]; exact hD
    have J13 : ∀ (w14 : Int32), w14 = (if r8 = 0 then 0 else (n2 (s7_place v9 a1).toNatClampNeg)) → ∀ (H : Heap) (locs : List Loc), va_P D vwCl [(ja, .inl (cI, 100, .inl n1)), (jb, .inl (cI, 100, .inl n2)), (jc, .inl (cI, 100, .inl n3)), (xm, c7 (.ref ja) (.ref jb) (.ref jc) xm_29 xm_30 xm_31 v9)] H → va_D A [(ja, .inl (cI, 100, .inl n1)), (jb, .inl (cI, 100, .inl n2)), (jc, .inl (cI, 100, .inl n3)), (xm, c7 (.ref ja) (.ref jb) (.ref jc) xm_29 xm_30 xm_31 v9)] → va_S A s.heap H locs → W p l e (cw_rm 1) s m args below meth c H locs 0 0 (Q) (F0 m 38 ls [.int w14]) := by
      intro w14 hw14 H locs hP hD hS
      have hsp : (s7_stateOf mm n1 n2 n3 a1) = ((w14, v9) : Int32 × (Nat → Int32)) := by simp only [s7_stateOf, ← hw6, ← hv9, ← hr8, ← hw14]
      exact hret _ _ _ _ _ _ _ _ (hP.sub (ws' := [(xm, c7 (.ref ja) (.ref jb) (.ref jc) xm_29 xm_30 xm_31 v9), (ja, .inl (cI, 100, .inl n1)), (jb, .inl (cI, 100, .inl n2)), (jc, .inl (cI, 100, .inl n3))]) [3, 0, 1, 2] rfl) (hD.sub (ws' := [(xm, c7 (.ref ja) (.ref jb) (.ref jc) xm_29 xm_30 xm_31 v9), (ja, .inl (cI, 100, .inl n1)), (jb, .inl (cI, 100, .inl n2)), (jc, .inl (cI, 100, .inl n3))]) [3, 0, 1, 2] (by decide) rfl) hS dX7_stateOf_38 rfl ⟨(), (by rw [hsp]), (by rw [hsp])⟩ (Nat.le_of_ble_eq_true rfl) (Nat.le_of_ble_eq_true rfl)
    refine lv_if_eq (tgt := 37) hx hb dX7_stateOf_21 (by decide) (fun z10 => ?_) (fun z10 => ?_)
    · refine lv_iconst (v := 0) hx hb dX7_stateOf_37 (by decide) ?_
      exact J13 0 (by simp only [if_pos z10]) _ _ hP hD hS
    · refine lv_aload_n hx hb dX7_stateOf_24 rfl (lv_at hl 0 rfl) ?_
      refine va_get (D := D) (ci := 7) (v := .ref jb) (C := RX7) (T := TX7) (N := 35) hx hb hts i7 hown hK hP 3 rfl rfl 26 (by decide) lf47 (fun _ h9 => h9) rfl dX7_stateOf_25 ?_
      refine lv_aload_n hx hb dX7_stateOf_28 rfl (lv_at hl 0 rfl) ?_
      refine lv_iload_n hx hb dX7_stateOf_29 rfl (lv_at hl 1 rfl) ?_
      refine cw_cVi (As := [.int a1]) (rest := [.ref jb]) (wc := [(xm, c7 (.ref ja) (.ref jb) (.ref jc) xm_29 xm_30 xm_31 v9)]) (wr := [(ja, .inl (cI, 100, .inl n1)), (jb, .inl (cI, 100, .inl n2)), (jc, .inl (cI, 100, .inl n3))]) ⟨hx, hb, hml, hown, hts⟩ (k7_place l D cI cJ xm (.ref ja) (.ref jb) (.ref jc) xm_29 xm_30 xm_31 v9 a1) (cwV 1 hts gX7_stateOf_X7_place rfl rfl rfl (by decide +kernel) ⟨Nat.le_of_ble_eq_true rfl, Nat.le_of_ble_eq_true rfl⟩) hK hN hP hD hS hA [3] [0, 1, 2] rfl rfl (by decide) (by decide) (by decide) 0 (ci := 7) rfl rfl rfl rfl hl.1 rfl (Nat.le_of_ble_eq_true rfl) dX7_stateOf_30 ⟨Nat.le_of_ble_eq_true rfl, Nat.le_of_ble_eq_true rfl⟩ (fun r12 u11 H locs hw hP hD hS => ?_)
      have hr12 : r12 = (s7_place v9 a1) := hw
      have hP : va_P D vwCl [(ja, .inl (cI, 100, .inl n1)), (jb, .inl (cI, 100, .inl n2)), (jc, .inl (cI, 100, .inl n3)), (xm, c7 (.ref ja) (.ref jb) (.ref jc) xm_29 xm_30 xm_31 v9)] H := hP
      have hD : va_D A [(ja, .inl (cI, 100, .inl n1)), (jb, .inl (cI, 100, .inl n2)), (jc, .inl (cI, 100, .inl n3)), (xm, c7 (.ref ja) (.ref jb) (.ref jc) xm_29 xm_30 xm_31 v9)] := hD
      refine va_iald hx hb hK hP 1 0 rfl rfl (by subst_vars; exact hix (by assumption)) dX7_stateOf_33 ?_
      refine lv_goto (tgt := 38) hx hb dX7_stateOf_34 (by decide) ?_
      exact J13 (n2 r12.toNatClampNeg) (by simp only [← hr12, if_neg z10]) _ _ hP hD hS
  refine lv_if_lt (tgt := 17) hx hb dX7_stateOf_2 (by decide) (fun z1 => ?_) (fun z1 => ?_)
  · refine lv_iconst (v := 0) hx hb dX7_stateOf_17 (by decide) ?_
    exact J5 0 (by simp only [if_pos z1]) _ _ hP hD hS
  · refine lv_iload_n hx hb dX7_stateOf_5 rfl (lv_at hl 1 rfl) ?_
    refine lv_aload_n hx hb dX7_stateOf_6 rfl (lv_at hl 0 rfl) ?_
    refine cw_cVi (As := []) (rest := [.int a1, .ref xm]) (wc := [(xm, c7 (.ref ja) (.ref jb) (.ref jc) xm_29 xm_30 xm_31 mm)]) (wr := [(ja, .inl (cI, 100, .inl n1)), (jb, .inl (cI, 100, .inl n2)), (jc, .inl (cI, 100, .inl n3))]) ⟨hx, hb, hml, hown, hts⟩ (k7_kept l D cI cJ xm (.ref ja) (.ref jb) (.ref jc) xm_29 xm_30 xm_31 mm) (cwV 0 hts gX7_stateOf_X7_kept rfl rfl rfl (by decide +kernel) ⟨Nat.le_of_ble_eq_true rfl, Nat.le_of_ble_eq_true rfl⟩) hK hN hP hD hS hA [0] [1, 2, 3] rfl rfl (by decide) (by decide) (by decide) 0 (ci := 7) rfl rfl rfl rfl hl.1 rfl (Nat.le_of_ble_eq_true rfl) dX7_stateOf_7 ⟨Nat.le_of_ble_eq_true rfl, Nat.le_of_ble_eq_true rfl⟩ (fun r3 u2 H locs hw hP hD hS => ?_)
    have hr3 : r3 = (s7_kept mm) := hw
    have hP : va_P D vwCl [(ja, .inl (cI, 100, .inl n1)), (jb, .inl (cI, 100, .inl n2)), (jc, .inl (cI, 100, .inl n3)), (xm, c7 (.ref ja) (.ref jb) (.ref jc) xm_29 xm_30 xm_31 mm)] H := hP
    have hD : va_D A [(ja, .inl (cI, 100, .inl n1)), (jb, .inl (cI, 100, .inl n2)), (jc, .inl (cI, 100, .inl n3)), (xm, c7 (.ref ja) (.ref jb) (.ref jc) xm_29 xm_30 xm_31 mm)] := hD
    refine lv_icmp_ge (tgt := 17) hx hb dX7_stateOf_10 (by decide) (fun z4 => ?_) (fun z4 => ?_)
    · refine lv_iconst (v := 0) hx hb dX7_stateOf_17 (by decide) ?_
      exact J5 0 (by simp only [← hr3, if_neg z1, if_pos z4]) _ _ (hP.sub [3, 0, 1, 2] rfl) (hD.sub [3, 0, 1, 2] (by decide) rfl) hS
    · refine lv_iconst (v := 1) hx hb dX7_stateOf_13 (by decide) ?_
      refine lv_goto (tgt := 18) hx hb dX7_stateOf_14 (by decide) ?_
      exact J5 1 (by simp only [← hr3, if_neg z1, if_neg z4]) _ _ (hP.sub [3, 0, 1, 2] rfl) (hD.sub [3, 0, 1, 2] (by decide) rfl) hS

set_option maxHeartbeats 4000000 in
set_option maxRecDepth 100000 in
theorem k7_reasonOf (l : Launch) (D : va_G) (cI cJ : ClassId) (xm ja jb jc : Nat) (xm_29 xm_30 xm_31 : Value) (mm : Nat → Int32) (n1 : Nat → Int32) (n2 : Nat → Int32) (n3 : Nat → Int32) (a1 : Int32) (hix : ¬ (s7_asks mm (if a1 < 0 then 0 else (if (s7_kept mm) ≤ a1 then 0 else 1))).1 = 0 → vp_in (s7_place (s7_asks mm (if a1 < 0 then 0 else (if (s7_kept mm) ≤ a1 then 0 else 1))).2 a1) 100) : cw_Mi l yX7_reasonOf wsX7_reasonOf (cw_rm 1) D [(cI, .int), (cJ, .long)] [.ref xm, .int a1] [(xm, c7 (.ref ja) (.ref jb) (.ref jc) xm_29 xm_30 xm_31 mm), (ja, .inl (cI, 100, .inl n1)), (jb, .inl (cI, 100, .inl n2)), (jc, .inl (cI, 100, .inl n3))] 0 0 (fun r (_ : Unit) => r = (s7_reasonOf mm n1 n2 n3 a1).1) (fun _ : Unit => [(xm, c7 (.ref ja) (.ref jb) (.ref jc) xm_29 xm_30 xm_31 (s7_reasonOf mm n1 n2 n3 a1).2), (ja, .inl (cI, 100, .inl n1)), (jb, .inl (cI, 100, .inl n2)), (jc, .inl (cI, 100, .inl n3))]) := by
  refine cw_ofi (cc := cX7_reasonOf) (maxL := 2) (ret := (some .int)) (by decide) rfl (Nat.le_of_ble_eq_true rfl) rfl ?_
  intro p e s m args below meth c A ls Q hin0 hret
  obtain ⟨hx, hb, hr, hml, hts, hown, hlocks, hin, hP, hK, hD, hN, hA, hl⟩ := hin0
  have hS : va_S A s.heap s.heap [] := va_S.rf
  have hl : lv_has ls 2 [(0, .ref xm), (1, .int a1)] := hl
  have lf50 := hts (.fieldLink RX7 50 "BurnerlineModel" "changedFor" "[I") (by decide +kernel)
  have i7 : ∀ w ∈ wsX70, w ∈ wsX7_reasonOf := by decide +kernel
  refine lv_aload_n hx hb dX7_reasonOf_0 rfl (lv_at hl 0 rfl) ?_
  refine lv_iload_n hx hb dX7_reasonOf_1 rfl (lv_at hl 1 rfl) ?_
  have J5 : ∀ (w6 : Int32), w6 = (if a1 < 0 then 0 else (if (s7_kept mm) ≤ a1 then 0 else 1)) → ∀ (H : Heap) (locs : List Loc), va_P D vwCl [(xm, c7 (.ref ja) (.ref jb) (.ref jc) xm_29 xm_30 xm_31 mm), (ja, .inl (cI, 100, .inl n1)), (jb, .inl (cI, 100, .inl n2)), (jc, .inl (cI, 100, .inl n3))] H → va_D A [(xm, c7 (.ref ja) (.ref jb) (.ref jc) xm_29 xm_30 xm_31 mm), (ja, .inl (cI, 100, .inl n1)), (jb, .inl (cI, 100, .inl n2)), (jc, .inl (cI, 100, .inl n3))] → va_S A s.heap H locs → W p l e (cw_rm 1) s m args below meth c H locs 0 0 (Q) (F0 m 18 ls [.int w6, .ref xm]) := by
    intro w6 hw6 H locs hP hD hS
    refine cw_cVi (As := [.int w6]) (rest := []) (wc := [(xm, c7 (.ref ja) (.ref jb) (.ref jc) xm_29 xm_30 xm_31 mm)]) (wr := [(ja, .inl (cI, 100, .inl n1)), (jb, .inl (cI, 100, .inl n2)), (jc, .inl (cI, 100, .inl n3))]) ⟨hx, hb, hml, hown, hts⟩ (k7_asks l D cI cJ xm (.ref ja) (.ref jb) (.ref jc) xm_29 xm_30 xm_31 mm w6 (by (try simp only [hw6]); (repeat' split) <;> first | exact Or.inl rfl | exact Or.inr rfl | assumption)) (cwV 1 hts gX7_reasonOf_X7_asks rfl rfl rfl (by decide +kernel) ⟨Nat.le_of_ble_eq_true rfl, Nat.le_of_ble_eq_true rfl⟩) hK hN hP hD hS hA [0] [1, 2, 3] rfl rfl (by decide) (by decide) (by decide) 0 (ci := 7) rfl rfl rfl rfl hl.1 rfl (Nat.le_of_ble_eq_true rfl) dX7_reasonOf_18 ⟨Nat.le_of_ble_eq_true rfl, Nat.le_of_ble_eq_true rfl⟩ (fun r8 u7 H locs hw hP hD hS => ?_)
    have hr8 : r8 = ((s7_asks mm w6).1) := hw
    obtain ⟨v9, hv9⟩ : ∃ z : Nat → Int32, z = ((s7_asks mm w6).2) := ⟨_, rfl⟩
    have hP : va_P D vwCl [(ja, .inl (cI, 100, .inl n1)), (jb, .inl (cI, 100, .inl n2)), (jc, .inl (cI, 100, .inl n3)), (xm, c7 (.ref ja) (.ref jb) (.ref jc) xm_29 xm_30 xm_31 v9)] H := by rw [hv9]; exact hP
    have hD : va_D A [(ja, .inl (cI, 100, .inl n1)), (jb, .inl (cI, 100, .inl n2)), (jc, .inl (cI, 100, .inl n3)), (xm, c7 (.ref ja) (.ref jb) (.ref jc) xm_29 xm_30 xm_31 v9)] := by rw [hv9]; exact hD
    have J13 : ∀ (w14 : Int32), w14 = (if r8 = 0 then 0 else (n3 (s7_place v9 a1).toNatClampNeg)) → ∀ (H : Heap) (locs : List Loc), va_P D vwCl [(ja, .inl (cI, 100, .inl n1)), (jb, .inl (cI, 100, .inl n2)), (jc, .inl (cI, 100, .inl n3)), (xm, c7 (.ref ja) (.ref jb) (.ref jc) xm_29 xm_30 xm_31 v9)] H → va_D A [(ja, .inl (cI, 100, .inl n1)), (jb, .inl (cI, 100, .inl n2)), (jc, .inl (cI, 100, .inl n3)), (xm, c7 (.ref ja) (.ref jb) (.ref jc) xm_29 xm_30 xm_31 v9)] → va_S A s.heap H locs → W p l e (cw_rm 1) s m args below meth c H locs 0 0 (Q) (F0 m 38 ls [.int w14]) := by
      intro w14 hw14 H locs hP hD hS
      have hsp : (s7_reasonOf mm n1 n2 n3 a1) = ((w14, v9) : Int32 × (Nat → Int32)) := by simp only [s7_reasonOf, ← hw6, ← hv9, ← hr8, ← hw14]
      exact hret _ _ _ _ _ _ _ _ (hP.sub (ws' := [(xm, c7 (.ref ja) (.ref jb) (.ref jc) xm_29 xm_30 xm_31 v9), (ja, .inl (cI, 100, .inl n1)), (jb, .inl (cI, 100, .inl n2)), (jc, .inl (cI, 100, .inl n3))]) [3, 0, 1, 2] rfl) (hD.sub (ws' := [(xm, c7 (.ref ja) (.ref jb) (.ref jc) xm_29 xm_30 xm_31 v9), (ja, .inl (cI, 100, .inl n1)), (jb, .inl (cI, 100, .inl n2)), (jc, .inl (cI, 100, .inl n3))]) [3, 0, 1, 2] (by decide) rfl) hS dX7_reasonOf_38 rfl ⟨(), (by rw [hsp]), (by rw [hsp])⟩ (Nat.le_of_ble_eq_true rfl) (Nat.le_of_ble_eq_true rfl)
    refine lv_if_eq (tgt := 37) hx hb dX7_reasonOf_21 (by decide) (fun z10 => ?_) (fun z10 => ?_)
    · refine lv_iconst (v := 0) hx hb dX7_reasonOf_37 (by decide) ?_
      exact J13 0 (by simp only [if_pos z10]) _ _ hP hD hS
    · refine lv_aload_n hx hb dX7_reasonOf_24 rfl (lv_at hl 0 rfl) ?_
      refine va_get (D := D) (ci := 7) (v := .ref jc) (C := RX7) (T := TX7) (N := 35) hx hb hts i7 hown hK hP 3 rfl rfl 27 (by decide) lf50 (fun _ h9 => h9) rfl dX7_reasonOf_25 ?_
      refine lv_aload_n hx hb dX7_reasonOf_28 rfl (lv_at hl 0 rfl) ?_
      refine lv_iload_n hx hb dX7_reasonOf_29 rfl (lv_at hl 1 rfl) ?_
      refine cw_cVi (As := [.int a1]) (rest := [.ref jc]) (wc := [(xm, c7 (.ref ja) (.ref jb) (.ref jc) xm_29 xm_30 xm_31 v9)]) (wr := [(ja, .inl (cI, 100, .inl n1)), (jb, .inl (cI, 100, .inl n2)), (jc, .inl (cI, 100, .inl n3))]) ⟨hx, hb, hml, hown, hts⟩ (k7_place l D cI cJ xm (.ref ja) (.ref jb) (.ref jc) xm_29 xm_30 xm_31 v9 a1) (cwV 1 hts gX7_reasonOf_X7_place rfl rfl rfl (by decide +kernel) ⟨Nat.le_of_ble_eq_true rfl, Nat.le_of_ble_eq_true rfl⟩) hK hN hP hD hS hA [3] [0, 1, 2] rfl rfl (by decide) (by decide) (by decide) 0 (ci := 7) rfl rfl rfl rfl hl.1 rfl (Nat.le_of_ble_eq_true rfl) dX7_reasonOf_30 ⟨Nat.le_of_ble_eq_true rfl, Nat.le_of_ble_eq_true rfl⟩ (fun r12 u11 H locs hw hP hD hS => ?_)
      have hr12 : r12 = (s7_place v9 a1) := hw
      have hP : va_P D vwCl [(ja, .inl (cI, 100, .inl n1)), (jb, .inl (cI, 100, .inl n2)), (jc, .inl (cI, 100, .inl n3)), (xm, c7 (.ref ja) (.ref jb) (.ref jc) xm_29 xm_30 xm_31 v9)] H := hP
      have hD : va_D A [(ja, .inl (cI, 100, .inl n1)), (jb, .inl (cI, 100, .inl n2)), (jc, .inl (cI, 100, .inl n3)), (xm, c7 (.ref ja) (.ref jb) (.ref jc) xm_29 xm_30 xm_31 v9)] := hD
      refine va_iald hx hb hK hP 2 0 rfl rfl (by subst_vars; exact hix (by assumption)) dX7_reasonOf_33 ?_
      refine lv_goto (tgt := 38) hx hb dX7_reasonOf_34 (by decide) ?_
      exact J13 (n3 r12.toNatClampNeg) (by simp only [← hr12, if_neg z10]) _ _ hP hD hS
  refine lv_if_lt (tgt := 17) hx hb dX7_reasonOf_2 (by decide) (fun z1 => ?_) (fun z1 => ?_)
  · refine lv_iconst (v := 0) hx hb dX7_reasonOf_17 (by decide) ?_
    exact J5 0 (by simp only [if_pos z1]) _ _ hP hD hS
  · refine lv_iload_n hx hb dX7_reasonOf_5 rfl (lv_at hl 1 rfl) ?_
    refine lv_aload_n hx hb dX7_reasonOf_6 rfl (lv_at hl 0 rfl) ?_
    refine cw_cVi (As := []) (rest := [.int a1, .ref xm]) (wc := [(xm, c7 (.ref ja) (.ref jb) (.ref jc) xm_29 xm_30 xm_31 mm)]) (wr := [(ja, .inl (cI, 100, .inl n1)), (jb, .inl (cI, 100, .inl n2)), (jc, .inl (cI, 100, .inl n3))]) ⟨hx, hb, hml, hown, hts⟩ (k7_kept l D cI cJ xm (.ref ja) (.ref jb) (.ref jc) xm_29 xm_30 xm_31 mm) (cwV 0 hts gX7_reasonOf_X7_kept rfl rfl rfl (by decide +kernel) ⟨Nat.le_of_ble_eq_true rfl, Nat.le_of_ble_eq_true rfl⟩) hK hN hP hD hS hA [0] [1, 2, 3] rfl rfl (by decide) (by decide) (by decide) 0 (ci := 7) rfl rfl rfl rfl hl.1 rfl (Nat.le_of_ble_eq_true rfl) dX7_reasonOf_7 ⟨Nat.le_of_ble_eq_true rfl, Nat.le_of_ble_eq_true rfl⟩ (fun r3 u2 H locs hw hP hD hS => ?_)
    have hr3 : r3 = (s7_kept mm) := hw
    have hP : va_P D vwCl [(ja, .inl (cI, 100, .inl n1)), (jb, .inl (cI, 100, .inl n2)), (jc, .inl (cI, 100, .inl n3)), (xm, c7 (.ref ja) (.ref jb) (.ref jc) xm_29 xm_30 xm_31 mm)] H := hP
    have hD : va_D A [(ja, .inl (cI, 100, .inl n1)), (jb, .inl (cI, 100, .inl n2)), (jc, .inl (cI, 100, .inl n3)), (xm, c7 (.ref ja) (.ref jb) (.ref jc) xm_29 xm_30 xm_31 mm)] := hD
    refine lv_icmp_ge (tgt := 17) hx hb dX7_reasonOf_10 (by decide) (fun z4 => ?_) (fun z4 => ?_)
    · refine lv_iconst (v := 0) hx hb dX7_reasonOf_17 (by decide) ?_
      exact J5 0 (by simp only [← hr3, if_neg z1, if_pos z4]) _ _ (hP.sub [3, 0, 1, 2] rfl) (hD.sub [3, 0, 1, 2] (by decide) rfl) hS
    · refine lv_iconst (v := 1) hx hb dX7_reasonOf_13 (by decide) ?_
      refine lv_goto (tgt := 18) hx hb dX7_reasonOf_14 (by decide) ?_
      exact J5 1 (by simp only [← hr3, if_neg z1, if_neg z4]) _ _ (hP.sub [3, 0, 1, 2] rfl) (hD.sub [3, 0, 1, 2] (by decide) rfl) hS
