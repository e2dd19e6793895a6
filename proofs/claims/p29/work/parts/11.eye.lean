
def s1_copyFrom (ea : Nat → Int32) (eb : Nat → Int32) : (Nat → Int32) := (upd (upd ea 0 (eb 0)) 1 (eb 1))

def s1_look (ea : Nat → Int32) (a1 : Int32) (a2 : Int32) : (Nat → Int32) := (if a1 = (ea 0) then (upd ea 1 0) else (let w4 : Nat → Int32 := (if ((ea 1) + 1) < a2 then (upd ea 1 ((ea 1) + 1)) else (upd (upd (upd ea 1 ((ea 1) + 1)) 0 a1) 1 0)); w4))

set_option maxHeartbeats 4000000 in
set_option maxRecDepth 100000 in
theorem k1_init (l : Launch) (D : va_G) (cI cJ : ClassId) (xe : Nat) (ea : Nat → Int32) : cw_Mv l yX1_init wsX1_init (cw_rm 1) D [(cI, .int)] [.ref xe] [(xe, c1 ea)] 0 0 (fun _ : Unit => True) (fun _ : Unit => [(xe, c1 ea)]) := by
  refine cw_ofv (cc := cX1_init) (maxL := 1) (ret := none) (by decide) rfl (Nat.le_of_ble_eq_true rfl) rfl ?_
  intro p e s m args below meth c A ls Q hin0 hret
  obtain ⟨hx, hb, hr, hml, hts, hown, hlocks, hin, hP, hK, hD, hN, hA, hl⟩ := hin0
  have hS : va_S A s.heap s.heap [] := va_S.rf
  have hl : lv_has ls 1 [(0, .ref xe)] := hl
  have lo1 := hts (.methodLink RX1 1 objectInit) (by decide +kernel)
  have loi := hts (.instanceMethod objectInit) (by decide +kernel)
  have loc9 := hts (.code objectInit ⟨#[0xb1]⟩ 1 none) (by decide +kernel)
  refine lv_aload_n hx hb dX1_init_0 rfl (lv_at hl 0 rfl) ?_
  refine W.objInit hx hb hown lo1 loi loc9 rfl (by rw [hml]; exact hl.1) rfl dX1_init_1 (Nat.le_of_ble_eq_true rfl) (Nat.le_of_ble_eq_true rfl) ?_
  refine W.eq (g2 := F0 m 4 ls []) rfl ?_
  exact hret _ _ _ _ _ _ _ hP hD hS dX1_init_4 ⟨(), trivial, rfl⟩ (Nat.le_of_ble_eq_true rfl) (Nat.le_of_ble_eq_true rfl)

set_option maxHeartbeats 4000000 in
set_option maxRecDepth 100000 in
theorem k1_copyFrom (l : Launch) (D : va_G) (cI cJ : ClassId) (xe ye : Nat) (ea : Nat → Int32) (eb : Nat → Int32) (ho : eb 0 = 0 ∨ eb 0 = 1) : cw_Mv l yX1_copyFrom wsX1_copyFrom (cw_rm 0) D [(cI, .int)] [.ref xe, .ref ye] [(xe, c1 ea), (ye, c1 eb)] 0 0 (fun _ : Unit => True) (fun _ : Unit => [(xe, c1 (s1_copyFrom ea eb)), (ye, c1 eb)]) := by
  refine cw_ofv (cc := cX1_copyFrom) (maxL := 2) (ret := none) (by decide) rfl (Nat.le_of_ble_eq_true rfl) rfl ?_
  intro p e s m args below meth c A ls Q hin0 hret
  obtain ⟨hx, hb, hr, hml, hts, hown, hlocks, hin, hP, hK, hD, hN, hA, hl⟩ := hin0
  have hS : va_S A s.heap s.heap [] := va_S.rf
  have hl : lv_has ls 2 [(0, .ref xe), (1, .ref ye)] := hl
  have lf7 := hts (.fieldLink RX1 7 "Burnerline$Eye" "seesFlame" "Z") (by decide +kernel)
  have i1 : ∀ w ∈ wsX10, w ∈ wsX1_copyFrom := by decide +kernel
  have lf13 := hts (.fieldLink RX1 13 "Burnerline$Eye" "row" "I") (by decide +kernel)
  refine lv_aload_n hx hb dX1_copyFrom_0 rfl (lv_at hl 0 rfl) ?_
  refine lv_aload_n hx hb dX1_copyFrom_1 rfl (lv_at hl 1 rfl) ?_
  refine va_get (D := D) (ci := 1) (v := .int (eb 0)) (C := RX1) (T := TX1) (N := 2) hx hb hts i1 hown hK hP 1 rfl rfl 0 (by decide) lf7 (fun _ h9 => h9) rfl dX1_copyFrom_2 ?_
  refine va_put (D := D) (ci := 1) (v := .int (eb 0)) (ty := .boolean) (C := RX1) (T := TX1) (N := 2) hx hb hts i1 tyX1 tyX1_ok nmX1 hown hK hP hD hS 0 rfl rfl 0 (by decide) lf7 (fun _ h9 => h9) rfl (by decide +kernel) (cw_b01 (by (repeat' split) <;> first | exact Or.inl rfl | exact Or.inr rfl | assumption)) (cw_f01 (by (repeat' split) <;> first | exact Or.inl rfl | exact Or.inr rfl | assumption)) (Nat.le_of_ble_eq_true rfl) dX1_copyFrom_5 (fun H locs hP hD hS => ?_)
  have hP : va_P D vwCl [(xe, c1 (upd ea 0 (eb 0))), (ye, c1 eb)] H := (congrArg (fun z9 => va_P D vwCl [(xe, .inr (1, z9)), (ye, c1 eb)] H) (cs1_0 ea (eb 0))).mp hP
  have hD : va_D A [(xe, c1 (upd ea 0 (eb 0))), (ye, c1 eb)] := (congrArg (fun z9 => va_D A [(xe, .inr (1, z9)), (ye, c1 eb)]) (cs1_0 ea (eb 0))).mp hD
  refine lv_aload_n hx hb dX1_copyFrom_8 rfl (lv_at hl 0 rfl) ?_
  refine lv_aload_n hx hb dX1_copyFrom_9 rfl (lv_at hl 1 rfl) ?_
  refine va_get (D := D) (ci := 1) (v := .int (eb 1)) (C := RX1) (T := TX1) (N := 2) hx hb hts i1 hown hK hP 1 rfl rfl 1 (by decide) lf13 (fun _ h9 => h9) rfl dX1_copyFrom_10 ?_
  refine va_put (D := D) (ci := 1) (v := .int (eb 1)) (ty := .int) (C := RX1) (T := TX1) (N := 2) hx hb hts i1 tyX1 tyX1_ok nmX1 hown hK hP hD hS 0 rfl rfl 1 (by decide) lf13 (fun _ h9 => h9) rfl (by decide +kernel) rfl rfl (Nat.le_of_ble_eq_true rfl) dX1_copyFrom_13 (fun H locs hP hD hS => ?_)
  have hP : va_P D vwCl [(xe, c1 (upd (upd ea 0 (eb 0)) 1 (eb 1))), (ye, c1 eb)] H := (congrArg (fun z9 => va_P D vwCl [(xe, .inr (1, z9)), (ye, c1 eb)] H) (cs1_1 (upd ea 0 (eb 0)) (eb 1))).mp hP
  have hD : va_D A [(xe, c1 (upd (upd ea 0 (eb 0)) 1 (eb 1))), (ye, c1 eb)] := (congrArg (fun z9 => va_D A [(xe, .inr (1, z9)), (ye, c1 eb)]) (cs1_1 (upd ea 0 (eb 0)) (eb 1))).mp hD
  have hsp : (s1_copyFrom ea eb) = ((upd (upd ea 0 (eb 0)) 1 (eb 1)) : (Nat → Int32)) := rfl
  exact hret _ _ _ _ _ _ _ hP hD hS dX1_copyFrom_16 ⟨(), trivial, (by rw [hsp])⟩ (Nat.le_of_ble_eq_true rfl) (Nat.le_of_ble_eq_true rfl)

set_option maxHeartbeats 4000000 in
set_option maxRecDepth 100000 in
theorem k1_look (l : Launch) (D : va_G) (cI cJ : ClassId) (xe : Nat) (ea : Nat → Int32) (a1 : Int32) (a2 : Int32) (ha : a1 = 0 ∨ a1 = 1) : cw_Mv l yX1_look wsX1_look (cw_rm 0) D [(cI, .int)] [.ref xe, .int a1, .int a2] [(xe, c1 ea)] 0 0 (fun _ : Unit => True) (fun _ : Unit => [(xe, c1 (s1_look ea a1 a2))]) := by
  refine cw_ofv (cc := cX1_look) (maxL := 3) (ret := none) (by decide) rfl (Nat.le_of_ble_eq_true rfl) rfl ?_
  intro p e s m args below meth c A ls Q hin0 hret
  obtain ⟨hx, hb, hr, hml, hts, hown, hlocks, hin, hP, hK, hD, hN, hA, hl⟩ := hin0
  have hS : va_S A s.heap s.heap [] := va_S.rf
  have hl : lv_has ls 3 [(0, .ref xe), (1, .int a1), (2, .int a2)] := hl
  have lf7 := hts (.fieldLink RX1 7 "Burnerline$Eye" "seesFlame" "Z") (by decide +kernel)
  have i1 : ∀ w ∈ wsX10, w ∈ wsX1_look := by decide +kernel
  have lf13 := hts (.fieldLink RX1 13 "Burnerline$Eye" "row" "I") (by decide +kernel)
  refine lv_iload_n hx hb dX1_look_0 rfl (lv_at hl 1 rfl) ?_
  refine lv_aload_n hx hb dX1_look_1 rfl (lv_at hl 0 rfl) ?_
  refine va_get (D := D) (ci := 1) (v := .int (ea 0)) (C := RX1) (T := TX1) (N := 2) hx hb hts i1 hown hK hP 0 rfl rfl 0 (by decide) lf7 (fun _ h9 => h9) rfl dX1_look_2 ?_
  refine lv_icmp_ne (tgt := 14) hx hb dX1_look_5 (by decide) (fun z1 => ?_) (fun z1 => ?_)
  · refine lv_aload_n hx hb dX1_look_14 rfl (lv_at hl 0 rfl) ?_
    refine lv_dup hx hb dX1_look_15 rfl ?_
    refine va_get (D := D) (ci := 1) (v := .int (ea 1)) (C := RX1) (T := TX1) (N := 2) hx hb hts i1 hown hK hP 0 rfl rfl 1 (by decide) lf13 (fun _ h9 => h9) rfl dX1_look_16 ?_
    refine lv_iconst (v := 1) hx hb dX1_look_19 (by decide) ?_
    refine lv_iadd hx hb dX1_look_20 ?_
    refine va_put (D := D) (ci := 1) (v := .int ((ea 1) + 1)) (ty := .int) (C := RX1) (T := TX1) (N := 2) hx hb hts i1 tyX1 tyX1_ok nmX1 hown hK hP hD hS 0 rfl rfl 1 (by decide) lf13 (fun _ h9 => h9) rfl (by decide +kernel) rfl rfl (Nat.le_of_ble_eq_true rfl) dX1_look_21 (fun H locs hP hD hS => ?_)
    have hP : va_P D vwCl [(xe, c1 (upd ea 1 ((ea 1) + 1)))] H := (congrArg (fun z9 => va_P D vwCl [(xe, .inr (1, z9))] H) (cs1_1 ea ((ea 1) + 1))).mp hP
    have hD : va_D A [(xe, c1 (upd ea 1 ((ea 1) + 1)))] := (congrArg (fun z9 => va_D A [(xe, .inr (1, z9))]) (cs1_1 ea ((ea 1) + 1))).mp hD
    refine lv_aload_n hx hb dX1_look_24 rfl (lv_at hl 0 rfl) ?_
    refine va_get (D := D) (ci := 1) (v := .int ((upd ea 1 ((ea 1) + 1)) 1)) (C := RX1) (T := TX1) (N := 2) hx hb hts i1 hown hK hP 0 rfl rfl 1 (by decide) lf13 (fun _ h9 => h9) rfl dX1_look_25 ?_
    refine cw_topi (y := ((ea 1) + 1)) (cw_upd0 _ _ _) ?_
    refine lv_iload_n hx hb dX1_look_28 rfl (lv_at hl 2 rfl) ?_
    have J3 : ∀ (w4 : Nat → Int32), w4 = (if ((ea 1) + 1) < a2 then (upd ea 1 ((ea 1) + 1)) else (upd (upd (upd ea 1 ((ea 1) + 1)) 0 a1) 1 0)) → ∀ (H : Heap) (locs : List Loc), va_P D vwCl [(xe, c1 w4)] H → va_D A [(xe, c1 w4)] → va_S A s.heap H locs → W p l e (cw_rm 0) s m args below meth c H locs 0 0 (Q) (F0 m 42 ls []) := by
      intro w4 hw4 H locs hP hD hS
      have hsp : (s1_look ea a1 a2) = (w4 : (Nat → Int32)) := by simp only [s1_look, ← hw4, if_neg z1]
      exact hret _ _ _ _ _ _ _ hP hD hS dX1_look_42 ⟨(), trivial, (by rw [hsp])⟩ (Nat.le_of_ble_eq_true rfl) (Nat.le_of_ble_eq_true rfl)
    refine lv_icmp_lt (tgt := 42) hx hb dX1_look_29 (by decide) (fun z2 => ?_) (fun z2 => ?_)
    · exact J3 (upd ea 1 ((ea 1) + 1)) (by simp only [if_pos z2]) _ _ hP hD hS
    · refine lv_aload_n hx hb dX1_look_32 rfl (lv_at hl 0 rfl) ?_
      refine lv_iload_n hx hb dX1_look_33 rfl (lv_at hl 1 rfl) ?_
      refine va_put (D := D) (ci := 1) (v := .int a1) (ty := .boolean) (C := RX1) (T := TX1) (N := 2) hx hb hts i1 tyX1 tyX1_ok nmX1 hown hK hP hD hS 0 rfl rfl 0 (by decide) lf7 (fun _ h9 => h9) rfl (by decide +kernel) (cw_b01 (by (repeat' split) <;> first | exact Or.inl rfl | exact Or.inr rfl | assumption)) (cw_f01 (by (repeat' split) <;> first | exact Or.inl rfl | exact Or.inr rfl | assumption)) (Nat.le_of_ble_eq_true rfl) dX1_look_34 (fun H locs hP hD hS => ?_)
      have hP : va_P D vwCl [(xe, c1 (upd (upd ea 1 ((ea 1) + 1)) 0 a1))] H := (congrArg (fun z9 => va_P D vwCl [(xe, .inr (1, z9))] H) (cs1_0 (upd ea 1 ((ea 1) + 1)) a1)).mp hP
      have hD : va_D A [(xe, c1 (upd (upd ea 1 ((ea 1) + 1)) 0 a1))] := (congrArg (fun z9 => va_D A [(xe, .inr (1, z9))]) (cs1_0 (upd ea 1 ((ea 1) + 1)) a1)).mp hD
      refine lv_aload_n hx hb dX1_look_37 rfl (lv_at hl 0 rfl) ?_
      refine lv_iconst (v := 0) hx hb dX1_look_38 (by decide) ?_
      refine va_put (D := D) (ci := 1) (v := .int 0) (ty := .int) (C := RX1) (T := TX1) (N := 2) hx hb hts i1 tyX1 tyX1_ok nmX1 hown hK hP hD hS 0 rfl rfl 1 (by decide) lf13 (fun _ h9 => h9) rfl (by decide +kernel) rfl rfl (Nat.le_of_ble_eq_true rfl) dX1_look_39 (fun H locs hP hD hS => ?_)
      have hP : va_P D vwCl [(xe, c1 (upd (upd (upd ea 1 ((ea 1) + 1)) 0 a1) 1 0))] H := (congrArg (fun z9 => va_P D vwCl [(xe, .inr (1, z9))] H) (cs1_1 (upd (upd ea 1 ((ea 1) + 1)) 0 a1) 0)).mp hP
      have hD : va_D A [(xe, c1 (upd (upd (upd ea 1 ((ea 1) + 1)) 0 a1) 1 0))] := (congrArg (fun z9 => va_D A [(xe, .inr (1, z9))]) (cs1_1 (upd (upd ea 1 ((ea 1) + 1)) 0 a1) 0)).mp hD
      exact J3 (upd (upd (upd ea 1 ((ea 1) + 1)) 0 a1) 1 0) (by simp only [if_neg z2]) _ _ hP hD hS
  · refine lv_aload_n hx hb dX1_look_8 rfl (lv_at hl 0 rfl) ?_
    refine lv_iconst (v := 0) hx hb dX1_look_9 (by decide) ?_
    refine va_put (D := D) (ci := 1) (v := .int 0) (ty := .int) (C := RX1) (T := TX1) (N := 2) hx hb hts i1 tyX1 tyX1_ok nmX1 hown hK hP hD hS 0 rfl rfl 1 (by decide) lf13 (fun _ h9 => h9) rfl (by decide +kernel) rfl rfl (Nat.le_of_ble_eq_true rfl) dX1_look_10 (fun H locs hP hD hS => ?_)
    have hP : va_P D vwCl [(xe, c1 (upd ea 1 0))] H := (congrArg (fun z9 => va_P D vwCl [(xe, .inr (1, z9))] H) (cs1_1 ea 0)).mp hP
    have hD : va_D A [(xe, c1 (upd ea 1 0))] := (congrArg (fun z9 => va_D A [(xe, .inr (1, z9))]) (cs1_1 ea 0)).mp hD
    have hsp : (s1_look ea a1 a2) = ((upd ea 1 0) : (Nat → Int32)) := by simp only [s1_look, if_pos z1]
    exact hret _ _ _ _ _ _ _ hP hD hS dX1_look_13 ⟨(), trivial, (by rw [hsp])⟩ (Nat.le_of_ble_eq_true rfl) (Nat.le_of_ble_eq_true rfl)
