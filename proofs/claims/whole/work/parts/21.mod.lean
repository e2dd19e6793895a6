def s7_purges (mm : Nat → Int32) (a1 : Int32) (a2 : Int32) : (Nat → Int32) := (let w24 : Nat → Int32 := (if a2 = 0 then (s7_begins mm 0 0) else (if (mm 18) ≤ 0 then (if (if (s7_has a1 1) = 0 then 0 else (if (mm 15) < 70 then 0 else ((mm 17) + (mm 15)))) < (4 * (mm 9)) then (if (mm 14) < (mm 2) then (upd mm 17 (if (s7_has a1 1) = 0 then 0 else (if (mm 15) < 70 then 0 else ((mm 17) + (mm 15))))) else (s7_begins (upd mm 17 (if (s7_has a1 1) = 0 then 0 else (if (mm 15) < 70 then 0 else ((mm 17) + (mm 15))))) 6 7)) else (s7_begins (upd mm 17 (if (s7_has a1 1) = 0 then 0 else (if (mm 15) < 70 then 0 else ((mm 17) + (mm 15))))) 2 0)) else (s7_begins mm 6 3))); w24)

def s7_lights (mm : Nat → Int32) (a1 : Int32) (a2 : Int32) : (Nat → Int32) := (let v3 : Nat → Int32 := ((s7_lacks mm a1).2); (let r2 : Int32 := ((s7_lacks mm a1).1); (if r2 = 0 then (let w7 : Int32 := (if (v3 12) = 2 then 1 else 0); (let w35 : Nat → Int32 := (if a2 = 0 then (s7_begins v3 5 0) else (if (s7_has (v3 18) (if w7 = 0 then 1 else 0)) = 0 then (if (v3 14) < (if w7 = 0 then (v3 4) else (v3 3)) then v3 else (s7_begins v3 6 (if w7 = 0 then 5 else 4))) else (s7_begins v3 (if w7 = 0 then 4 else 3) 0))); w35)) else v3)))

theorem f7_begins8 (m : Nat → Int32) (a b : Int32) : s7_begins m a b 8 = m 8 := by simp [s7_begins, upd]
theorem f7_lacks8 (m : Nat → Int32) (a : Int32) : (s7_lacks m a).2 8 = m 8 := by
  simp only [s7_lacks]
  (repeat' split) <;> simp [f7_begins8]
theorem f7_looks8 (m : Nat → Int32) (a b c : Int32) : (s7_looks m a b c).2 8 = m 8 := by
  simp only [s7_looks]
  (repeat' split) <;> simp [upd]
theorem f7_goes8 (m : Nat → Int32) : s7_goes m 8 = m 8 := by simp [s7_goes, upd]

def s7_runs (mm : Nat → Int32) (a1 : Int32) (a2 : Int32) : (Nat → Int32) := (let v3 : Nat → Int32 := ((s7_lacks mm a1).2); (let r2 : Int32 := ((s7_lacks mm a1).1); (if r2 = 0 then (let r6 : Int32 := (s7_has (v3 18) 1); (let w27 : Nat → Int32 := (if r6 = 0 then (s7_begins v3 6 6) else (if ((v3 14) - (v3 14) / (v3 8) * (v3 8)) = 0 then (if (s7_has a1 5) = 0 then (s7_begins v3 6 8) else (if a2 = 0 then (s7_begins v3 5 0) else v3)) else (if a2 = 0 then (s7_begins v3 5 0) else v3))); w27)) else v3)))

def s7_decides (mm : Nat → Int32) (a1 : Int32) : (Nat → Int32) := (let r2 : Int32 := (s7_has a1 0); (let w40 : Nat → Int32 := (if (mm 12) = 0 then (if (mm 18) ≤ 0 then (if r2 = 0 then mm else (s7_begins mm 1 0)) else (s7_begins mm 6 3)) else (if (mm 12) = 1 then (s7_purges mm a1 r2) else (if (mm 12) = 2 then (s7_lights mm a1 r2) else (if (mm 12) = 3 then (s7_lights mm a1 r2) else (if (mm 12) = 4 then (s7_runs mm a1 r2) else (if (mm 12) = 5 then (if (mm 14) < (mm 5) then mm else (s7_begins mm (if (mm 18) ≤ 0 then 0 else 6) (if (mm 18) ≤ 0 then 0 else 3))) else mm)))))); w40))

def s7_plays (mm : Nat → Int32) (a1 : Int32) : (Nat → Int32) := (let v3 : Nat → Int32 := ((s7_looks mm a1 0 (mm 19)).2); (let r2 : Int32 := ((s7_looks mm a1 0 (mm 19)).1); (let v6 : Nat → Int32 := ((s7_looks (upd v3 19 r2) a1 1 (v3 20)).2); (let r5 : Int32 := ((s7_looks (upd v3 19 r2) a1 1 (v3 20)).1); (let v9 : Nat → Int32 := (s7_goes (upd v6 20 r5)); (let v12 : Nat → Int32 := (s7_decides (upd v9 14 ((v9 14) + 1)) a1); v12))))))

set_option maxHeartbeats 4000000 in
set_option maxRecDepth 100000 in
theorem k7_purges (l : Launch) (D : va_G) (cI cJ : ClassId) (xm : Nat) (xm_25 xm_26 xm_27 xm_29 xm_30 xm_31 : Value) (mm : Nat → Int32) (a1 : Int32) (a2 : Int32) : cw_Mv l yX7_purges wsX7_purges (cw_rm 1) D [(cI, .int), (cJ, .long)] [.ref xm, .int a1, .int a2] [(xm, c7 xm_25 xm_26 xm_27 xm_29 xm_30 xm_31 mm)] 0 0 (fun _ : Unit => True) (fun _ : Unit => [(xm, c7 xm_25 xm_26 xm_27 xm_29 xm_30 xm_31 (s7_purges mm a1 a2))]) := by
  refine cw_ofv (cc := cX7_purges) (maxL := 3) (ret := none) (by decide) rfl (Nat.le_of_ble_eq_true rfl) rfl ?_
  intro p e s m args below meth c A ls Q hin0 hret
  obtain ⟨hx, hb, hr, hml, hts, hown, hlocks, hin, hP, hK, hD, hN, hA, hl⟩ := hin0
  have hS : va_S A s.heap s.heap [] := va_S.rf
  have hl : lv_has ls 3 [(0, .ref xm), (1, .int a1), (2, .int a2)] := hl
  have lf87 := hts (.fieldLink RX7 87 "BurnerlineModel" "seen" "I") (by decide +kernel)
  have i7 : ∀ w ∈ wsX70, w ∈ wsX7_purges := by decide +kernel
  have lf93 := hts (.fieldLink RX7 93 "BurnerlineModel" "air" "I") (by decide +kernel)
  have lf106 := hts (.fieldLink RX7 106 "BurnerlineModel" "purged" "I") (by decide +kernel)
  have lf34 := hts (.fieldLink RX7 34 "BurnerlineModel" "volume" "I") (by decide +kernel)
  have lf103 := hts (.fieldLink RX7 103 "BurnerlineModel" "time" "I") (by decide +kernel)
  have lf13 := hts (.fieldLink RX7 13 "BurnerlineModel" "longPurge" "I") (by decide +kernel)
  refine lv_iload_n hx hb dX7_purges_0 rfl (lv_at hl 2 rfl) ?_
  have J23 : ∀ (w24 : Nat → Int32), w24 = (if a2 = 0 then (s7_begins mm 0 0) else (if (mm 18) ≤ 0 then (if (if (s7_has a1 1) = 0 then 0 else (if (mm 15) < 70 then 0 else ((mm 17) + (mm 15)))) < (4 * (mm 9)) then (if (mm 14) < (mm 2) then (upd mm 17 (if (s7_has a1 1) = 0 then 0 else (if (mm 15) < 70 then 0 else ((mm 17) + (mm 15))))) else (s7_begins (upd mm 17 (if (s7_has a1 1) = 0 then 0 else (if (mm 15) < 70 then 0 else ((mm 17) + (mm 15))))) 6 7)) else (s7_begins (upd mm 17 (if (s7_has a1 1) = 0 then 0 else (if (mm 15) < 70 then 0 else ((mm 17) + (mm 15))))) 2 0)) else (s7_begins mm 6 3))) → ∀ (H : Heap) (locs : List Loc), va_P D vwCl [(xm, c7 xm_25 xm_26 xm_27 xm_29 xm_30 xm_31 w24)] H → va_D A [(xm, c7 xm_25 xm_26 xm_27 xm_29 xm_30 xm_31 w24)] → va_S A s.heap H locs → W p l e (cw_rm 1) s m args below meth c H locs 0 0 (Q) (F0 m 105 ls []) := by
    intro w24 hw24 H locs hP hD hS
    have hsp : (s7_purges mm a1 a2) = (w24 : (Nat → Int32)) := by simp only [s7_purges, ← hw24]
    exact hret _ _ _ _ _ _ _ hP hD hS dX7_purges_105 ⟨(), trivial, (by rw [hsp])⟩ (Nat.le_of_ble_eq_true rfl) (Nat.le_of_ble_eq_true rfl)
  refine lv_if_ne (tgt := 13) hx hb dX7_purges_1 (by decide) (fun z1 => ?_) (fun z1 => ?_)
  · refine lv_aload_n hx hb dX7_purges_13 rfl (lv_at hl 0 rfl) ?_
    refine va_get (D := D) (ci := 7) (v := .int (mm 18)) (C := RX7) (T := TX7) (N := 35) hx hb hts i7 hown hK hP 0 rfl rfl 18 (by decide) lf87 (fun _ h9 => h9) rfl dX7_purges_14 ?_
    refine lv_if_le (tgt := 30) hx hb dX7_purges_17 (by decide) (fun z2 => ?_) (fun z2 => ?_)
    · refine lv_aload_n hx hb dX7_purges_30 rfl (lv_at hl 0 rfl) ?_
      refine lv_iload_n hx hb dX7_purges_31 rfl (lv_at hl 1 rfl) ?_
      refine lv_iconst (v := 1) hx hb dX7_purges_32 (by decide) ?_
      refine cw_cSi (As := [.int a1, .int 1]) (rest := [.ref xm]) (wc := []) (wr := [(xm, c7 xm_25 xm_26 xm_27 xm_29 xm_30 xm_31 mm)]) ⟨hx, hb, hml, hown, hts⟩ (k7_has l D cI cJ a1 1) (va_cwS 2 hts gX7_purges_X7_has rfl rfl rfl (by decide +kernel) ⟨Nat.le_of_ble_eq_true rfl, Nat.le_of_ble_eq_true rfl⟩) hK hN hP hD hS hA [] [0] rfl rfl (by decide) (by decide) (by decide) rfl hl.1 rfl (Nat.le_of_ble_eq_true rfl) dX7_purges_33 ⟨Nat.le_of_ble_eq_true rfl, Nat.le_of_ble_eq_true rfl⟩ (fun r4 u3 H locs hw hP hD hS => ?_)
      have hr4 : r4 = (s7_has a1 1) := hw
      have hP : va_P D vwCl [(xm, c7 xm_25 xm_26 xm_27 xm_29 xm_30 xm_31 mm)] H := hP
      have hD : va_D A [(xm, c7 xm_25 xm_26 xm_27 xm_29 xm_30 xm_31 mm)] := hD
      have J7 : ∀ (w8 : Int32), w8 = (if r4 = 0 then 0 else (if (mm 15) < 70 then 0 else ((mm 17) + (mm 15)))) → W p l e (cw_rm 1) s m args below meth c H locs 0 0 (Q) (F0 m 61 ls [.int w8, .ref xm]) := by
        intro w8 hw8
        refine va_put (D := D) (ci := 7) (v := .int w8) (ty := .int) (C := RX7) (T := TX7) (N := 35) hx hb hts i7 tyX7 tyX7_ok nmX7 hown hK hP hD hS 0 rfl rfl 17 (by decide) lf106 (fun _ h9 => h9) rfl (by decide +kernel) rfl rfl (Nat.le_of_ble_eq_true rfl) dX7_purges_61 (fun H locs hP hD hS => ?_)
        have hP : va_P D vwCl [(xm, c7 xm_25 xm_26 xm_27 xm_29 xm_30 xm_31 (upd mm 17 w8))] H := (congrArg (fun z9 => va_P D vwCl [(xm, .inr (7, z9))] H) (cs7_17 xm_25 xm_26 xm_27 xm_29 xm_30 xm_31 mm w8)).mp hP
        have hD : va_D A [(xm, c7 xm_25 xm_26 xm_27 xm_29 xm_30 xm_31 (upd mm 17 w8))] := (congrArg (fun z9 => va_D A [(xm, .inr (7, z9))]) (cs7_17 xm_25 xm_26 xm_27 xm_29 xm_30 xm_31 mm w8)).mp hD
        refine lv_aload_n hx hb dX7_purges_64 rfl (lv_at hl 0 rfl) ?_
        refine va_get (D := D) (ci := 7) (v := .int ((upd mm 17 w8) 17)) (C := RX7) (T := TX7) (N := 35) hx hb hts i7 hown hK hP 0 rfl rfl 17 (by decide) lf106 (fun _ h9 => h9) rfl dX7_purges_65 ?_
        refine cw_topi (y := w8) (cw_upd0 _ _ _) ?_
        refine lv_iconst (v := 4) hx hb dX7_purges_68 (by decide) ?_
        refine lv_aload_n hx hb dX7_purges_69 rfl (lv_at hl 0 rfl) ?_
        refine va_get (D := D) (ci := 7) (v := .int ((upd mm 17 w8) 9)) (C := RX7) (T := TX7) (N := 35) hx hb hts i7 hown hK hP 0 rfl rfl 9 (by decide) lf34 (fun _ h9 => h9) rfl dX7_purges_70 ?_
        refine cw_topi (y := (mm 9)) (cw_updn _ _ (by decide)) ?_
        refine lv_imul hx hb dX7_purges_73 ?_
        refine lv_icmp_lt (tgt := 86) hx hb dX7_purges_74 (by decide) (fun z9 => ?_) (fun z9 => ?_)
        · refine lv_aload_n hx hb dX7_purges_86 rfl (lv_at hl 0 rfl) ?_
          refine va_get (D := D) (ci := 7) (v := .int ((upd mm 17 w8) 14)) (C := RX7) (T := TX7) (N := 35) hx hb hts i7 hown hK hP 0 rfl rfl 14 (by decide) lf103 (fun _ h9 => h9) rfl dX7_purges_87 ?_
          refine cw_topi (y := (mm 14)) (cw_updn _ _ (by decide)) ?_
          refine lv_aload_n hx hb dX7_purges_90 rfl (lv_at hl 0 rfl) ?_
          refine va_get (D := D) (ci := 7) (v := .int ((upd mm 17 w8) 2)) (C := RX7) (T := TX7) (N := 35) hx hb hts i7 hown hK hP 0 rfl rfl 2 (by decide) lf13 (fun _ h9 => h9) rfl dX7_purges_91 ?_
          refine cw_topi (y := (mm 2)) (cw_updn _ _ (by decide)) ?_
          refine lv_icmp_lt (tgt := 105) hx hb dX7_purges_94 (by decide) (fun z10 => ?_) (fun z10 => ?_)
          · exact J23 (upd mm 17 w8) (by simp only [← hr4, ← hw8, if_neg z1, if_pos z2, if_pos z9, if_pos z10]) _ _ hP hD hS
          · refine lv_aload_n hx hb dX7_purges_97 rfl (lv_at hl 0 rfl) ?_
            refine lv_bipush (v := 6) hx hb dX7_purges_98 (by decide) ?_
            refine lv_bipush (v := 7) hx hb dX7_purges_100 (by decide) ?_
            refine cw_cVv (As := [.int 6, .int 7]) (rest := []) (wc := [(xm, c7 xm_25 xm_26 xm_27 xm_29 xm_30 xm_31 (upd mm 17 w8))]) (wr := []) ⟨hx, hb, hml, hown, hts⟩ (k7_begins l D cI cJ xm xm_25 xm_26 xm_27 xm_29 xm_30 xm_31 (upd mm 17 w8) 6 7) (cwV 2 hts gX7_purges_X7_begins rfl rfl rfl (by decide +kernel) ⟨Nat.le_of_ble_eq_true rfl, Nat.le_of_ble_eq_true rfl⟩) hK hN hP hD hS hA [0] [] rfl rfl (by decide) (by decide) (by decide) 0 (ci := 7) rfl rfl rfl rfl hl.1 rfl (Nat.le_of_ble_eq_true rfl) dX7_purges_102 ⟨Nat.le_of_ble_eq_true rfl, Nat.le_of_ble_eq_true rfl⟩ (fun u11 H locs hw hP hD hS => ?_)
            obtain ⟨v13, hv13⟩ : ∃ z : Nat → Int32, z = (s7_begins (upd mm 17 w8) 6 7) := ⟨_, rfl⟩
            have hP : va_P D vwCl [(xm, c7 xm_25 xm_26 xm_27 xm_29 xm_30 xm_31 v13)] H := by rw [hv13]; exact hP
            have hD : va_D A [(xm, c7 xm_25 xm_26 xm_27 xm_29 xm_30 xm_31 v13)] := by rw [hv13]; exact hD
            exact J23 v13 (by simp only [← hr4, ← hw8, ← hv13, if_neg z1, if_pos z2, if_pos z9, if_neg z10]) _ _ hP hD hS
        · refine lv_aload_n hx hb dX7_purges_77 rfl (lv_at hl 0 rfl) ?_
          refine lv_iconst (v := 2) hx hb dX7_purges_78 (by decide) ?_
          refine lv_iconst (v := 0) hx hb dX7_purges_79 (by decide) ?_
          refine cw_cVv (As := [.int 2, .int 0]) (rest := []) (wc := [(xm, c7 xm_25 xm_26 xm_27 xm_29 xm_30 xm_31 (upd mm 17 w8))]) (wr := []) ⟨hx, hb, hml, hown, hts⟩ (k7_begins l D cI cJ xm xm_25 xm_26 xm_27 xm_29 xm_30 xm_31 (upd mm 17 w8) 2 0) (cwV 2 hts gX7_purges_X7_begins rfl rfl rfl (by decide +kernel) ⟨Nat.le_of_ble_eq_true rfl, Nat.le_of_ble_eq_true rfl⟩) hK hN hP hD hS hA [0] [] rfl rfl (by decide) (by decide) (by decide) 0 (ci := 7) rfl rfl rfl rfl hl.1 rfl (Nat.le_of_ble_eq_true rfl) dX7_purges_80 ⟨Nat.le_of_ble_eq_true rfl, Nat.le_of_ble_eq_true rfl⟩ (fun u14 H locs hw hP hD hS => ?_)
          obtain ⟨v16, hv16⟩ : ∃ z : Nat → Int32, z = (s7_begins (upd mm 17 w8) 2 0) := ⟨_, rfl⟩
          have hP : va_P D vwCl [(xm, c7 xm_25 xm_26 xm_27 xm_29 xm_30 xm_31 v16)] H := by rw [hv16]; exact hP
          have hD : va_D A [(xm, c7 xm_25 xm_26 xm_27 xm_29 xm_30 xm_31 v16)] := by rw [hv16]; exact hD
          refine lv_goto (tgt := 105) hx hb dX7_purges_83 (by decide) ?_
          exact J23 v16 (by simp only [← hr4, ← hw8, ← hv16, if_neg z1, if_pos z2, if_neg z9]) _ _ hP hD hS
      refine lv_if_eq (tgt := 60) hx hb dX7_purges_36 (by decide) (fun z5 => ?_) (fun z5 => ?_)
      · refine lv_iconst (v := 0) hx hb dX7_purges_60 (by decide) ?_
        exact J7 0 (by simp only [if_pos z5])
      · refine lv_aload_n hx hb dX7_purges_39 rfl (lv_at hl 0 rfl) ?_
        refine va_get (D := D) (ci := 7) (v := .int (mm 15)) (C := RX7) (T := TX7) (N := 35) hx hb hts i7 hown hK hP 0 rfl rfl 15 (by decide) lf93 (fun _ h9 => h9) rfl dX7_purges_40 ?_
        refine lv_bipush (v := 70) hx hb dX7_purges_43 (by decide) ?_
        refine lv_icmp_lt (tgt := 60) hx hb dX7_purges_45 (by decide) (fun z6 => ?_) (fun z6 => ?_)
        · refine lv_iconst (v := 0) hx hb dX7_purges_60 (by decide) ?_
          exact J7 0 (by simp only [if_neg z5, if_pos z6])
        · refine lv_aload_n hx hb dX7_purges_48 rfl (lv_at hl 0 rfl) ?_
          refine va_get (D := D) (ci := 7) (v := .int (mm 17)) (C := RX7) (T := TX7) (N := 35) hx hb hts i7 hown hK hP 0 rfl rfl 17 (by decide) lf106 (fun _ h9 => h9) rfl dX7_purges_49 ?_
          refine lv_aload_n hx hb dX7_purges_52 rfl (lv_at hl 0 rfl) ?_
          refine va_get (D := D) (ci := 7) (v := .int (mm 15)) (C := RX7) (T := TX7) (N := 35) hx hb hts i7 hown hK hP 0 rfl rfl 15 (by decide) lf93 (fun _ h9 => h9) rfl dX7_purges_53 ?_
          refine lv_iadd hx hb dX7_purges_56 ?_
          refine lv_goto (tgt := 61) hx hb dX7_purges_57 (by decide) ?_
          exact J7 ((mm 17) + (mm 15)) (by simp only [if_neg z5, if_neg z6])
    · refine lv_aload_n hx hb dX7_purges_20 rfl (lv_at hl 0 rfl) ?_
      refine lv_bipush (v := 6) hx hb dX7_purges_21 (by decide) ?_
      refine lv_iconst (v := 3) hx hb dX7_purges_23 (by decide) ?_
      refine cw_cVv (As := [.int 6, .int 3]) (rest := []) (wc := [(xm, c7 xm_25 xm_26 xm_27 xm_29 xm_30 xm_31 mm)]) (wr := []) ⟨hx, hb, hml, hown, hts⟩ (k7_begins l D cI cJ xm xm_25 xm_26 xm_27 xm_29 xm_30 xm_31 mm 6 3) (cwV 2 hts gX7_purges_X7_begins rfl rfl rfl (by decide +kernel) ⟨Nat.le_of_ble_eq_true rfl, Nat.le_of_ble_eq_true rfl⟩) hK hN hP hD hS hA [0] [] rfl rfl (by decide) (by decide) (by decide) 0 (ci := 7) rfl rfl rfl rfl hl.1 rfl (Nat.le_of_ble_eq_true rfl) dX7_purges_24 ⟨Nat.le_of_ble_eq_true rfl, Nat.le_of_ble_eq_true rfl⟩ (fun u17 H locs hw hP hD hS => ?_)
      obtain ⟨v19, hv19⟩ : ∃ z : Nat → Int32, z = (s7_begins mm 6 3) := ⟨_, rfl⟩
      have hP : va_P D vwCl [(xm, c7 xm_25 xm_26 xm_27 xm_29 xm_30 xm_31 v19)] H := by rw [hv19]; exact hP
      have hD : va_D A [(xm, c7 xm_25 xm_26 xm_27 xm_29 xm_30 xm_31 v19)] := by rw [hv19]; exact hD
      refine lv_goto (tgt := 105) hx hb dX7_purges_27 (by decide) ?_
      exact J23 v19 (by simp only [← hv19, if_neg z1, if_neg z2]) _ _ hP hD hS
  · refine lv_aload_n hx hb dX7_purges_4 rfl (lv_at hl 0 rfl) ?_
    refine lv_iconst (v := 0) hx hb dX7_purges_5 (by decide) ?_
    refine lv_iconst (v := 0) hx hb dX7_purges_6 (by decide) ?_
    refine cw_cVv (As := [.int 0, .int 0]) (rest := []) (wc := [(xm, c7 xm_25 xm_26 xm_27 xm_29 xm_30 xm_31 mm)]) (wr := []) ⟨hx, hb, hml, hown, hts⟩ (k7_begins l D cI cJ xm xm_25 xm_26 xm_27 xm_29 xm_30 xm_31 mm 0 0) (cwV 2 hts gX7_purges_X7_begins rfl rfl rfl (by decide +kernel) ⟨Nat.le_of_ble_eq_true rfl, Nat.le_of_ble_eq_true rfl⟩) hK hN hP hD hS hA [0] [] rfl rfl (by decide) (by decide) (by decide) 0 (ci := 7) rfl rfl rfl rfl hl.1 rfl (Nat.le_of_ble_eq_true rfl) dX7_purges_7 ⟨Nat.le_of_ble_eq_true rfl, Nat.le_of_ble_eq_true rfl⟩ (fun u20 H locs hw hP hD hS => ?_)
    obtain ⟨v22, hv22⟩ : ∃ z : Nat → Int32, z = (s7_begins mm 0 0) := ⟨_, rfl⟩
    have hP : va_P D vwCl [(xm, c7 xm_25 xm_26 xm_27 xm_29 xm_30 xm_31 v22)] H := by rw [hv22]; exact hP
    have hD : va_D A [(xm, c7 xm_25 xm_26 xm_27 xm_29 xm_30 xm_31 v22)] := by rw [hv22]; exact hD
    refine lv_goto (tgt := 105) hx hb dX7_purges_10 (by decide) ?_
    exact J23 v22 (by simp only [← hv22, if_pos z1]) _ _ hP hD hS

set_option maxHeartbeats 4000000 in
set_option maxRecDepth 100000 in
theorem k7_lights (l : Launch) (D : va_G) (cI cJ : ClassId) (xm : Nat) (xm_25 xm_26 xm_27 xm_29 xm_30 xm_31 : Value) (mm : Nat → Int32) (a1 : Int32) (a2 : Int32) : cw_Mv l yX7_lights wsX7_lights (cw_rm 2) D [(cI, .int), (cJ, .long)] [.ref xm, .int a1, .int a2] [(xm, c7 xm_25 xm_26 xm_27 xm_29 xm_30 xm_31 mm)] 0 0 (fun _ : Unit => True) (fun _ : Unit => [(xm, c7 xm_25 xm_26 xm_27 xm_29 xm_30 xm_31 (s7_lights mm a1 a2))]) := by
  refine cw_ofv (cc := cX7_lights) (maxL := 4) (ret := none) (by decide) rfl (Nat.le_of_ble_eq_true rfl) rfl ?_
  intro p e s m args below meth c A ls Q hin0 hret
  obtain ⟨hx, hb, hr, hml, hts, hown, hlocks, hin, hP, hK, hD, hN, hA, hl⟩ := hin0
  have hS : va_S A s.heap s.heap [] := va_S.rf
  have hl : lv_has ls 4 [(0, .ref xm), (1, .int a1), (2, .int a2)] := hl
  have lf77 := hts (.fieldLink RX7 77 "BurnerlineModel" "state" "I") (by decide +kernel)
  have i7 : ∀ w ∈ wsX70, w ∈ wsX7_lights := by decide +kernel
  have lf87 := hts (.fieldLink RX7 87 "BurnerlineModel" "seen" "I") (by decide +kernel)
  have lf103 := hts (.fieldLink RX7 103 "BurnerlineModel" "time" "I") (by decide +kernel)
  have lf19 := hts (.fieldLink RX7 19 "BurnerlineModel" "longMain" "I") (by decide +kernel)
  have lf16 := hts (.fieldLink RX7 16 "BurnerlineModel" "longPilot" "I") (by decide +kernel)
  refine lv_aload_n hx hb dX7_lights_0 rfl (lv_at hl 0 rfl) ?_
  refine lv_iload_n hx hb dX7_lights_1 rfl (lv_at hl 1 rfl) ?_
  refine cw_cVi (As := [.int a1]) (rest := []) (wc := [(xm, c7 xm_25 xm_26 xm_27 xm_29 xm_30 xm_31 mm)]) (wr := []) ⟨hx, hb, hml, hown, hts⟩ (k7_lacks l D cI cJ xm xm_25 xm_26 xm_27 xm_29 xm_30 xm_31 mm a1) (cwV 1 hts gX7_lights_X7_lacks rfl rfl rfl (by decide +kernel) ⟨Nat.le_of_ble_eq_true rfl, Nat.le_of_ble_eq_true rfl⟩) hK hN hP hD hS hA [0] [] rfl rfl (by decide) (by decide) (by decide) 0 (ci := 7) rfl rfl rfl rfl hl.1 rfl (Nat.le_of_ble_eq_true rfl) dX7_lights_2 ⟨Nat.le_of_ble_eq_true rfl, Nat.le_of_ble_eq_true rfl⟩ (fun r2 u1 H locs hw hP hD hS => ?_)
  have hr2 : r2 = ((s7_lacks mm a1).1) := hw
  obtain ⟨v3, hv3⟩ : ∃ z : Nat → Int32, z = ((s7_lacks mm a1).2) := ⟨_, rfl⟩
  have hP : va_P D vwCl [(xm, c7 xm_25 xm_26 xm_27 xm_29 xm_30 xm_31 v3)] H := by rw [hv3]; exact hP
  have hD : va_D A [(xm, c7 xm_25 xm_26 xm_27 xm_29 xm_30 xm_31 v3)] := by rw [hv3]; exact hD
  refine lv_if_eq (tgt := 9) hx hb dX7_lights_5 (by decide) (fun z4 => ?_) (fun z4 => ?_)
  · refine lv_aload_n hx hb dX7_lights_9 rfl (lv_at hl 0 rfl) ?_
    refine va_get (D := D) (ci := 7) (v := .int (v3 12)) (C := RX7) (T := TX7) (N := 35) hx hb hts i7 hown hK hP 0 rfl rfl 12 (by decide) lf77 (fun _ h9 => h9) rfl dX7_lights_10 ?_
    refine lv_iconst (v := 2) hx hb dX7_lights_13 (by decide) ?_
    have J6 : ∀ (w7 : Int32), w7 = (if (v3 12) = 2 then 1 else 0) → W p l e (cw_rm 2) s m args below meth c H locs 0 0 (Q) (F0 m 22 ls [.int w7]) := by
      intro w7 hw7
      refine lv_istore_n (lv' := [(3, .int w7), (0, .ref xm), (1, .int a1), (2, .int a2)]) hx hb dX7_lights_22 rfl hl (by decide) rfl (fun ls hl => ?_)
      refine lv_iload_n hx hb dX7_lights_23 rfl (lv_at hl 3 rfl) ?_
      have J34 : ∀ (w35 : Nat → Int32), w35 = (if a2 = 0 then (s7_begins v3 5 0) else (if (s7_has (v3 18) (if w7 = 0 then 1 else 0)) = 0 then (if (v3 14) < (if w7 = 0 then (v3 4) else (v3 3)) then v3 else (s7_begins v3 6 (if w7 = 0 then 5 else 4))) else (s7_begins v3 (if w7 = 0 then 4 else 3) 0))) → ∀ (H : Heap) (locs : List Loc), va_P D vwCl [(xm, c7 xm_25 xm_26 xm_27 xm_29 xm_30 xm_31 w35)] H → va_D A [(xm, c7 xm_25 xm_26 xm_27 xm_29 xm_30 xm_31 w35)] → va_S A s.heap H locs → W p l e (cw_rm 2) s m args below meth c H locs 0 0 (Q) (F0 m 109 ls []) := by
        intro w35 hw35 H locs hP hD hS
        have hsp : (s7_lights mm a1 a2) = (w35 : (Nat → Int32)) := by simp only [s7_lights, ← hv3, ← hr2, ← hw7, ← hw35, if_pos z4]
        exact hret _ _ _ _ _ _ _ hP hD hS dX7_lights_109 ⟨(), trivial, (by rw [hsp])⟩ (Nat.le_of_ble_eq_true rfl) (Nat.le_of_ble_eq_true rfl)
      refine lv_if_ne (tgt := 36) hx hb dX7_lights_24 (by decide) (fun z8 => ?_) (fun z8 => ?_)
      · refine lv_aload_n hx hb dX7_lights_36 rfl (lv_at hl 1 rfl) ?_
        refine va_get (D := D) (ci := 7) (v := .int (v3 18)) (C := RX7) (T := TX7) (N := 35) hx hb hts i7 hown hK hP 0 rfl rfl 18 (by decide) lf87 (fun _ h9 => h9) rfl dX7_lights_37 ?_
        refine lv_iload_n hx hb dX7_lights_40 rfl (lv_at hl 0 rfl) ?_
        have J10 : ∀ (w11 : Int32), w11 = (if w7 = 0 then 1 else 0) → W p l e (cw_rm 2) s m args below meth c H locs 0 0 (Q) (F0 m 49 ls [.int w11, .int (v3 18)]) := by
          intro w11 hw11
          refine cw_cSi (As := [.int (v3 18), .int w11]) (rest := []) (wc := []) (wr := [(xm, c7 xm_25 xm_26 xm_27 xm_29 xm_30 xm_31 v3)]) ⟨hx, hb, hml, hown, hts⟩ (k7_has l D cI cJ (v3 18) w11) (va_cwS 2 hts gX7_lights_X7_has rfl rfl rfl (by decide +kernel) ⟨Nat.le_of_ble_eq_true rfl, Nat.le_of_ble_eq_true rfl⟩) hK hN hP hD hS hA [] [0] rfl rfl (by decide) (by decide) (by decide) rfl hl.1 rfl (Nat.le_of_ble_eq_true rfl) dX7_lights_49 ⟨Nat.le_of_ble_eq_true rfl, Nat.le_of_ble_eq_true rfl⟩ (fun r13 u12 H locs hw hP hD hS => ?_)
          have hr13 : r13 = (s7_has (v3 18) w11) := hw
          have hP : va_P D vwCl [(xm, c7 xm_25 xm_26 xm_27 xm_29 xm_30 xm_31 v3)] H := hP
          have hD : va_D A [(xm, c7 xm_25 xm_26 xm_27 xm_29 xm_30 xm_31 v3)] := hD
          refine lv_if_eq (tgt := 72) hx hb dX7_lights_52 (by decide) (fun z14 => ?_) (fun z14 => ?_)
          · refine lv_aload_n hx hb dX7_lights_72 rfl (lv_at hl 1 rfl) ?_
            refine va_get (D := D) (ci := 7) (v := .int (v3 14)) (C := RX7) (T := TX7) (N := 35) hx hb hts i7 hown hK hP 0 rfl rfl 14 (by decide) lf103 (fun _ h9 => h9) rfl dX7_lights_73 ?_
            refine lv_iload_n hx hb dX7_lights_76 rfl (lv_at hl 0 rfl) ?_
            have J16 : ∀ (w17 : Int32), w17 = (if w7 = 0 then (v3 4) else (v3 3)) → W p l e (cw_rm 2) s m args below meth c H locs 0 0 (Q) (F0 m 91 ls [.int w17, .int (v3 14)]) := by
              intro w17 hw17
              refine lv_icmp_lt (tgt := 109) hx hb dX7_lights_91 (by decide) (fun z18 => ?_) (fun z18 => ?_)
              · exact J34 v3 (by simp only [← hw11, ← hr13, ← hw17, if_neg z8, if_pos z14, if_pos z18]) _ _ hP hD hS
              · refine lv_aload_n hx hb dX7_lights_94 rfl (lv_at hl 1 rfl) ?_
                refine lv_bipush (v := 6) hx hb dX7_lights_95 (by decide) ?_
                refine lv_iload_n hx hb dX7_lights_97 rfl (lv_at hl 0 rfl) ?_
                have J20 : ∀ (w21 : Int32), w21 = (if w7 = 0 then 5 else 4) → W p l e (cw_rm 2) s m args below meth c H locs 0 0 (Q) (F0 m 106 ls [.int w21, .int 6, .ref xm]) := by
                  intro w21 hw21
                  refine cw_cVv (As := [.int 6, .int w21]) (rest := []) (wc := [(xm, c7 xm_25 xm_26 xm_27 xm_29 xm_30 xm_31 v3)]) (wr := []) ⟨hx, hb, hml, hown, hts⟩ (k7_begins l D cI cJ xm xm_25 xm_26 xm_27 xm_29 xm_30 xm_31 v3 6 w21) (cwV 2 hts gX7_lights_X7_begins rfl rfl rfl (by decide +kernel) ⟨Nat.le_of_ble_eq_true rfl, Nat.le_of_ble_eq_true rfl⟩) hK hN hP hD hS hA [0] [] rfl rfl (by decide) (by decide) (by decide) 0 (ci := 7) rfl rfl rfl rfl hl.1 rfl (Nat.le_of_ble_eq_true rfl) dX7_lights_106 ⟨Nat.le_of_ble_eq_true rfl, Nat.le_of_ble_eq_true rfl⟩ (fun u22 H locs hw hP hD hS => ?_)
                  obtain ⟨v24, hv24⟩ : ∃ z : Nat → Int32, z = (s7_begins v3 6 w21) := ⟨_, rfl⟩
                  have hP : va_P D vwCl [(xm, c7 xm_25 xm_26 xm_27 xm_29 xm_30 xm_31 v24)] H := by rw [hv24]; exact hP
                  have hD : va_D A [(xm, c7 xm_25 xm_26 xm_27 xm_29 xm_30 xm_31 v24)] := by rw [hv24]; exact hD
                  exact J34 v24 (by simp only [← hw11, ← hr13, ← hw17, ← hw21, ← hv24, if_neg z8, if_pos z14, if_neg z18]) _ _ hP hD hS
                refine lv_if_eq (tgt := 105) hx hb dX7_lights_98 (by decide) (fun z19 => ?_) (fun z19 => ?_)
                · refine lv_iconst (v := 5) hx hb dX7_lights_105 (by decide) ?_
                  exact J20 5 (by simp only [if_pos z19])
                · refine lv_iconst (v := 4) hx hb dX7_lights_101 (by decide) ?_
                  refine lv_goto (tgt := 106) hx hb dX7_lights_102 (by decide) ?_
                  exact J20 4 (by simp only [if_neg z19])
            refine lv_if_eq (tgt := 87) hx hb dX7_lights_77 (by decide) (fun z15 => ?_) (fun z15 => ?_)
            · refine lv_aload_n hx hb dX7_lights_87 rfl (lv_at hl 1 rfl) ?_
              refine va_get (D := D) (ci := 7) (v := .int (v3 4)) (C := RX7) (T := TX7) (N := 35) hx hb hts i7 hown hK hP 0 rfl rfl 4 (by decide) lf19 (fun _ h9 => h9) rfl dX7_lights_88 ?_
              exact J16 (v3 4) (by simp only [if_pos z15])
            · refine lv_aload_n hx hb dX7_lights_80 rfl (lv_at hl 1 rfl) ?_
              refine va_get (D := D) (ci := 7) (v := .int (v3 3)) (C := RX7) (T := TX7) (N := 35) hx hb hts i7 hown hK hP 0 rfl rfl 3 (by decide) lf16 (fun _ h9 => h9) rfl dX7_lights_81 ?_
              refine lv_goto (tgt := 91) hx hb dX7_lights_84 (by decide) ?_
              exact J16 (v3 3) (by simp only [if_neg z15])
          · refine lv_aload_n hx hb dX7_lights_55 rfl (lv_at hl 1 rfl) ?_
            refine lv_iload_n hx hb dX7_lights_56 rfl (lv_at hl 0 rfl) ?_
            have J26 : ∀ (w27 : Int32), w27 = (if w7 = 0 then 4 else 3) → W p l e (cw_rm 2) s m args below meth c H locs 0 0 (Q) (F0 m 65 ls [.int w27, .ref xm]) := by
              intro w27 hw27
              refine lv_iconst (v := 0) hx hb dX7_lights_65 (by decide) ?_
              refine cw_cVv (As := [.int w27, .int 0]) (rest := []) (wc := [(xm, c7 xm_25 xm_26 xm_27 xm_29 xm_30 xm_31 v3)]) (wr := []) ⟨hx, hb, hml, hown, hts⟩ (k7_begins l D cI cJ xm xm_25 xm_26 xm_27 xm_29 xm_30 xm_31 v3 w27 0) (cwV 2 hts gX7_lights_X7_begins rfl rfl rfl (by decide +kernel) ⟨Nat.le_of_ble_eq_true rfl, Nat.le_of_ble_eq_true rfl⟩) hK hN hP hD hS hA [0] [] rfl rfl (by decide) (by decide) (by decide) 0 (ci := 7) rfl rfl rfl rfl hl.1 rfl (Nat.le_of_ble_eq_true rfl) dX7_lights_66 ⟨Nat.le_of_ble_eq_true rfl, Nat.le_of_ble_eq_true rfl⟩ (fun u28 H locs hw hP hD hS => ?_)
              obtain ⟨v30, hv30⟩ : ∃ z : Nat → Int32, z = (s7_begins v3 w27 0) := ⟨_, rfl⟩
              have hP : va_P D vwCl [(xm, c7 xm_25 xm_26 xm_27 xm_29 xm_30 xm_31 v30)] H := by rw [hv30]; exact hP
              have hD : va_D A [(xm, c7 xm_25 xm_26 xm_27 xm_29 xm_30 xm_31 v30)] := by rw [hv30]; exact hD
              refine lv_goto (tgt := 109) hx hb dX7_lights_69 (by decide) ?_
              exact J34 v30 (by simp only [← hw11, ← hr13, ← hw27, ← hv30, if_neg z8, if_neg z14]) _ _ hP hD hS
            refine lv_if_eq (tgt := 64) hx hb dX7_lights_57 (by decide) (fun z25 => ?_) (fun z25 => ?_)
            · refine lv_iconst (v := 4) hx hb dX7_lights_64 (by decide) ?_
              exact J26 4 (by simp only [if_pos z25])
            · refine lv_iconst (v := 3) hx hb dX7_lights_60 (by decide) ?_
              refine lv_goto (tgt := 65) hx hb dX7_lights_61 (by decide) ?_
              exact J26 3 (by simp only [if_neg z25])
        refine lv_if_eq (tgt := 48) hx hb dX7_lights_41 (by decide) (fun z9 => ?_) (fun z9 => ?_)
        · refine lv_iconst (v := 1) hx hb dX7_lights_48 (by decide) ?_
          exact J10 1 (by simp only [if_pos z9])
        · refine lv_iconst (v := 0) hx hb dX7_lights_44 (by decide) ?_
          refine lv_goto (tgt := 49) hx hb dX7_lights_45 (by decide) ?_
          exact J10 0 (by simp only [if_neg z9])
      · refine lv_aload_n hx hb dX7_lights_27 rfl (lv_at hl 1 rfl) ?_
        refine lv_iconst (v := 5) hx hb dX7_lights_28 (by decide) ?_
        refine lv_iconst (v := 0) hx hb dX7_lights_29 (by decide) ?_
        refine cw_cVv (As := [.int 5, .int 0]) (rest := []) (wc := [(xm, c7 xm_25 xm_26 xm_27 xm_29 xm_30 xm_31 v3)]) (wr := []) ⟨hx, hb, hml, hown, hts⟩ (k7_begins l D cI cJ xm xm_25 xm_26 xm_27 xm_29 xm_30 xm_31 v3 5 0) (cwV 2 hts gX7_lights_X7_begins rfl rfl rfl (by decide +kernel) ⟨Nat.le_of_ble_eq_true rfl, Nat.le_of_ble_eq_true rfl⟩) hK hN hP hD hS hA [0] [] rfl rfl (by decide) (by decide) (by decide) 0 (ci := 7) rfl rfl rfl rfl hl.1 rfl (Nat.le_of_ble_eq_true rfl) dX7_lights_30 ⟨Nat.le_of_ble_eq_true rfl, Nat.le_of_ble_eq_true rfl⟩ (fun u31 H locs hw hP hD hS => ?_)
        obtain ⟨v33, hv33⟩ : ∃ z : Nat → Int32, z = (s7_begins v3 5 0) := ⟨_, rfl⟩
        have hP : va_P D vwCl [(xm, c7 xm_25 xm_26 xm_27 xm_29 xm_30 xm_31 v33)] H := by rw [hv33]; exact hP
        have hD : va_D A [(xm, c7 xm_25 xm_26 xm_27 xm_29 xm_30 xm_31 v33)] := by rw [hv33]; exact hD
        refine lv_goto (tgt := 109) hx hb dX7_lights_33 (by decide) ?_
        exact J34 v33 (by simp only [← hv33, if_pos z8]) _ _ hP hD hS
    refine lv_icmp_ne (tgt := 21) hx hb dX7_lights_14 (by decide) (fun z5 => ?_) (fun z5 => ?_)
    · refine lv_iconst (v := 0) hx hb dX7_lights_21 (by decide) ?_
      exact J6 0 (by simp only [if_neg z5])
    · refine lv_iconst (v := 1) hx hb dX7_lights_17 (by decide) ?_
      refine lv_goto (tgt := 22) hx hb dX7_lights_18 (by decide) ?_
      exact J6 1 (by simp only [if_pos z5])
  · have hsp : (s7_lights mm a1 a2) = (v3 : (Nat → Int32)) := by simp only [s7_lights, ← hv3, ← hr2, if_neg z4]
    exact hret _ _ _ _ _ _ _ hP hD hS dX7_lights_8 ⟨(), trivial, (by rw [hsp])⟩ (Nat.le_of_ble_eq_true rfl) (Nat.le_of_ble_eq_true rfl)


set_option maxHeartbeats 4000000 in
set_option maxRecDepth 100000 in
theorem k7_runs (l : Launch) (D : va_G) (cI cJ : ClassId) (xm : Nat) (xm_25 xm_26 xm_27 xm_29 xm_30 xm_31 : Value) (mm : Nat → Int32) (a1 : Int32) (a2 : Int32) (hck : ¬ mm 8 = 0) : cw_Mv l yX7_runs wsX7_runs (cw_rm 2) D [(cI, .int), (cJ, .long)] [.ref xm, .int a1, .int a2] [(xm, c7 xm_25 xm_26 xm_27 xm_29 xm_30 xm_31 mm)] 0 0 (fun _ : Unit => True) (fun _ : Unit => [(xm, c7 xm_25 xm_26 xm_27 xm_29 xm_30 xm_31 (s7_runs mm a1 a2))]) := by
  refine cw_ofv (cc := cX7_runs) (maxL := 3) (ret := none) (by decide) rfl (Nat.le_of_ble_eq_true rfl) rfl ?_
  intro p e s m args below meth c A ls Q hin0 hret
  obtain ⟨hx, hb, hr, hml, hts, hown, hlocks, hin, hP, hK, hD, hN, hA, hl⟩ := hin0
  have hS : va_S A s.heap s.heap [] := va_S.rf
  have hl : lv_has ls 3 [(0, .ref xm), (1, .int a1), (2, .int a2)] := hl
  have lf87 := hts (.fieldLink RX7 87 "BurnerlineModel" "seen" "I") (by decide +kernel)
  have i7 : ∀ w ∈ wsX70, w ∈ wsX7_runs := by decide +kernel
  have lf103 := hts (.fieldLink RX7 103 "BurnerlineModel" "time" "I") (by decide +kernel)
  have lf31 := hts (.fieldLink RX7 31 "BurnerlineModel" "check" "I") (by decide +kernel)
  refine lv_aload_n hx hb dX7_runs_0 rfl (lv_at hl 0 rfl) ?_
  refine lv_iload_n hx hb dX7_runs_1 rfl (lv_at hl 1 rfl) ?_
  refine cw_cVi (As := [.int a1]) (rest := []) (wc := [(xm, c7 xm_25 xm_26 xm_27 xm_29 xm_30 xm_31 mm)]) (wr := []) ⟨hx, hb, hml, hown, hts⟩ (k7_lacks l D cI cJ xm xm_25 xm_26 xm_27 xm_29 xm_30 xm_31 mm a1) (cwV 1 hts gX7_runs_X7_lacks rfl rfl rfl (by decide +kernel) ⟨Nat.le_of_ble_eq_true rfl, Nat.le_of_ble_eq_true rfl⟩) hK hN hP hD hS hA [0] [] rfl rfl (by decide) (by decide) (by decide) 0 (ci := 7) rfl rfl rfl rfl hl.1 rfl (Nat.le_of_ble_eq_true rfl) dX7_runs_2 ⟨Nat.le_of_ble_eq_true rfl, Nat.le_of_ble_eq_true rfl⟩ (fun r2 u1 H locs hw hP hD hS => ?_)
  have hr2 : r2 = ((s7_lacks mm a1).1) := hw
  obtain ⟨v3, hv3⟩ : ∃ z : Nat → Int32, z = ((s7_lacks mm a1).2) := ⟨_, rfl⟩
  have hP : va_P D vwCl [(xm, c7 xm_25 xm_26 xm_27 xm_29 xm_30 xm_31 v3)] H := by rw [hv3]; exact hP
  have hD : va_D A [(xm, c7 xm_25 xm_26 xm_27 xm_29 xm_30 xm_31 v3)] := by rw [hv3]; exact hD
  refine lv_if_eq (tgt := 9) hx hb dX7_runs_5 (by decide) (fun z4 => ?_) (fun z4 => ?_)
  · refine lv_aload_n hx hb dX7_runs_9 rfl (lv_at hl 0 rfl) ?_
    refine va_get (D := D) (ci := 7) (v := .int (v3 18)) (C := RX7) (T := TX7) (N := 35) hx hb hts i7 hown hK hP 0 rfl rfl 18 (by decide) lf87 (fun _ h9 => h9) rfl dX7_runs_10 ?_
    refine lv_iconst (v := 1) hx hb dX7_runs_13 (by decide) ?_
    refine cw_cSi (As := [.int (v3 18), .int 1]) (rest := []) (wc := []) (wr := [(xm, c7 xm_25 xm_26 xm_27 xm_29 xm_30 xm_31 v3)]) ⟨hx, hb, hml, hown, hts⟩ (k7_has l D cI cJ (v3 18) 1) (va_cwS 2 hts gX7_runs_X7_has rfl rfl rfl (by decide +kernel) ⟨Nat.le_of_ble_eq_true rfl, Nat.le_of_ble_eq_true rfl⟩) hK hN hP hD hS hA [] [0] rfl rfl (by decide) (by decide) (by decide) rfl hl.1 rfl (Nat.le_of_ble_eq_true rfl) dX7_runs_14 ⟨Nat.le_of_ble_eq_true rfl, Nat.le_of_ble_eq_true rfl⟩ (fun r6 u5 H locs hw hP hD hS => ?_)
    have hr6 : r6 = (s7_has (v3 18) 1) := hw
    have hP : va_P D vwCl [(xm, c7 xm_25 xm_26 xm_27 xm_29 xm_30 xm_31 v3)] H := hP
    have hD : va_D A [(xm, c7 xm_25 xm_26 xm_27 xm_29 xm_30 xm_31 v3)] := hD
    have J26 : ∀ (w27 : Nat → Int32), w27 = (if r6 = 0 then (s7_begins v3 6 6) else (if ((v3 14) - (v3 14) / (v3 8) * (v3 8)) = 0 then (if (s7_has a1 5) = 0 then (s7_begins v3 6 8) else (if a2 = 0 then (s7_begins v3 5 0) else v3)) else (if a2 = 0 then (s7_begins v3 5 0) else v3))) → ∀ (H : Heap) (locs : List Loc), va_P D vwCl [(xm, c7 xm_25 xm_26 xm_27 xm_29 xm_30 xm_31 w27)] H → va_D A [(xm, c7 xm_25 xm_26 xm_27 xm_29 xm_30 xm_31 w27)] → va_S A s.heap H locs → W p l e (cw_rm 2) s m args below meth c H locs 0 0 (Q) (F0 m 72 ls []) := by
      intro w27 hw27 H locs hP hD hS
      have hsp : (s7_runs mm a1 a2) = (w27 : (Nat → Int32)) := by simp only [s7_runs, ← hv3, ← hr2, ← hr6, ← hw27, if_pos z4]
      exact hret _ _ _ _ _ _ _ hP hD hS dX7_runs_72 ⟨(), trivial, (by rw [hsp])⟩ (Nat.le_of_ble_eq_true rfl) (Nat.le_of_ble_eq_true rfl)
    refine lv_if_ne (tgt := 31) hx hb dX7_runs_17 (by decide) (fun z7 => ?_) (fun z7 => ?_)
    · refine lv_aload_n hx hb dX7_runs_31 rfl (lv_at hl 0 rfl) ?_
      refine va_get (D := D) (ci := 7) (v := .int (v3 14)) (C := RX7) (T := TX7) (N := 35) hx hb hts i7 hown hK hP 0 rfl rfl 14 (by decide) lf103 (fun _ h9 => h9) rfl dX7_runs_32 ?_
      refine lv_aload_n hx hb dX7_runs_35 rfl (lv_at hl 0 rfl) ?_
      refine va_get (D := D) (ci := 7) (v := .int (v3 8)) (C := RX7) (T := TX7) (N := 35) hx hb hts i7 hown hK hP 0 rfl rfl 8 (by decide) lf31 (fun _ h9 => h9) rfl dX7_runs_36 ?_
      refine lv_irem hx hb dX7_runs_39 (by simp only [hr6, hr2, hv3, f7_lacks8]; exact hck) ?_
      refine lv_if_ne (tgt := 62) hx hb dX7_runs_40 (by decide) (fun z8 => ?_) (fun z8 => ?_)
      · refine lv_iload_n hx hb dX7_runs_62 rfl (lv_at hl 2 rfl) ?_
        refine lv_if_ne (tgt := 72) hx hb dX7_runs_63 (by decide) (fun z9 => ?_) (fun z9 => ?_)
        · exact J26 v3 (by simp only [if_neg z7, if_neg z8, if_neg z9]) _ _ hP hD hS
        · refine lv_aload_n hx hb dX7_runs_66 rfl (lv_at hl 0 rfl) ?_
          refine lv_iconst (v := 5) hx hb dX7_runs_67 (by decide) ?_
          refine lv_iconst (v := 0) hx hb dX7_runs_68 (by decide) ?_
          refine cw_cVv (As := [.int 5, .int 0]) (rest := []) (wc := [(xm, c7 xm_25 xm_26 xm_27 xm_29 xm_30 xm_31 v3)]) (wr := []) ⟨hx, hb, hml, hown, hts⟩ (k7_begins l D cI cJ xm xm_25 xm_26 xm_27 xm_29 xm_30 xm_31 v3 5 0) (cwV 2 hts gX7_runs_X7_begins rfl rfl rfl (by decide +kernel) ⟨Nat.le_of_ble_eq_true rfl, Nat.le_of_ble_eq_true rfl⟩) hK hN hP hD hS hA [0] [] rfl rfl (by decide) (by decide) (by decide) 0 (ci := 7) rfl rfl rfl rfl hl.1 rfl (Nat.le_of_ble_eq_true rfl) dX7_runs_69 ⟨Nat.le_of_ble_eq_true rfl, Nat.le_of_ble_eq_true rfl⟩ (fun u10 H locs hw hP hD hS => ?_)
          obtain ⟨v12, hv12⟩ : ∃ z : Nat → Int32, z = (s7_begins v3 5 0) := ⟨_, rfl⟩
          have hP : va_P D vwCl [(xm, c7 xm_25 xm_26 xm_27 xm_29 xm_30 xm_31 v12)] H := by rw [hv12]; exact hP
          have hD : va_D A [(xm, c7 xm_25 xm_26 xm_27 xm_29 xm_30 xm_31 v12)] := by rw [hv12]; exact hD
          exact J26 v12 (by simp only [← hv12, if_neg z7, if_neg z8, if_pos z9]) _ _ hP hD hS
      · refine lv_iload_n hx hb dX7_runs_43 rfl (lv_at hl 1 rfl) ?_
        refine lv_iconst (v := 5) hx hb dX7_runs_44 (by decide) ?_
        refine cw_cSi (As := [.int a1, .int 5]) (rest := []) (wc := []) (wr := [(xm, c7 xm_25 xm_26 xm_27 xm_29 xm_30 xm_31 v3)]) ⟨hx, hb, hml, hown, hts⟩ (k7_has l D cI cJ a1 5) (va_cwS 2 hts gX7_runs_X7_has rfl rfl rfl (by decide +kernel) ⟨Nat.le_of_ble_eq_true rfl, Nat.le_of_ble_eq_true rfl⟩) hK hN hP hD hS hA [] [0] rfl rfl (by decide) (by decide) (by decide) rfl hl.1 rfl (Nat.le_of_ble_eq_true rfl) dX7_runs_45 ⟨Nat.le_of_ble_eq_true rfl, Nat.le_of_ble_eq_true rfl⟩ (fun r14 u13 H locs hw hP hD hS => ?_)
        have hr14 : r14 = (s7_has a1 5) := hw
        have hP : va_P D vwCl [(xm, c7 xm_25 xm_26 xm_27 xm_29 xm_30 xm_31 v3)] H := hP
        have hD : va_D A [(xm, c7 xm_25 xm_26 xm_27 xm_29 xm_30 xm_31 v3)] := hD
        refine lv_if_ne (tgt := 62) hx hb dX7_runs_48 (by decide) (fun z15 => ?_) (fun z15 => ?_)
        · refine lv_iload_n hx hb dX7_runs_62 rfl (lv_at hl 2 rfl) ?_
          refine lv_if_ne (tgt := 72) hx hb dX7_runs_63 (by decide) (fun z16 => ?_) (fun z16 => ?_)
          · exact J26 v3 (by simp only [← hr14, if_neg z7, if_pos z8, if_neg z15, if_neg z16]) _ _ hP hD hS
          · refine lv_aload_n hx hb dX7_runs_66 rfl (lv_at hl 0 rfl) ?_
            refine lv_iconst (v := 5) hx hb dX7_runs_67 (by decide) ?_
            refine lv_iconst (v := 0) hx hb dX7_runs_68 (by decide) ?_
            refine cw_cVv (As := [.int 5, .int 0]) (rest := []) (wc := [(xm, c7 xm_25 xm_26 xm_27 xm_29 xm_30 xm_31 v3)]) (wr := []) ⟨hx, hb, hml, hown, hts⟩ (k7_begins l D cI cJ xm xm_25 xm_26 xm_27 xm_29 xm_30 xm_31 v3 5 0) (cwV 2 hts gX7_runs_X7_begins rfl rfl rfl (by decide +kernel) ⟨Nat.le_of_ble_eq_true rfl, Nat.le_of_ble_eq_true rfl⟩) hK hN hP hD hS hA [0] [] rfl rfl (by decide) (by decide) (by decide) 0 (ci := 7) rfl rfl rfl rfl hl.1 rfl (Nat.le_of_ble_eq_true rfl) dX7_runs_69 ⟨Nat.le_of_ble_eq_true rfl, Nat.le_of_ble_eq_true rfl⟩ (fun u17 H locs hw hP hD hS => ?_)
            obtain ⟨v19, hv19⟩ : ∃ z : Nat → Int32, z = (s7_begins v3 5 0) := ⟨_, rfl⟩
            have hP : va_P D vwCl [(xm, c7 xm_25 xm_26 xm_27 xm_29 xm_30 xm_31 v19)] H := by rw [hv19]; exact hP
            have hD : va_D A [(xm, c7 xm_25 xm_26 xm_27 xm_29 xm_30 xm_31 v19)] := by rw [hv19]; exact hD
            exact J26 v19 (by simp only [← hr14, ← hv19, if_neg z7, if_pos z8, if_neg z15, if_pos z16]) _ _ hP hD hS
        · refine lv_aload_n hx hb dX7_runs_51 rfl (lv_at hl 0 rfl) ?_
          refine lv_bipush (v := 6) hx hb dX7_runs_52 (by decide) ?_
          refine lv_bipush (v := 8) hx hb dX7_runs_54 (by decide) ?_
          refine cw_cVv (As := [.int 6, .int 8]) (rest := []) (wc := [(xm, c7 xm_25 xm_26 xm_27 xm_29 xm_30 xm_31 v3)]) (wr := []) ⟨hx, hb, hml, hown, hts⟩ (k7_begins l D cI cJ xm xm_25 xm_26 xm_27 xm_29 xm_30 xm_31 v3 6 8) (cwV 2 hts gX7_runs_X7_begins rfl rfl rfl (by decide +kernel) ⟨Nat.le_of_ble_eq_true rfl, Nat.le_of_ble_eq_true rfl⟩) hK hN hP hD hS hA [0] [] rfl rfl (by decide) (by decide) (by decide) 0 (ci := 7) rfl rfl rfl rfl hl.1 rfl (Nat.le_of_ble_eq_true rfl) dX7_runs_56 ⟨Nat.le_of_ble_eq_true rfl, Nat.le_of_ble_eq_true rfl⟩ (fun u20 H locs hw hP hD hS => ?_)
          obtain ⟨v22, hv22⟩ : ∃ z : Nat → Int32, z = (s7_begins v3 6 8) := ⟨_, rfl⟩
          have hP : va_P D vwCl [(xm, c7 xm_25 xm_26 xm_27 xm_29 xm_30 xm_31 v22)] H := by rw [hv22]; exact hP
          have hD : va_D A [(xm, c7 xm_25 xm_26 xm_27 xm_29 xm_30 xm_31 v22)] := by rw [hv22]; exact hD
          refine lv_goto (tgt := 72) hx hb dX7_runs_59 (by decide) ?_
          exact J26 v22 (by simp only [← hr14, ← hv22, if_neg z7, if_pos z8, if_pos z15]) _ _ hP hD hS
    · refine lv_aload_n hx hb dX7_runs_20 rfl (lv_at hl 0 rfl) ?_
      refine lv_bipush (v := 6) hx hb dX7_runs_21 (by decide) ?_
      refine lv_bipush (v := 6) hx hb dX7_runs_23 (by decide) ?_
      refine cw_cVv (As := [.int 6, .int 6]) (rest := []) (wc := [(xm, c7 xm_25 xm_26 xm_27 xm_29 xm_30 xm_31 v3)]) (wr := []) ⟨hx, hb, hml, hown, hts⟩ (k7_begins l D cI cJ xm xm_25 xm_26 xm_27 xm_29 xm_30 xm_31 v3 6 6) (cwV 2 hts gX7_runs_X7_begins rfl rfl rfl (by decide +kernel) ⟨Nat.le_of_ble_eq_true rfl, Nat.le_of_ble_eq_true rfl⟩) hK hN hP hD hS hA [0] [] rfl rfl (by decide) (by decide) (by decide) 0 (ci := 7) rfl rfl rfl rfl hl.1 rfl (Nat.le_of_ble_eq_true rfl) dX7_runs_25 ⟨Nat.le_of_ble_eq_true rfl, Nat.le_of_ble_eq_true rfl⟩ (fun u23 H locs hw hP hD hS => ?_)
      obtain ⟨v25, hv25⟩ : ∃ z : Nat → Int32, z = (s7_begins v3 6 6) := ⟨_, rfl⟩
      have hP : va_P D vwCl [(xm, c7 xm_25 xm_26 xm_27 xm_29 xm_30 xm_31 v25)] H := by rw [hv25]; exact hP
      have hD : va_D A [(xm, c7 xm_25 xm_26 xm_27 xm_29 xm_30 xm_31 v25)] := by rw [hv25]; exact hD
      refine lv_goto (tgt := 72) hx hb dX7_runs_28 (by decide) ?_
      exact J26 v25 (by simp only [← hv25, if_pos z7]) _ _ hP hD hS
  · have hsp : (s7_runs mm a1 a2) = (v3 : (Nat → Int32)) := by simp only [s7_runs, ← hv3, ← hr2, if_neg z4]
    exact hret _ _ _ _ _ _ _ hP hD hS dX7_runs_8 ⟨(), trivial, (by rw [hsp])⟩ (Nat.le_of_ble_eq_true rfl) (Nat.le_of_ble_eq_true rfl)

set_option maxHeartbeats 4000000 in
set_option maxRecDepth 100000 in
theorem k7_decides (l : Launch) (D : va_G) (cI cJ : ClassId) (xm : Nat) (xm_25 xm_26 xm_27 xm_29 xm_30 xm_31 : Value) (mm : Nat → Int32) (a1 : Int32) (hck : ¬ mm 8 = 0) : cw_Mv l yX7_decides wsX7_decides (cw_rm 3) D [(cI, .int), (cJ, .long)] [.ref xm, .int a1] [(xm, c7 xm_25 xm_26 xm_27 xm_29 xm_30 xm_31 mm)] 0 0 (fun _ : Unit => True) (fun _ : Unit => [(xm, c7 xm_25 xm_26 xm_27 xm_29 xm_30 xm_31 (s7_decides mm a1))]) := by
  refine cw_ofv (cc := cX7_decides) (maxL := 3) (ret := none) (by decide) rfl (Nat.le_of_ble_eq_true rfl) rfl ?_
  intro p e s m args below meth c A ls Q hin0 hret
  obtain ⟨hx, hb, hr, hml, hts, hown, hlocks, hin, hP, hK, hD, hN, hA, hl⟩ := hin0
  have hS : va_S A s.heap s.heap [] := va_S.rf
  have hl : lv_has ls 3 [(0, .ref xm), (1, .int a1)] := hl
  have lf77 := hts (.fieldLink RX7 77 "BurnerlineModel" "state" "I") (by decide +kernel)
  have i7 : ∀ w ∈ wsX70, w ∈ wsX7_decides := by decide +kernel
  have lf103 := hts (.fieldLink RX7 103 "BurnerlineModel" "time" "I") (by decide +kernel)
  have lf22 := hts (.fieldLink RX7 22 "BurnerlineModel" "longAfter" "I") (by decide +kernel)
  have lf87 := hts (.fieldLink RX7 87 "BurnerlineModel" "seen" "I") (by decide +kernel)
  refine lv_iload_n hx hb dX7_decides_0 rfl (lv_at hl 1 rfl) ?_
  refine lv_iconst (v := 0) hx hb dX7_decides_1 (by decide) ?_
  refine cw_cSi (As := [.int a1, .int 0]) (rest := []) (wc := []) (wr := [(xm, c7 xm_25 xm_26 xm_27 xm_29 xm_30 xm_31 mm)]) ⟨hx, hb, hml, hown, hts⟩ (k7_has l D cI cJ a1 0) (va_cwS 2 hts gX7_decides_X7_has rfl rfl rfl (by decide +kernel) ⟨Nat.le_of_ble_eq_true rfl, Nat.le_of_ble_eq_true rfl⟩) hK hN hP hD hS hA [] [0] rfl rfl (by decide) (by decide) (by decide) rfl hl.1 rfl (Nat.le_of_ble_eq_true rfl) dX7_decides_2 ⟨Nat.le_of_ble_eq_true rfl, Nat.le_of_ble_eq_true rfl⟩ (fun r2 u1 H locs hw hP hD hS => ?_)
  have hr2 : r2 = (s7_has a1 0) := hw
  have hP : va_P D vwCl [(xm, c7 xm_25 xm_26 xm_27 xm_29 xm_30 xm_31 mm)] H := hP
  have hD : va_D A [(xm, c7 xm_25 xm_26 xm_27 xm_29 xm_30 xm_31 mm)] := hD
  refine lv_istore_n (lv' := [(2, .int r2), (0, .ref xm), (1, .int a1)]) hx hb dX7_decides_5 rfl hl (by decide) rfl (fun ls hl => ?_)
  refine lv_aload_n hx hb dX7_decides_6 rfl (lv_at hl 1 rfl) ?_
  refine va_get (D := D) (ci := 7) (v := .int (mm 12)) (C := RX7) (T := TX7) (N := 35) hx hb hts i7 hown hK hP 0 rfl rfl 12 (by decide) lf77 (fun _ h9 => h9) rfl dX7_decides_7 ?_
  have J39 : ∀ (w40 : Nat → Int32), w40 = (if (mm 12) = 0 then (if (mm 18) ≤ 0 then (if r2 = 0 then mm else (s7_begins mm 1 0)) else (s7_begins mm 6 3)) else (if (mm 12) = 1 then (s7_purges mm a1 r2) else (if (mm 12) = 2 then (s7_lights mm a1 r2) else (if (mm 12) = 3 then (s7_lights mm a1 r2) else (if (mm 12) = 4 then (s7_runs mm a1 r2) else (if (mm 12) = 5 then (if (mm 14) < (mm 5) then mm else (s7_begins mm (if (mm 18) ≤ 0 then 0 else 6) (if (mm 18) ≤ 0 then 0 else 3))) else mm)))))) → ∀ (H : Heap) (locs : List Loc), va_P D vwCl [(xm, c7 xm_25 xm_26 xm_27 xm_29 xm_30 xm_31 w40)] H → va_D A [(xm, c7 xm_25 xm_26 xm_27 xm_29 xm_30 xm_31 w40)] → va_S A s.heap H locs → W p l e (cw_rm 3) s m args below meth c H locs 0 0 (Q) (F0 m 150 ls []) := by
    intro w40 hw40 H locs hP hD hS
    have hsp : (s7_decides mm a1) = (w40 : (Nat → Int32)) := by simp only [s7_decides, ← hr2, ← hw40]
    exact hret _ _ _ _ _ _ _ hP hD hS dX7_decides_150 ⟨(), trivial, (by rw [hsp])⟩ (Nat.le_of_ble_eq_true rfl) (Nat.le_of_ble_eq_true rfl)
  refine lv_if_ne (tgt := 43) hx hb dX7_decides_10 (by decide) (fun z3 => ?_) (fun z3 => ?_)
  · refine lv_aload_n hx hb dX7_decides_43 rfl (lv_at hl 1 rfl) ?_
    refine va_get (D := D) (ci := 7) (v := .int (mm 12)) (C := RX7) (T := TX7) (N := 35) hx hb hts i7 hown hK hP 0 rfl rfl 12 (by decide) lf77 (fun _ h9 => h9) rfl dX7_decides_44 ?_
    refine lv_iconst (v := 1) hx hb dX7_decides_47 (by decide) ?_
    refine lv_icmp_ne (tgt := 60) hx hb dX7_decides_48 (by decide) (fun z4 => ?_) (fun z4 => ?_)
    · refine lv_aload_n hx hb dX7_decides_60 rfl (lv_at hl 1 rfl) ?_
      refine va_get (D := D) (ci := 7) (v := .int (mm 12)) (C := RX7) (T := TX7) (N := 35) hx hb hts i7 hown hK hP 0 rfl rfl 12 (by decide) lf77 (fun _ h9 => h9) rfl dX7_decides_61 ?_
      refine lv_iconst (v := 2) hx hb dX7_decides_64 (by decide) ?_
      refine lv_icmp_eq (tgt := 76) hx hb dX7_decides_65 (by decide) (fun z5 => ?_) (fun z5 => ?_)
      · refine lv_aload_n hx hb dX7_decides_76 rfl (lv_at hl 1 rfl) ?_
        refine lv_iload_n hx hb dX7_decides_77 rfl (lv_at hl 2 rfl) ?_
        refine lv_iload_n hx hb dX7_decides_78 rfl (lv_at hl 0 rfl) ?_
        refine cw_cVv (As := [.int a1, .int r2]) (rest := []) (wc := [(xm, c7 xm_25 xm_26 xm_27 xm_29 xm_30 xm_31 mm)]) (wr := []) ⟨hx, hb, hml, hown, hts⟩ (k7_lights l D cI cJ xm xm_25 xm_26 xm_27 xm_29 xm_30 xm_31 mm a1 r2) (cwV 2 hts gX7_decides_X7_lights rfl rfl rfl (by decide +kernel) ⟨Nat.le_of_ble_eq_true rfl, Nat.le_of_ble_eq_true rfl⟩) hK hN hP hD hS hA [0] [] rfl rfl (by decide) (by decide) (by decide) 0 (ci := 7) rfl rfl rfl rfl hl.1 rfl (Nat.le_of_ble_eq_true rfl) dX7_decides_79 ⟨Nat.le_of_ble_eq_true rfl, Nat.le_of_ble_eq_true rfl⟩ (fun u6 H locs hw hP hD hS => ?_)
        obtain ⟨v8, hv8⟩ : ∃ z : Nat → Int32, z = (s7_lights mm a1 r2) := ⟨_, rfl⟩
        have hP : va_P D vwCl [(xm, c7 xm_25 xm_26 xm_27 xm_29 xm_30 xm_31 v8)] H := by rw [hv8]; exact hP
        have hD : va_D A [(xm, c7 xm_25 xm_26 xm_27 xm_29 xm_30 xm_31 v8)] := by rw [hv8]; exact hD
        refine lv_goto (tgt := 150) hx hb dX7_decides_82 (by decide) ?_
        exact J39 v8 (by simp only [← hv8, if_neg z3, if_neg z4, if_pos z5]) _ _ hP hD hS
      · refine lv_aload_n hx hb dX7_decides_68 rfl (lv_at hl 1 rfl) ?_
        refine va_get (D := D) (ci := 7) (v := .int (mm 12)) (C := RX7) (T := TX7) (N := 35) hx hb hts i7 hown hK hP 0 rfl rfl 12 (by decide) lf77 (fun _ h9 => h9) rfl dX7_decides_69 ?_
        refine lv_iconst (v := 3) hx hb dX7_decides_72 (by decide) ?_
        refine lv_icmp_ne (tgt := 85) hx hb dX7_decides_73 (by decide) (fun z9 => ?_) (fun z9 => ?_)
        · refine lv_aload_n hx hb dX7_decides_85 rfl (lv_at hl 1 rfl) ?_
          refine va_get (D := D) (ci := 7) (v := .int (mm 12)) (C := RX7) (T := TX7) (N := 35) hx hb hts i7 hown hK hP 0 rfl rfl 12 (by decide) lf77 (fun _ h9 => h9) rfl dX7_decides_86 ?_
          refine lv_iconst (v := 4) hx hb dX7_decides_89 (by decide) ?_
          refine lv_icmp_ne (tgt := 102) hx hb dX7_decides_90 (by decide) (fun z10 => ?_) (fun z10 => ?_)
          · refine lv_aload_n hx hb dX7_decides_102 rfl (lv_at hl 1 rfl) ?_
            refine va_get (D := D) (ci := 7) (v := .int (mm 12)) (C := RX7) (T := TX7) (N := 35) hx hb hts i7 hown hK hP 0 rfl rfl 12 (by decide) lf77 (fun _ h9 => h9) rfl dX7_decides_103 ?_
            refine lv_iconst (v := 5) hx hb dX7_decides_106 (by decide) ?_
            refine lv_icmp_ne (tgt := 150) hx hb dX7_decides_107 (by decide) (fun z11 => ?_) (fun z11 => ?_)
            · exact J39 mm (by simp only [if_neg z3, if_neg z4, if_neg z5, if_neg z9, if_neg z10, if_neg z11]) _ _ hP hD hS
            · refine lv_aload_n hx hb dX7_decides_110 rfl (lv_at hl 1 rfl) ?_
              refine va_get (D := D) (ci := 7) (v := .int (mm 14)) (C := RX7) (T := TX7) (N := 35) hx hb hts i7 hown hK hP 0 rfl rfl 14 (by decide) lf103 (fun _ h9 => h9) rfl dX7_decides_111 ?_
              refine lv_aload_n hx hb dX7_decides_114 rfl (lv_at hl 1 rfl) ?_
              refine va_get (D := D) (ci := 7) (v := .int (mm 5)) (C := RX7) (T := TX7) (N := 35) hx hb hts i7 hown hK hP 0 rfl rfl 5 (by decide) lf22 (fun _ h9 => h9) rfl dX7_decides_115 ?_
              refine lv_icmp_lt (tgt := 150) hx hb dX7_decides_118 (by decide) (fun z12 => ?_) (fun z12 => ?_)
              · exact J39 mm (by simp only [if_neg z3, if_neg z4, if_neg z5, if_neg z9, if_neg z10, if_pos z11, if_pos z12]) _ _ hP hD hS
              · refine lv_aload_n hx hb dX7_decides_121 rfl (lv_at hl 1 rfl) ?_
                refine lv_aload_n hx hb dX7_decides_122 rfl (lv_at hl 1 rfl) ?_
                refine va_get (D := D) (ci := 7) (v := .int (mm 18)) (C := RX7) (T := TX7) (N := 35) hx hb hts i7 hown hK hP 0 rfl rfl 18 (by decide) lf87 (fun _ h9 => h9) rfl dX7_decides_123 ?_
                have J14 : ∀ (w15 : Int32), w15 = (if (mm 18) ≤ 0 then 0 else 6) → W p l e (cw_rm 3) s m args below meth c H locs 0 0 (Q) (F0 m 135 ls [.int w15, .ref xm]) := by
                  intro w15 hw15
                  refine lv_aload_n hx hb dX7_decides_135 rfl (lv_at hl 1 rfl) ?_
                  refine va_get (D := D) (ci := 7) (v := .int (mm 18)) (C := RX7) (T := TX7) (N := 35) hx hb hts i7 hown hK hP 0 rfl rfl 18 (by decide) lf87 (fun _ h9 => h9) rfl dX7_decides_136 ?_
                  have J17 : ∀ (w18 : Int32), w18 = (if (mm 18) ≤ 0 then 0 else 3) → W p l e (cw_rm 3) s m args below meth c H locs 0 0 (Q) (F0 m 147 ls [.int w18, .int w15, .ref xm]) := by
                    intro w18 hw18
                    refine cw_cVv (As := [.int w15, .int w18]) (rest := []) (wc := [(xm, c7 xm_25 xm_26 xm_27 xm_29 xm_30 xm_31 mm)]) (wr := []) ⟨hx, hb, hml, hown, hts⟩ (k7_begins l D cI cJ xm xm_25 xm_26 xm_27 xm_29 xm_30 xm_31 mm w15 w18) (cwV 2 hts gX7_decides_X7_begins rfl rfl rfl (by decide +kernel) ⟨Nat.le_of_ble_eq_true rfl, Nat.le_of_ble_eq_true rfl⟩) hK hN hP hD hS hA [0] [] rfl rfl (by decide) (by decide) (by decide) 0 (ci := 7) rfl rfl rfl rfl hl.1 rfl (Nat.le_of_ble_eq_true rfl) dX7_decides_147 ⟨Nat.le_of_ble_eq_true rfl, Nat.le_of_ble_eq_true rfl⟩ (fun u19 H locs hw hP hD hS => ?_)
                    obtain ⟨v21, hv21⟩ : ∃ z : Nat → Int32, z = (s7_begins mm w15 w18) := ⟨_, rfl⟩
                    have hP : va_P D vwCl [(xm, c7 xm_25 xm_26 xm_27 xm_29 xm_30 xm_31 v21)] H := by rw [hv21]; exact hP
                    have hD : va_D A [(xm, c7 xm_25 xm_26 xm_27 xm_29 xm_30 xm_31 v21)] := by rw [hv21]; exact hD
                    exact J39 v21 (by simp only [← hw15, ← hw18, ← hv21, if_neg z3, if_neg z4, if_neg z5, if_neg z9, if_neg z10, if_pos z11, if_neg z12]) _ _ hP hD hS
                  refine lv_if_le (tgt := 146) hx hb dX7_decides_139 (by decide) (fun z16 => ?_) (fun z16 => ?_)
                  · refine lv_iconst (v := 0) hx hb dX7_decides_146 (by decide) ?_
                    exact J17 0 (by simp only [if_pos z16])
                  · refine lv_iconst (v := 3) hx hb dX7_decides_142 (by decide) ?_
                    refine lv_goto (tgt := 147) hx hb dX7_decides_143 (by decide) ?_
                    exact J17 3 (by simp only [if_neg z16])
                refine lv_if_le (tgt := 134) hx hb dX7_decides_126 (by decide) (fun z13 => ?_) (fun z13 => ?_)
                · refine lv_iconst (v := 0) hx hb dX7_decides_134 (by decide) ?_
                  exact J14 0 (by simp only [if_pos z13])
                · refine lv_bipush (v := 6) hx hb dX7_decides_129 (by decide) ?_
                  refine lv_goto (tgt := 135) hx hb dX7_decides_131 (by decide) ?_
                  exact J14 6 (by simp only [if_neg z13])
          · refine lv_aload_n hx hb dX7_decides_93 rfl (lv_at hl 1 rfl) ?_
            refine lv_iload_n hx hb dX7_decides_94 rfl (lv_at hl 2 rfl) ?_
            refine lv_iload_n hx hb dX7_decides_95 rfl (lv_at hl 0 rfl) ?_
            refine cw_cVv (As := [.int a1, .int r2]) (rest := []) (wc := [(xm, c7 xm_25 xm_26 xm_27 xm_29 xm_30 xm_31 mm)]) (wr := []) ⟨hx, hb, hml, hown, hts⟩ (k7_runs l D cI cJ xm xm_25 xm_26 xm_27 xm_29 xm_30 xm_31 mm a1 r2 (by (try simp only [hr2]); (repeat' split) <;> first | exact Or.inl rfl | exact Or.inr rfl | assumption | exact z7_has _ _)) (cwV 2 hts gX7_decides_X7_runs rfl rfl rfl (by decide +kernel) ⟨Nat.le_of_ble_eq_true rfl, Nat.le_of_ble_eq_true rfl⟩) hK hN hP hD hS hA [0] [] rfl rfl (by decide) (by decide) (by decide) 0 (ci := 7) rfl rfl rfl rfl hl.1 rfl (Nat.le_of_ble_eq_true rfl) dX7_decides_96 ⟨Nat.le_of_ble_eq_true rfl, Nat.le_of_ble_eq_true rfl⟩ (fun u22 H locs hw hP hD hS => ?_)
            obtain ⟨v24, hv24⟩ : ∃ z : Nat → Int32, z = (s7_runs mm a1 r2) := ⟨_, rfl⟩
            have hP : va_P D vwCl [(xm, c7 xm_25 xm_26 xm_27 xm_29 xm_30 xm_31 v24)] H := by rw [hv24]; exact hP
            have hD : va_D A [(xm, c7 xm_25 xm_26 xm_27 xm_29 xm_30 xm_31 v24)] := by rw [hv24]; exact hD
            refine lv_goto (tgt := 150) hx hb dX7_decides_99 (by decide) ?_
            exact J39 v24 (by simp only [← hv24, if_neg z3, if_neg z4, if_neg z5, if_neg z9, if_pos z10]) _ _ hP hD hS
        · refine lv_aload_n hx hb dX7_decides_76 rfl (lv_at hl 1 rfl) ?_
          refine lv_iload_n hx hb dX7_decides_77 rfl (lv_at hl 2 rfl) ?_
          refine lv_iload_n hx hb dX7_decides_78 rfl (lv_at hl 0 rfl) ?_
          refine cw_cVv (As := [.int a1, .int r2]) (rest := []) (wc := [(xm, c7 xm_25 xm_26 xm_27 xm_29 xm_30 xm_31 mm)]) (wr := []) ⟨hx, hb, hml, hown, hts⟩ (k7_lights l D cI cJ xm xm_25 xm_26 xm_27 xm_29 xm_30 xm_31 mm a1 r2) (cwV 2 hts gX7_decides_X7_lights rfl rfl rfl (by decide +kernel) ⟨Nat.le_of_ble_eq_true rfl, Nat.le_of_ble_eq_true rfl⟩) hK hN hP hD hS hA [0] [] rfl rfl (by decide) (by decide) (by decide) 0 (ci := 7) rfl rfl rfl rfl hl.1 rfl (Nat.le_of_ble_eq_true rfl) dX7_decides_79 ⟨Nat.le_of_ble_eq_true rfl, Nat.le_of_ble_eq_true rfl⟩ (fun u25 H locs hw hP hD hS => ?_)
          obtain ⟨v27, hv27⟩ : ∃ z : Nat → Int32, z = (s7_lights mm a1 r2) := ⟨_, rfl⟩
          have hP : va_P D vwCl [(xm, c7 xm_25 xm_26 xm_27 xm_29 xm_30 xm_31 v27)] H := by rw [hv27]; exact hP
          have hD : va_D A [(xm, c7 xm_25 xm_26 xm_27 xm_29 xm_30 xm_31 v27)] := by rw [hv27]; exact hD
          refine lv_goto (tgt := 150) hx hb dX7_decides_82 (by decide) ?_
          exact J39 v27 (by simp only [← hv27, if_neg z3, if_neg z4, if_neg z5, if_pos z9]) _ _ hP hD hS
    · refine lv_aload_n hx hb dX7_decides_51 rfl (lv_at hl 1 rfl) ?_
      refine lv_iload_n hx hb dX7_decides_52 rfl (lv_at hl 2 rfl) ?_
      refine lv_iload_n hx hb dX7_decides_53 rfl (lv_at hl 0 rfl) ?_
      refine cw_cVv (As := [.int a1, .int r2]) (rest := []) (wc := [(xm, c7 xm_25 xm_26 xm_27 xm_29 xm_30 xm_31 mm)]) (wr := []) ⟨hx, hb, hml, hown, hts⟩ (k7_purges l D cI cJ xm xm_25 xm_26 xm_27 xm_29 xm_30 xm_31 mm a1 r2) (cwV 2 hts gX7_decides_X7_purges rfl rfl rfl (by decide +kernel) ⟨Nat.le_of_ble_eq_true rfl, Nat.le_of_ble_eq_true rfl⟩) hK hN hP hD hS hA [0] [] rfl rfl (by decide) (by decide) (by decide) 0 (ci := 7) rfl rfl rfl rfl hl.1 rfl (Nat.le_of_ble_eq_true rfl) dX7_decides_54 ⟨Nat.le_of_ble_eq_true rfl, Nat.le_of_ble_eq_true rfl⟩ (fun u28 H locs hw hP hD hS => ?_)
      obtain ⟨v30, hv30⟩ : ∃ z : Nat → Int32, z = (s7_purges mm a1 r2) := ⟨_, rfl⟩
      have hP : va_P D vwCl [(xm, c7 xm_25 xm_26 xm_27 xm_29 xm_30 xm_31 v30)] H := by rw [hv30]; exact hP
      have hD : va_D A [(xm, c7 xm_25 xm_26 xm_27 xm_29 xm_30 xm_31 v30)] := by rw [hv30]; exact hD
      refine lv_goto (tgt := 150) hx hb dX7_decides_57 (by decide) ?_
      exact J39 v30 (by simp only [← hv30, if_neg z3, if_pos z4]) _ _ hP hD hS
  · refine lv_aload_n hx hb dX7_decides_13 rfl (lv_at hl 1 rfl) ?_
    refine va_get (D := D) (ci := 7) (v := .int (mm 18)) (C := RX7) (T := TX7) (N := 35) hx hb hts i7 hown hK hP 0 rfl rfl 18 (by decide) lf87 (fun _ h9 => h9) rfl dX7_decides_14 ?_
    refine lv_if_le (tgt := 30) hx hb dX7_decides_17 (by decide) (fun z31 => ?_) (fun z31 => ?_)
    · refine lv_iload_n hx hb dX7_decides_30 rfl (lv_at hl 0 rfl) ?_
      refine lv_if_eq (tgt := 150) hx hb dX7_decides_31 (by decide) (fun z32 => ?_) (fun z32 => ?_)
      · exact J39 mm (by simp only [if_pos z3, if_pos z31, if_pos z32]) _ _ hP hD hS
      · refine lv_aload_n hx hb dX7_decides_34 rfl (lv_at hl 1 rfl) ?_
        refine lv_iconst (v := 1) hx hb dX7_decides_35 (by decide) ?_
        refine lv_iconst (v := 0) hx hb dX7_decides_36 (by decide) ?_
        refine cw_cVv (As := [.int 1, .int 0]) (rest := []) (wc := [(xm, c7 xm_25 xm_26 xm_27 xm_29 xm_30 xm_31 mm)]) (wr := []) ⟨hx, hb, hml, hown, hts⟩ (k7_begins l D cI cJ xm xm_25 xm_26 xm_27 xm_29 xm_30 xm_31 mm 1 0) (cwV 2 hts gX7_decides_X7_begins rfl rfl rfl (by decide +kernel) ⟨Nat.le_of_ble_eq_true rfl, Nat.le_of_ble_eq_true rfl⟩) hK hN hP hD hS hA [0] [] rfl rfl (by decide) (by decide) (by decide) 0 (ci := 7) rfl rfl rfl rfl hl.1 rfl (Nat.le_of_ble_eq_true rfl) dX7_decides_37 ⟨Nat.le_of_ble_eq_true rfl, Nat.le_of_ble_eq_true rfl⟩ (fun u33 H locs hw hP hD hS => ?_)
        obtain ⟨v35, hv35⟩ : ∃ z : Nat → Int32, z = (s7_begins mm 1 0) := ⟨_, rfl⟩
        have hP : va_P D vwCl [(xm, c7 xm_25 xm_26 xm_27 xm_29 xm_30 xm_31 v35)] H := by rw [hv35]; exact hP
        have hD : va_D A [(xm, c7 xm_25 xm_26 xm_27 xm_29 xm_30 xm_31 v35)] := by rw [hv35]; exact hD
        refine lv_goto (tgt := 150) hx hb dX7_decides_40 (by decide) ?_
        exact J39 v35 (by simp only [← hv35, if_pos z3, if_pos z31, if_neg z32]) _ _ hP hD hS
    · refine lv_aload_n hx hb dX7_decides_20 rfl (lv_at hl 1 rfl) ?_
      refine lv_bipush (v := 6) hx hb dX7_decides_21 (by decide) ?_
      refine lv_iconst (v := 3) hx hb dX7_decides_23 (by decide) ?_
      refine cw_cVv (As := [.int 6, .int 3]) (rest := []) (wc := [(xm, c7 xm_25 xm_26 xm_27 xm_29 xm_30 xm_31 mm)]) (wr := []) ⟨hx, hb, hml, hown, hts⟩ (k7_begins l D cI cJ xm xm_25 xm_26 xm_27 xm_29 xm_30 xm_31 mm 6 3) (cwV 2 hts gX7_decides_X7_begins rfl rfl rfl (by decide +kernel) ⟨Nat.le_of_ble_eq_true rfl, Nat.le_of_ble_eq_true rfl⟩) hK hN hP hD hS hA [0] [] rfl rfl (by decide) (by decide) (by decide) 0 (ci := 7) rfl rfl rfl rfl hl.1 rfl (Nat.le_of_ble_eq_true rfl) dX7_decides_24 ⟨Nat.le_of_ble_eq_true rfl, Nat.le_of_ble_eq_true rfl⟩ (fun u36 H locs hw hP hD hS => ?_)
      obtain ⟨v38, hv38⟩ : ∃ z : Nat → Int32, z = (s7_begins mm 6 3) := ⟨_, rfl⟩
      have hP : va_P D vwCl [(xm, c7 xm_25 xm_26 xm_27 xm_29 xm_30 xm_31 v38)] H := by rw [hv38]; exact hP
      have hD : va_D A [(xm, c7 xm_25 xm_26 xm_27 xm_29 xm_30 xm_31 v38)] := by rw [hv38]; exact hD
      refine lv_goto (tgt := 150) hx hb dX7_decides_27 (by decide) ?_
      exact J39 v38 (by simp only [← hv38, if_pos z3, if_neg z31]) _ _ hP hD hS

set_option maxHeartbeats 4000000 in
set_option maxRecDepth 100000 in
theorem k7_plays (l : Launch) (D : va_G) (cI cJ : ClassId) (xm : Nat) (xm_25 xm_26 xm_27 xm_29 xm_30 xm_31 : Value) (mm : Nat → Int32) (a1 : Int32) (hck : ¬ mm 8 = 0) : cw_Mv l yX7_plays wsX7_plays (cw_rm 4) D [(cI, .int), (cJ, .long)] [.ref xm, .int a1] [(xm, c7 xm_25 xm_26 xm_27 xm_29 xm_30 xm_31 mm)] 0 0 (fun _ : Unit => True) (fun _ : Unit => [(xm, c7 xm_25 xm_26 xm_27 xm_29 xm_30 xm_31 (s7_plays mm a1))]) := by
  refine cw_ofv (cc := cX7_plays) (maxL := 2) (ret := none) (by decide) rfl (Nat.le_of_ble_eq_true rfl) rfl ?_
  intro p e s m args below meth c A ls Q hin0 hret
  obtain ⟨hx, hb, hr, hml, hts, hown, hlocks, hin, hP, hK, hD, hN, hA, hl⟩ := hin0
  have hS : va_S A s.heap s.heap [] := va_S.rf
  have hl : lv_has ls 2 [(0, .ref xm), (1, .int a1)] := hl
  have lf127 := hts (.fieldLink RX7 127 "BurnerlineModel" "pilotRow" "I") (by decide +kernel)
  have i7 : ∀ w ∈ wsX70, w ∈ wsX7_plays := by decide +kernel
  have lf133 := hts (.fieldLink RX7 133 "BurnerlineModel" "mainRow" "I") (by decide +kernel)
  have lf103 := hts (.fieldLink RX7 103 "BurnerlineModel" "time" "I") (by decide +kernel)
  refine lv_aload_n hx hb dX7_plays_0 rfl (lv_at hl 0 rfl) ?_
  refine lv_aload_n hx hb dX7_plays_1 rfl (lv_at hl 0 rfl) ?_
  refine lv_iload_n hx hb dX7_plays_2 rfl (lv_at hl 1 rfl) ?_
  refine lv_iconst (v := 0) hx hb dX7_plays_3 (by decide) ?_
  refine lv_aload_n hx hb dX7_plays_4 rfl (lv_at hl 0 rfl) ?_
  refine va_get (D := D) (ci := 7) (v := .int (mm 19)) (C := RX7) (T := TX7) (N := 35) hx hb hts i7 hown hK hP 0 rfl rfl 19 (by decide) lf127 (fun _ h9 => h9) rfl dX7_plays_5 ?_
  refine cw_cVi (As := [.int a1, .int 0, .int (mm 19)]) (rest := [.ref xm]) (wc := [(xm, c7 xm_25 xm_26 xm_27 xm_29 xm_30 xm_31 mm)]) (wr := []) ⟨hx, hb, hml, hown, hts⟩ (k7_looks l D cI cJ xm xm_25 xm_26 xm_27 xm_29 xm_30 xm_31 mm a1 0 (mm 19)) (cwV 3 hts gX7_plays_X7_looks rfl rfl rfl (by decide +kernel) ⟨Nat.le_of_ble_eq_true rfl, Nat.le_of_ble_eq_true rfl⟩) hK hN hP hD hS hA [0] [] rfl rfl (by decide) (by decide) (by decide) 0 (ci := 7) rfl rfl rfl rfl hl.1 rfl (Nat.le_of_ble_eq_true rfl) dX7_plays_8 ⟨Nat.le_of_ble_eq_true rfl, Nat.le_of_ble_eq_true rfl⟩ (fun r2 u1 H locs hw hP hD hS => ?_)
  have hr2 : r2 = ((s7_looks mm a1 0 (mm 19)).1) := hw
  obtain ⟨v3, hv3⟩ : ∃ z : Nat → Int32, z = ((s7_looks mm a1 0 (mm 19)).2) := ⟨_, rfl⟩
  have hP : va_P D vwCl [(xm, c7 xm_25 xm_26 xm_27 xm_29 xm_30 xm_31 v3)] H := by rw [hv3]; exact hP
  have hD : va_D A [(xm, c7 xm_25 xm_26 xm_27 xm_29 xm_30 xm_31 v3)] := by rw [hv3]; exact hD
  refine va_put (D := D) (ci := 7) (v := .int r2) (ty := .int) (C := RX7) (T := TX7) (N := 35) hx hb hts i7 tyX7 tyX7_ok nmX7 hown hK hP hD hS 0 rfl rfl 19 (by decide) lf127 (fun _ h9 => h9) rfl (by decide +kernel) rfl rfl (Nat.le_of_ble_eq_true rfl) dX7_plays_11 (fun H locs hP hD hS => ?_)
  have hP : va_P D vwCl [(xm, c7 xm_25 xm_26 xm_27 xm_29 xm_30 xm_31 (upd v3 19 r2))] H := (congrArg (fun z9 => va_P D vwCl [(xm, .inr (7, z9))] H) (cs7_19 xm_25 xm_26 xm_27 xm_29 xm_30 xm_31 v3 r2)).mp hP
  have hD : va_D A [(xm, c7 xm_25 xm_26 xm_27 xm_29 xm_30 xm_31 (upd v3 19 r2))] := (congrArg (fun z9 => va_D A [(xm, .inr (7, z9))]) (cs7_19 xm_25 xm_26 xm_27 xm_29 xm_30 xm_31 v3 r2)).mp hD
  refine lv_aload_n hx hb dX7_plays_14 rfl (lv_at hl 0 rfl) ?_
  refine lv_aload_n hx hb dX7_plays_15 rfl (lv_at hl 0 rfl) ?_
  refine lv_iload_n hx hb dX7_plays_16 rfl (lv_at hl 1 rfl) ?_
  refine lv_iconst (v := 1) hx hb dX7_plays_17 (by decide) ?_
  refine lv_aload_n hx hb dX7_plays_18 rfl (lv_at hl 0 rfl) ?_
  refine va_get (D := D) (ci := 7) (v := .int ((upd v3 19 r2) 20)) (C := RX7) (T := TX7) (N := 35) hx hb hts i7 hown hK hP 0 rfl rfl 20 (by decide) lf133 (fun _ h9 => h9) rfl dX7_plays_19 ?_
  refine cw_topi (y := (v3 20)) (cw_updn _ _ (by decide)) ?_
  refine cw_cVi (As := [.int a1, .int 1, .int (v3 20)]) (rest := [.ref xm]) (wc := [(xm, c7 xm_25 xm_26 xm_27 xm_29 xm_30 xm_31 (upd v3 19 r2))]) (wr := []) ⟨hx, hb, hml, hown, hts⟩ (k7_looks l D cI cJ xm xm_25 xm_26 xm_27 xm_29 xm_30 xm_31 (upd v3 19 r2) a1 1 (v3 20)) (cwV 3 hts gX7_plays_X7_looks rfl rfl rfl (by decide +kernel) ⟨Nat.le_of_ble_eq_true rfl, Nat.le_of_ble_eq_true rfl⟩) hK hN hP hD hS hA [0] [] rfl rfl (by decide) (by decide) (by decide) 0 (ci := 7) rfl rfl rfl rfl hl.1 rfl (Nat.le_of_ble_eq_true rfl) dX7_plays_22 ⟨Nat.le_of_ble_eq_true rfl, Nat.le_of_ble_eq_true rfl⟩ (fun r5 u4 H locs hw hP hD hS => ?_)
  have hr5 : r5 = ((s7_looks (upd v3 19 r2) a1 1 (v3 20)).1) := hw
  obtain ⟨v6, hv6⟩ : ∃ z : Nat → Int32, z = ((s7_looks (upd v3 19 r2) a1 1 (v3 20)).2) := ⟨_, rfl⟩
  have hP : va_P D vwCl [(xm, c7 xm_25 xm_26 xm_27 xm_29 xm_30 xm_31 v6)] H := by rw [hv6]; exact hP
  have hD : va_D A [(xm, c7 xm_25 xm_26 xm_27 xm_29 xm_30 xm_31 v6)] := by rw [hv6]; exact hD
  refine va_put (D := D) (ci := 7) (v := .int r5) (ty := .int) (C := RX7) (T := TX7) (N := 35) hx hb hts i7 tyX7 tyX7_ok nmX7 hown hK hP hD hS 0 rfl rfl 20 (by decide) lf133 (fun _ h9 => h9) rfl (by decide +kernel) rfl rfl (Nat.le_of_ble_eq_true rfl) dX7_plays_25 (fun H locs hP hD hS => ?_)
  have hP : va_P D vwCl [(xm, c7 xm_25 xm_26 xm_27 xm_29 xm_30 xm_31 (upd v6 20 r5))] H := (congrArg (fun z9 => va_P D vwCl [(xm, .inr (7, z9))] H) (cs7_20 xm_25 xm_26 xm_27 xm_29 xm_30 xm_31 v6 r5)).mp hP
  have hD : va_D A [(xm, c7 xm_25 xm_26 xm_27 xm_29 xm_30 xm_31 (upd v6 20 r5))] := (congrArg (fun z9 => va_D A [(xm, .inr (7, z9))]) (cs7_20 xm_25 xm_26 xm_27 xm_29 xm_30 xm_31 v6 r5)).mp hD
  refine lv_aload_n hx hb dX7_plays_28 rfl (lv_at hl 0 rfl) ?_
  refine cw_cVv (As := []) (rest := []) (wc := [(xm, c7 xm_25 xm_26 xm_27 xm_29 xm_30 xm_31 (upd v6 20 r5))]) (wr := []) ⟨hx, hb, hml, hown, hts⟩ (k7_goes l D cI cJ xm xm_25 xm_26 xm_27 xm_29 xm_30 xm_31 (upd v6 20 r5)) (cwV 0 hts gX7_plays_X7_goes rfl rfl rfl (by decide +kernel) ⟨Nat.le_of_ble_eq_true rfl, Nat.le_of_ble_eq_true rfl⟩) hK hN hP hD hS hA [0] [] rfl rfl (by decide) (by decide) (by decide) 0 (ci := 7) rfl rfl rfl rfl hl.1 rfl (Nat.le_of_ble_eq_true rfl) dX7_plays_29 ⟨Nat.le_of_ble_eq_true rfl, Nat.le_of_ble_eq_true rfl⟩ (fun u7 H locs hw hP hD hS => ?_)
  obtain ⟨v9, hv9⟩ : ∃ z : Nat → Int32, z = (s7_goes (upd v6 20 r5)) := ⟨_, rfl⟩
  have hP : va_P D vwCl [(xm, c7 xm_25 xm_26 xm_27 xm_29 xm_30 xm_31 v9)] H := by rw [hv9]; exact hP
  have hD : va_D A [(xm, c7 xm_25 xm_26 xm_27 xm_29 xm_30 xm_31 v9)] := by rw [hv9]; exact hD
  refine lv_aload_n hx hb dX7_plays_32 rfl (lv_at hl 0 rfl) ?_
  refine lv_dup hx hb dX7_plays_33 rfl ?_
  refine va_get (D := D) (ci := 7) (v := .int (v9 14)) (C := RX7) (T := TX7) (N := 35) hx hb hts i7 hown hK hP 0 rfl rfl 14 (by decide) lf103 (fun _ h9 => h9) rfl dX7_plays_34 ?_
  refine lv_iconst (v := 1) hx hb dX7_plays_37 (by decide) ?_
  refine lv_iadd hx hb dX7_plays_38 ?_
  refine va_put (D := D) (ci := 7) (v := .int ((v9 14) + 1)) (ty := .int) (C := RX7) (T := TX7) (N := 35) hx hb hts i7 tyX7 tyX7_ok nmX7 hown hK hP hD hS 0 rfl rfl 14 (by decide) lf103 (fun _ h9 => h9) rfl (by decide +kernel) rfl rfl (Nat.le_of_ble_eq_true rfl) dX7_plays_39 (fun H locs hP hD hS => ?_)
  have hP : va_P D vwCl [(xm, c7 xm_25 xm_26 xm_27 xm_29 xm_30 xm_31 (upd v9 14 ((v9 14) + 1)))] H := (congrArg (fun z9 => va_P D vwCl [(xm, .inr (7, z9))] H) (cs7_14 xm_25 xm_26 xm_27 xm_29 xm_30 xm_31 v9 ((v9 14) + 1))).mp hP
  have hD : va_D A [(xm, c7 xm_25 xm_26 xm_27 xm_29 xm_30 xm_31 (upd v9 14 ((v9 14) + 1)))] := (congrArg (fun z9 => va_D A [(xm, .inr (7, z9))]) (cs7_14 xm_25 xm_26 xm_27 xm_29 xm_30 xm_31 v9 ((v9 14) + 1))).mp hD
  refine lv_aload_n hx hb dX7_plays_42 rfl (lv_at hl 0 rfl) ?_
  refine lv_iload_n hx hb dX7_plays_43 rfl (lv_at hl 1 rfl) ?_
  refine cw_cVv (As := [.int a1]) (rest := []) (wc := [(xm, c7 xm_25 xm_26 xm_27 xm_29 xm_30 xm_31 (upd v9 14 ((v9 14) + 1)))]) (wr := []) ⟨hx, hb, hml, hown, hts⟩ (k7_decides l D cI cJ xm xm_25 xm_26 xm_27 xm_29 xm_30 xm_31 (upd v9 14 ((v9 14) + 1)) a1 (by simp [hv9, hr5, hv6, hr2, hv3, upd, f7_goes8, f7_looks8, hck])) (cwV 1 hts gX7_plays_X7_decides rfl rfl rfl (by decide +kernel) ⟨Nat.le_of_ble_eq_true rfl, Nat.le_of_ble_eq_true rfl⟩) hK hN hP hD hS hA [0] [] rfl rfl (by decide) (by decide) (by decide) 0 (ci := 7) rfl rfl rfl rfl hl.1 rfl (Nat.le_of_ble_eq_true rfl) dX7_plays_44 ⟨Nat.le_of_ble_eq_true rfl, Nat.le_of_ble_eq_true rfl⟩ (fun u10 H locs hw hP hD hS => ?_)
  obtain ⟨v12, hv12⟩ : ∃ z : Nat → Int32, z = (s7_decides (upd v9 14 ((v9 14) + 1)) a1) := ⟨_, rfl⟩
  have hP : va_P D vwCl [(xm, c7 xm_25 xm_26 xm_27 xm_29 xm_30 xm_31 v12)] H := by rw [hv12]; exact hP
  have hD : va_D A [(xm, c7 xm_25 xm_26 xm_27 xm_29 xm_30 xm_31 v12)] := by rw [hv12]; exact hD
  have hsp : (s7_plays mm a1) = (v12 : (Nat → Int32)) := by simp only [s7_plays, ← hv3, ← hr2, ← hv6, ← hr5, ← hv9, ← hv12]
  exact hret _ _ _ _ _ _ _ hP hD hS dX7_plays_47 ⟨(), trivial, (by rw [hsp])⟩ (Nat.le_of_ble_eq_true rfl) (Nat.le_of_ble_eq_true rfl)
