def sL_tries (b : Nat → Int32) (st : Nat → Int32) (f : Nat → Int32) (a1 : Int32) (a2 : Int32) (a3 : Int32) (a4 : Int32) (a5 : Int32) : Int32 × Int32 × (Nat → Int32) := (if a1 = 0 then (if ((s6_setTimes b st f a2 a3 a4 a5).1) = 0 then (0, 0, ((s6_setTimes b st f a2 a3 a4 a5).2)) else (((s6_setTimes b st f a2 a3 a4 a5).1), 0, st)) else (if a1 = 1 then (if ((s6_setEyes b st f a2 a3 a4).1) = 0 then (0, 0, ((s6_setEyes b st f a2 a3 a4).2)) else (((s6_setEyes b st f a2 a3 a4).1), 0, st)) else (if ((s6_setFurnace b st f a2 a3 a4).1) = 0 then (0, 0, ((s6_setFurnace b st f a2 a3 a4).2)) else (((s6_setFurnace b st f a2 a3 a4).1), 0, st))))

def sL_sets (b : Nat → Int32) (st : Nat → Int32) (f : Nat → Int32) (a1 : Int32) (a2 : Int32) (a3 : Int32) (a4 : Int32) (a5 : Int32) : Int32 × (Nat → Int32) := (if ((sL_tries b st f a1 a2 a3 a4 a5).1) = 0 then (let r2 : Int32 := ((sL_tries b st f a1 a2 a3 a4 a5).2.1); (r2, ((sL_tries b st f a1 a2 a3 a4 a5).2.2))) else (if ((sL_tries b st f a1 a2 a3 a4 a5).1) = 1 then ((-102), st) else ((-103), st)))

set_option maxHeartbeats 4000000 in
set_option maxRecDepth 100000 in
theorem kL_tries (l : Launch) (hlt : l.stackTraces = false) (D : va_G) (cI cJ : ClassId) (xb xs xf : Nat) (xb_2 xb_3 xb_4 xf_0 xf_1 xf_2 : Value) (b : Nat → Int32) (st : Nat → Int32) (f : Nat → Int32) (a1 : Int32) (a2 : Int32) (a3 : Int32) (a4 : Int32) (a5 : Int32) : cw_Xi l yL_tries wsL_tries (cw_rx 2) D [(cI, .int)] [.ref xb, .int a1, .int a2, .int a3, .int a4, .int a5] [(xb, c6 (.ref xs) (.ref xf) xb_2 xb_3 xb_4 b), (xs, c5 st), (xf, c2 xf_0 xf_1 xf_2 f)] 1 6 (fun r (_ : Unit) => ((sL_tries b st f a1 a2 a3 a4 a5).1) = 0 ∧ r = ((sL_tries b st f a1 a2 a3 a4 a5).2.1)) (fun _ : Unit => [(xb, c6 (.ref xs) (.ref xf) xb_2 xb_3 xb_4 b), (xs, c5 ((sL_tries b st f a1 a2 a3 a4 a5).2.2)), (xf, c2 xf_0 xf_1 xf_2 f)]) (fun E => (((sL_tries b st f a1 a2 a3 a4 a5).1) = 1 ∧ E = "java/lang/IllegalArgumentException") ∨ (((sL_tries b st f a1 a2 a3 a4 a5).1) = 2 ∧ E = "java/lang/IllegalStateException")) := by
  refine cw_ofXi (cc := cL_tries) (maxL := 6) (ret := (some .int)) (by decide) rfl (Nat.le_of_ble_eq_true rfl) rfl ?_
  intro p e s m args below meth c A ls Q hin0 hret htab hZ hStr hQ
  obtain ⟨hx, hb, hr, hml, hts, hown, hlocks, hin, hP, hK, hD, hN, hA, hl⟩ := hin0
  have hS : va_S A s.heap s.heap [] := va_S.rf
  have hl : lv_has ls 6 [(0, .ref xb), (1, .int a1), (2, .int a2), (3, .int a3), (4, .int a4), (5, .int a5)] := hl
  refine lv_iload_n hx hb dL_tries_0 rfl (lv_at hl 1 rfl) ?_
  refine lv_if_ne (tgt := 17) hx hb dL_tries_1 (by decide) (fun z1 => ?_) (fun z1 => ?_)
  · refine lv_iload_n hx hb dL_tries_17 rfl (lv_at hl 1 rfl) ?_
    refine lv_iconst (v := 1) hx hb dL_tries_18 (by decide) ?_
    refine lv_icmp_ne (tgt := 33) hx hb dL_tries_19 (by decide) (fun z13 => ?_) (fun z13 => ?_)
    · refine lv_aload_n hx hb dL_tries_33 rfl (lv_at hl 0 rfl) ?_
      refine lv_iload_n hx hb dL_tries_34 rfl (lv_at hl 2 rfl) ?_
      refine lv_iload_n hx hb dL_tries_35 rfl (lv_at hl 3 rfl) ?_
      refine lv_iload hx hb dL_tries_36 (lv_at hl 4 rfl) ?_
      refine cw_cVXv (As := [.int a2, .int a3, .int a4]) (rest := []) (wc := [(xb, c6 (.ref xs) (.ref xf) xb_2 xb_3 xb_4 b), (xs, c5 st), (xf, c2 xf_0 xf_1 xf_2 f)]) (wr := []) ⟨hx, hb, hml, hown, hts⟩ (k6_setFurnace l hlt D cI cJ xb xs xf xb_2 xb_3 xb_4 xf_0 xf_1 xf_2 b st f a2 a3 a4) (cwV 3 hts gL_tries_X6_setFurnace rfl rfl rfl (by decide +kernel) ⟨Nat.le_of_ble_eq_true rfl, Nat.le_of_ble_eq_true rfl⟩) hK hN hP hD hS hA hZ hStr [0, 1, 2] [] rfl rfl (by decide) (by decide) (by decide) 0 (ci := 6) rfl rfl rfl rfl hl.1 rfl (Nat.le_of_ble_eq_true rfl) dL_tries_38 ⟨Nat.le_of_ble_eq_true rfl, Nat.le_of_ble_eq_true rfl⟩ (fun E ce q9 H locs hxp hP hD hS hce hcv hcl => ?_) (fun u23 H locs hw hP hD hS => ?_)
      · have z21 : ¬ ((s6_setFurnace b st f a2 a3 a4).1) = 0 := by rcases hxp with hc9 | hc9 <;> (rw [hc9.1]; decide)
        have hsp : (sL_tries b st f a1 a2 a3 a4 a5) = ((((s6_setFurnace b st f a2 a3 a4).1), 0, st) : Int32 × Int32 × (Nat → Int32)) := by simp only [sL_tries, if_neg z1, if_neg z13, if_neg z21]
        exact cw_out hQ htab hlocks hS hP hD [0, 1, 2] rfl (by decide) hce hcv hcl (by rw [hsp]; exact hxp) (Nat.le_of_ble_eq_true rfl) (Nat.le_of_ble_eq_true rfl)
      · have z21 : ((s6_setFurnace b st f a2 a3 a4).1) = 0 := hw
        have hP : va_P D vwCl [(xb, c6 (.ref xs) (.ref xf) xb_2 xb_3 xb_4 b), (xs, c5 ((s6_setFurnace b st f a2 a3 a4).2)), (xf, c2 xf_0 xf_1 xf_2 f)] H := hP
        have hD : va_D A [(xb, c6 (.ref xs) (.ref xf) xb_2 xb_3 xb_4 b), (xs, c5 ((s6_setFurnace b st f a2 a3 a4).2)), (xf, c2 xf_0 xf_1 xf_2 f)] := hD
        refine lv_iconst (v := 0) hx hb dL_tries_41 (by decide) ?_
        have hsp : (sL_tries b st f a1 a2 a3 a4 a5) = ((0, 0, ((s6_setFurnace b st f a2 a3 a4).2)) : Int32 × Int32 × (Nat → Int32)) := by simp only [sL_tries, if_neg z1, if_neg z13, if_pos z21]
        exact hret _ _ _ _ _ _ _ _ hP hD hS dL_tries_42 rfl ⟨(), ⟨by rw [hsp], by rw [hsp]⟩, (by rw [hsp])⟩ (Nat.le_of_ble_eq_true rfl) (Nat.le_of_ble_eq_true rfl)
    · refine lv_aload_n hx hb dL_tries_22 rfl (lv_at hl 0 rfl) ?_
      refine lv_iload_n hx hb dL_tries_23 rfl (lv_at hl 2 rfl) ?_
      refine lv_iload_n hx hb dL_tries_24 rfl (lv_at hl 3 rfl) ?_
      refine lv_iload hx hb dL_tries_25 (lv_at hl 4 rfl) ?_
      refine cw_cVXv (As := [.int a2, .int a3, .int a4]) (rest := []) (wc := [(xb, c6 (.ref xs) (.ref xf) xb_2 xb_3 xb_4 b), (xs, c5 st), (xf, c2 xf_0 xf_1 xf_2 f)]) (wr := []) ⟨hx, hb, hml, hown, hts⟩ (k6_setEyes l hlt D cI cJ xb xs xf xb_2 xb_3 xb_4 xf_0 xf_1 xf_2 b st f a2 a3 a4) (cwV 3 hts gL_tries_X6_setEyes rfl rfl rfl (by decide +kernel) ⟨Nat.le_of_ble_eq_true rfl, Nat.le_of_ble_eq_true rfl⟩) hK hN hP hD hS hA hZ hStr [0, 1, 2] [] rfl rfl (by decide) (by decide) (by decide) 0 (ci := 6) rfl rfl rfl rfl hl.1 rfl (Nat.le_of_ble_eq_true rfl) dL_tries_27 ⟨Nat.le_of_ble_eq_true rfl, Nat.le_of_ble_eq_true rfl⟩ (fun E ce q9 H locs hxp hP hD hS hce hcv hcl => ?_) (fun u26 H locs hw hP hD hS => ?_)
      · have z24 : ¬ ((s6_setEyes b st f a2 a3 a4).1) = 0 := by rcases hxp with hc9 | hc9 <;> (rw [hc9.1]; decide)
        have hsp : (sL_tries b st f a1 a2 a3 a4 a5) = ((((s6_setEyes b st f a2 a3 a4).1), 0, st) : Int32 × Int32 × (Nat → Int32)) := by simp only [sL_tries, if_neg z1, if_pos z13, if_neg z24]
        exact cw_out hQ htab hlocks hS hP hD [0, 1, 2] rfl (by decide) hce hcv hcl (by rw [hsp]; exact hxp) (Nat.le_of_ble_eq_true rfl) (Nat.le_of_ble_eq_true rfl)
      · have z24 : ((s6_setEyes b st f a2 a3 a4).1) = 0 := hw
        have hP : va_P D vwCl [(xb, c6 (.ref xs) (.ref xf) xb_2 xb_3 xb_4 b), (xs, c5 ((s6_setEyes b st f a2 a3 a4).2)), (xf, c2 xf_0 xf_1 xf_2 f)] H := hP
        have hD : va_D A [(xb, c6 (.ref xs) (.ref xf) xb_2 xb_3 xb_4 b), (xs, c5 ((s6_setEyes b st f a2 a3 a4).2)), (xf, c2 xf_0 xf_1 xf_2 f)] := hD
        refine lv_goto (tgt := 41) hx hb dL_tries_30 (by decide) ?_
        refine lv_iconst (v := 0) hx hb dL_tries_41 (by decide) ?_
        have hsp : (sL_tries b st f a1 a2 a3 a4 a5) = ((0, 0, ((s6_setEyes b st f a2 a3 a4).2)) : Int32 × Int32 × (Nat → Int32)) := by simp only [sL_tries, if_neg z1, if_pos z13, if_pos z24]
        exact hret _ _ _ _ _ _ _ _ hP hD hS dL_tries_42 rfl ⟨(), ⟨by rw [hsp], by rw [hsp]⟩, (by rw [hsp])⟩ (Nat.le_of_ble_eq_true rfl) (Nat.le_of_ble_eq_true rfl)
  · refine lv_aload_n hx hb dL_tries_4 rfl (lv_at hl 0 rfl) ?_
    refine lv_iload_n hx hb dL_tries_5 rfl (lv_at hl 2 rfl) ?_
    refine lv_iload_n hx hb dL_tries_6 rfl (lv_at hl 3 rfl) ?_
    refine lv_iload hx hb dL_tries_7 (lv_at hl 4 rfl) ?_
    refine lv_iload hx hb dL_tries_9 (lv_at hl 5 rfl) ?_
    refine cw_cVXv (As := [.int a2, .int a3, .int a4, .int a5]) (rest := []) (wc := [(xb, c6 (.ref xs) (.ref xf) xb_2 xb_3 xb_4 b), (xs, c5 st), (xf, c2 xf_0 xf_1 xf_2 f)]) (wr := []) ⟨hx, hb, hml, hown, hts⟩ (k6_setTimes l hlt D cI cJ xb xs xf xb_2 xb_3 xb_4 xf_0 xf_1 xf_2 b st f a2 a3 a4 a5) (cwV 4 hts gL_tries_X6_setTimes rfl rfl rfl (by decide +kernel) ⟨Nat.le_of_ble_eq_true rfl, Nat.le_of_ble_eq_true rfl⟩) hK hN hP hD hS hA hZ hStr [0, 1, 2] [] rfl rfl (by decide) (by decide) (by decide) 0 (ci := 6) rfl rfl rfl rfl hl.1 rfl (Nat.le_of_ble_eq_true rfl) dL_tries_11 ⟨Nat.le_of_ble_eq_true rfl, Nat.le_of_ble_eq_true rfl⟩ (fun E ce q9 H locs hxp hP hD hS hce hcv hcl => ?_) (fun u29 H locs hw hP hD hS => ?_)
    · have z27 : ¬ ((s6_setTimes b st f a2 a3 a4 a5).1) = 0 := by rcases hxp with hc9 | hc9 <;> (rw [hc9.1]; decide)
      have hsp : (sL_tries b st f a1 a2 a3 a4 a5) = ((((s6_setTimes b st f a2 a3 a4 a5).1), 0, st) : Int32 × Int32 × (Nat → Int32)) := by simp only [sL_tries, if_pos z1, if_neg z27]
      exact cw_out hQ htab hlocks hS hP hD [0, 1, 2] rfl (by decide) hce hcv hcl (by rw [hsp]; exact hxp) (Nat.le_of_ble_eq_true rfl) (Nat.le_of_ble_eq_true rfl)
    · have z27 : ((s6_setTimes b st f a2 a3 a4 a5).1) = 0 := hw
      have hP : va_P D vwCl [(xb, c6 (.ref xs) (.ref xf) xb_2 xb_3 xb_4 b), (xs, c5 ((s6_setTimes b st f a2 a3 a4 a5).2)), (xf, c2 xf_0 xf_1 xf_2 f)] H := hP
      have hD : va_D A [(xb, c6 (.ref xs) (.ref xf) xb_2 xb_3 xb_4 b), (xs, c5 ((s6_setTimes b st f a2 a3 a4 a5).2)), (xf, c2 xf_0 xf_1 xf_2 f)] := hD
      refine lv_goto (tgt := 41) hx hb dL_tries_14 (by decide) ?_
      refine lv_iconst (v := 0) hx hb dL_tries_41 (by decide) ?_
      have hsp : (sL_tries b st f a1 a2 a3 a4 a5) = ((0, 0, ((s6_setTimes b st f a2 a3 a4 a5).2)) : Int32 × Int32 × (Nat → Int32)) := by simp only [sL_tries, if_pos z1, if_pos z27]
      exact hret _ _ _ _ _ _ _ _ hP hD hS dL_tries_42 rfl ⟨(), ⟨by rw [hsp], by rw [hsp]⟩, (by rw [hsp])⟩ (Nat.le_of_ble_eq_true rfl) (Nat.le_of_ble_eq_true rfl)

set_option maxHeartbeats 4000000 in
set_option maxRecDepth 100000 in
theorem kL_sets (l : Launch) (hlt : l.stackTraces = false) (D : va_G) (cI cJ : ClassId) (xb xs xf : Nat) (xb_2 xb_3 xb_4 xf_0 xf_1 xf_2 : Value) (b : Nat → Int32) (st : Nat → Int32) (f : Nat → Int32) (a1 : Int32) (a2 : Int32) (a3 : Int32) (a4 : Int32) (a5 : Int32) : cw_Wi l yL_sets wsL_sets (cw_rx 20) D [(cI, .int)] [.ref xb, .int a1, .int a2, .int a3, .int a4, .int a5] [(xb, c6 (.ref xs) (.ref xf) xb_2 xb_3 xb_4 b), (xs, c5 st), (xf, c2 xf_0 xf_1 xf_2 f)] 1 6 (fun r (_ : Unit) => r = ((sL_sets b st f a1 a2 a3 a4 a5).1)) (fun _ : Unit => [(xb, c6 (.ref xs) (.ref xf) xb_2 xb_3 xb_4 b), (xs, c5 ((sL_sets b st f a1 a2 a3 a4 a5).2)), (xf, c2 xf_0 xf_1 xf_2 f)]) := by
  refine cw_ofWi (cc := cL_sets) (maxL := 7) (ret := (some .int)) (hh := [(0, 11, 12, 43), (0, 11, 17, 45)]) (by decide) rfl (Nat.le_of_ble_eq_true rfl) rfl ?_
  intro p e s m args below meth c A ls Q hin0 hret htab hZ hStr
  obtain ⟨hx, hb, hr, hml, hts, hown, hlocks, hin, hP, hK, hD, hN, hA, hl⟩ := hin0
  have hS : va_S A s.heap s.heap [] := va_S.rf
  have hl : lv_has ls 7 [(0, .ref xb), (1, .int a1), (2, .int a2), (3, .int a3), (4, .int a4), (5, .int a5)] := hl
  have lcx43 := hts (.classLink RL 43 "java/lang/IllegalArgumentException") (by decide +kernel)
  have lcx45 := hts (.classLink RL 45 "java/lang/IllegalStateException") (by decide +kernel)
  refine lv_aload_n hx hb dL_sets_0 rfl (lv_at hl 0 rfl) ?_
  refine lv_iload_n hx hb dL_sets_1 rfl (lv_at hl 1 rfl) ?_
  refine lv_iload_n hx hb dL_sets_2 rfl (lv_at hl 2 rfl) ?_
  refine lv_iload_n hx hb dL_sets_3 rfl (lv_at hl 3 rfl) ?_
  refine lv_iload hx hb dL_sets_4 (lv_at hl 4 rfl) ?_
  refine lv_iload hx hb dL_sets_6 (lv_at hl 5 rfl) ?_
  refine cw_cSXi (As := [.ref xb, .int a1, .int a2, .int a3, .int a4, .int a5]) (rest := []) (wc := [(xb, c6 (.ref xs) (.ref xf) xb_2 xb_3 xb_4 b), (xs, c5 st), (xf, c2 xf_0 xf_1 xf_2 f)]) (wr := []) ⟨hx, hb, hml, hown, hts⟩ (kL_tries l hlt D cI cJ xb xs xf xb_2 xb_3 xb_4 xf_0 xf_1 xf_2 b st f a1 a2 a3 a4 a5) (va_cwS 6 hts gL_sets_L_tries rfl rfl rfl (by decide +kernel) ⟨Nat.le_of_ble_eq_true rfl, Nat.le_of_ble_eq_true rfl⟩) hK hN hP hD hS hA hZ hStr [0, 1, 2] [] rfl rfl (by decide) (by decide) (by decide) rfl hl.1 rfl (Nat.le_of_ble_eq_true rfl) dL_sets_8 ⟨Nat.le_of_ble_eq_true rfl, Nat.le_of_ble_eq_true rfl⟩ (fun E ce q9 H locs hxp hP hD hS hce hcv hcl => ?_) (fun r2 u3 H locs hw hP hD hS => ?_)
  · rcases hxp with ⟨hc9, rfl⟩ | ⟨hc9, rfl⟩
    · have hP : va_P D vwCl [(xb, c6 (.ref xs) (.ref xf) xb_2 xb_3 xb_4 b), (xs, c5 st), (xf, c2 xf_0 xf_1 xf_2 f)] H := hP
      have hD : va_D A [(xb, c6 (.ref xs) (.ref xf) xb_2 xb_3 xb_4 b), (xs, c5 st), (xf, c2 xf_0 xf_1 xf_2 f)] := hD
      have z1 : ¬ ((sL_tries b st f a1 a2 a3 a4 a5).1) = 0 := by rw [hc9]; decide
      have z4 : ((sL_tries b st f a1 a2 a3 a4 a5).1) = 1 := hc9
      refine vx_catch (own := RL) (name := "java/lang/IllegalArgumentException") hown [] ⟨0, 11, 12, 43⟩ [⟨0, 11, 17, 45⟩] htab (fun z hz => nomatch hz) (by decide) (by decide) lcx43 (hN.use (args := args) (w := .castable "java/lang/IllegalArgumentException" "java/lang/IllegalArgumentException") (by decide +kernel)) hce hcv hcl ?_
      refine W.eq (g2 := F0 m 12 ls [.ref q9]) rfl ?_
      refine lv_astore (lv' := [(6, .ref q9), (0, .ref xb), (1, .int a1), (2, .int a2), (3, .int a3), (4, .int a4), (5, .int a5)]) hx hb dL_sets_12 hl (by decide) rfl (fun ls hl => ?_)
      refine lv_bipush (v := (-102)) hx hb dL_sets_14 (by decide) ?_
      have hsp : (sL_sets b st f a1 a2 a3 a4 a5) = (((-102), st) : Int32 × (Nat → Int32)) := by simp only [sL_sets, if_neg z1, if_pos z4]
      exact hret _ _ _ _ _ _ _ _ hP hD hS dL_sets_16 rfl ⟨(), (by rw [hsp]), (by rw [hsp])⟩ (Nat.le_of_ble_eq_true rfl) (Nat.le_of_ble_eq_true rfl)
    · have hP : va_P D vwCl [(xb, c6 (.ref xs) (.ref xf) xb_2 xb_3 xb_4 b), (xs, c5 st), (xf, c2 xf_0 xf_1 xf_2 f)] H := hP
      have hD : va_D A [(xb, c6 (.ref xs) (.ref xf) xb_2 xb_3 xb_4 b), (xs, c5 st), (xf, c2 xf_0 xf_1 xf_2 f)] := hD
      have z1 : ¬ ((sL_tries b st f a1 a2 a3 a4 a5).1) = 0 := by rw [hc9]; decide
      have z5 : ¬ ((sL_tries b st f a1 a2 a3 a4 a5).1) = 1 := by rw [hc9]; decide
      refine vx_catch (own := RL) (name := "java/lang/IllegalStateException") hown [⟨0, 11, 12, 43⟩] ⟨0, 11, 17, 45⟩ [] htab (fun z hz => by simp only [List.mem_cons, List.not_mem_nil, or_false] at hz; rcases hz with rfl; exact Or.inr ⟨by decide, _, lcx43, hStr.2.1⟩) (by decide) (by decide) lcx45 (hN.use (args := args) (w := .castable "java/lang/IllegalStateException" "java/lang/IllegalStateException") (by decide +kernel)) hce hcv hcl ?_
      refine W.eq (g2 := F0 m 17 ls [.ref q9]) rfl ?_
      refine lv_astore (lv' := [(6, .ref q9), (0, .ref xb), (1, .int a1), (2, .int a2), (3, .int a3), (4, .int a4), (5, .int a5)]) hx hb dL_sets_17 hl (by decide) rfl (fun ls hl => ?_)
      refine lv_bipush (v := (-103)) hx hb dL_sets_19 (by decide) ?_
      have hsp : (sL_sets b st f a1 a2 a3 a4 a5) = (((-103), st) : Int32 × (Nat → Int32)) := by simp only [sL_sets, if_neg z1, if_neg z5]
      exact hret _ _ _ _ _ _ _ _ hP hD hS dL_sets_21 rfl ⟨(), (by rw [hsp]), (by rw [hsp])⟩ (Nat.le_of_ble_eq_true rfl) (Nat.le_of_ble_eq_true rfl)
  · have z1 : ((sL_tries b st f a1 a2 a3 a4 a5).1) = 0 := hw.1
    have hr2 : r2 = ((sL_tries b st f a1 a2 a3 a4 a5).2.1) := hw.2
    have hP : va_P D vwCl [(xb, c6 (.ref xs) (.ref xf) xb_2 xb_3 xb_4 b), (xs, c5 ((sL_tries b st f a1 a2 a3 a4 a5).2.2)), (xf, c2 xf_0 xf_1 xf_2 f)] H := hP
    have hD : va_D A [(xb, c6 (.ref xs) (.ref xf) xb_2 xb_3 xb_4 b), (xs, c5 ((sL_tries b st f a1 a2 a3 a4 a5).2.2)), (xf, c2 xf_0 xf_1 xf_2 f)] := hD
    have hsp : (sL_sets b st f a1 a2 a3 a4 a5) = ((r2, ((sL_tries b st f a1 a2 a3 a4 a5).2.2)) : Int32 × (Nat → Int32)) := by simp only [sL_sets, ← hr2, if_pos z1]
    exact hret _ _ _ _ _ _ _ _ hP hD hS dL_sets_11 rfl ⟨(), (by rw [hsp]), (by rw [hsp])⟩ (Nat.le_of_ble_eq_true rfl) (Nat.le_of_ble_eq_true rfl)
