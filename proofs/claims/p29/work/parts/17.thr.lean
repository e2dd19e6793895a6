def cw_rx (n : Nat) : Room := { frames := 6 + n, cells := 1, slots := 6, locals := 90 + 40 * n }
theorem xn_52 : ∀ w ∈ (vx_atS RX6 52 "java/lang/IndexOutOfBoundsException" cw_nm).filter (fun w => !goodWord w), w ∈ cw_ot "java/lang/IndexOutOfBoundsException" := by decide +kernel
theorem xg_52 : ∀ w ∈ Cond.classLink RX6 48 "java/lang/IndexOutOfBoundsException" :: Cond.initialized "java/lang/IndexOutOfBoundsException" :: vx_atS RX6 52 "java/lang/IndexOutOfBoundsException" cw_nm, vx_ot w = true := by decide +kernel
theorem xn_71 : ∀ w ∈ (vx_atS RX6 71 "java/lang/IllegalArgumentException" cw_nm).filter (fun w => !goodWord w), w ∈ cw_ot "java/lang/IllegalArgumentException" := by decide +kernel
theorem xg_71 : ∀ w ∈ Cond.classLink RX6 67 "java/lang/IllegalArgumentException" :: Cond.initialized "java/lang/IllegalArgumentException" :: vx_atS RX6 71 "java/lang/IllegalArgumentException" cw_nm, vx_ot w = true := by decide +kernel
theorem xn_137 : ∀ w ∈ (vx_atS RX6 137 "java/lang/IllegalStateException" cw_nm).filter (fun w => !goodWord w), w ∈ cw_ot "java/lang/IllegalStateException" := by decide +kernel
theorem xg_137 : ∀ w ∈ Cond.classLink RX6 133 "java/lang/IllegalStateException" :: Cond.initialized "java/lang/IllegalStateException" :: vx_atS RX6 137 "java/lang/IllegalStateException" cw_nm, vx_ot w = true := by decide +kernel

def s6_refuseUnlessOff (b : Nat → Int32) (f : Nat → Int32) : Int32 := (if (f 3) = 0 then 0 else 1)

def s6_signal (b : Nat → Int32) (a1 : Int32) (a2 : Int32) : Int32 × Int32 × (Nat → Int32) := (if a1 < 0 then (1, 0, b) else (if a1 < 6 then (let r4 : Int32 := (s6_isOn (b 5) ((1 : Int32) <<< (a1 &&& 31))); (let w7 : Int32 := (if a2 = 0 then ((b 5) &&& (((1 : Int32) <<< (a1 &&& 31)) ^^^ (-1))) else ((b 5) ||| ((1 : Int32) <<< (a1 &&& 31)))); (0, r4, (upd b 5 w7)))) else (1, 0, b)))

def s6_setRate (b : Nat → Int32) (st : Nat → Int32) (a1 : Int32) : Int32 × Int32 × (Nat → Int32) := (let r2 : Int32 := (s6_isOutside a1 20 100); (if r2 = 0 then (0, (st 0), (upd st 0 a1)) else (1, 0, st)))

def s6_setTimes (b : Nat → Int32) (st : Nat → Int32) (f : Nat → Int32) (a1 : Int32) (a2 : Int32) (a3 : Int32) (a4 : Int32) : Int32 × (Nat → Int32) := (let r2 : Int32 := (s6_isOutside a1 1 200); (if r2 = 0 then (let r5 : Int32 := (s6_isOutside a2 1 30); (if r5 = 0 then (let r8 : Int32 := (s6_isOutside a3 1 30); (if r8 = 0 then (let r11 : Int32 := (s6_isOutside a4 1 60); (if r11 = 0 then (if (s6_refuseUnlessOff b f) = 0 then (0, (upd (upd (upd (upd st 1 a1) 2 a2) 3 a3) 4 a4)) else (2, st)) else (1, st))) else (1, st))) else (1, st))) else (1, st)))

def s6_setEyes (b : Nat → Int32) (st : Nat → Int32) (f : Nat → Int32) (a1 : Int32) (a2 : Int32) (a3 : Int32) : Int32 × (Nat → Int32) := (let r2 : Int32 := (s6_isOutside a1 1 5); (if r2 = 0 then (let r5 : Int32 := (s6_isOutside a2 1 5); (if r5 = 0 then (let r8 : Int32 := (s6_isOutside a3 5 100); (if r8 = 0 then (if (s6_refuseUnlessOff b f) = 0 then (0, (upd (upd (upd st 5 a1) 6 a2) 7 a3)) else (2, st)) else (1, st))) else (1, st))) else (1, st)))

def s6_setFurnace (b : Nat → Int32) (st : Nat → Int32) (f : Nat → Int32) (a1 : Int32) (a2 : Int32) (a3 : Int32) : Int32 × (Nat → Int32) := (let r2 : Int32 := (s6_isOutside a1 1 500); (if r2 = 0 then (let r5 : Int32 := (s6_isOutside a2 1 50); (if r5 = 0 then (let r8 : Int32 := (s6_isOutside a3 1 50); (if r8 = 0 then (if (s6_refuseUnlessOff b f) = 0 then (0, (upd (upd (upd st 8 a1) 9 a2) 10 a3)) else (2, st)) else (1, st))) else (1, st))) else (1, st)))

def s6_tickOf (b : Nat → Int32) (hh : Nat → Int32) (t1 : Nat → Int32) (t2 : Nat → Int32) (t3 : Nat → Int32) (a1 : Int32) : Int32 × Int32 := (let r2 : Int32 := (s3_has hh a1); (if r2 = 0 then (1, 0) else (let r5 : Int32 := (s3_read hh t1 a1); (0, r5))))

def s6_stateOf (b : Nat → Int32) (hh : Nat → Int32) (t1 : Nat → Int32) (t2 : Nat → Int32) (t3 : Nat → Int32) (a1 : Int32) : Int32 × Int32 := (let r2 : Int32 := (s3_has hh a1); (if r2 = 0 then (1, 0) else (let r5 : Int32 := (s3_read hh t2 a1); (0, r5))))

def s6_reasonOf (b : Nat → Int32) (hh : Nat → Int32) (t1 : Nat → Int32) (t2 : Nat → Int32) (t3 : Nat → Int32) (a1 : Int32) : Int32 × Int32 := (let r2 : Int32 := (s3_has hh a1); (if r2 = 0 then (1, 0) else (let r5 : Int32 := (s3_read hh t3 a1); (0, r5))))


set_option maxHeartbeats 4000000 in
set_option maxRecDepth 100000 in
theorem k6_refuseUnlessOff (l : Launch) (hlt : l.stackTraces = false) (D : va_G) (cI cJ : ClassId) (xb xf : Nat) (xb_0 xb_2 xb_3 xb_4 xf_0 xf_1 xf_2 : Value) (b : Nat → Int32) (f : Nat → Int32) : cw_Xv l yX6_refuseUnlessOff wsX6_refuseUnlessOff (cw_rx 0) D [(cI, .int)] [.ref xb] [(xb, c6 xb_0 (.ref xf) xb_2 xb_3 xb_4 b), (xf, c2 xf_0 xf_1 xf_2 f)] 1 6 (fun _ : Unit => (s6_refuseUnlessOff b f) = 0) (fun _ : Unit => [(xb, c6 xb_0 (.ref xf) xb_2 xb_3 xb_4 b), (xf, c2 xf_0 xf_1 xf_2 f)]) (fun E => ((s6_refuseUnlessOff b f) = 1 ∧ E = "java/lang/IllegalStateException")) := by
  refine cw_ofXv (cc := cX6_refuseUnlessOff) (maxL := 1) (ret := none) (by decide) rfl (Nat.le_of_ble_eq_true rfl) rfl ?_
  intro p e s m args below meth c A ls Q hin0 hret htab hZ hStr hQ
  obtain ⟨hx, hb, hr, hml, hts, hown, hlocks, hin, hP, hK, hD, hN, hA, hl⟩ := hin0
  have hS : va_S A s.heap s.heap [] := va_S.rf
  have hl : lv_has ls 1 [(0, .ref xb)] := hl
  have lf21 := hts (.fieldLink RX6 21 "Burnerline" "furnace" "LBurnerline$Furnace;") (by decide +kernel)
  have i6 : ∀ w ∈ wsX60, w ∈ wsX6_refuseUnlessOff := by decide +kernel
  have lf154 := hN.use (args := args) (w := .fieldLinkNest "Burnerline" 154 "Burnerline$Furnace" "state" "I" "Burnerline") (by decide +kernel)
  have i2 : ∀ w ∈ wsX20, w ∈ wsX6_refuseUnlessOff := by decide +kernel
  have lcl133 := hts (.classLink RX6 133 "java/lang/IllegalStateException") (by decide +kernel)
  have lin_133 := hts (.initialized "java/lang/IllegalStateException") (by decide +kernel)
  have lg137 : ∀ w ∈ (vx_atS RX6 137 "java/lang/IllegalStateException" cw_nm).filter goodWord, w.before args s = true := fun w h => hts w ((by decide +kernel : ∀ w ∈ (vx_atS RX6 137 "java/lang/IllegalStateException" cw_nm).filter goodWord, w ∈ wsX6_refuseUnlessOff) w h)
  refine lv_aload_n hx hb dX6_refuseUnlessOff_0 rfl (lv_at hl 0 rfl) ?_
  refine va_get (D := D) (ci := 6) (v := .ref xf) (C := RX6) (T := TX6) (N := 7) hx hb hts i6 hown hK hP 0 rfl rfl 1 (by decide) lf21 (fun _ h9 => h9) rfl dX6_refuseUnlessOff_1 ?_
  refine va_getN (D := D) (ci := 2) (v := .int (f 3)) (C := RX2) (T := TX2) (N := 11) hx hb hts i2 hown hK hP 1 rfl rfl 3 (by decide) lf154 (fun _ h9 => h9) rfl dX6_refuseUnlessOff_4 ?_
  refine lv_if_eq (tgt := 20) hx hb dX6_refuseUnlessOff_7 (by decide) (fun z1 => ?_) (fun z1 => ?_)
  · have hsp : (s6_refuseUnlessOff b f) = (0 : Int32) := by simp only [s6_refuseUnlessOff, if_pos z1]
    exact hret _ _ _ _ _ _ _ hP hD hS dX6_refuseUnlessOff_20 ⟨(), (by rw [hsp]), rfl⟩ (Nat.le_of_ble_eq_true rfl) (Nat.le_of_ble_eq_true rfl)
  · have hsp : (s6_refuseUnlessOff b f) = (1 : Int32) := by simp only [s6_refuseUnlessOff, if_neg z1]
    exact cw_thr (own := RX6) (ik := 133) (is := 230) (ic := 137) (cls := "java/lang/IllegalStateException") (text := "the sequencer is not off") hQ hx hb hlt hown hml hl.1 htab hlocks (by decide +kernel) lcl133 lin_133 hStr (by decide +kernel) lg137 xn_137 hN (by decide +kernel) xg_137 hZ hS hP hD [0, 1] rfl (by decide) dX6_refuseUnlessOff_10 dX6_refuseUnlessOff_13 dX6_refuseUnlessOff_14 dX6_refuseUnlessOff_16 dX6_refuseUnlessOff_19 (Nat.le_of_ble_eq_true rfl) (Nat.le_of_ble_eq_true rfl) (Nat.le_of_ble_eq_true rfl) (Nat.le_of_ble_eq_true rfl) (Nat.le_of_ble_eq_true rfl) (Nat.le_of_ble_eq_true rfl) (⟨by rw [hsp], rfl⟩)

set_option maxHeartbeats 4000000 in
set_option maxRecDepth 100000 in
theorem k6_signal (l : Launch) (hlt : l.stackTraces = false) (D : va_G) (cI cJ : ClassId) (xb : Nat) (xb_0 xb_1 xb_2 xb_3 xb_4 : Value) (b : Nat → Int32) (a1 : Int32) (a2 : Int32) : cw_Xi l yX6_signal wsX6_signal (cw_rx 1) D [(cI, .int)] [.ref xb, .int a1, .int a2] [(xb, c6 xb_0 xb_1 xb_2 xb_3 xb_4 b)] 1 6 (fun r (_ : Unit) => ((s6_signal b a1 a2).1) = 0 ∧ r = ((s6_signal b a1 a2).2.1)) (fun _ : Unit => [(xb, c6 xb_0 xb_1 xb_2 xb_3 xb_4 ((s6_signal b a1 a2).2.2))]) (fun E => (((s6_signal b a1 a2).1) = 1 ∧ E = "java/lang/IndexOutOfBoundsException")) := by
  refine cw_ofXi (cc := cX6_signal) (maxL := 5) (ret := (some .boolean)) (by decide) rfl (Nat.le_of_ble_eq_true rfl) rfl ?_
  intro p e s m args below meth c A ls Q hin0 hret htab hZ hStr hQ
  obtain ⟨hx, hb, hr, hml, hts, hown, hlocks, hin, hP, hK, hD, hN, hA, hl⟩ := hin0
  have hS : va_S A s.heap s.heap [] := va_S.rf
  have hl : lv_has ls 5 [(0, .ref xb), (1, .int a1), (2, .int a2)] := hl
  have lf55 := hts (.fieldLink RX6 55 "Burnerline" "signals" "I") (by decide +kernel)
  have i6 : ∀ w ∈ wsX60, w ∈ wsX6_signal := by decide +kernel
  have lcl48 := hts (.classLink RX6 48 "java/lang/IndexOutOfBoundsException") (by decide +kernel)
  have lin_48 := hts (.initialized "java/lang/IndexOutOfBoundsException") (by decide +kernel)
  have lg52 : ∀ w ∈ (vx_atS RX6 52 "java/lang/IndexOutOfBoundsException" cw_nm).filter goodWord, w.before args s = true := fun w h => hts w ((by decide +kernel : ∀ w ∈ (vx_atS RX6 52 "java/lang/IndexOutOfBoundsException" cw_nm).filter goodWord, w ∈ wsX6_signal) w h)
  refine lv_iload_n hx hb dX6_signal_0 rfl (lv_at hl 1 rfl) ?_
  refine lv_if_lt (tgt := 10) hx hb dX6_signal_1 (by decide) (fun z1 => ?_) (fun z1 => ?_)
  · have hsp : (s6_signal b a1 a2) = ((1, 0, b) : Int32 × Int32 × (Nat → Int32)) := by simp only [s6_signal, if_pos z1]
    exact cw_thr (own := RX6) (ik := 48) (is := 50) (ic := 52) (cls := "java/lang/IndexOutOfBoundsException") (text := "no such signal") hQ hx hb hlt hown hml hl.1 htab hlocks (by decide +kernel) lcl48 lin_48 hStr (by decide +kernel) lg52 xn_52 hN (by decide +kernel) xg_52 hZ hS hP hD [0] rfl (by decide) dX6_signal_10 dX6_signal_13 dX6_signal_14 dX6_signal_16 dX6_signal_19 (Nat.le_of_ble_eq_true rfl) (Nat.le_of_ble_eq_true rfl) (Nat.le_of_ble_eq_true rfl) (Nat.le_of_ble_eq_true rfl) (Nat.le_of_ble_eq_true rfl) (Nat.le_of_ble_eq_true rfl) (⟨by rw [hsp], rfl⟩)
  · refine lv_iload_n hx hb dX6_signal_4 rfl (lv_at hl 1 rfl) ?_
    refine lv_bipush (v := 6) hx hb dX6_signal_5 (by decide) ?_
    refine lv_icmp_lt (tgt := 20) hx hb dX6_signal_7 (by decide) (fun z2 => ?_) (fun z2 => ?_)
    · refine lv_iconst (v := 1) hx hb dX6_signal_20 (by decide) ?_
      refine lv_iload_n hx hb dX6_signal_21 rfl (lv_at hl 1 rfl) ?_
      refine lv_ishl hx hb dX6_signal_22 ?_
      refine lv_istore_n (lv' := [(3, .int ((1 : Int32) <<< (a1 &&& 31))), (0, .ref xb), (1, .int a1), (2, .int a2)]) hx hb dX6_signal_23 rfl hl (by decide) rfl (fun ls hl => ?_)
      refine lv_aload_n hx hb dX6_signal_24 rfl (lv_at hl 1 rfl) ?_
      refine va_get (D := D) (ci := 6) (v := .int (b 5)) (C := RX6) (T := TX6) (N := 7) hx hb hts i6 hown hK hP 0 rfl rfl 5 (by decide) lf55 (fun _ h9 => h9) rfl dX6_signal_25 ?_
      refine lv_iload_n hx hb dX6_signal_28 rfl (lv_at hl 0 rfl) ?_
      refine cw_cSi (As := [.int (b 5), .int ((1 : Int32) <<< (a1 &&& 31))]) (rest := []) (wc := []) (wr := [(xb, c6 xb_0 xb_1 xb_2 xb_3 xb_4 b)]) ⟨hx, hb, hml, hown, hts⟩ (k6_isOn l D cI cJ (b 5) ((1 : Int32) <<< (a1 &&& 31))) (va_cwS 2 hts gX6_signal_X6_isOn rfl rfl rfl (by decide +kernel) ⟨Nat.le_of_ble_eq_true rfl, Nat.le_of_ble_eq_true rfl⟩) hK hN hP hD hS hA [] [0] rfl rfl (by decide) (by decide) (by decide) rfl hl.1 rfl (Nat.le_of_ble_eq_true rfl) dX6_signal_29 ⟨Nat.le_of_ble_eq_true rfl, Nat.le_of_ble_eq_true rfl⟩ (fun r4 u3 H locs hw hP hD hS => ?_)
      have hr4 : r4 = (s6_isOn (b 5) ((1 : Int32) <<< (a1 &&& 31))) := hw
      have hP : va_P D vwCl [(xb, c6 xb_0 xb_1 xb_2 xb_3 xb_4 b)] H := hP
      have hD : va_D A [(xb, c6 xb_0 xb_1 xb_2 xb_3 xb_4 b)] := hD
      refine lv_istore (lv' := [(4, .int r4), (3, .int ((1 : Int32) <<< (a1 &&& 31))), (0, .ref xb), (1, .int a1), (2, .int a2)]) hx hb dX6_signal_32 hl (by decide) rfl (fun ls hl => ?_)
      refine lv_aload_n hx hb dX6_signal_34 rfl (lv_at hl 2 rfl) ?_
      refine lv_iload_n hx hb dX6_signal_35 rfl (lv_at hl 4 rfl) ?_
      have J6 : ∀ (w7 : Int32), w7 = (if a2 = 0 then ((b 5) &&& (((1 : Int32) <<< (a1 &&& 31)) ^^^ (-1))) else ((b 5) ||| ((1 : Int32) <<< (a1 &&& 31)))) → W p l e (cw_rx 1) s m args below meth c H locs 0 0 (Q) (F0 m 56 ls [.int w7, .ref xb]) := by
        intro w7 hw7
        refine va_put (D := D) (ci := 6) (v := .int w7) (ty := .int) (C := RX6) (T := TX6) (N := 7) hx hb hts i6 tyX6 tyX6_ok nmX6 hown hK hP hD hS 0 rfl rfl 5 (by decide) lf55 (fun _ h9 => h9) rfl (by decide +kernel) rfl rfl (Nat.le_of_ble_eq_true rfl) dX6_signal_56 (fun H locs hP hD hS => ?_)
        have hP : va_P D vwCl [(xb, c6 xb_0 xb_1 xb_2 xb_3 xb_4 (upd b 5 w7))] H := (congrArg (fun z9 => va_P D vwCl [(xb, .inr (6, z9))] H) (cs6_5 xb_0 xb_1 xb_2 xb_3 xb_4 b w7)).mp hP
        have hD : va_D A [(xb, c6 xb_0 xb_1 xb_2 xb_3 xb_4 (upd b 5 w7))] := (congrArg (fun z9 => va_D A [(xb, .inr (6, z9))]) (cs6_5 xb_0 xb_1 xb_2 xb_3 xb_4 b w7)).mp hD
        refine lv_iload hx hb dX6_signal_59 (lv_at hl 0 rfl) ?_
        have hsp : (s6_signal b a1 a2) = ((0, r4, (upd b 5 w7)) : Int32 × Int32 × (Nat → Int32)) := by simp only [s6_signal, ← hr4, ← hw7, if_neg z1, if_pos z2]
        exact hret _ _ _ _ _ _ _ _ hP hD hS dX6_signal_61 (cw_b01 (by (try simp only [hr4]); (repeat' split) <;> first | exact Or.inl rfl | exact Or.inr rfl | assumption | exact z6_isOn _ _)) ⟨(), ⟨by rw [hsp], by rw [hsp]⟩, (by rw [hsp])⟩ (Nat.le_of_ble_eq_true rfl) (Nat.le_of_ble_eq_true rfl)
      refine lv_if_eq (tgt := 48) hx hb dX6_signal_36 (by decide) (fun z5 => ?_) (fun z5 => ?_)
      · refine lv_aload_n hx hb dX6_signal_48 rfl (lv_at hl 2 rfl) ?_
        refine va_get (D := D) (ci := 6) (v := .int (b 5)) (C := RX6) (T := TX6) (N := 7) hx hb hts i6 hown hK hP 0 rfl rfl 5 (by decide) lf55 (fun _ h9 => h9) rfl dX6_signal_49 ?_
        refine lv_iload_n hx hb dX6_signal_52 rfl (lv_at hl 1 rfl) ?_
        refine lv_iconst (v := (-1)) hx hb dX6_signal_53 (by decide) ?_
        refine lv_ixor hx hb dX6_signal_54 ?_
        refine lv_iand hx hb dX6_signal_55 ?_
        exact J6 ((b 5) &&& (((1 : Int32) <<< (a1 &&& 31)) ^^^ (-1))) (by simp only [if_pos z5])
      · refine lv_aload_n hx hb dX6_signal_39 rfl (lv_at hl 2 rfl) ?_
        refine va_get (D := D) (ci := 6) (v := .int (b 5)) (C := RX6) (T := TX6) (N := 7) hx hb hts i6 hown hK hP 0 rfl rfl 5 (by decide) lf55 (fun _ h9 => h9) rfl dX6_signal_40 ?_
        refine lv_iload_n hx hb dX6_signal_43 rfl (lv_at hl 1 rfl) ?_
        refine lv_ior hx hb dX6_signal_44 ?_
        refine lv_goto (tgt := 56) hx hb dX6_signal_45 (by decide) ?_
        exact J6 ((b 5) ||| ((1 : Int32) <<< (a1 &&& 31))) (by simp only [if_neg z5])
    · have hsp : (s6_signal b a1 a2) = ((1, 0, b) : Int32 × Int32 × (Nat → Int32)) := by simp only [s6_signal, if_neg z1, if_neg z2]
      exact cw_thr (own := RX6) (ik := 48) (is := 50) (ic := 52) (cls := "java/lang/IndexOutOfBoundsException") (text := "no such signal") hQ hx hb hlt hown hml hl.1 htab hlocks (by decide +kernel) lcl48 lin_48 hStr (by decide +kernel) lg52 xn_52 hN (by decide +kernel) xg_52 hZ hS hP hD [0] rfl (by decide) dX6_signal_10 dX6_signal_13 dX6_signal_14 dX6_signal_16 dX6_signal_19 (Nat.le_of_ble_eq_true rfl) (Nat.le_of_ble_eq_true rfl) (Nat.le_of_ble_eq_true rfl) (Nat.le_of_ble_eq_true rfl) (Nat.le_of_ble_eq_true rfl) (Nat.le_of_ble_eq_true rfl) (⟨by rw [hsp], rfl⟩)

set_option maxHeartbeats 4000000 in
set_option maxRecDepth 100000 in
theorem k6_setRate (l : Launch) (hlt : l.stackTraces = false) (D : va_G) (cI cJ : ClassId) (xb xs : Nat) (xb_1 xb_2 xb_3 xb_4 : Value) (b : Nat → Int32) (st : Nat → Int32) (a1 : Int32) : cw_Xi l yX6_setRate wsX6_setRate (cw_rx 1) D [(cI, .int)] [.ref xb, .int a1] [(xb, c6 (.ref xs) xb_1 xb_2 xb_3 xb_4 b), (xs, c5 st)] 1 6 (fun r (_ : Unit) => ((s6_setRate b st a1).1) = 0 ∧ r = ((s6_setRate b st a1).2.1)) (fun _ : Unit => [(xb, c6 (.ref xs) xb_1 xb_2 xb_3 xb_4 b), (xs, c5 ((s6_setRate b st a1).2.2))]) (fun E => (((s6_setRate b st a1).1) = 1 ∧ E = "java/lang/IllegalArgumentException")) := by
  refine cw_ofXi (cc := cX6_setRate) (maxL := 3) (ret := (some .int)) (by decide) rfl (Nat.le_of_ble_eq_true rfl) rfl ?_
  intro p e s m args below meth c A ls Q hin0 hret htab hZ hStr hQ
  obtain ⟨hx, hb, hr, hml, hts, hown, hlocks, hin, hP, hK, hD, hN, hA, hl⟩ := hin0
  have hS : va_S A s.heap s.heap [] := va_S.rf
  have hl : lv_has ls 3 [(0, .ref xb), (1, .int a1)] := hl
  have lf12 := hts (.fieldLink RX6 12 "Burnerline" "settings" "LBurnerline$Settings;") (by decide +kernel)
  have i6 : ∀ w ∈ wsX60, w ∈ wsX6_setRate := by decide +kernel
  have lf72 := hN.use (args := args) (w := .fieldLinkNest "Burnerline" 72 "Burnerline$Settings" "rate" "I" "Burnerline") (by decide +kernel)
  have i5 : ∀ w ∈ wsX50, w ∈ wsX6_setRate := by decide +kernel
  have lcl67 := hts (.classLink RX6 67 "java/lang/IllegalArgumentException") (by decide +kernel)
  have lin_67 := hts (.initialized "java/lang/IllegalArgumentException") (by decide +kernel)
  have lg71 : ∀ w ∈ (vx_atS RX6 71 "java/lang/IllegalArgumentException" cw_nm).filter goodWord, w.before args s = true := fun w h => hts w ((by decide +kernel : ∀ w ∈ (vx_atS RX6 71 "java/lang/IllegalArgumentException" cw_nm).filter goodWord, w ∈ wsX6_setRate) w h)
  refine lv_iload_n hx hb dX6_setRate_0 rfl (lv_at hl 1 rfl) ?_
  refine lv_bipush (v := 20) hx hb dX6_setRate_1 (by decide) ?_
  refine lv_bipush (v := 100) hx hb dX6_setRate_3 (by decide) ?_
  refine cw_cSi (As := [.int a1, .int 20, .int 100]) (rest := []) (wc := []) (wr := [(xb, c6 (.ref xs) xb_1 xb_2 xb_3 xb_4 b), (xs, c5 st)]) ⟨hx, hb, hml, hown, hts⟩ (k6_isOutside l D cI cJ a1 20 100) (va_cwS 3 hts gX6_setRate_X6_isOutside rfl rfl rfl (by decide +kernel) ⟨Nat.le_of_ble_eq_true rfl, Nat.le_of_ble_eq_true rfl⟩) hK hN hP hD hS hA [] [0, 1] rfl rfl (by decide) (by decide) (by decide) rfl hl.1 rfl (Nat.le_of_ble_eq_true rfl) dX6_setRate_5 ⟨Nat.le_of_ble_eq_true rfl, Nat.le_of_ble_eq_true rfl⟩ (fun r2 u1 H locs hw hP hD hS => ?_)
  have hr2 : r2 = (s6_isOutside a1 20 100) := hw
  have hP : va_P D vwCl [(xb, c6 (.ref xs) xb_1 xb_2 xb_3 xb_4 b), (xs, c5 st)] H := hP
  have hD : va_D A [(xb, c6 (.ref xs) xb_1 xb_2 xb_3 xb_4 b), (xs, c5 st)] := hD
  refine lv_if_eq (tgt := 21) hx hb dX6_setRate_8 (by decide) (fun z3 => ?_) (fun z3 => ?_)
  · refine lv_aload_n hx hb dX6_setRate_21 rfl (lv_at hl 0 rfl) ?_
    refine va_get (D := D) (ci := 6) (v := .ref xs) (C := RX6) (T := TX6) (N := 7) hx hb hts i6 hown hK hP 0 rfl rfl 0 (by decide) lf12 (fun _ h9 => h9) rfl dX6_setRate_22 ?_
    refine va_getN (D := D) (ci := 5) (v := .int (st 0)) (C := RX5) (T := TX5) (N := 11) hx hb hts i5 hown hK hP 1 rfl rfl 0 (by decide) lf72 (fun _ h9 => h9) rfl dX6_setRate_25 ?_
    refine lv_istore_n (lv' := [(2, .int (st 0)), (0, .ref xb), (1, .int a1)]) hx hb dX6_setRate_28 rfl hl (by decide) rfl (fun ls hl => ?_)
    refine lv_aload_n hx hb dX6_setRate_29 rfl (lv_at hl 1 rfl) ?_
    refine va_get (D := D) (ci := 6) (v := .ref xs) (C := RX6) (T := TX6) (N := 7) hx hb hts i6 hown hK hP 0 rfl rfl 0 (by decide) lf12 (fun _ h9 => h9) rfl dX6_setRate_30 ?_
    refine lv_iload_n hx hb dX6_setRate_33 rfl (lv_at hl 2 rfl) ?_
    refine va_putN (D := D) (ci := 5) (v := .int a1) (ty := .int) (C := RX5) (T := TX5) (N := 11) hx hb hts i5 tyX5 tyX5_ok nmX5 hown hK hP hD hS 1 rfl rfl 0 (by decide) lf72 (fun _ h9 => h9) rfl (by decide +kernel) rfl rfl (Nat.le_of_ble_eq_true rfl) dX6_setRate_34 (fun H locs hP hD hS => ?_)
    have hP : va_P D vwCl [(xb, c6 (.ref xs) xb_1 xb_2 xb_3 xb_4 b), (xs, c5 (upd st 0 a1))] H := (congrArg (fun z9 => va_P D vwCl [(xb, c6 (.ref xs) xb_1 xb_2 xb_3 xb_4 b), (xs, .inr (5, z9))] H) (cs5_0 st a1)).mp hP
    have hD : va_D A [(xb, c6 (.ref xs) xb_1 xb_2 xb_3 xb_4 b), (xs, c5 (upd st 0 a1))] := (congrArg (fun z9 => va_D A [(xb, c6 (.ref xs) xb_1 xb_2 xb_3 xb_4 b), (xs, .inr (5, z9))]) (cs5_0 st a1)).mp hD
    refine lv_iload_n hx hb dX6_setRate_37 rfl (lv_at hl 0 rfl) ?_
    have hsp : (s6_setRate b st a1) = ((0, (st 0), (upd st 0 a1)) : Int32 × Int32 × (Nat → Int32)) := by simp only [s6_setRate, ← hr2, if_pos z3]
    exact hret _ _ _ _ _ _ _ _ hP hD hS dX6_setRate_38 rfl ⟨(), ⟨by rw [hsp], by rw [hsp]⟩, (by rw [hsp])⟩ (Nat.le_of_ble_eq_true rfl) (Nat.le_of_ble_eq_true rfl)
  · have hsp : (s6_setRate b st a1) = ((1, 0, st) : Int32 × Int32 × (Nat → Int32)) := by simp only [s6_setRate, ← hr2, if_neg z3]
    exact cw_thr (own := RX6) (ik := 67) (is := 69) (ic := 71) (cls := "java/lang/IllegalArgumentException") (text := "rate is out of range") hQ hx hb hlt hown hml hl.1 htab hlocks (by decide +kernel) lcl67 lin_67 hStr (by decide +kernel) lg71 xn_71 hN (by decide +kernel) xg_71 hZ hS hP hD [0, 1] rfl (by decide) dX6_setRate_11 dX6_setRate_14 dX6_setRate_15 dX6_setRate_17 dX6_setRate_20 (Nat.le_of_ble_eq_true rfl) (Nat.le_of_ble_eq_true rfl) (Nat.le_of_ble_eq_true rfl) (Nat.le_of_ble_eq_true rfl) (Nat.le_of_ble_eq_true rfl) (Nat.le_of_ble_eq_true rfl) (⟨by rw [hsp], rfl⟩)

set_option maxHeartbeats 4000000 in
set_option maxRecDepth 100000 in
theorem k6_setTimes (l : Launch) (hlt : l.stackTraces = false) (D : va_G) (cI cJ : ClassId) (xb xs xf : Nat) (xb_2 xb_3 xb_4 xf_0 xf_1 xf_2 : Value) (b : Nat → Int32) (st : Nat → Int32) (f : Nat → Int32) (a1 : Int32) (a2 : Int32) (a3 : Int32) (a4 : Int32) : cw_Xv l yX6_setTimes wsX6_setTimes (cw_rx 1) D [(cI, .int)] [.ref xb, .int a1, .int a2, .int a3, .int a4] [(xb, c6 (.ref xs) (.ref xf) xb_2 xb_3 xb_4 b), (xs, c5 st), (xf, c2 xf_0 xf_1 xf_2 f)] 1 6 (fun _ : Unit => ((s6_setTimes b st f a1 a2 a3 a4).1) = 0) (fun _ : Unit => [(xb, c6 (.ref xs) (.ref xf) xb_2 xb_3 xb_4 b), (xs, c5 ((s6_setTimes b st f a1 a2 a3 a4).2)), (xf, c2 xf_0 xf_1 xf_2 f)]) (fun E => (((s6_setTimes b st f a1 a2 a3 a4).1) = 1 ∧ E = "java/lang/IllegalArgumentException") ∨ (((s6_setTimes b st f a1 a2 a3 a4).1) = 2 ∧ E = "java/lang/IllegalStateException")) := by
  refine cw_ofXv (cc := cX6_setTimes) (maxL := 5) (ret := none) (by decide) rfl (Nat.le_of_ble_eq_true rfl) rfl ?_
  intro p e s m args below meth c A ls Q hin0 hret htab hZ hStr hQ
  obtain ⟨hx, hb, hr, hml, hts, hown, hlocks, hin, hP, hK, hD, hN, hA, hl⟩ := hin0
  have hS : va_S A s.heap s.heap [] := va_S.rf
  have hl : lv_has ls 5 [(0, .ref xb), (1, .int a1), (2, .int a2), (3, .int a3), (4, .int a4)] := hl
  have lf12 := hts (.fieldLink RX6 12 "Burnerline" "settings" "LBurnerline$Settings;") (by decide +kernel)
  have i6 : ∀ w ∈ wsX60, w ∈ wsX6_setTimes := by decide +kernel
  have lf80 := hN.use (args := args) (w := .fieldLinkNest "Burnerline" 80 "Burnerline$Settings" "longestPurge" "I" "Burnerline") (by decide +kernel)
  have i5 : ∀ w ∈ wsX50, w ∈ wsX6_setTimes := by decide +kernel
  have lf83 := hN.use (args := args) (w := .fieldLinkNest "Burnerline" 83 "Burnerline$Settings" "longestPilot" "I" "Burnerline") (by decide +kernel)
  have lf86 := hN.use (args := args) (w := .fieldLinkNest "Burnerline" 86 "Burnerline$Settings" "longestMain" "I" "Burnerline") (by decide +kernel)
  have lf89 := hN.use (args := args) (w := .fieldLinkNest "Burnerline" 89 "Burnerline$Settings" "afterPurge" "I" "Burnerline") (by decide +kernel)
  have lcl67 := hts (.classLink RX6 67 "java/lang/IllegalArgumentException") (by decide +kernel)
  have lin_67 := hts (.initialized "java/lang/IllegalArgumentException") (by decide +kernel)
  have lg71 : ∀ w ∈ (vx_atS RX6 71 "java/lang/IllegalArgumentException" cw_nm).filter goodWord, w.before args s = true := fun w h => hts w ((by decide +kernel : ∀ w ∈ (vx_atS RX6 71 "java/lang/IllegalArgumentException" cw_nm).filter goodWord, w ∈ wsX6_setTimes) w h)
  refine lv_iload_n hx hb dX6_setTimes_0 rfl (lv_at hl 1 rfl) ?_
  refine lv_iconst (v := 1) hx hb dX6_setTimes_1 (by decide) ?_
  refine lv_sipush (v := 200) hx hb dX6_setTimes_2 (by decide) ?_
  refine cw_cSi (As := [.int a1, .int 1, .int 200]) (rest := []) (wc := []) (wr := [(xb, c6 (.ref xs) (.ref xf) xb_2 xb_3 xb_4 b), (xs, c5 st), (xf, c2 xf_0 xf_1 xf_2 f)]) ⟨hx, hb, hml, hown, hts⟩ (k6_isOutside l D cI cJ a1 1 200) (va_cwS 3 hts gX6_setTimes_X6_isOutside rfl rfl rfl (by decide +kernel) ⟨Nat.le_of_ble_eq_true rfl, Nat.le_of_ble_eq_true rfl⟩) hK hN hP hD hS hA [] [0, 1, 2] rfl rfl (by decide) (by decide) (by decide) rfl hl.1 rfl (Nat.le_of_ble_eq_true rfl) dX6_setTimes_5 ⟨Nat.le_of_ble_eq_true rfl, Nat.le_of_ble_eq_true rfl⟩ (fun r2 u1 H locs hw hP hD hS => ?_)
  have hr2 : r2 = (s6_isOutside a1 1 200) := hw
  have hP : va_P D vwCl [(xb, c6 (.ref xs) (.ref xf) xb_2 xb_3 xb_4 b), (xs, c5 st), (xf, c2 xf_0 xf_1 xf_2 f)] H := hP
  have hD : va_D A [(xb, c6 (.ref xs) (.ref xf) xb_2 xb_3 xb_4 b), (xs, c5 st), (xf, c2 xf_0 xf_1 xf_2 f)] := hD
  refine lv_if_ne (tgt := 42) hx hb dX6_setTimes_8 (by decide) (fun z3 => ?_) (fun z3 => ?_)
  · have hsp : (s6_setTimes b st f a1 a2 a3 a4) = ((1, st) : Int32 × (Nat → Int32)) := by simp only [s6_setTimes, ← hr2, if_neg z3]
    exact cw_thr (own := RX6) (ik := 67) (is := 75) (ic := 71) (cls := "java/lang/IllegalArgumentException") (text := "a time is out of range") hQ hx hb hlt hown hml hl.1 htab hlocks (by decide +kernel) lcl67 lin_67 hStr (by decide +kernel) lg71 xn_71 hN (by decide +kernel) xg_71 hZ hS hP hD [0, 1, 2] rfl (by decide) dX6_setTimes_42 dX6_setTimes_45 dX6_setTimes_46 dX6_setTimes_48 dX6_setTimes_51 (Nat.le_of_ble_eq_true rfl) (Nat.le_of_ble_eq_true rfl) (Nat.le_of_ble_eq_true rfl) (Nat.le_of_ble_eq_true rfl) (Nat.le_of_ble_eq_true rfl) (Nat.le_of_ble_eq_true rfl) (Or.inl ⟨by rw [hsp], rfl⟩)
  · refine lv_iload_n hx hb dX6_setTimes_11 rfl (lv_at hl 2 rfl) ?_
    refine lv_iconst (v := 1) hx hb dX6_setTimes_12 (by decide) ?_
    refine lv_bipush (v := 30) hx hb dX6_setTimes_13 (by decide) ?_
    refine cw_cSi (As := [.int a2, .int 1, .int 30]) (rest := []) (wc := []) (wr := [(xb, c6 (.ref xs) (.ref xf) xb_2 xb_3 xb_4 b), (xs, c5 st), (xf, c2 xf_0 xf_1 xf_2 f)]) ⟨hx, hb, hml, hown, hts⟩ (k6_isOutside l D cI cJ a2 1 30) (va_cwS 3 hts gX6_setTimes_X6_isOutside rfl rfl rfl (by decide +kernel) ⟨Nat.le_of_ble_eq_true rfl, Nat.le_of_ble_eq_true rfl⟩) hK hN hP hD hS hA [] [0, 1, 2] rfl rfl (by decide) (by decide) (by decide) rfl hl.1 rfl (Nat.le_of_ble_eq_true rfl) dX6_setTimes_15 ⟨Nat.le_of_ble_eq_true rfl, Nat.le_of_ble_eq_true rfl⟩ (fun r5 u4 H locs hw hP hD hS => ?_)
    have hr5 : r5 = (s6_isOutside a2 1 30) := hw
    have hP : va_P D vwCl [(xb, c6 (.ref xs) (.ref xf) xb_2 xb_3 xb_4 b), (xs, c5 st), (xf, c2 xf_0 xf_1 xf_2 f)] H := hP
    have hD : va_D A [(xb, c6 (.ref xs) (.ref xf) xb_2 xb_3 xb_4 b), (xs, c5 st), (xf, c2 xf_0 xf_1 xf_2 f)] := hD
    refine lv_if_ne (tgt := 42) hx hb dX6_setTimes_18 (by decide) (fun z6 => ?_) (fun z6 => ?_)
    · have hsp : (s6_setTimes b st f a1 a2 a3 a4) = ((1, st) : Int32 × (Nat → Int32)) := by simp only [s6_setTimes, ← hr2, ← hr5, if_pos z3, if_neg z6]
      exact cw_thr (own := RX6) (ik := 67) (is := 75) (ic := 71) (cls := "java/lang/IllegalArgumentException") (text := "a time is out of range") hQ hx hb hlt hown hml hl.1 htab hlocks (by decide +kernel) lcl67 lin_67 hStr (by decide +kernel) lg71 xn_71 hN (by decide +kernel) xg_71 hZ hS hP hD [0, 1, 2] rfl (by decide) dX6_setTimes_42 dX6_setTimes_45 dX6_setTimes_46 dX6_setTimes_48 dX6_setTimes_51 (Nat.le_of_ble_eq_true rfl) (Nat.le_of_ble_eq_true rfl) (Nat.le_of_ble_eq_true rfl) (Nat.le_of_ble_eq_true rfl) (Nat.le_of_ble_eq_true rfl) (Nat.le_of_ble_eq_true rfl) (Or.inl ⟨by rw [hsp], rfl⟩)
    · refine lv_iload_n hx hb dX6_setTimes_21 rfl (lv_at hl 3 rfl) ?_
      refine lv_iconst (v := 1) hx hb dX6_setTimes_22 (by decide) ?_
      refine lv_bipush (v := 30) hx hb dX6_setTimes_23 (by decide) ?_
      refine cw_cSi (As := [.int a3, .int 1, .int 30]) (rest := []) (wc := []) (wr := [(xb, c6 (.ref xs) (.ref xf) xb_2 xb_3 xb_4 b), (xs, c5 st), (xf, c2 xf_0 xf_1 xf_2 f)]) ⟨hx, hb, hml, hown, hts⟩ (k6_isOutside l D cI cJ a3 1 30) (va_cwS 3 hts gX6_setTimes_X6_isOutside rfl rfl rfl (by decide +kernel) ⟨Nat.le_of_ble_eq_true rfl, Nat.le_of_ble_eq_true rfl⟩) hK hN hP hD hS hA [] [0, 1, 2] rfl rfl (by decide) (by decide) (by decide) rfl hl.1 rfl (Nat.le_of_ble_eq_true rfl) dX6_setTimes_25 ⟨Nat.le_of_ble_eq_true rfl, Nat.le_of_ble_eq_true rfl⟩ (fun r8 u7 H locs hw hP hD hS => ?_)
      have hr8 : r8 = (s6_isOutside a3 1 30) := hw
      have hP : va_P D vwCl [(xb, c6 (.ref xs) (.ref xf) xb_2 xb_3 xb_4 b), (xs, c5 st), (xf, c2 xf_0 xf_1 xf_2 f)] H := hP
      have hD : va_D A [(xb, c6 (.ref xs) (.ref xf) xb_2 xb_3 xb_4 b), (xs, c5 st), (xf, c2 xf_0 xf_1 xf_2 f)] := hD
      refine lv_if_ne (tgt := 42) hx hb dX6_setTimes_28 (by decide) (fun z9 => ?_) (fun z9 => ?_)
      · have hsp : (s6_setTimes b st f a1 a2 a3 a4) = ((1, st) : Int32 × (Nat → Int32)) := by simp only [s6_setTimes, ← hr2, ← hr5, ← hr8, if_pos z3, if_pos z6, if_neg z9]
        exact cw_thr (own := RX6) (ik := 67) (is := 75) (ic := 71) (cls := "java/lang/IllegalArgumentException") (text := "a time is out of range") hQ hx hb hlt hown hml hl.1 htab hlocks (by decide +kernel) lcl67 lin_67 hStr (by decide +kernel) lg71 xn_71 hN (by decide +kernel) xg_71 hZ hS hP hD [0, 1, 2] rfl (by decide) dX6_setTimes_42 dX6_setTimes_45 dX6_setTimes_46 dX6_setTimes_48 dX6_setTimes_51 (Nat.le_of_ble_eq_true rfl) (Nat.le_of_ble_eq_true rfl) (Nat.le_of_ble_eq_true rfl) (Nat.le_of_ble_eq_true rfl) (Nat.le_of_ble_eq_true rfl) (Nat.le_of_ble_eq_true rfl) (Or.inl ⟨by rw [hsp], rfl⟩)
      · refine lv_iload hx hb dX6_setTimes_31 (lv_at hl 4 rfl) ?_
        refine lv_iconst (v := 1) hx hb dX6_setTimes_33 (by decide) ?_
        refine lv_bipush (v := 60) hx hb dX6_setTimes_34 (by decide) ?_
        refine cw_cSi (As := [.int a4, .int 1, .int 60]) (rest := []) (wc := []) (wr := [(xb, c6 (.ref xs) (.ref xf) xb_2 xb_3 xb_4 b), (xs, c5 st), (xf, c2 xf_0 xf_1 xf_2 f)]) ⟨hx, hb, hml, hown, hts⟩ (k6_isOutside l D cI cJ a4 1 60) (va_cwS 3 hts gX6_setTimes_X6_isOutside rfl rfl rfl (by decide +kernel) ⟨Nat.le_of_ble_eq_true rfl, Nat.le_of_ble_eq_true rfl⟩) hK hN hP hD hS hA [] [0, 1, 2] rfl rfl (by decide) (by decide) (by decide) rfl hl.1 rfl (Nat.le_of_ble_eq_true rfl) dX6_setTimes_36 ⟨Nat.le_of_ble_eq_true rfl, Nat.le_of_ble_eq_true rfl⟩ (fun r11 u10 H locs hw hP hD hS => ?_)
        have hr11 : r11 = (s6_isOutside a4 1 60) := hw
        have hP : va_P D vwCl [(xb, c6 (.ref xs) (.ref xf) xb_2 xb_3 xb_4 b), (xs, c5 st), (xf, c2 xf_0 xf_1 xf_2 f)] H := hP
        have hD : va_D A [(xb, c6 (.ref xs) (.ref xf) xb_2 xb_3 xb_4 b), (xs, c5 st), (xf, c2 xf_0 xf_1 xf_2 f)] := hD
        refine lv_if_eq (tgt := 52) hx hb dX6_setTimes_39 (by decide) (fun z12 => ?_) (fun z12 => ?_)
        · refine lv_aload_n hx hb dX6_setTimes_52 rfl (lv_at hl 0 rfl) ?_
          refine cw_cVXv (As := []) (rest := []) (wc := [(xb, c6 (.ref xs) (.ref xf) xb_2 xb_3 xb_4 b), (xf, c2 xf_0 xf_1 xf_2 f)]) (wr := [(xs, c5 st)]) ⟨hx, hb, hml, hown, hts⟩ (k6_refuseUnlessOff l hlt D cI cJ xb xf (.ref xs) xb_2 xb_3 xb_4 xf_0 xf_1 xf_2 b f) (cwV 0 hts gX6_setTimes_X6_refuseUnlessOff rfl rfl rfl (by decide +kernel) ⟨Nat.le_of_ble_eq_true rfl, Nat.le_of_ble_eq_true rfl⟩) hK hN hP hD hS hA hZ hStr [0, 2] [1] rfl rfl (by decide) (by decide) (by decide) 0 (ci := 6) rfl rfl rfl rfl hl.1 rfl (Nat.le_of_ble_eq_true rfl) dX6_setTimes_53 ⟨Nat.le_of_ble_eq_true rfl, Nat.le_of_ble_eq_true rfl⟩ (fun E ce q9 H locs hxp hP hD hS hce hcv hcl => ?_) (fun u15 H locs hw hP hD hS => ?_)
          · obtain ⟨hc9, rfl⟩ := hxp
            have z13 : ¬ (s6_refuseUnlessOff b f) = 0 := by rw [hc9]; decide
            have hsp : (s6_setTimes b st f a1 a2 a3 a4) = ((2, st) : Int32 × (Nat → Int32)) := by simp only [s6_setTimes, ← hr2, ← hr5, ← hr8, ← hr11, if_pos z3, if_pos z6, if_pos z9, if_pos z12, if_neg z13]
            exact cw_out hQ htab hlocks hS hP hD [1, 0, 2] rfl (by decide) hce hcv hcl (Or.inr (⟨by rw [hsp], rfl⟩)) (Nat.le_of_ble_eq_true rfl) (Nat.le_of_ble_eq_true rfl)
          · have z13 : (s6_refuseUnlessOff b f) = 0 := hw
            have hP : va_P D vwCl [(xs, c5 st), (xb, c6 (.ref xs) (.ref xf) xb_2 xb_3 xb_4 b), (xf, c2 xf_0 xf_1 xf_2 f)] H := hP
            have hD : va_D A [(xs, c5 st), (xb, c6 (.ref xs) (.ref xf) xb_2 xb_3 xb_4 b), (xf, c2 xf_0 xf_1 xf_2 f)] := hD
            refine lv_aload_n hx hb dX6_setTimes_56 rfl (lv_at hl 0 rfl) ?_
            refine va_get (D := D) (ci := 6) (v := .ref xs) (C := RX6) (T := TX6) (N := 7) hx hb hts i6 hown hK hP 1 rfl rfl 0 (by decide) lf12 (fun _ h9 => h9) rfl dX6_setTimes_57 ?_
            refine lv_iload_n hx hb dX6_setTimes_60 rfl (lv_at hl 1 rfl) ?_
            refine va_putN (D := D) (ci := 5) (v := .int a1) (ty := .int) (C := RX5) (T := TX5) (N := 11) hx hb hts i5 tyX5 tyX5_ok nmX5 hown hK hP hD hS 0 rfl rfl 1 (by decide) lf80 (fun _ h9 => h9) rfl (by decide +kernel) rfl rfl (Nat.le_of_ble_eq_true rfl) dX6_setTimes_61 (fun H locs hP hD hS => ?_)
            have hP : va_P D vwCl [(xs, c5 (upd st 1 a1)), (xb, c6 (.ref xs) (.ref xf) xb_2 xb_3 xb_4 b), (xf, c2 xf_0 xf_1 xf_2 f)] H := (congrArg (fun z9 => va_P D vwCl [(xs, .inr (5, z9)), (xb, c6 (.ref xs) (.ref xf) xb_2 xb_3 xb_4 b), (xf, c2 xf_0 xf_1 xf_2 f)] H) (cs5_1 st a1)).mp hP
            have hD : va_D A [(xs, c5 (upd st 1 a1)), (xb, c6 (.ref xs) (.ref xf) xb_2 xb_3 xb_4 b), (xf, c2 xf_0 xf_1 xf_2 f)] := (congrArg (fun z9 => va_D A [(xs, .inr (5, z9)), (xb, c6 (.ref xs) (.ref xf) xb_2 xb_3 xb_4 b), (xf, c2 xf_0 xf_1 xf_2 f)]) (cs5_1 st a1)).mp hD
            refine lv_aload_n hx hb dX6_setTimes_64 rfl (lv_at hl 0 rfl) ?_
            refine va_get (D := D) (ci := 6) (v := .ref xs) (C := RX6) (T := TX6) (N := 7) hx hb hts i6 hown hK hP 1 rfl rfl 0 (by decide) lf12 (fun _ h9 => h9) rfl dX6_setTimes_65 ?_
            refine lv_iload_n hx hb dX6_setTimes_68 rfl (lv_at hl 2 rfl) ?_
            refine va_putN (D := D) (ci := 5) (v := .int a2) (ty := .int) (C := RX5) (T := TX5) (N := 11) hx hb hts i5 tyX5 tyX5_ok nmX5 hown hK hP hD hS 0 rfl rfl 2 (by decide) lf83 (fun _ h9 => h9) rfl (by decide +kernel) rfl rfl (Nat.le_of_ble_eq_true rfl) dX6_setTimes_69 (fun H locs hP hD hS => ?_)
            have hP : va_P D vwCl [(xs, c5 (upd (upd st 1 a1) 2 a2)), (xb, c6 (.ref xs) (.ref xf) xb_2 xb_3 xb_4 b), (xf, c2 xf_0 xf_1 xf_2 f)] H := (congrArg (fun z9 => va_P D vwCl [(xs, .inr (5, z9)), (xb, c6 (.ref xs) (.ref xf) xb_2 xb_3 xb_4 b), (xf, c2 xf_0 xf_1 xf_2 f)] H) (cs5_2 (upd st 1 a1) a2)).mp hP
            have hD : va_D A [(xs, c5 (upd (upd st 1 a1) 2 a2)), (xb, c6 (.ref xs) (.ref xf) xb_2 xb_3 xb_4 b), (xf, c2 xf_0 xf_1 xf_2 f)] := (congrArg (fun z9 => va_D A [(xs, .inr (5, z9)), (xb, c6 (.ref xs) (.ref xf) xb_2 xb_3 xb_4 b), (xf, c2 xf_0 xf_1 xf_2 f)]) (cs5_2 (upd st 1 a1) a2)).mp hD
            refine lv_aload_n hx hb dX6_setTimes_72 rfl (lv_at hl 0 rfl) ?_
            refine va_get (D := D) (ci := 6) (v := .ref xs) (C := RX6) (T := TX6) (N := 7) hx hb hts i6 hown hK hP 1 rfl rfl 0 (by decide) lf12 (fun _ h9 => h9) rfl dX6_setTimes_73 ?_
            refine lv_iload_n hx hb dX6_setTimes_76 rfl (lv_at hl 3 rfl) ?_
            refine va_putN (D := D) (ci := 5) (v := .int a3) (ty := .int) (C := RX5) (T := TX5) (N := 11) hx hb hts i5 tyX5 tyX5_ok nmX5 hown hK hP hD hS 0 rfl rfl 3 (by decide) lf86 (fun _ h9 => h9) rfl (by decide +kernel) rfl rfl (Nat.le_of_ble_eq_true rfl) dX6_setTimes_77 (fun H locs hP hD hS => ?_)
            have hP : va_P D vwCl [(xs, c5 (upd (upd (upd st 1 a1) 2 a2) 3 a3)), (xb, c6 (.ref xs) (.ref xf) xb_2 xb_3 xb_4 b), (xf, c2 xf_0 xf_1 xf_2 f)] H := (congrArg (fun z9 => va_P D vwCl [(xs, .inr (5, z9)), (xb, c6 (.ref xs) (.ref xf) xb_2 xb_3 xb_4 b), (xf, c2 xf_0 xf_1 xf_2 f)] H) (cs5_3 (upd (upd st 1 a1) 2 a2) a3)).mp hP
            have hD : va_D A [(xs, c5 (upd (upd (upd st 1 a1) 2 a2) 3 a3)), (xb, c6 (.ref xs) (.ref xf) xb_2 xb_3 xb_4 b), (xf, c2 xf_0 xf_1 xf_2 f)] := (congrArg (fun z9 => va_D A [(xs, .inr (5, z9)), (xb, c6 (.ref xs) (.ref xf) xb_2 xb_3 xb_4 b), (xf, c2 xf_0 xf_1 xf_2 f)]) (cs5_3 (upd (upd st 1 a1) 2 a2) a3)).mp hD
            refine lv_aload_n hx hb dX6_setTimes_80 rfl (lv_at hl 0 rfl) ?_
            refine va_get (D := D) (ci := 6) (v := .ref xs) (C := RX6) (T := TX6) (N := 7) hx hb hts i6 hown hK hP 1 rfl rfl 0 (by decide) lf12 (fun _ h9 => h9) rfl dX6_setTimes_81 ?_
            refine lv_iload hx hb dX6_setTimes_84 (lv_at hl 4 rfl) ?_
            refine va_putN (D := D) (ci := 5) (v := .int a4) (ty := .int) (C := RX5) (T := TX5) (N := 11) hx hb hts i5 tyX5 tyX5_ok nmX5 hown hK hP hD hS 0 rfl rfl 4 (by decide) lf89 (fun _ h9 => h9) rfl (by decide +kernel) rfl rfl (Nat.le_of_ble_eq_true rfl) dX6_setTimes_86 (fun H locs hP hD hS => ?_)
            have hP : va_P D vwCl [(xs, c5 (upd (upd (upd (upd st 1 a1) 2 a2) 3 a3) 4 a4)), (xb, c6 (.ref xs) (.ref xf) xb_2 xb_3 xb_4 b), (xf, c2 xf_0 xf_1 xf_2 f)] H := (congrArg (fun z9 => va_P D vwCl [(xs, .inr (5, z9)), (xb, c6 (.ref xs) (.ref xf) xb_2 xb_3 xb_4 b), (xf, c2 xf_0 xf_1 xf_2 f)] H) (cs5_4 (upd (upd (upd st 1 a1) 2 a2) 3 a3) a4)).mp hP
            have hD : va_D A [(xs, c5 (upd (upd (upd (upd st 1 a1) 2 a2) 3 a3) 4 a4)), (xb, c6 (.ref xs) (.ref xf) xb_2 xb_3 xb_4 b), (xf, c2 xf_0 xf_1 xf_2 f)] := (congrArg (fun z9 => va_D A [(xs, .inr (5, z9)), (xb, c6 (.ref xs) (.ref xf) xb_2 xb_3 xb_4 b), (xf, c2 xf_0 xf_1 xf_2 f)]) (cs5_4 (upd (upd (upd st 1 a1) 2 a2) 3 a3) a4)).mp hD
            have hsp : (s6_setTimes b st f a1 a2 a3 a4) = ((0, (upd (upd (upd (upd st 1 a1) 2 a2) 3 a3) 4 a4)) : Int32 × (Nat → Int32)) := by simp only [s6_setTimes, ← hr2, ← hr5, ← hr8, ← hr11, if_pos z3, if_pos z6, if_pos z9, if_pos z12, if_pos z13]
            exact hret _ _ _ _ _ _ _ (hP.sub (ws' := [(xb, c6 (.ref xs) (.ref xf) xb_2 xb_3 xb_4 b), (xs, c5 (upd (upd (upd (upd st 1 a1) 2 a2) 3 a3) 4 a4)), (xf, c2 xf_0 xf_1 xf_2 f)]) [1, 0, 2] rfl) (hD.sub (ws' := [(xb, c6 (.ref xs) (.ref xf) xb_2 xb_3 xb_4 b), (xs, c5 (upd (upd (upd (upd st 1 a1) 2 a2) 3 a3) 4 a4)), (xf, c2 xf_0 xf_1 xf_2 f)]) [1, 0, 2] (by decide) rfl) hS dX6_setTimes_89 ⟨(), (by rw [hsp]), (by rw [hsp])⟩ (Nat.le_of_ble_eq_true rfl) (Nat.le_of_ble_eq_true rfl)
        · have hsp : (s6_setTimes b st f a1 a2 a3 a4) = ((1, st) : Int32 × (Nat → Int32)) := by simp only [s6_setTimes, ← hr2, ← hr5, ← hr8, ← hr11, if_pos z3, if_pos z6, if_pos z9, if_neg z12]
          exact cw_thr (own := RX6) (ik := 67) (is := 75) (ic := 71) (cls := "java/lang/IllegalArgumentException") (text := "a time is out of range") hQ hx hb hlt hown hml hl.1 htab hlocks (by decide +kernel) lcl67 lin_67 hStr (by decide +kernel) lg71 xn_71 hN (by decide +kernel) xg_71 hZ hS hP hD [0, 1, 2] rfl (by decide) dX6_setTimes_42 dX6_setTimes_45 dX6_setTimes_46 dX6_setTimes_48 dX6_setTimes_51 (Nat.le_of_ble_eq_true rfl) (Nat.le_of_ble_eq_true rfl) (Nat.le_of_ble_eq_true rfl) (Nat.le_of_ble_eq_true rfl) (Nat.le_of_ble_eq_true rfl) (Nat.le_of_ble_eq_true rfl) (Or.inl ⟨by rw [hsp], rfl⟩)

set_option maxHeartbeats 4000000 in
set_option maxRecDepth 100000 in
theorem k6_setEyes (l : Launch) (hlt : l.stackTraces = false) (D : va_G) (cI cJ : ClassId) (xb xs xf : Nat) (xb_2 xb_3 xb_4 xf_0 xf_1 xf_2 : Value) (b : Nat → Int32) (st : Nat → Int32) (f : Nat → Int32) (a1 : Int32) (a2 : Int32) (a3 : Int32) : cw_Xv l yX6_setEyes wsX6_setEyes (cw_rx 1) D [(cI, .int)] [.ref xb, .int a1, .int a2, .int a3] [(xb, c6 (.ref xs) (.ref xf) xb_2 xb_3 xb_4 b), (xs, c5 st), (xf, c2 xf_0 xf_1 xf_2 f)] 1 6 (fun _ : Unit => ((s6_setEyes b st f a1 a2 a3).1) = 0) (fun _ : Unit => [(xb, c6 (.ref xs) (.ref xf) xb_2 xb_3 xb_4 b), (xs, c5 ((s6_setEyes b st f a1 a2 a3).2)), (xf, c2 xf_0 xf_1 xf_2 f)]) (fun E => (((s6_setEyes b st f a1 a2 a3).1) = 1 ∧ E = "java/lang/IllegalArgumentException") ∨ (((s6_setEyes b st f a1 a2 a3).1) = 2 ∧ E = "java/lang/IllegalStateException")) := by
  refine cw_ofXv (cc := cX6_setEyes) (maxL := 4) (ret := none) (by decide) rfl (Nat.le_of_ble_eq_true rfl) rfl ?_
  intro p e s m args below meth c A ls Q hin0 hret htab hZ hStr hQ
  obtain ⟨hx, hb, hr, hml, hts, hown, hlocks, hin, hP, hK, hD, hN, hA, hl⟩ := hin0
  have hS : va_S A s.heap s.heap [] := va_S.rf
  have hl : lv_has ls 4 [(0, .ref xb), (1, .int a1), (2, .int a2), (3, .int a3)] := hl
  have lf12 := hts (.fieldLink RX6 12 "Burnerline" "settings" "LBurnerline$Settings;") (by decide +kernel)
  have i6 : ∀ w ∈ wsX60, w ∈ wsX6_setEyes := by decide +kernel
  have lf94 := hN.use (args := args) (w := .fieldLinkNest "Burnerline" 94 "Burnerline$Settings" "ticksToLight" "I" "Burnerline") (by decide +kernel)
  have i5 : ∀ w ∈ wsX50, w ∈ wsX6_setEyes := by decide +kernel
  have lf97 := hN.use (args := args) (w := .fieldLinkNest "Burnerline" 97 "Burnerline$Settings" "ticksToNone" "I" "Burnerline") (by decide +kernel)
  have lf100 := hN.use (args := args) (w := .fieldLinkNest "Burnerline" 100 "Burnerline$Settings" "ticksToCheck" "I" "Burnerline") (by decide +kernel)
  have lcl67 := hts (.classLink RX6 67 "java/lang/IllegalArgumentException") (by decide +kernel)
  have lin_67 := hts (.initialized "java/lang/IllegalArgumentException") (by decide +kernel)
  have lg71 : ∀ w ∈ (vx_atS RX6 71 "java/lang/IllegalArgumentException" cw_nm).filter goodWord, w.before args s = true := fun w h => hts w ((by decide +kernel : ∀ w ∈ (vx_atS RX6 71 "java/lang/IllegalArgumentException" cw_nm).filter goodWord, w ∈ wsX6_setEyes) w h)
  refine lv_iload_n hx hb dX6_setEyes_0 rfl (lv_at hl 1 rfl) ?_
  refine lv_iconst (v := 1) hx hb dX6_setEyes_1 (by decide) ?_
  refine lv_iconst (v := 5) hx hb dX6_setEyes_2 (by decide) ?_
  refine cw_cSi (As := [.int a1, .int 1, .int 5]) (rest := []) (wc := []) (wr := [(xb, c6 (.ref xs) (.ref xf) xb_2 xb_3 xb_4 b), (xs, c5 st), (xf, c2 xf_0 xf_1 xf_2 f)]) ⟨hx, hb, hml, hown, hts⟩ (k6_isOutside l D cI cJ a1 1 5) (va_cwS 3 hts gX6_setEyes_X6_isOutside rfl rfl rfl (by decide +kernel) ⟨Nat.le_of_ble_eq_true rfl, Nat.le_of_ble_eq_true rfl⟩) hK hN hP hD hS hA [] [0, 1, 2] rfl rfl (by decide) (by decide) (by decide) rfl hl.1 rfl (Nat.le_of_ble_eq_true rfl) dX6_setEyes_3 ⟨Nat.le_of_ble_eq_true rfl, Nat.le_of_ble_eq_true rfl⟩ (fun r2 u1 H locs hw hP hD hS => ?_)
  have hr2 : r2 = (s6_isOutside a1 1 5) := hw
  have hP : va_P D vwCl [(xb, c6 (.ref xs) (.ref xf) xb_2 xb_3 xb_4 b), (xs, c5 st), (xf, c2 xf_0 xf_1 xf_2 f)] H := hP
  have hD : va_D A [(xb, c6 (.ref xs) (.ref xf) xb_2 xb_3 xb_4 b), (xs, c5 st), (xf, c2 xf_0 xf_1 xf_2 f)] := hD
  refine lv_if_ne (tgt := 28) hx hb dX6_setEyes_6 (by decide) (fun z3 => ?_) (fun z3 => ?_)
  · have hsp : (s6_setEyes b st f a1 a2 a3) = ((1, st) : Int32 × (Nat → Int32)) := by simp only [s6_setEyes, ← hr2, if_neg z3]
    exact cw_thr (own := RX6) (ik := 67) (is := 92) (ic := 71) (cls := "java/lang/IllegalArgumentException") (text := "a setting of the eyes is out of range") hQ hx hb hlt hown hml hl.1 htab hlocks (by decide +kernel) lcl67 lin_67 hStr (by decide +kernel) lg71 xn_71 hN (by decide +kernel) xg_71 hZ hS hP hD [0, 1, 2] rfl (by decide) dX6_setEyes_28 dX6_setEyes_31 dX6_setEyes_32 dX6_setEyes_34 dX6_setEyes_37 (Nat.le_of_ble_eq_true rfl) (Nat.le_of_ble_eq_true rfl) (Nat.le_of_ble_eq_true rfl) (Nat.le_of_ble_eq_true rfl) (Nat.le_of_ble_eq_true rfl) (Nat.le_of_ble_eq_true rfl) (Or.inl ⟨by rw [hsp], rfl⟩)
  · refine lv_iload_n hx hb dX6_setEyes_9 rfl (lv_at hl 2 rfl) ?_
    refine lv_iconst (v := 1) hx hb dX6_setEyes_10 (by decide) ?_
    refine lv_iconst (v := 5) hx hb dX6_setEyes_11 (by decide) ?_
    refine cw_cSi (As := [.int a2, .int 1, .int 5]) (rest := []) (wc := []) (wr := [(xb, c6 (.ref xs) (.ref xf) xb_2 xb_3 xb_4 b), (xs, c5 st), (xf, c2 xf_0 xf_1 xf_2 f)]) ⟨hx, hb, hml, hown, hts⟩ (k6_isOutside l D cI cJ a2 1 5) (va_cwS 3 hts gX6_setEyes_X6_isOutside rfl rfl rfl (by decide +kernel) ⟨Nat.le_of_ble_eq_true rfl, Nat.le_of_ble_eq_true rfl⟩) hK hN hP hD hS hA [] [0, 1, 2] rfl rfl (by decide) (by decide) (by decide) rfl hl.1 rfl (Nat.le_of_ble_eq_true rfl) dX6_setEyes_12 ⟨Nat.le_of_ble_eq_true rfl, Nat.le_of_ble_eq_true rfl⟩ (fun r5 u4 H locs hw hP hD hS => ?_)
    have hr5 : r5 = (s6_isOutside a2 1 5) := hw
    have hP : va_P D vwCl [(xb, c6 (.ref xs) (.ref xf) xb_2 xb_3 xb_4 b), (xs, c5 st), (xf, c2 xf_0 xf_1 xf_2 f)] H := hP
    have hD : va_D A [(xb, c6 (.ref xs) (.ref xf) xb_2 xb_3 xb_4 b), (xs, c5 st), (xf, c2 xf_0 xf_1 xf_2 f)] := hD
    refine lv_if_ne (tgt := 28) hx hb dX6_setEyes_15 (by decide) (fun z6 => ?_) (fun z6 => ?_)
    · have hsp : (s6_setEyes b st f a1 a2 a3) = ((1, st) : Int32 × (Nat → Int32)) := by simp only [s6_setEyes, ← hr2, ← hr5, if_pos z3, if_neg z6]
      exact cw_thr (own := RX6) (ik := 67) (is := 92) (ic := 71) (cls := "java/lang/IllegalArgumentException") (text := "a setting of the eyes is out of range") hQ hx hb hlt hown hml hl.1 htab hlocks (by decide +kernel) lcl67 lin_67 hStr (by decide +kernel) lg71 xn_71 hN (by decide +kernel) xg_71 hZ hS hP hD [0, 1, 2] rfl (by decide) dX6_setEyes_28 dX6_setEyes_31 dX6_setEyes_32 dX6_setEyes_34 dX6_setEyes_37 (Nat.le_of_ble_eq_true rfl) (Nat.le_of_ble_eq_true rfl) (Nat.le_of_ble_eq_true rfl) (Nat.le_of_ble_eq_true rfl) (Nat.le_of_ble_eq_true rfl) (Nat.le_of_ble_eq_true rfl) (Or.inl ⟨by rw [hsp], rfl⟩)
    · refine lv_iload_n hx hb dX6_setEyes_18 rfl (lv_at hl 3 rfl) ?_
      refine lv_iconst (v := 5) hx hb dX6_setEyes_19 (by decide) ?_
      refine lv_bipush (v := 100) hx hb dX6_setEyes_20 (by decide) ?_
      refine cw_cSi (As := [.int a3, .int 5, .int 100]) (rest := []) (wc := []) (wr := [(xb, c6 (.ref xs) (.ref xf) xb_2 xb_3 xb_4 b), (xs, c5 st), (xf, c2 xf_0 xf_1 xf_2 f)]) ⟨hx, hb, hml, hown, hts⟩ (k6_isOutside l D cI cJ a3 5 100) (va_cwS 3 hts gX6_setEyes_X6_isOutside rfl rfl rfl (by decide +kernel) ⟨Nat.le_of_ble_eq_true rfl, Nat.le_of_ble_eq_true rfl⟩) hK hN hP hD hS hA [] [0, 1, 2] rfl rfl (by decide) (by decide) (by decide) rfl hl.1 rfl (Nat.le_of_ble_eq_true rfl) dX6_setEyes_22 ⟨Nat.le_of_ble_eq_true rfl, Nat.le_of_ble_eq_true rfl⟩ (fun r8 u7 H locs hw hP hD hS => ?_)
      have hr8 : r8 = (s6_isOutside a3 5 100) := hw
      have hP : va_P D vwCl [(xb, c6 (.ref xs) (.ref xf) xb_2 xb_3 xb_4 b), (xs, c5 st), (xf, c2 xf_0 xf_1 xf_2 f)] H := hP
      have hD : va_D A [(xb, c6 (.ref xs) (.ref xf) xb_2 xb_3 xb_4 b), (xs, c5 st), (xf, c2 xf_0 xf_1 xf_2 f)] := hD
      refine lv_if_eq (tgt := 38) hx hb dX6_setEyes_25 (by decide) (fun z9 => ?_) (fun z9 => ?_)
      · refine lv_aload_n hx hb dX6_setEyes_38 rfl (lv_at hl 0 rfl) ?_
        refine cw_cVXv (As := []) (rest := []) (wc := [(xb, c6 (.ref xs) (.ref xf) xb_2 xb_3 xb_4 b), (xf, c2 xf_0 xf_1 xf_2 f)]) (wr := [(xs, c5 st)]) ⟨hx, hb, hml, hown, hts⟩ (k6_refuseUnlessOff l hlt D cI cJ xb xf (.ref xs) xb_2 xb_3 xb_4 xf_0 xf_1 xf_2 b f) (cwV 0 hts gX6_setEyes_X6_refuseUnlessOff rfl rfl rfl (by decide +kernel) ⟨Nat.le_of_ble_eq_true rfl, Nat.le_of_ble_eq_true rfl⟩) hK hN hP hD hS hA hZ hStr [0, 2] [1] rfl rfl (by decide) (by decide) (by decide) 0 (ci := 6) rfl rfl rfl rfl hl.1 rfl (Nat.le_of_ble_eq_true rfl) dX6_setEyes_39 ⟨Nat.le_of_ble_eq_true rfl, Nat.le_of_ble_eq_true rfl⟩ (fun E ce q9 H locs hxp hP hD hS hce hcv hcl => ?_) (fun u12 H locs hw hP hD hS => ?_)
        · obtain ⟨hc9, rfl⟩ := hxp
          have z10 : ¬ (s6_refuseUnlessOff b f) = 0 := by rw [hc9]; decide
          have hsp : (s6_setEyes b st f a1 a2 a3) = ((2, st) : Int32 × (Nat → Int32)) := by simp only [s6_setEyes, ← hr2, ← hr5, ← hr8, if_pos z3, if_pos z6, if_pos z9, if_neg z10]
          exact cw_out hQ htab hlocks hS hP hD [1, 0, 2] rfl (by decide) hce hcv hcl (Or.inr (⟨by rw [hsp], rfl⟩)) (Nat.le_of_ble_eq_true rfl) (Nat.le_of_ble_eq_true rfl)
        · have z10 : (s6_refuseUnlessOff b f) = 0 := hw
          have hP : va_P D vwCl [(xs, c5 st), (xb, c6 (.ref xs) (.ref xf) xb_2 xb_3 xb_4 b), (xf, c2 xf_0 xf_1 xf_2 f)] H := hP
          have hD : va_D A [(xs, c5 st), (xb, c6 (.ref xs) (.ref xf) xb_2 xb_3 xb_4 b), (xf, c2 xf_0 xf_1 xf_2 f)] := hD
          refine lv_aload_n hx hb dX6_setEyes_42 rfl (lv_at hl 0 rfl) ?_
          refine va_get (D := D) (ci := 6) (v := .ref xs) (C := RX6) (T := TX6) (N := 7) hx hb hts i6 hown hK hP 1 rfl rfl 0 (by decide) lf12 (fun _ h9 => h9) rfl dX6_setEyes_43 ?_
          refine lv_iload_n hx hb dX6_setEyes_46 rfl (lv_at hl 1 rfl) ?_
          refine va_putN (D := D) (ci := 5) (v := .int a1) (ty := .int) (C := RX5) (T := TX5) (N := 11) hx hb hts i5 tyX5 tyX5_ok nmX5 hown hK hP hD hS 0 rfl rfl 5 (by decide) lf94 (fun _ h9 => h9) rfl (by decide +kernel) rfl rfl (Nat.le_of_ble_eq_true rfl) dX6_setEyes_47 (fun H locs hP hD hS => ?_)
          have hP : va_P D vwCl [(xs, c5 (upd st 5 a1)), (xb, c6 (.ref xs) (.ref xf) xb_2 xb_3 xb_4 b), (xf, c2 xf_0 xf_1 xf_2 f)] H := (congrArg (fun z9 => va_P D vwCl [(xs, .inr (5, z9)), (xb, c6 (.ref xs) (.ref xf) xb_2 xb_3 xb_4 b), (xf, c2 xf_0 xf_1 xf_2 f)] H) (cs5_5 st a1)).mp hP
          have hD : va_D A [(xs, c5 (upd st 5 a1)), (xb, c6 (.ref xs) (.ref xf) xb_2 xb_3 xb_4 b), (xf, c2 xf_0 xf_1 xf_2 f)] := (congrArg (fun z9 => va_D A [(xs, .inr (5, z9)), (xb, c6 (.ref xs) (.ref xf) xb_2 xb_3 xb_4 b), (xf, c2 xf_0 xf_1 xf_2 f)]) (cs5_5 st a1)).mp hD
          refine lv_aload_n hx hb dX6_setEyes_50 rfl (lv_at hl 0 rfl) ?_
          refine va_get (D := D) (ci := 6) (v := .ref xs) (C := RX6) (T := TX6) (N := 7) hx hb hts i6 hown hK hP 1 rfl rfl 0 (by decide) lf12 (fun _ h9 => h9) rfl dX6_setEyes_51 ?_
          refine lv_iload_n hx hb dX6_setEyes_54 rfl (lv_at hl 2 rfl) ?_
          refine va_putN (D := D) (ci := 5) (v := .int a2) (ty := .int) (C := RX5) (T := TX5) (N := 11) hx hb hts i5 tyX5 tyX5_ok nmX5 hown hK hP hD hS 0 rfl rfl 6 (by decide) lf97 (fun _ h9 => h9) rfl (by decide +kernel) rfl rfl (Nat.le_of_ble_eq_true rfl) dX6_setEyes_55 (fun H locs hP hD hS => ?_)
          have hP : va_P D vwCl [(xs, c5 (upd (upd st 5 a1) 6 a2)), (xb, c6 (.ref xs) (.ref xf) xb_2 xb_3 xb_4 b), (xf, c2 xf_0 xf_1 xf_2 f)] H := (congrArg (fun z9 => va_P D vwCl [(xs, .inr (5, z9)), (xb, c6 (.ref xs) (.ref xf) xb_2 xb_3 xb_4 b), (xf, c2 xf_0 xf_1 xf_2 f)] H) (cs5_6 (upd st 5 a1) a2)).mp hP
          have hD : va_D A [(xs, c5 (upd (upd st 5 a1) 6 a2)), (xb, c6 (.ref xs) (.ref xf) xb_2 xb_3 xb_4 b), (xf, c2 xf_0 xf_1 xf_2 f)] := (congrArg (fun z9 => va_D A [(xs, .inr (5, z9)), (xb, c6 (.ref xs) (.ref xf) xb_2 xb_3 xb_4 b), (xf, c2 xf_0 xf_1 xf_2 f)]) (cs5_6 (upd st 5 a1) a2)).mp hD
          refine lv_aload_n hx hb dX6_setEyes_58 rfl (lv_at hl 0 rfl) ?_
          refine va_get (D := D) (ci := 6) (v := .ref xs) (C := RX6) (T := TX6) (N := 7) hx hb hts i6 hown hK hP 1 rfl rfl 0 (by decide) lf12 (fun _ h9 => h9) rfl dX6_setEyes_59 ?_
          refine lv_iload_n hx hb dX6_setEyes_62 rfl (lv_at hl 3 rfl) ?_
          refine va_putN (D := D) (ci := 5) (v := .int a3) (ty := .int) (C := RX5) (T := TX5) (N := 11) hx hb hts i5 tyX5 tyX5_ok nmX5 hown hK hP hD hS 0 rfl rfl 7 (by decide) lf100 (fun _ h9 => h9) rfl (by decide +kernel) rfl rfl (Nat.le_of_ble_eq_true rfl) dX6_setEyes_63 (fun H locs hP hD hS => ?_)
          have hP : va_P D vwCl [(xs, c5 (upd (upd (upd st 5 a1) 6 a2) 7 a3)), (xb, c6 (.ref xs) (.ref xf) xb_2 xb_3 xb_4 b), (xf, c2 xf_0 xf_1 xf_2 f)] H := (congrArg (fun z9 => va_P D vwCl [(xs, .inr (5, z9)), (xb, c6 (.ref xs) (.ref xf) xb_2 xb_3 xb_4 b), (xf, c2 xf_0 xf_1 xf_2 f)] H) (cs5_7 (upd (upd st 5 a1) 6 a2) a3)).mp hP
          have hD : va_D A [(xs, c5 (upd (upd (upd st 5 a1) 6 a2) 7 a3)), (xb, c6 (.ref xs) (.ref xf) xb_2 xb_3 xb_4 b), (xf, c2 xf_0 xf_1 xf_2 f)] := (congrArg (fun z9 => va_D A [(xs, .inr (5, z9)), (xb, c6 (.ref xs) (.ref xf) xb_2 xb_3 xb_4 b), (xf, c2 xf_0 xf_1 xf_2 f)]) (cs5_7 (upd (upd st 5 a1) 6 a2) a3)).mp hD
          have hsp : (s6_setEyes b st f a1 a2 a3) = ((0, (upd (upd (upd st 5 a1) 6 a2) 7 a3)) : Int32 × (Nat → Int32)) := by simp only [s6_setEyes, ← hr2, ← hr5, ← hr8, if_pos z3, if_pos z6, if_pos z9, if_pos z10]
          exact hret _ _ _ _ _ _ _ (hP.sub (ws' := [(xb, c6 (.ref xs) (.ref xf) xb_2 xb_3 xb_4 b), (xs, c5 (upd (upd (upd st 5 a1) 6 a2) 7 a3)), (xf, c2 xf_0 xf_1 xf_2 f)]) [1, 0, 2] rfl) (hD.sub (ws' := [(xb, c6 (.ref xs) (.ref xf) xb_2 xb_3 xb_4 b), (xs, c5 (upd (upd (upd st 5 a1) 6 a2) 7 a3)), (xf, c2 xf_0 xf_1 xf_2 f)]) [1, 0, 2] (by decide) rfl) hS dX6_setEyes_66 ⟨(), (by rw [hsp]), (by rw [hsp])⟩ (Nat.le_of_ble_eq_true rfl) (Nat.le_of_ble_eq_true rfl)
      · have hsp : (s6_setEyes b st f a1 a2 a3) = ((1, st) : Int32 × (Nat → Int32)) := by simp only [s6_setEyes, ← hr2, ← hr5, ← hr8, if_pos z3, if_pos z6, if_neg z9]
        exact cw_thr (own := RX6) (ik := 67) (is := 92) (ic := 71) (cls := "java/lang/IllegalArgumentException") (text := "a setting of the eyes is out of range") hQ hx hb hlt hown hml hl.1 htab hlocks (by decide +kernel) lcl67 lin_67 hStr (by decide +kernel) lg71 xn_71 hN (by decide +kernel) xg_71 hZ hS hP hD [0, 1, 2] rfl (by decide) dX6_setEyes_28 dX6_setEyes_31 dX6_setEyes_32 dX6_setEyes_34 dX6_setEyes_37 (Nat.le_of_ble_eq_true rfl) (Nat.le_of_ble_eq_true rfl) (Nat.le_of_ble_eq_true rfl) (Nat.le_of_ble_eq_true rfl) (Nat.le_of_ble_eq_true rfl) (Nat.le_of_ble_eq_true rfl) (Or.inl ⟨by rw [hsp], rfl⟩)

set_option maxHeartbeats 4000000 in
set_option maxRecDepth 100000 in
theorem k6_setFurnace (l : Launch) (hlt : l.stackTraces = false) (D : va_G) (cI cJ : ClassId) (xb xs xf : Nat) (xb_2 xb_3 xb_4 xf_0 xf_1 xf_2 : Value) (b : Nat → Int32) (st : Nat → Int32) (f : Nat → Int32) (a1 : Int32) (a2 : Int32) (a3 : Int32) : cw_Xv l yX6_setFurnace wsX6_setFurnace (cw_rx 1) D [(cI, .int)] [.ref xb, .int a1, .int a2, .int a3] [(xb, c6 (.ref xs) (.ref xf) xb_2 xb_3 xb_4 b), (xs, c5 st), (xf, c2 xf_0 xf_1 xf_2 f)] 1 6 (fun _ : Unit => ((s6_setFurnace b st f a1 a2 a3).1) = 0) (fun _ : Unit => [(xb, c6 (.ref xs) (.ref xf) xb_2 xb_3 xb_4 b), (xs, c5 ((s6_setFurnace b st f a1 a2 a3).2)), (xf, c2 xf_0 xf_1 xf_2 f)]) (fun E => (((s6_setFurnace b st f a1 a2 a3).1) = 1 ∧ E = "java/lang/IllegalArgumentException") ∨ (((s6_setFurnace b st f a1 a2 a3).1) = 2 ∧ E = "java/lang/IllegalStateException")) := by
  refine cw_ofXv (cc := cX6_setFurnace) (maxL := 4) (ret := none) (by decide) rfl (Nat.le_of_ble_eq_true rfl) rfl ?_
  intro p e s m args below meth c A ls Q hin0 hret htab hZ hStr hQ
  obtain ⟨hx, hb, hr, hml, hts, hown, hlocks, hin, hP, hK, hD, hN, hA, hl⟩ := hin0
  have hS : va_S A s.heap s.heap [] := va_S.rf
  have hl : lv_has ls 4 [(0, .ref xb), (1, .int a1), (2, .int a2), (3, .int a3)] := hl
  have lf12 := hts (.fieldLink RX6 12 "Burnerline" "settings" "LBurnerline$Settings;") (by decide +kernel)
  have i6 : ∀ w ∈ wsX60, w ∈ wsX6_setFurnace := by decide +kernel
  have lf105 := hN.use (args := args) (w := .fieldLinkNest "Burnerline" 105 "Burnerline$Settings" "volume" "I" "Burnerline") (by decide +kernel)
  have i5 : ∀ w ∈ wsX50, w ∈ wsX6_setFurnace := by decide +kernel
  have lf108 := hN.use (args := args) (w := .fieldLinkNest "Burnerline" 108 "Burnerline$Settings" "airStep" "I" "Burnerline") (by decide +kernel)
  have lf111 := hN.use (args := args) (w := .fieldLinkNest "Burnerline" 111 "Burnerline$Settings" "fuelStep" "I" "Burnerline") (by decide +kernel)
  have lcl67 := hts (.classLink RX6 67 "java/lang/IllegalArgumentException") (by decide +kernel)
  have lin_67 := hts (.initialized "java/lang/IllegalArgumentException") (by decide +kernel)
  have lg71 : ∀ w ∈ (vx_atS RX6 71 "java/lang/IllegalArgumentException" cw_nm).filter goodWord, w.before args s = true := fun w h => hts w ((by decide +kernel : ∀ w ∈ (vx_atS RX6 71 "java/lang/IllegalArgumentException" cw_nm).filter goodWord, w ∈ wsX6_setFurnace) w h)
  refine lv_iload_n hx hb dX6_setFurnace_0 rfl (lv_at hl 1 rfl) ?_
  refine lv_iconst (v := 1) hx hb dX6_setFurnace_1 (by decide) ?_
  refine lv_sipush (v := 500) hx hb dX6_setFurnace_2 (by decide) ?_
  refine cw_cSi (As := [.int a1, .int 1, .int 500]) (rest := []) (wc := []) (wr := [(xb, c6 (.ref xs) (.ref xf) xb_2 xb_3 xb_4 b), (xs, c5 st), (xf, c2 xf_0 xf_1 xf_2 f)]) ⟨hx, hb, hml, hown, hts⟩ (k6_isOutside l D cI cJ a1 1 500) (va_cwS 3 hts gX6_setFurnace_X6_isOutside rfl rfl rfl (by decide +kernel) ⟨Nat.le_of_ble_eq_true rfl, Nat.le_of_ble_eq_true rfl⟩) hK hN hP hD hS hA [] [0, 1, 2] rfl rfl (by decide) (by decide) (by decide) rfl hl.1 rfl (Nat.le_of_ble_eq_true rfl) dX6_setFurnace_5 ⟨Nat.le_of_ble_eq_true rfl, Nat.le_of_ble_eq_true rfl⟩ (fun r2 u1 H locs hw hP hD hS => ?_)
  have hr2 : r2 = (s6_isOutside a1 1 500) := hw
  have hP : va_P D vwCl [(xb, c6 (.ref xs) (.ref xf) xb_2 xb_3 xb_4 b), (xs, c5 st), (xf, c2 xf_0 xf_1 xf_2 f)] H := hP
  have hD : va_D A [(xb, c6 (.ref xs) (.ref xf) xb_2 xb_3 xb_4 b), (xs, c5 st), (xf, c2 xf_0 xf_1 xf_2 f)] := hD
  refine lv_if_ne (tgt := 31) hx hb dX6_setFurnace_8 (by decide) (fun z3 => ?_) (fun z3 => ?_)
  · have hsp : (s6_setFurnace b st f a1 a2 a3) = ((1, st) : Int32 × (Nat → Int32)) := by simp only [s6_setFurnace, ← hr2, if_neg z3]
    exact cw_thr (own := RX6) (ik := 67) (is := 103) (ic := 71) (cls := "java/lang/IllegalArgumentException") (text := "a setting of the furnace is out of range") hQ hx hb hlt hown hml hl.1 htab hlocks (by decide +kernel) lcl67 lin_67 hStr (by decide +kernel) lg71 xn_71 hN (by decide +kernel) xg_71 hZ hS hP hD [0, 1, 2] rfl (by decide) dX6_setFurnace_31 dX6_setFurnace_34 dX6_setFurnace_35 dX6_setFurnace_37 dX6_setFurnace_40 (Nat.le_of_ble_eq_true rfl) (Nat.le_of_ble_eq_true rfl) (Nat.le_of_ble_eq_true rfl) (Nat.le_of_ble_eq_true rfl) (Nat.le_of_ble_eq_true rfl) (Nat.le_of_ble_eq_true rfl) (Or.inl ⟨by rw [hsp], rfl⟩)
  · refine lv_iload_n hx hb dX6_setFurnace_11 rfl (lv_at hl 2 rfl) ?_
    refine lv_iconst (v := 1) hx hb dX6_setFurnace_12 (by decide) ?_
    refine lv_bipush (v := 50) hx hb dX6_setFurnace_13 (by decide) ?_
    refine cw_cSi (As := [.int a2, .int 1, .int 50]) (rest := []) (wc := []) (wr := [(xb, c6 (.ref xs) (.ref xf) xb_2 xb_3 xb_4 b), (xs, c5 st), (xf, c2 xf_0 xf_1 xf_2 f)]) ⟨hx, hb, hml, hown, hts⟩ (k6_isOutside l D cI cJ a2 1 50) (va_cwS 3 hts gX6_setFurnace_X6_isOutside rfl rfl rfl (by decide +kernel) ⟨Nat.le_of_ble_eq_true rfl, Nat.le_of_ble_eq_true rfl⟩) hK hN hP hD hS hA [] [0, 1, 2] rfl rfl (by decide) (by decide) (by decide) rfl hl.1 rfl (Nat.le_of_ble_eq_true rfl) dX6_setFurnace_15 ⟨Nat.le_of_ble_eq_true rfl, Nat.le_of_ble_eq_true rfl⟩ (fun r5 u4 H locs hw hP hD hS => ?_)
    have hr5 : r5 = (s6_isOutside a2 1 50) := hw
    have hP : va_P D vwCl [(xb, c6 (.ref xs) (.ref xf) xb_2 xb_3 xb_4 b), (xs, c5 st), (xf, c2 xf_0 xf_1 xf_2 f)] H := hP
    have hD : va_D A [(xb, c6 (.ref xs) (.ref xf) xb_2 xb_3 xb_4 b), (xs, c5 st), (xf, c2 xf_0 xf_1 xf_2 f)] := hD
    refine lv_if_ne (tgt := 31) hx hb dX6_setFurnace_18 (by decide) (fun z6 => ?_) (fun z6 => ?_)
    · have hsp : (s6_setFurnace b st f a1 a2 a3) = ((1, st) : Int32 × (Nat → Int32)) := by simp only [s6_setFurnace, ← hr2, ← hr5, if_pos z3, if_neg z6]
      exact cw_thr (own := RX6) (ik := 67) (is := 103) (ic := 71) (cls := "java/lang/IllegalArgumentException") (text := "a setting of the furnace is out of range") hQ hx hb hlt hown hml hl.1 htab hlocks (by decide +kernel) lcl67 lin_67 hStr (by decide +kernel) lg71 xn_71 hN (by decide +kernel) xg_71 hZ hS hP hD [0, 1, 2] rfl (by decide) dX6_setFurnace_31 dX6_setFurnace_34 dX6_setFurnace_35 dX6_setFurnace_37 dX6_setFurnace_40 (Nat.le_of_ble_eq_true rfl) (Nat.le_of_ble_eq_true rfl) (Nat.le_of_ble_eq_true rfl) (Nat.le_of_ble_eq_true rfl) (Nat.le_of_ble_eq_true rfl) (Nat.le_of_ble_eq_true rfl) (Or.inl ⟨by rw [hsp], rfl⟩)
    · refine lv_iload_n hx hb dX6_setFurnace_21 rfl (lv_at hl 3 rfl) ?_
      refine lv_iconst (v := 1) hx hb dX6_setFurnace_22 (by decide) ?_
      refine lv_bipush (v := 50) hx hb dX6_setFurnace_23 (by decide) ?_
      refine cw_cSi (As := [.int a3, .int 1, .int 50]) (rest := []) (wc := []) (wr := [(xb, c6 (.ref xs) (.ref xf) xb_2 xb_3 xb_4 b), (xs, c5 st), (xf, c2 xf_0 xf_1 xf_2 f)]) ⟨hx, hb, hml, hown, hts⟩ (k6_isOutside l D cI cJ a3 1 50) (va_cwS 3 hts gX6_setFurnace_X6_isOutside rfl rfl rfl (by decide +kernel) ⟨Nat.le_of_ble_eq_true rfl, Nat.le_of_ble_eq_true rfl⟩) hK hN hP hD hS hA [] [0, 1, 2] rfl rfl (by decide) (by decide) (by decide) rfl hl.1 rfl (Nat.le_of_ble_eq_true rfl) dX6_setFurnace_25 ⟨Nat.le_of_ble_eq_true rfl, Nat.le_of_ble_eq_true rfl⟩ (fun r8 u7 H locs hw hP hD hS => ?_)
      have hr8 : r8 = (s6_isOutside a3 1 50) := hw
      have hP : va_P D vwCl [(xb, c6 (.ref xs) (.ref xf) xb_2 xb_3 xb_4 b), (xs, c5 st), (xf, c2 xf_0 xf_1 xf_2 f)] H := hP
      have hD : va_D A [(xb, c6 (.ref xs) (.ref xf) xb_2 xb_3 xb_4 b), (xs, c5 st), (xf, c2 xf_0 xf_1 xf_2 f)] := hD
      refine lv_if_eq (tgt := 41) hx hb dX6_setFurnace_28 (by decide) (fun z9 => ?_) (fun z9 => ?_)
      · refine lv_aload_n hx hb dX6_setFurnace_41 rfl (lv_at hl 0 rfl) ?_
        refine cw_cVXv (As := []) (rest := []) (wc := [(xb, c6 (.ref xs) (.ref xf) xb_2 xb_3 xb_4 b), (xf, c2 xf_0 xf_1 xf_2 f)]) (wr := [(xs, c5 st)]) ⟨hx, hb, hml, hown, hts⟩ (k6_refuseUnlessOff l hlt D cI cJ xb xf (.ref xs) xb_2 xb_3 xb_4 xf_0 xf_1 xf_2 b f) (cwV 0 hts gX6_setFurnace_X6_refuseUnlessOff rfl rfl rfl (by decide +kernel) ⟨Nat.le_of_ble_eq_true rfl, Nat.le_of_ble_eq_true rfl⟩) hK hN hP hD hS hA hZ hStr [0, 2] [1] rfl rfl (by decide) (by decide) (by decide) 0 (ci := 6) rfl rfl rfl rfl hl.1 rfl (Nat.le_of_ble_eq_true rfl) dX6_setFurnace_42 ⟨Nat.le_of_ble_eq_true rfl, Nat.le_of_ble_eq_true rfl⟩ (fun E ce q9 H locs hxp hP hD hS hce hcv hcl => ?_) (fun u12 H locs hw hP hD hS => ?_)
        · obtain ⟨hc9, rfl⟩ := hxp
          have z10 : ¬ (s6_refuseUnlessOff b f) = 0 := by rw [hc9]; decide
          have hsp : (s6_setFurnace b st f a1 a2 a3) = ((2, st) : Int32 × (Nat → Int32)) := by simp only [s6_setFurnace, ← hr2, ← hr5, ← hr8, if_pos z3, if_pos z6, if_pos z9, if_neg z10]
          exact cw_out hQ htab hlocks hS hP hD [1, 0, 2] rfl (by decide) hce hcv hcl (Or.inr (⟨by rw [hsp], rfl⟩)) (Nat.le_of_ble_eq_true rfl) (Nat.le_of_ble_eq_true rfl)
        · have z10 : (s6_refuseUnlessOff b f) = 0 := hw
          have hP : va_P D vwCl [(xs, c5 st), (xb, c6 (.ref xs) (.ref xf) xb_2 xb_3 xb_4 b), (xf, c2 xf_0 xf_1 xf_2 f)] H := hP
          have hD : va_D A [(xs, c5 st), (xb, c6 (.ref xs) (.ref xf) xb_2 xb_3 xb_4 b), (xf, c2 xf_0 xf_1 xf_2 f)] := hD
          refine lv_aload_n hx hb dX6_setFurnace_45 rfl (lv_at hl 0 rfl) ?_
          refine va_get (D := D) (ci := 6) (v := .ref xs) (C := RX6) (T := TX6) (N := 7) hx hb hts i6 hown hK hP 1 rfl rfl 0 (by decide) lf12 (fun _ h9 => h9) rfl dX6_setFurnace_46 ?_
          refine lv_iload_n hx hb dX6_setFurnace_49 rfl (lv_at hl 1 rfl) ?_
          refine va_putN (D := D) (ci := 5) (v := .int a1) (ty := .int) (C := RX5) (T := TX5) (N := 11) hx hb hts i5 tyX5 tyX5_ok nmX5 hown hK hP hD hS 0 rfl rfl 8 (by decide) lf105 (fun _ h9 => h9) rfl (by decide +kernel) rfl rfl (Nat.le_of_ble_eq_true rfl) dX6_setFurnace_50 (fun H locs hP hD hS => ?_)
          have hP : va_P D vwCl [(xs, c5 (upd st 8 a1)), (xb, c6 (.ref xs) (.ref xf) xb_2 xb_3 xb_4 b), (xf, c2 xf_0 xf_1 xf_2 f)] H := (congrArg (fun z9 => va_P D vwCl [(xs, .inr (5, z9)), (xb, c6 (.ref xs) (.ref xf) xb_2 xb_3 xb_4 b), (xf, c2 xf_0 xf_1 xf_2 f)] H) (cs5_8 st a1)).mp hP
          have hD : va_D A [(xs, c5 (upd st 8 a1)), (xb, c6 (.ref xs) (.ref xf) xb_2 xb_3 xb_4 b), (xf, c2 xf_0 xf_1 xf_2 f)] := (congrArg (fun z9 => va_D A [(xs, .inr (5, z9)), (xb, c6 (.ref xs) (.ref xf) xb_2 xb_3 xb_4 b), (xf, c2 xf_0 xf_1 xf_2 f)]) (cs5_8 st a1)).mp hD
          refine lv_aload_n hx hb dX6_setFurnace_53 rfl (lv_at hl 0 rfl) ?_
          refine va_get (D := D) (ci := 6) (v := .ref xs) (C := RX6) (T := TX6) (N := 7) hx hb hts i6 hown hK hP 1 rfl rfl 0 (by decide) lf12 (fun _ h9 => h9) rfl dX6_setFurnace_54 ?_
          refine lv_iload_n hx hb dX6_setFurnace_57 rfl (lv_at hl 2 rfl) ?_
          refine va_putN (D := D) (ci := 5) (v := .int a2) (ty := .int) (C := RX5) (T := TX5) (N := 11) hx hb hts i5 tyX5 tyX5_ok nmX5 hown hK hP hD hS 0 rfl rfl 9 (by decide) lf108 (fun _ h9 => h9) rfl (by decide +kernel) rfl rfl (Nat.le_of_ble_eq_true rfl) dX6_setFurnace_58 (fun H locs hP hD hS => ?_)
          have hP : va_P D vwCl [(xs, c5 (upd (upd st 8 a1) 9 a2)), (xb, c6 (.ref xs) (.ref xf) xb_2 xb_3 xb_4 b), (xf, c2 xf_0 xf_1 xf_2 f)] H := (congrArg (fun z9 => va_P D vwCl [(xs, .inr (5, z9)), (xb, c6 (.ref xs) (.ref xf) xb_2 xb_3 xb_4 b), (xf, c2 xf_0 xf_1 xf_2 f)] H) (cs5_9 (upd st 8 a1) a2)).mp hP
          have hD : va_D A [(xs, c5 (upd (upd st 8 a1) 9 a2)), (xb, c6 (.ref xs) (.ref xf) xb_2 xb_3 xb_4 b), (xf, c2 xf_0 xf_1 xf_2 f)] := (congrArg (fun z9 => va_D A [(xs, .inr (5, z9)), (xb, c6 (.ref xs) (.ref xf) xb_2 xb_3 xb_4 b), (xf, c2 xf_0 xf_1 xf_2 f)]) (cs5_9 (upd st 8 a1) a2)).mp hD
          refine lv_aload_n hx hb dX6_setFurnace_61 rfl (lv_at hl 0 rfl) ?_
          refine va_get (D := D) (ci := 6) (v := .ref xs) (C := RX6) (T := TX6) (N := 7) hx hb hts i6 hown hK hP 1 rfl rfl 0 (by decide) lf12 (fun _ h9 => h9) rfl dX6_setFurnace_62 ?_
          refine lv_iload_n hx hb dX6_setFurnace_65 rfl (lv_at hl 3 rfl) ?_
          refine va_putN (D := D) (ci := 5) (v := .int a3) (ty := .int) (C := RX5) (T := TX5) (N := 11) hx hb hts i5 tyX5 tyX5_ok nmX5 hown hK hP hD hS 0 rfl rfl 10 (by decide) lf111 (fun _ h9 => h9) rfl (by decide +kernel) rfl rfl (Nat.le_of_ble_eq_true rfl) dX6_setFurnace_66 (fun H locs hP hD hS => ?_)
          have hP : va_P D vwCl [(xs, c5 (upd (upd (upd st 8 a1) 9 a2) 10 a3)), (xb, c6 (.ref xs) (.ref xf) xb_2 xb_3 xb_4 b), (xf, c2 xf_0 xf_1 xf_2 f)] H := (congrArg (fun z9 => va_P D vwCl [(xs, .inr (5, z9)), (xb, c6 (.ref xs) (.ref xf) xb_2 xb_3 xb_4 b), (xf, c2 xf_0 xf_1 xf_2 f)] H) (cs5_10 (upd (upd st 8 a1) 9 a2) a3)).mp hP
          have hD : va_D A [(xs, c5 (upd (upd (upd st 8 a1) 9 a2) 10 a3)), (xb, c6 (.ref xs) (.ref xf) xb_2 xb_3 xb_4 b), (xf, c2 xf_0 xf_1 xf_2 f)] := (congrArg (fun z9 => va_D A [(xs, .inr (5, z9)), (xb, c6 (.ref xs) (.ref xf) xb_2 xb_3 xb_4 b), (xf, c2 xf_0 xf_1 xf_2 f)]) (cs5_10 (upd (upd st 8 a1) 9 a2) a3)).mp hD
          have hsp : (s6_setFurnace b st f a1 a2 a3) = ((0, (upd (upd (upd st 8 a1) 9 a2) 10 a3)) : Int32 × (Nat → Int32)) := by simp only [s6_setFurnace, ← hr2, ← hr5, ← hr8, if_pos z3, if_pos z6, if_pos z9, if_pos z10]
          exact hret _ _ _ _ _ _ _ (hP.sub (ws' := [(xb, c6 (.ref xs) (.ref xf) xb_2 xb_3 xb_4 b), (xs, c5 (upd (upd (upd st 8 a1) 9 a2) 10 a3)), (xf, c2 xf_0 xf_1 xf_2 f)]) [1, 0, 2] rfl) (hD.sub (ws' := [(xb, c6 (.ref xs) (.ref xf) xb_2 xb_3 xb_4 b), (xs, c5 (upd (upd (upd st 8 a1) 9 a2) 10 a3)), (xf, c2 xf_0 xf_1 xf_2 f)]) [1, 0, 2] (by decide) rfl) hS dX6_setFurnace_69 ⟨(), (by rw [hsp]), (by rw [hsp])⟩ (Nat.le_of_ble_eq_true rfl) (Nat.le_of_ble_eq_true rfl)
      · have hsp : (s6_setFurnace b st f a1 a2 a3) = ((1, st) : Int32 × (Nat → Int32)) := by simp only [s6_setFurnace, ← hr2, ← hr5, ← hr8, if_pos z3, if_pos z6, if_neg z9]
        exact cw_thr (own := RX6) (ik := 67) (is := 103) (ic := 71) (cls := "java/lang/IllegalArgumentException") (text := "a setting of the furnace is out of range") hQ hx hb hlt hown hml hl.1 htab hlocks (by decide +kernel) lcl67 lin_67 hStr (by decide +kernel) lg71 xn_71 hN (by decide +kernel) xg_71 hZ hS hP hD [0, 1, 2] rfl (by decide) dX6_setFurnace_31 dX6_setFurnace_34 dX6_setFurnace_35 dX6_setFurnace_37 dX6_setFurnace_40 (Nat.le_of_ble_eq_true rfl) (Nat.le_of_ble_eq_true rfl) (Nat.le_of_ble_eq_true rfl) (Nat.le_of_ble_eq_true rfl) (Nat.le_of_ble_eq_true rfl) (Nat.le_of_ble_eq_true rfl) (Or.inl ⟨by rw [hsp], rfl⟩)

set_option maxHeartbeats 4000000 in
set_option maxRecDepth 100000 in
theorem k6_tickOf (l : Launch) (hlt : l.stackTraces = false) (D : va_G) (cI cJ : ClassId) (xb xh ja jb jc : Nat) (xb_0 xb_1 xb_3 xb_4 : Value) (b : Nat → Int32) (hh : Nat → Int32) (t1 : Nat → Int32) (t2 : Nat → Int32) (t3 : Nat → Int32) (a1 : Int32) : cw_Xi l yX6_tickOf wsX6_tickOf (cw_rx 1) D [(cI, .int)] [.ref xb, .int a1] [(xb, c6 xb_0 xb_1 (.ref xh) xb_3 xb_4 b), (xh, c3 (.ref ja) (.ref jb) (.ref jc) hh), (ja, .inl (cI, 100, .inl t1)), (jb, .inl (cI, 100, .inl t2)), (jc, .inl (cI, 100, .inl t3))] 1 6 (fun r (_ : Unit) => ((s6_tickOf b hh t1 t2 t3 a1).1) = 0 ∧ r = ((s6_tickOf b hh t1 t2 t3 a1).2)) (fun _ : Unit => [(xb, c6 xb_0 xb_1 (.ref xh) xb_3 xb_4 b), (xh, c3 (.ref ja) (.ref jb) (.ref jc) hh), (ja, .inl (cI, 100, .inl t1)), (jb, .inl (cI, 100, .inl t2)), (jc, .inl (cI, 100, .inl t3))]) (fun E => (((s6_tickOf b hh t1 t2 t3 a1).1) = 1 ∧ E = "java/lang/IndexOutOfBoundsException")) := by
  refine cw_ofXi (cc := cX6_tickOf) (maxL := 2) (ret := (some .int)) (by decide) rfl (Nat.le_of_ble_eq_true rfl) rfl ?_
  intro p e s m args below meth c A ls Q hin0 hret htab hZ hStr hQ
  obtain ⟨hx, hb, hr, hml, hts, hown, hlocks, hin, hP, hK, hD, hN, hA, hl⟩ := hin0
  have hS : va_S A s.heap s.heap [] := va_S.rf
  have hl : lv_has ls 2 [(0, .ref xb), (1, .int a1)] := hl
  have lf28 := hts (.fieldLink RX6 28 "Burnerline" "history" "LBurnerline$History;") (by decide +kernel)
  have i6 : ∀ w ∈ wsX60, w ∈ wsX6_tickOf := by decide +kernel
  have lf205 := hN.use (args := args) (w := .fieldLinkNest "Burnerline" 205 "Burnerline$History" "tickRow" "[I" "Burnerline") (by decide +kernel)
  have i3 : ∀ w ∈ wsX30, w ∈ wsX6_tickOf := by decide +kernel
  have lcl48 := hts (.classLink RX6 48 "java/lang/IndexOutOfBoundsException") (by decide +kernel)
  have lin_48 := hts (.initialized "java/lang/IndexOutOfBoundsException") (by decide +kernel)
  have lg52 : ∀ w ∈ (vx_atS RX6 52 "java/lang/IndexOutOfBoundsException" cw_nm).filter goodWord, w.before args s = true := fun w h => hts w ((by decide +kernel : ∀ w ∈ (vx_atS RX6 52 "java/lang/IndexOutOfBoundsException" cw_nm).filter goodWord, w ∈ wsX6_tickOf) w h)
  refine lv_aload_n hx hb dX6_tickOf_0 rfl (lv_at hl 0 rfl) ?_
  refine va_get (D := D) (ci := 6) (v := .ref xh) (C := RX6) (T := TX6) (N := 7) hx hb hts i6 hown hK hP 0 rfl rfl 2 (by decide) lf28 (fun _ h9 => h9) rfl dX6_tickOf_1 ?_
  refine lv_iload_n hx hb dX6_tickOf_4 rfl (lv_at hl 1 rfl) ?_
  refine cw_cVi (As := [.int a1]) (rest := []) (wc := [(xh, c3 (.ref ja) (.ref jb) (.ref jc) hh)]) (wr := [(xb, c6 xb_0 xb_1 (.ref xh) xb_3 xb_4 b), (ja, .inl (cI, 100, .inl t1)), (jb, .inl (cI, 100, .inl t2)), (jc, .inl (cI, 100, .inl t3))]) ⟨hx, hb, hml, hown, hts⟩ (k3_has l D cI cJ xh (.ref ja) (.ref jb) (.ref jc) hh a1) (cwV 1 hts gX6_tickOf_X3_has rfl rfl rfl (by decide +kernel) ⟨Nat.le_of_ble_eq_true rfl, Nat.le_of_ble_eq_true rfl⟩) hK hN hP hD hS hA [1] [0, 2, 3, 4] rfl rfl (by decide) (by decide) (by decide) 0 (ci := 3) rfl rfl rfl rfl hl.1 rfl (Nat.le_of_ble_eq_true rfl) dX6_tickOf_5 ⟨Nat.le_of_ble_eq_true rfl, Nat.le_of_ble_eq_true rfl⟩ (fun r2 u1 H locs hw hP hD hS => ?_)
  have hr2 : r2 = (s3_has hh a1) := hw
  have hP : va_P D vwCl [(xb, c6 xb_0 xb_1 (.ref xh) xb_3 xb_4 b), (ja, .inl (cI, 100, .inl t1)), (jb, .inl (cI, 100, .inl t2)), (jc, .inl (cI, 100, .inl t3)), (xh, c3 (.ref ja) (.ref jb) (.ref jc) hh)] H := hP
  have hD : va_D A [(xb, c6 xb_0 xb_1 (.ref xh) xb_3 xb_4 b), (ja, .inl (cI, 100, .inl t1)), (jb, .inl (cI, 100, .inl t2)), (jc, .inl (cI, 100, .inl t3)), (xh, c3 (.ref ja) (.ref jb) (.ref jc) hh)] := hD
  refine lv_if_ne (tgt := 21) hx hb dX6_tickOf_8 (by decide) (fun z3 => ?_) (fun z3 => ?_)
  · refine lv_aload_n hx hb dX6_tickOf_21 rfl (lv_at hl 0 rfl) ?_
    refine va_get (D := D) (ci := 6) (v := .ref xh) (C := RX6) (T := TX6) (N := 7) hx hb hts i6 hown hK hP 0 rfl rfl 2 (by decide) lf28 (fun _ h9 => h9) rfl dX6_tickOf_22 ?_
    refine lv_aload_n hx hb dX6_tickOf_25 rfl (lv_at hl 0 rfl) ?_
    refine va_get (D := D) (ci := 6) (v := .ref xh) (C := RX6) (T := TX6) (N := 7) hx hb hts i6 hown hK hP 0 rfl rfl 2 (by decide) lf28 (fun _ h9 => h9) rfl dX6_tickOf_26 ?_
    refine va_getN (D := D) (ci := 3) (v := .ref ja) (C := RX3) (T := TX3) (N := 6) hx hb hts i3 hown hK hP 4 rfl rfl 0 (by decide) lf205 (fun _ h9 => h9) rfl dX6_tickOf_29 ?_
    refine lv_iload_n hx hb dX6_tickOf_32 rfl (lv_at hl 1 rfl) ?_
    refine cw_cVi (As := [.ref ja, .int a1]) (rest := []) (wc := [(xh, c3 (.ref ja) (.ref jb) (.ref jc) hh), (ja, .inl (cI, 100, .inl t1))]) (wr := [(xb, c6 xb_0 xb_1 (.ref xh) xb_3 xb_4 b), (jb, .inl (cI, 100, .inl t2)), (jc, .inl (cI, 100, .inl t3))]) ⟨hx, hb, hml, hown, hts⟩ (k3_read l D cI cJ xh ja (.ref ja) (.ref jb) (.ref jc) hh t1 a1) (cwV 2 hts gX6_tickOf_X3_read rfl rfl rfl (by decide +kernel) ⟨Nat.le_of_ble_eq_true rfl, Nat.le_of_ble_eq_true rfl⟩) hK hN hP hD hS hA [4, 1] [0, 2, 3] rfl rfl (by decide) (by decide) (by decide) 0 (ci := 3) rfl rfl rfl rfl hl.1 rfl (Nat.le_of_ble_eq_true rfl) dX6_tickOf_33 ⟨Nat.le_of_ble_eq_true rfl, Nat.le_of_ble_eq_true rfl⟩ (fun r5 u4 H locs hw hP hD hS => ?_)
    have hr5 : r5 = (s3_read hh t1 a1) := hw
    have hP : va_P D vwCl [(xb, c6 xb_0 xb_1 (.ref xh) xb_3 xb_4 b), (jb, .inl (cI, 100, .inl t2)), (jc, .inl (cI, 100, .inl t3)), (xh, c3 (.ref ja) (.ref jb) (.ref jc) hh), (ja, .inl (cI, 100, .inl t1))] H := hP
    have hD : va_D A [(xb, c6 xb_0 xb_1 (.ref xh) xb_3 xb_4 b), (jb, .inl (cI, 100, .inl t2)), (jc, .inl (cI, 100, .inl t3)), (xh, c3 (.ref ja) (.ref jb) (.ref jc) hh), (ja, .inl (cI, 100, .inl t1))] := hD
    have hsp : (s6_tickOf b hh t1 t2 t3 a1) = ((0, r5) : Int32 × Int32) := by simp only [s6_tickOf, ← hr2, ← hr5, if_neg z3]
    exact hret _ _ _ _ _ _ _ _ (hP.sub (ws' := [(xb, c6 xb_0 xb_1 (.ref xh) xb_3 xb_4 b), (xh, c3 (.ref ja) (.ref jb) (.ref jc) hh), (ja, .inl (cI, 100, .inl t1)), (jb, .inl (cI, 100, .inl t2)), (jc, .inl (cI, 100, .inl t3))]) [0, 3, 4, 1, 2] rfl) (hD.sub (ws' := [(xb, c6 xb_0 xb_1 (.ref xh) xb_3 xb_4 b), (xh, c3 (.ref ja) (.ref jb) (.ref jc) hh), (ja, .inl (cI, 100, .inl t1)), (jb, .inl (cI, 100, .inl t2)), (jc, .inl (cI, 100, .inl t3))]) [0, 3, 4, 1, 2] (by decide) rfl) hS dX6_tickOf_36 rfl ⟨(), ⟨by rw [hsp], by rw [hsp]⟩, rfl⟩ (Nat.le_of_ble_eq_true rfl) (Nat.le_of_ble_eq_true rfl)
  · have hsp : (s6_tickOf b hh t1 t2 t3 a1) = ((1, 0) : Int32 × Int32) := by simp only [s6_tickOf, ← hr2, if_pos z3]
    exact cw_thr (own := RX6) (ik := 48) (is := 203) (ic := 52) (cls := "java/lang/IndexOutOfBoundsException") (text := "no such record is kept") hQ hx hb hlt hown hml hl.1 htab hlocks (by decide +kernel) lcl48 lin_48 hStr (by decide +kernel) lg52 xn_52 hN (by decide +kernel) xg_52 hZ hS hP hD [0, 4, 1, 2, 3] rfl (by decide) dX6_tickOf_11 dX6_tickOf_14 dX6_tickOf_15 dX6_tickOf_17 dX6_tickOf_20 (Nat.le_of_ble_eq_true rfl) (Nat.le_of_ble_eq_true rfl) (Nat.le_of_ble_eq_true rfl) (Nat.le_of_ble_eq_true rfl) (Nat.le_of_ble_eq_true rfl) (Nat.le_of_ble_eq_true rfl) (⟨by rw [hsp], rfl⟩)

set_option maxHeartbeats 4000000 in
set_option maxRecDepth 100000 in
theorem k6_stateOf (l : Launch) (hlt : l.stackTraces = false) (D : va_G) (cI cJ : ClassId) (xb xh ja jb jc : Nat) (xb_0 xb_1 xb_3 xb_4 : Value) (b : Nat → Int32) (hh : Nat → Int32) (t1 : Nat → Int32) (t2 : Nat → Int32) (t3 : Nat → Int32) (a1 : Int32) : cw_Xi l yX6_stateOf wsX6_stateOf (cw_rx 1) D [(cI, .int)] [.ref xb, .int a1] [(xb, c6 xb_0 xb_1 (.ref xh) xb_3 xb_4 b), (xh, c3 (.ref ja) (.ref jb) (.ref jc) hh), (ja, .inl (cI, 100, .inl t1)), (jb, .inl (cI, 100, .inl t2)), (jc, .inl (cI, 100, .inl t3))] 1 6 (fun r (_ : Unit) => ((s6_stateOf b hh t1 t2 t3 a1).1) = 0 ∧ r = ((s6_stateOf b hh t1 t2 t3 a1).2)) (fun _ : Unit => [(xb, c6 xb_0 xb_1 (.ref xh) xb_3 xb_4 b), (xh, c3 (.ref ja) (.ref jb) (.ref jc) hh), (ja, .inl (cI, 100, .inl t1)), (jb, .inl (cI, 100, .inl t2)), (jc, .inl (cI, 100, .inl t3))]) (fun E => (((s6_stateOf b hh t1 t2 t3 a1).1) = 1 ∧ E = "java/lang/IndexOutOfBoundsException")) := by
  refine cw_ofXi (cc := cX6_stateOf) (maxL := 2) (ret := (some .int)) (by decide) rfl (Nat.le_of_ble_eq_true rfl) rfl ?_
  intro p e s m args below meth c A ls Q hin0 hret htab hZ hStr hQ
  obtain ⟨hx, hb, hr, hml, hts, hown, hlocks, hin, hP, hK, hD, hN, hA, hl⟩ := hin0
  have hS : va_S A s.heap s.heap [] := va_S.rf
  have hl : lv_has ls 2 [(0, .ref xb), (1, .int a1)] := hl
  have lf28 := hts (.fieldLink RX6 28 "Burnerline" "history" "LBurnerline$History;") (by decide +kernel)
  have i6 : ∀ w ∈ wsX60, w ∈ wsX6_stateOf := by decide +kernel
  have lf213 := hN.use (args := args) (w := .fieldLinkNest "Burnerline" 213 "Burnerline$History" "stateRow" "[I" "Burnerline") (by decide +kernel)
  have i3 : ∀ w ∈ wsX30, w ∈ wsX6_stateOf := by decide +kernel
  have lcl48 := hts (.classLink RX6 48 "java/lang/IndexOutOfBoundsException") (by decide +kernel)
  have lin_48 := hts (.initialized "java/lang/IndexOutOfBoundsException") (by decide +kernel)
  have lg52 : ∀ w ∈ (vx_atS RX6 52 "java/lang/IndexOutOfBoundsException" cw_nm).filter goodWord, w.before args s = true := fun w h => hts w ((by decide +kernel : ∀ w ∈ (vx_atS RX6 52 "java/lang/IndexOutOfBoundsException" cw_nm).filter goodWord, w ∈ wsX6_stateOf) w h)
  refine lv_aload_n hx hb dX6_stateOf_0 rfl (lv_at hl 0 rfl) ?_
  refine va_get (D := D) (ci := 6) (v := .ref xh) (C := RX6) (T := TX6) (N := 7) hx hb hts i6 hown hK hP 0 rfl rfl 2 (by decide) lf28 (fun _ h9 => h9) rfl dX6_stateOf_1 ?_
  refine lv_iload_n hx hb dX6_stateOf_4 rfl (lv_at hl 1 rfl) ?_
  refine cw_cVi (As := [.int a1]) (rest := []) (wc := [(xh, c3 (.ref ja) (.ref jb) (.ref jc) hh)]) (wr := [(xb, c6 xb_0 xb_1 (.ref xh) xb_3 xb_4 b), (ja, .inl (cI, 100, .inl t1)), (jb, .inl (cI, 100, .inl t2)), (jc, .inl (cI, 100, .inl t3))]) ⟨hx, hb, hml, hown, hts⟩ (k3_has l D cI cJ xh (.ref ja) (.ref jb) (.ref jc) hh a1) (cwV 1 hts gX6_stateOf_X3_has rfl rfl rfl (by decide +kernel) ⟨Nat.le_of_ble_eq_true rfl, Nat.le_of_ble_eq_true rfl⟩) hK hN hP hD hS hA [1] [0, 2, 3, 4] rfl rfl (by decide) (by decide) (by decide) 0 (ci := 3) rfl rfl rfl rfl hl.1 rfl (Nat.le_of_ble_eq_true rfl) dX6_stateOf_5 ⟨Nat.le_of_ble_eq_true rfl, Nat.le_of_ble_eq_true rfl⟩ (fun r2 u1 H locs hw hP hD hS => ?_)
  have hr2 : r2 = (s3_has hh a1) := hw
  have hP : va_P D vwCl [(xb, c6 xb_0 xb_1 (.ref xh) xb_3 xb_4 b), (ja, .inl (cI, 100, .inl t1)), (jb, .inl (cI, 100, .inl t2)), (jc, .inl (cI, 100, .inl t3)), (xh, c3 (.ref ja) (.ref jb) (.ref jc) hh)] H := hP
  have hD : va_D A [(xb, c6 xb_0 xb_1 (.ref xh) xb_3 xb_4 b), (ja, .inl (cI, 100, .inl t1)), (jb, .inl (cI, 100, .inl t2)), (jc, .inl (cI, 100, .inl t3)), (xh, c3 (.ref ja) (.ref jb) (.ref jc) hh)] := hD
  refine lv_if_ne (tgt := 21) hx hb dX6_stateOf_8 (by decide) (fun z3 => ?_) (fun z3 => ?_)
  · refine lv_aload_n hx hb dX6_stateOf_21 rfl (lv_at hl 0 rfl) ?_
    refine va_get (D := D) (ci := 6) (v := .ref xh) (C := RX6) (T := TX6) (N := 7) hx hb hts i6 hown hK hP 0 rfl rfl 2 (by decide) lf28 (fun _ h9 => h9) rfl dX6_stateOf_22 ?_
    refine lv_aload_n hx hb dX6_stateOf_25 rfl (lv_at hl 0 rfl) ?_
    refine va_get (D := D) (ci := 6) (v := .ref xh) (C := RX6) (T := TX6) (N := 7) hx hb hts i6 hown hK hP 0 rfl rfl 2 (by decide) lf28 (fun _ h9 => h9) rfl dX6_stateOf_26 ?_
    refine va_getN (D := D) (ci := 3) (v := .ref jb) (C := RX3) (T := TX3) (N := 6) hx hb hts i3 hown hK hP 4 rfl rfl 1 (by decide) lf213 (fun _ h9 => h9) rfl dX6_stateOf_29 ?_
    refine lv_iload_n hx hb dX6_stateOf_32 rfl (lv_at hl 1 rfl) ?_
    refine cw_cVi (As := [.ref jb, .int a1]) (rest := []) (wc := [(xh, c3 (.ref ja) (.ref jb) (.ref jc) hh), (jb, .inl (cI, 100, .inl t2))]) (wr := [(xb, c6 xb_0 xb_1 (.ref xh) xb_3 xb_4 b), (ja, .inl (cI, 100, .inl t1)), (jc, .inl (cI, 100, .inl t3))]) ⟨hx, hb, hml, hown, hts⟩ (k3_read l D cI cJ xh jb (.ref ja) (.ref jb) (.ref jc) hh t2 a1) (cwV 2 hts gX6_stateOf_X3_read rfl rfl rfl (by decide +kernel) ⟨Nat.le_of_ble_eq_true rfl, Nat.le_of_ble_eq_true rfl⟩) hK hN hP hD hS hA [4, 2] [0, 1, 3] rfl rfl (by decide) (by decide) (by decide) 0 (ci := 3) rfl rfl rfl rfl hl.1 rfl (Nat.le_of_ble_eq_true rfl) dX6_stateOf_33 ⟨Nat.le_of_ble_eq_true rfl, Nat.le_of_ble_eq_true rfl⟩ (fun r5 u4 H locs hw hP hD hS => ?_)
    have hr5 : r5 = (s3_read hh t2 a1) := hw
    have hP : va_P D vwCl [(xb, c6 xb_0 xb_1 (.ref xh) xb_3 xb_4 b), (ja, .inl (cI, 100, .inl t1)), (jc, .inl (cI, 100, .inl t3)), (xh, c3 (.ref ja) (.ref jb) (.ref jc) hh), (jb, .inl (cI, 100, .inl t2))] H := hP
    have hD : va_D A [(xb, c6 xb_0 xb_1 (.ref xh) xb_3 xb_4 b), (ja, .inl (cI, 100, .inl t1)), (jc, .inl (cI, 100, .inl t3)), (xh, c3 (.ref ja) (.ref jb) (.ref jc) hh), (jb, .inl (cI, 100, .inl t2))] := hD
    have hsp : (s6_stateOf b hh t1 t2 t3 a1) = ((0, r5) : Int32 × Int32) := by simp only [s6_stateOf, ← hr2, ← hr5, if_neg z3]
    exact hret _ _ _ _ _ _ _ _ (hP.sub (ws' := [(xb, c6 xb_0 xb_1 (.ref xh) xb_3 xb_4 b), (xh, c3 (.ref ja) (.ref jb) (.ref jc) hh), (ja, .inl (cI, 100, .inl t1)), (jb, .inl (cI, 100, .inl t2)), (jc, .inl (cI, 100, .inl t3))]) [0, 3, 1, 4, 2] rfl) (hD.sub (ws' := [(xb, c6 xb_0 xb_1 (.ref xh) xb_3 xb_4 b), (xh, c3 (.ref ja) (.ref jb) (.ref jc) hh), (ja, .inl (cI, 100, .inl t1)), (jb, .inl (cI, 100, .inl t2)), (jc, .inl (cI, 100, .inl t3))]) [0, 3, 1, 4, 2] (by decide) rfl) hS dX6_stateOf_36 rfl ⟨(), ⟨by rw [hsp], by rw [hsp]⟩, rfl⟩ (Nat.le_of_ble_eq_true rfl) (Nat.le_of_ble_eq_true rfl)
  · have hsp : (s6_stateOf b hh t1 t2 t3 a1) = ((1, 0) : Int32 × Int32) := by simp only [s6_stateOf, ← hr2, if_pos z3]
    exact cw_thr (own := RX6) (ik := 48) (is := 203) (ic := 52) (cls := "java/lang/IndexOutOfBoundsException") (text := "no such record is kept") hQ hx hb hlt hown hml hl.1 htab hlocks (by decide +kernel) lcl48 lin_48 hStr (by decide +kernel) lg52 xn_52 hN (by decide +kernel) xg_52 hZ hS hP hD [0, 4, 1, 2, 3] rfl (by decide) dX6_stateOf_11 dX6_stateOf_14 dX6_stateOf_15 dX6_stateOf_17 dX6_stateOf_20 (Nat.le_of_ble_eq_true rfl) (Nat.le_of_ble_eq_true rfl) (Nat.le_of_ble_eq_true rfl) (Nat.le_of_ble_eq_true rfl) (Nat.le_of_ble_eq_true rfl) (Nat.le_of_ble_eq_true rfl) (⟨by rw [hsp], rfl⟩)

set_option maxHeartbeats 4000000 in
set_option maxRecDepth 100000 in
theorem k6_reasonOf (l : Launch) (hlt : l.stackTraces = false) (D : va_G) (cI cJ : ClassId) (xb xh ja jb jc : Nat) (xb_0 xb_1 xb_3 xb_4 : Value) (b : Nat → Int32) (hh : Nat → Int32) (t1 : Nat → Int32) (t2 : Nat → Int32) (t3 : Nat → Int32) (a1 : Int32) : cw_Xi l yX6_reasonOf wsX6_reasonOf (cw_rx 1) D [(cI, .int)] [.ref xb, .int a1] [(xb, c6 xb_0 xb_1 (.ref xh) xb_3 xb_4 b), (xh, c3 (.ref ja) (.ref jb) (.ref jc) hh), (ja, .inl (cI, 100, .inl t1)), (jb, .inl (cI, 100, .inl t2)), (jc, .inl (cI, 100, .inl t3))] 1 6 (fun r (_ : Unit) => ((s6_reasonOf b hh t1 t2 t3 a1).1) = 0 ∧ r = ((s6_reasonOf b hh t1 t2 t3 a1).2)) (fun _ : Unit => [(xb, c6 xb_0 xb_1 (.ref xh) xb_3 xb_4 b), (xh, c3 (.ref ja) (.ref jb) (.ref jc) hh), (ja, .inl (cI, 100, .inl t1)), (jb, .inl (cI, 100, .inl t2)), (jc, .inl (cI, 100, .inl t3))]) (fun E => (((s6_reasonOf b hh t1 t2 t3 a1).1) = 1 ∧ E = "java/lang/IndexOutOfBoundsException")) := by
  refine cw_ofXi (cc := cX6_reasonOf) (maxL := 2) (ret := (some .int)) (by decide) rfl (Nat.le_of_ble_eq_true rfl) rfl ?_
  intro p e s m args below meth c A ls Q hin0 hret htab hZ hStr hQ
  obtain ⟨hx, hb, hr, hml, hts, hown, hlocks, hin, hP, hK, hD, hN, hA, hl⟩ := hin0
  have hS : va_S A s.heap s.heap [] := va_S.rf
  have hl : lv_has ls 2 [(0, .ref xb), (1, .int a1)] := hl
  have lf28 := hts (.fieldLink RX6 28 "Burnerline" "history" "LBurnerline$History;") (by decide +kernel)
  have i6 : ∀ w ∈ wsX60, w ∈ wsX6_reasonOf := by decide +kernel
  have lf216 := hN.use (args := args) (w := .fieldLinkNest "Burnerline" 216 "Burnerline$History" "reasonRow" "[I" "Burnerline") (by decide +kernel)
  have i3 : ∀ w ∈ wsX30, w ∈ wsX6_reasonOf := by decide +kernel
  have lcl48 := hts (.classLink RX6 48 "java/lang/IndexOutOfBoundsException") (by decide +kernel)
  have lin_48 := hts (.initialized "java/lang/IndexOutOfBoundsException") (by decide +kernel)
  have lg52 : ∀ w ∈ (vx_atS RX6 52 "java/lang/IndexOutOfBoundsException" cw_nm).filter goodWord, w.before args s = true := fun w h => hts w ((by decide +kernel : ∀ w ∈ (vx_atS RX6 52 "java/lang/IndexOutOfBoundsException" cw_nm).filter goodWord, w ∈ wsX6_reasonOf) w h)
  refine lv_aload_n hx hb dX6_reasonOf_0 rfl (lv_at hl 0 rfl) ?_
  refine va_get (D := D) (ci := 6) (v := .ref xh) (C := RX6) (T := TX6) (N := 7) hx hb hts i6 hown hK hP 0 rfl rfl 2 (by decide) lf28 (fun _ h9 => h9) rfl dX6_reasonOf_1 ?_
  refine lv_iload_n hx hb dX6_reasonOf_4 rfl (lv_at hl 1 rfl) ?_
  refine cw_cVi (As := [.int a1]) (rest := []) (wc := [(xh, c3 (.ref ja) (.ref jb) (.ref jc) hh)]) (wr := [(xb, c6 xb_0 xb_1 (.ref xh) xb_3 xb_4 b), (ja, .inl (cI, 100, .inl t1)), (jb, .inl (cI, 100, .inl t2)), (jc, .inl (cI, 100, .inl t3))]) ⟨hx, hb, hml, hown, hts⟩ (k3_has l D cI cJ xh (.ref ja) (.ref jb) (.ref jc) hh a1) (cwV 1 hts gX6_reasonOf_X3_has rfl rfl rfl (by decide +kernel) ⟨Nat.le_of_ble_eq_true rfl, Nat.le_of_ble_eq_true rfl⟩) hK hN hP hD hS hA [1] [0, 2, 3, 4] rfl rfl (by decide) (by decide) (by decide) 0 (ci := 3) rfl rfl rfl rfl hl.1 rfl (Nat.le_of_ble_eq_true rfl) dX6_reasonOf_5 ⟨Nat.le_of_ble_eq_true rfl, Nat.le_of_ble_eq_true rfl⟩ (fun r2 u1 H locs hw hP hD hS => ?_)
  have hr2 : r2 = (s3_has hh a1) := hw
  have hP : va_P D vwCl [(xb, c6 xb_0 xb_1 (.ref xh) xb_3 xb_4 b), (ja, .inl (cI, 100, .inl t1)), (jb, .inl (cI, 100, .inl t2)), (jc, .inl (cI, 100, .inl t3)), (xh, c3 (.ref ja) (.ref jb) (.ref jc) hh)] H := hP
  have hD : va_D A [(xb, c6 xb_0 xb_1 (.ref xh) xb_3 xb_4 b), (ja, .inl (cI, 100, .inl t1)), (jb, .inl (cI, 100, .inl t2)), (jc, .inl (cI, 100, .inl t3)), (xh, c3 (.ref ja) (.ref jb) (.ref jc) hh)] := hD
  refine lv_if_ne (tgt := 21) hx hb dX6_reasonOf_8 (by decide) (fun z3 => ?_) (fun z3 => ?_)
  · refine lv_aload_n hx hb dX6_reasonOf_21 rfl (lv_at hl 0 rfl) ?_
    refine va_get (D := D) (ci := 6) (v := .ref xh) (C := RX6) (T := TX6) (N := 7) hx hb hts i6 hown hK hP 0 rfl rfl 2 (by decide) lf28 (fun _ h9 => h9) rfl dX6_reasonOf_22 ?_
    refine lv_aload_n hx hb dX6_reasonOf_25 rfl (lv_at hl 0 rfl) ?_
    refine va_get (D := D) (ci := 6) (v := .ref xh) (C := RX6) (T := TX6) (N := 7) hx hb hts i6 hown hK hP 0 rfl rfl 2 (by decide) lf28 (fun _ h9 => h9) rfl dX6_reasonOf_26 ?_
    refine va_getN (D := D) (ci := 3) (v := .ref jc) (C := RX3) (T := TX3) (N := 6) hx hb hts i3 hown hK hP 4 rfl rfl 2 (by decide) lf216 (fun _ h9 => h9) rfl dX6_reasonOf_29 ?_
    refine lv_iload_n hx hb dX6_reasonOf_32 rfl (lv_at hl 1 rfl) ?_
    refine cw_cVi (As := [.ref jc, .int a1]) (rest := []) (wc := [(xh, c3 (.ref ja) (.ref jb) (.ref jc) hh), (jc, .inl (cI, 100, .inl t3))]) (wr := [(xb, c6 xb_0 xb_1 (.ref xh) xb_3 xb_4 b), (ja, .inl (cI, 100, .inl t1)), (jb, .inl (cI, 100, .inl t2))]) ⟨hx, hb, hml, hown, hts⟩ (k3_read l D cI cJ xh jc (.ref ja) (.ref jb) (.ref jc) hh t3 a1) (cwV 2 hts gX6_reasonOf_X3_read rfl rfl rfl (by decide +kernel) ⟨Nat.le_of_ble_eq_true rfl, Nat.le_of_ble_eq_true rfl⟩) hK hN hP hD hS hA [4, 3] [0, 1, 2] rfl rfl (by decide) (by decide) (by decide) 0 (ci := 3) rfl rfl rfl rfl hl.1 rfl (Nat.le_of_ble_eq_true rfl) dX6_reasonOf_33 ⟨Nat.le_of_ble_eq_true rfl, Nat.le_of_ble_eq_true rfl⟩ (fun r5 u4 H locs hw hP hD hS => ?_)
    have hr5 : r5 = (s3_read hh t3 a1) := hw
    have hP : va_P D vwCl [(xb, c6 xb_0 xb_1 (.ref xh) xb_3 xb_4 b), (ja, .inl (cI, 100, .inl t1)), (jb, .inl (cI, 100, .inl t2)), (xh, c3 (.ref ja) (.ref jb) (.ref jc) hh), (jc, .inl (cI, 100, .inl t3))] H := hP
    have hD : va_D A [(xb, c6 xb_0 xb_1 (.ref xh) xb_3 xb_4 b), (ja, .inl (cI, 100, .inl t1)), (jb, .inl (cI, 100, .inl t2)), (xh, c3 (.ref ja) (.ref jb) (.ref jc) hh), (jc, .inl (cI, 100, .inl t3))] := hD
    have hsp : (s6_reasonOf b hh t1 t2 t3 a1) = ((0, r5) : Int32 × Int32) := by simp only [s6_reasonOf, ← hr2, ← hr5, if_neg z3]
    exact hret _ _ _ _ _ _ _ _ (hP.sub (ws' := [(xb, c6 xb_0 xb_1 (.ref xh) xb_3 xb_4 b), (xh, c3 (.ref ja) (.ref jb) (.ref jc) hh), (ja, .inl (cI, 100, .inl t1)), (jb, .inl (cI, 100, .inl t2)), (jc, .inl (cI, 100, .inl t3))]) [0, 3, 1, 2, 4] rfl) (hD.sub (ws' := [(xb, c6 xb_0 xb_1 (.ref xh) xb_3 xb_4 b), (xh, c3 (.ref ja) (.ref jb) (.ref jc) hh), (ja, .inl (cI, 100, .inl t1)), (jb, .inl (cI, 100, .inl t2)), (jc, .inl (cI, 100, .inl t3))]) [0, 3, 1, 2, 4] (by decide) rfl) hS dX6_reasonOf_36 rfl ⟨(), ⟨by rw [hsp], by rw [hsp]⟩, rfl⟩ (Nat.le_of_ble_eq_true rfl) (Nat.le_of_ble_eq_true rfl)
  · have hsp : (s6_reasonOf b hh t1 t2 t3 a1) = ((1, 0) : Int32 × Int32) := by simp only [s6_reasonOf, ← hr2, if_pos z3]
    exact cw_thr (own := RX6) (ik := 48) (is := 203) (ic := 52) (cls := "java/lang/IndexOutOfBoundsException") (text := "no such record is kept") hQ hx hb hlt hown hml hl.1 htab hlocks (by decide +kernel) lcl48 lin_48 hStr (by decide +kernel) lg52 xn_52 hN (by decide +kernel) xg_52 hZ hS hP hD [0, 4, 1, 2, 3] rfl (by decide) dX6_reasonOf_11 dX6_reasonOf_14 dX6_reasonOf_15 dX6_reasonOf_17 dX6_reasonOf_20 (Nat.le_of_ble_eq_true rfl) (Nat.le_of_ble_eq_true rfl) (Nat.le_of_ble_eq_true rfl) (Nat.le_of_ble_eq_true rfl) (Nat.le_of_ble_eq_true rfl) (Nat.le_of_ble_eq_true rfl) (⟨by rw [hsp], rfl⟩)
