def s6_couldBeO (b : Nat → Int32) (a1 : Int32) (a2 : Int32) : Int32 × Int32 := (let r2 : Int32 := (s6_isOutside a1 0 6); (if r2 = 0 then (let r5 : Int32 := (s6_isOutside a2 1 3); (1, 0)) else (1, 0)))

def s6_pollO (b : Nat → Int32) (a1 : Int32) : Int32 × Int32 := (let r2 : Int32 := (s6_isOutside a1 1 200); (1, 0))

def s6_reasonsAheadO (b : Nat → Int32) (a1 : Int32) : Int32 × Int32 := (let r2 : Int32 := (s6_isOutside a1 1 3); (1, 0))

set_option maxHeartbeats 4000000 in
set_option maxRecDepth 100000 in
theorem k6_couldBeO (l : Launch) (hlt : l.stackTraces = false) (D : va_G) (cI cJ : ClassId) (xb : Nat) (xb_0 xb_1 xb_2 xb_3 xb_4 : Value) (b : Nat → Int32) (a1 : Int32) (a2 : Int32) (ha : ¬ (s6_isOutside a1 0 6 = 0 ∧ s6_isOutside a2 1 3 = 0)) : cw_Xi l yX6_couldBe wsX6_couldBe (cw_rx 1) D [(cI, .int)] [.ref xb, .int a1, .int a2] [(xb, c6 xb_0 xb_1 xb_2 xb_3 xb_4 b)] 1 6 (fun r (_ : Unit) => ((s6_couldBeO b a1 a2).1) = 0 ∧ r = ((s6_couldBeO b a1 a2).2)) (fun _ : Unit => [(xb, c6 xb_0 xb_1 xb_2 xb_3 xb_4 b)]) (fun E => (((s6_couldBeO b a1 a2).1) = 1 ∧ E = "java/lang/IllegalArgumentException")) := by
  refine cw_ofXi (cc := cX6_couldBe) (maxL := 3) (ret := (some .boolean)) (by decide) rfl (Nat.le_of_ble_eq_true rfl) rfl ?_
  intro p e s m args below meth c A ls Q hin0 hret htab hZ hStr hQ
  obtain ⟨hx, hb, hr, hml, hts, hown, hlocks, hin, hP, hK, hD, hN, hA, hl⟩ := hin0
  have hS : va_S A s.heap s.heap [] := va_S.rf
  have hl : lv_has ls 3 [(0, .ref xb), (1, .int a1), (2, .int a2)] := hl
  have lcl67 := hts (.classLink RX6 67 "java/lang/IllegalArgumentException") (by decide +kernel)
  have lin_67 := hts (.initialized "java/lang/IllegalArgumentException") (by decide +kernel)
  have lg71 : ∀ w ∈ (vx_atS RX6 71 "java/lang/IllegalArgumentException" cw_nm).filter goodWord, w.before args s = true := fun w h => hts w ((by decide +kernel : ∀ w ∈ (vx_atS RX6 71 "java/lang/IllegalArgumentException" cw_nm).filter goodWord, w ∈ wsX6_couldBe) w h)
  refine lv_iload_n hx hb dX6_couldBe_0 rfl (lv_at hl 1 rfl) ?_
  refine lv_iconst (v := 0) hx hb dX6_couldBe_1 (by decide) ?_
  refine lv_bipush (v := 6) hx hb dX6_couldBe_2 (by decide) ?_
  refine cw_cSi (As := [.int a1, .int 0, .int 6]) (rest := []) (wc := []) (wr := [(xb, c6 xb_0 xb_1 xb_2 xb_3 xb_4 b)]) ⟨hx, hb, hml, hown, hts⟩ (k6_isOutside l D cI cJ a1 0 6) (va_cwS 3 hts gX6_couldBe_X6_isOutside rfl rfl rfl (by decide +kernel) ⟨Nat.le_of_ble_eq_true rfl, Nat.le_of_ble_eq_true rfl⟩) hK hN hP hD hS hA [] [0] rfl rfl (by decide) (by decide) (by decide) rfl hl.1 rfl (Nat.le_of_ble_eq_true rfl) dX6_couldBe_4 ⟨Nat.le_of_ble_eq_true rfl, Nat.le_of_ble_eq_true rfl⟩ (fun r2 u1 H locs hw hP hD hS => ?_)
  have hr2 : r2 = (s6_isOutside a1 0 6) := hw
  have hP : va_P D vwCl [(xb, c6 xb_0 xb_1 xb_2 xb_3 xb_4 b)] H := hP
  have hD : va_D A [(xb, c6 xb_0 xb_1 xb_2 xb_3 xb_4 b)] := hD
  refine lv_if_ne (tgt := 19) hx hb dX6_couldBe_7 (by decide) (fun z3 => ?_) (fun z3 => ?_)
  · have hsp : (s6_couldBeO b a1 a2) = ((1, 0) : Int32 × Int32) := by simp only [s6_couldBeO, ← hr2, if_neg z3]
    exact cw_thr (own := RX6) (ik := 67) (is := 219) (ic := 71) (cls := "java/lang/IllegalArgumentException") (text := "state or ticks is out of range") hQ hx hb hlt hown hml hl.1 htab hlocks (by decide +kernel) lcl67 lin_67 hStr (by decide +kernel) lg71 xn_71 hN (by decide +kernel) xg_71 hZ hS hP hD [0] rfl (by decide) dX6_couldBe_19 dX6_couldBe_22 dX6_couldBe_23 dX6_couldBe_25 dX6_couldBe_28 (Nat.le_of_ble_eq_true rfl) (Nat.le_of_ble_eq_true rfl) (Nat.le_of_ble_eq_true rfl) (Nat.le_of_ble_eq_true rfl) (Nat.le_of_ble_eq_true rfl) (Nat.le_of_ble_eq_true rfl) (⟨by rw [hsp], rfl⟩)
  · refine lv_iload_n hx hb dX6_couldBe_10 rfl (lv_at hl 2 rfl) ?_
    refine lv_iconst (v := 1) hx hb dX6_couldBe_11 (by decide) ?_
    refine lv_iconst (v := 3) hx hb dX6_couldBe_12 (by decide) ?_
    refine cw_cSi (As := [.int a2, .int 1, .int 3]) (rest := []) (wc := []) (wr := [(xb, c6 xb_0 xb_1 xb_2 xb_3 xb_4 b)]) ⟨hx, hb, hml, hown, hts⟩ (k6_isOutside l D cI cJ a2 1 3) (va_cwS 3 hts gX6_couldBe_X6_isOutside rfl rfl rfl (by decide +kernel) ⟨Nat.le_of_ble_eq_true rfl, Nat.le_of_ble_eq_true rfl⟩) hK hN hP hD hS hA [] [0] rfl rfl (by decide) (by decide) (by decide) rfl hl.1 rfl (Nat.le_of_ble_eq_true rfl) dX6_couldBe_13 ⟨Nat.le_of_ble_eq_true rfl, Nat.le_of_ble_eq_true rfl⟩ (fun r5 u4 H locs hw hP hD hS => ?_)
    have hr5 : r5 = (s6_isOutside a2 1 3) := hw
    have hP : va_P D vwCl [(xb, c6 xb_0 xb_1 xb_2 xb_3 xb_4 b)] H := hP
    have hD : va_D A [(xb, c6 xb_0 xb_1 xb_2 xb_3 xb_4 b)] := hD
    refine lv_if_eq (tgt := 29) hx hb dX6_couldBe_16 (by decide) (fun z6 => absurd z6 (by intro h9; exact ha ⟨by rw [← hr2]; assumption, by rw [← hr5]; exact h9⟩)) (fun z6 => ?_)
    have hsp : (s6_couldBeO b a1 a2) = ((1, 0) : Int32 × Int32) := by simp only [s6_couldBeO, ← hr2, ← hr5, if_pos z3]
    exact cw_thr (own := RX6) (ik := 67) (is := 219) (ic := 71) (cls := "java/lang/IllegalArgumentException") (text := "state or ticks is out of range") hQ hx hb hlt hown hml hl.1 htab hlocks (by decide +kernel) lcl67 lin_67 hStr (by decide +kernel) lg71 xn_71 hN (by decide +kernel) xg_71 hZ hS hP hD [0] rfl (by decide) dX6_couldBe_19 dX6_couldBe_22 dX6_couldBe_23 dX6_couldBe_25 dX6_couldBe_28 (Nat.le_of_ble_eq_true rfl) (Nat.le_of_ble_eq_true rfl) (Nat.le_of_ble_eq_true rfl) (Nat.le_of_ble_eq_true rfl) (Nat.le_of_ble_eq_true rfl) (Nat.le_of_ble_eq_true rfl) (⟨by rw [hsp], rfl⟩)

set_option maxHeartbeats 4000000 in
set_option maxRecDepth 100000 in
theorem k6_pollO (l : Launch) (hlt : l.stackTraces = false) (D : va_G) (cI cJ : ClassId) (xb : Nat) (xb_0 xb_1 xb_2 xb_3 xb_4 : Value) (b : Nat → Int32) (a1 : Int32) (ha : ¬ s6_isOutside a1 1 200 = 0) : cw_Xi l yX6_poll wsX6_poll (cw_rx 1) D [(cI, .int)] [.ref xb, .int a1] [(xb, c6 xb_0 xb_1 xb_2 xb_3 xb_4 b)] 1 6 (fun r (_ : Unit) => ((s6_pollO b a1).1) = 0 ∧ r = ((s6_pollO b a1).2)) (fun _ : Unit => [(xb, c6 xb_0 xb_1 xb_2 xb_3 xb_4 b)]) (fun E => (((s6_pollO b a1).1) = 1 ∧ E = "java/lang/IllegalArgumentException")) := by
  refine cw_ofXi (cc := cX6_poll) (maxL := 4) (ret := (some .int)) (by decide) rfl (Nat.le_of_ble_eq_true rfl) rfl ?_
  intro p e s m args below meth c A ls Q hin0 hret htab hZ hStr hQ
  obtain ⟨hx, hb, hr, hml, hts, hown, hlocks, hin, hP, hK, hD, hN, hA, hl⟩ := hin0
  have hS : va_S A s.heap s.heap [] := va_S.rf
  have hl : lv_has ls 4 [(0, .ref xb), (1, .int a1)] := hl
  have lcl67 := hts (.classLink RX6 67 "java/lang/IllegalArgumentException") (by decide +kernel)
  have lin_67 := hts (.initialized "java/lang/IllegalArgumentException") (by decide +kernel)
  have lg71 : ∀ w ∈ (vx_atS RX6 71 "java/lang/IllegalArgumentException" cw_nm).filter goodWord, w.before args s = true := fun w h => hts w ((by decide +kernel : ∀ w ∈ (vx_atS RX6 71 "java/lang/IllegalArgumentException" cw_nm).filter goodWord, w ∈ wsX6_poll) w h)
  refine lv_iload_n hx hb dX6_poll_0 rfl (lv_at hl 1 rfl) ?_
  refine lv_iconst (v := 1) hx hb dX6_poll_1 (by decide) ?_
  refine lv_sipush (v := 200) hx hb dX6_poll_2 (by decide) ?_
  refine cw_cSi (As := [.int a1, .int 1, .int 200]) (rest := []) (wc := []) (wr := [(xb, c6 xb_0 xb_1 xb_2 xb_3 xb_4 b)]) ⟨hx, hb, hml, hown, hts⟩ (k6_isOutside l D cI cJ a1 1 200) (va_cwS 3 hts gX6_poll_X6_isOutside rfl rfl rfl (by decide +kernel) ⟨Nat.le_of_ble_eq_true rfl, Nat.le_of_ble_eq_true rfl⟩) hK hN hP hD hS hA [] [0] rfl rfl (by decide) (by decide) (by decide) rfl hl.1 rfl (Nat.le_of_ble_eq_true rfl) dX6_poll_5 ⟨Nat.le_of_ble_eq_true rfl, Nat.le_of_ble_eq_true rfl⟩ (fun r2 u1 H locs hw hP hD hS => ?_)
  have hr2 : r2 = (s6_isOutside a1 1 200) := hw
  have hP : va_P D vwCl [(xb, c6 xb_0 xb_1 xb_2 xb_3 xb_4 b)] H := hP
  have hD : va_D A [(xb, c6 xb_0 xb_1 xb_2 xb_3 xb_4 b)] := hD
  refine lv_if_eq (tgt := 21) hx hb dX6_poll_8 (by decide) (fun z3 => absurd z3 (by rw [hr2]; exact ha)) (fun z3 => ?_)
  have hsp : (s6_pollO b a1) = ((1, 0) : Int32 × Int32) := by simp only [s6_pollO, ← hr2]
  exact cw_thr (own := RX6) (ik := 67) (is := 114) (ic := 71) (cls := "java/lang/IllegalArgumentException") (text := "ticks is out of range") hQ hx hb hlt hown hml hl.1 htab hlocks (by decide +kernel) lcl67 lin_67 hStr (by decide +kernel) lg71 xn_71 hN (by decide +kernel) xg_71 hZ hS hP hD [0] rfl (by decide) dX6_poll_11 dX6_poll_14 dX6_poll_15 dX6_poll_17 dX6_poll_20 (Nat.le_of_ble_eq_true rfl) (Nat.le_of_ble_eq_true rfl) (Nat.le_of_ble_eq_true rfl) (Nat.le_of_ble_eq_true rfl) (Nat.le_of_ble_eq_true rfl) (Nat.le_of_ble_eq_true rfl) (⟨by rw [hsp], rfl⟩)

set_option maxHeartbeats 4000000 in
set_option maxRecDepth 100000 in
theorem k6_reasonsAheadO (l : Launch) (hlt : l.stackTraces = false) (D : va_G) (cI cJ : ClassId) (xb : Nat) (xb_0 xb_1 xb_2 xb_3 xb_4 : Value) (b : Nat → Int32) (a1 : Int32) (ha : ¬ s6_isOutside a1 1 3 = 0) : cw_Xi l yX6_reasonsAhead wsX6_reasonsAhead (cw_rx 1) D [(cI, .int)] [.ref xb, .int a1] [(xb, c6 xb_0 xb_1 xb_2 xb_3 xb_4 b)] 1 6 (fun r (_ : Unit) => ((s6_reasonsAheadO b a1).1) = 0 ∧ r = ((s6_reasonsAheadO b a1).2)) (fun _ : Unit => [(xb, c6 xb_0 xb_1 xb_2 xb_3 xb_4 b)]) (fun E => (((s6_reasonsAheadO b a1).1) = 1 ∧ E = "java/lang/IllegalArgumentException")) := by
  refine cw_ofXi (cc := cX6_reasonsAhead) (maxL := 2) (ret := (some .int)) (by decide) rfl (Nat.le_of_ble_eq_true rfl) rfl ?_
  intro p e s m args below meth c A ls Q hin0 hret htab hZ hStr hQ
  obtain ⟨hx, hb, hr, hml, hts, hown, hlocks, hin, hP, hK, hD, hN, hA, hl⟩ := hin0
  have hS : va_S A s.heap s.heap [] := va_S.rf
  have hl : lv_has ls 2 [(0, .ref xb), (1, .int a1)] := hl
  have lcl67 := hts (.classLink RX6 67 "java/lang/IllegalArgumentException") (by decide +kernel)
  have lin_67 := hts (.initialized "java/lang/IllegalArgumentException") (by decide +kernel)
  have lg71 : ∀ w ∈ (vx_atS RX6 71 "java/lang/IllegalArgumentException" cw_nm).filter goodWord, w.before args s = true := fun w h => hts w ((by decide +kernel : ∀ w ∈ (vx_atS RX6 71 "java/lang/IllegalArgumentException" cw_nm).filter goodWord, w ∈ wsX6_reasonsAhead) w h)
  refine lv_iload_n hx hb dX6_reasonsAhead_0 rfl (lv_at hl 1 rfl) ?_
  refine lv_iconst (v := 1) hx hb dX6_reasonsAhead_1 (by decide) ?_
  refine lv_iconst (v := 3) hx hb dX6_reasonsAhead_2 (by decide) ?_
  refine cw_cSi (As := [.int a1, .int 1, .int 3]) (rest := []) (wc := []) (wr := [(xb, c6 xb_0 xb_1 xb_2 xb_3 xb_4 b)]) ⟨hx, hb, hml, hown, hts⟩ (k6_isOutside l D cI cJ a1 1 3) (va_cwS 3 hts gX6_reasonsAhead_X6_isOutside rfl rfl rfl (by decide +kernel) ⟨Nat.le_of_ble_eq_true rfl, Nat.le_of_ble_eq_true rfl⟩) hK hN hP hD hS hA [] [0] rfl rfl (by decide) (by decide) (by decide) rfl hl.1 rfl (Nat.le_of_ble_eq_true rfl) dX6_reasonsAhead_3 ⟨Nat.le_of_ble_eq_true rfl, Nat.le_of_ble_eq_true rfl⟩ (fun r2 u1 H locs hw hP hD hS => ?_)
  have hr2 : r2 = (s6_isOutside a1 1 3) := hw
  have hP : va_P D vwCl [(xb, c6 xb_0 xb_1 xb_2 xb_3 xb_4 b)] H := hP
  have hD : va_D A [(xb, c6 xb_0 xb_1 xb_2 xb_3 xb_4 b)] := hD
  refine lv_if_eq (tgt := 19) hx hb dX6_reasonsAhead_6 (by decide) (fun z3 => absurd z3 (by rw [hr2]; exact ha)) (fun z3 => ?_)
  have hsp : (s6_reasonsAheadO b a1) = ((1, 0) : Int32 × Int32) := by simp only [s6_reasonsAheadO, ← hr2]
  exact cw_thr (own := RX6) (ik := 67) (is := 114) (ic := 71) (cls := "java/lang/IllegalArgumentException") (text := "ticks is out of range") hQ hx hb hlt hown hml hl.1 htab hlocks (by decide +kernel) lcl67 lin_67 hStr (by decide +kernel) lg71 xn_71 hN (by decide +kernel) xg_71 hZ hS hP hD [0] rfl (by decide) dX6_reasonsAhead_9 dX6_reasonsAhead_12 dX6_reasonsAhead_13 dX6_reasonsAhead_15 dX6_reasonsAhead_18 (Nat.le_of_ble_eq_true rfl) (Nat.le_of_ble_eq_true rfl) (Nat.le_of_ble_eq_true rfl) (Nat.le_of_ble_eq_true rfl) (Nat.le_of_ble_eq_true rfl) (Nat.le_of_ble_eq_true rfl) (⟨by rw [hsp], rfl⟩)
