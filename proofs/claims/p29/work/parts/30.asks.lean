def sL_asks0 (b : Nat → Int32) (st : Nat → Int32) (a2 : Int32) (a3 : Int32) : Int32 × (Nat → Int32) := (if ((s6_setRate b st a2).1) = 0 then (let r3 : Int32 := ((s6_setRate b st a2).2.1); (r3, ((s6_setRate b st a2).2.2))) else ((-102), st))

def sL_asks1 (b : Nat → Int32) (a2 : Int32) (a3 : Int32) : Int32 := (if ((s6_pollO b a2).1) = 0 then (let r4 : Int32 := ((s6_pollO b a2).2); r4) else (-102))

def sL_asks2 (b : Nat → Int32) (f : Nat → Int32) (ep : Nat → Int32) (eq : Nat → Int32) (st : Nat → Int32) (hh : Nat → Int32) (t1 : Nat → Int32) (t2 : Nat → Int32) (t3 : Nat → Int32) (rs : Nat → Int32) (a2 : Int32) (a3 : Int32) : Int32 × (Nat → Int32) × (Nat → Int32) × (Nat → Int32) × (Nat → Int32) × (Nat → Int32) × (Nat → Int32) := (if ((s6_reset b f ep eq st hh t1 t2 t3 rs).1) = 0 then (let r5 : Int32 := ((s6_reset b f ep eq st hh t1 t2 t3 rs).2.1); (r5, ((s6_reset b f ep eq st hh t1 t2 t3 rs).2.2.1), ((s6_reset b f ep eq st hh t1 t2 t3 rs).2.2.2.1), ((s6_reset b f ep eq st hh t1 t2 t3 rs).2.2.2.2.1), ((s6_reset b f ep eq st hh t1 t2 t3 rs).2.2.2.2.2.1), ((s6_reset b f ep eq st hh t1 t2 t3 rs).2.2.2.2.2.2.1), ((s6_reset b f ep eq st hh t1 t2 t3 rs).2.2.2.2.2.2.2))) else ((-103), f, hh, t1, t2, t3, rs))

def sL_asks3 (b : Nat → Int32) (hh : Nat → Int32) (t1 : Nat → Int32) (t2 : Nat → Int32) (t3 : Nat → Int32) (a2 : Int32) (a3 : Int32) : Int32 := (if ((s6_tickOf b hh t1 t2 t3 a2).1) = 0 then (let r6 : Int32 := ((s6_tickOf b hh t1 t2 t3 a2).2); r6) else (-101))

def sL_asks4 (b : Nat → Int32) (hh : Nat → Int32) (t1 : Nat → Int32) (t2 : Nat → Int32) (t3 : Nat → Int32) (a2 : Int32) (a3 : Int32) : Int32 := (if ((s6_stateOf b hh t1 t2 t3 a2).1) = 0 then (let r7 : Int32 := ((s6_stateOf b hh t1 t2 t3 a2).2); r7) else (-101))

def sL_asks5 (b : Nat → Int32) (hh : Nat → Int32) (t1 : Nat → Int32) (t2 : Nat → Int32) (t3 : Nat → Int32) (a2 : Int32) (a3 : Int32) : Int32 := (if ((s6_reasonOf b hh t1 t2 t3 a2).1) = 0 then (let r8 : Int32 := ((s6_reasonOf b hh t1 t2 t3 a2).2); r8) else (-101))

def sL_asks6 (b : Nat → Int32) (a2 : Int32) (a3 : Int32) : Int32 := (if ((s6_couldBeO b a2 a3).1) = 0 then (let r9 : Int32 := ((s6_couldBeO b a2 a3).2); (let w13 : Int32 := (if r9 = 0 then 0 else 1); w13)) else (-102))

def sL_asks7 (b : Nat → Int32) (a2 : Int32) (a3 : Int32) : Int32 := (if ((s6_reasonsAheadO b a2).1) = 0 then (let r10 : Int32 := ((s6_reasonsAheadO b a2).2); r10) else (-102))

def sL_asks8 (b : Nat → Int32) (a2 : Int32) (a3 : Int32) : Int32 × (Nat → Int32) := (let w11 : Int32 := (if a3 = 1 then 1 else 0); (if ((s6_signal b a2 w11).1) = 0 then (let r13 : Int32 := ((s6_signal b a2 w11).2.1); (let w17 : Int32 := (if r13 = 0 then 0 else 1); (w17, ((s6_signal b a2 w11).2.2)))) else ((-101), b)))

set_option maxHeartbeats 4000000 in
set_option maxRecDepth 100000 in
theorem kL_asks0 (l : Launch) (hlt : l.stackTraces = false) (D : va_G) (cI cJ : ClassId) (xb xs : Nat) (xb_1 xb_2 xb_3 xb_4 : Value) (b : Nat → Int32) (st : Nat → Int32) (a2 : Int32) (a3 : Int32) : cw_Wi l yL_asks wsL_asks (cw_rx 20) D [(cI, .int)] [.ref xb, .int 0, .int a2, .int a3] [(xb, c6 (.ref xs) xb_1 xb_2 xb_3 xb_4 b), (xs, c5 st)] 1 6 (fun r (_ : Unit) => r = ((sL_asks0 b st a2 a3).1)) (fun _ : Unit => [(xb, c6 (.ref xs) xb_1 xb_2 xb_3 xb_4 b), (xs, c5 ((sL_asks0 b st a2 a3).2))]) := by
  refine cw_ofWi (cc := cL_asks) (maxL := 5) (ret := (some .int)) (hh := [(0, 136, 137, 41), (0, 136, 142, 43), (0, 136, 147, 45)]) (by decide) rfl (Nat.le_of_ble_eq_true rfl) rfl ?_
  intro p e s m args below meth c A ls Q hin0 hret htab hZ hStr
  obtain ⟨hx, hb, hr, hml, hts, hown, hlocks, hin, hP, hK, hD, hN, hA, hl⟩ := hin0
  have hS : va_S A s.heap s.heap [] := va_S.rf
  have hl : lv_has ls 5 [(0, .ref xb), (1, .int 0), (2, .int a2), (3, .int a3)] := hl
  have lcx43 := hts (.classLink RL 43 "java/lang/IllegalArgumentException") (by decide +kernel)
  have lcx41 := hts (.classLink RL 41 "java/lang/IndexOutOfBoundsException") (by decide +kernel)
  refine lv_iload_n hx hb dL_asks_0 rfl (lv_at hl 1 rfl) ?_
  refine lv_if_ne (tgt := 12) hx hb dL_asks_1 (by decide) (fun z1 => absurd (by decide) z1) (fun z1 => ?_)
  refine lv_aload_n hx hb dL_asks_4 rfl (lv_at hl 0 rfl) ?_
  refine lv_iload_n hx hb dL_asks_5 rfl (lv_at hl 2 rfl) ?_
  refine cw_cVXi (As := [.int a2]) (rest := []) (wc := [(xb, c6 (.ref xs) xb_1 xb_2 xb_3 xb_4 b), (xs, c5 st)]) (wr := []) ⟨hx, hb, hml, hown, hts⟩ (k6_setRate l hlt D cI cJ xb xs xb_1 xb_2 xb_3 xb_4 b st a2) (cwV 1 hts gL_asks_X6_setRate rfl rfl rfl (by decide +kernel) ⟨Nat.le_of_ble_eq_true rfl, Nat.le_of_ble_eq_true rfl⟩) hK hN hP hD hS hA hZ hStr [0, 1] [] rfl rfl (by decide) (by decide) (by decide) 0 (ci := 6) rfl rfl rfl rfl hl.1 rfl (Nat.le_of_ble_eq_true rfl) dL_asks_6 ⟨Nat.le_of_ble_eq_true rfl, Nat.le_of_ble_eq_true rfl⟩ (fun E ce q9 H locs hxp hP hD hS hce hcv hcl => ?_) (fun r3 u4 H locs hw hP hD hS => ?_)
  · obtain ⟨hc9, rfl⟩ := hxp
    have hP : va_P D vwCl [(xb, c6 (.ref xs) xb_1 xb_2 xb_3 xb_4 b), (xs, c5 st)] H := hP
    have hD : va_D A [(xb, c6 (.ref xs) xb_1 xb_2 xb_3 xb_4 b), (xs, c5 st)] := hD
    have z2 : ¬ ((s6_setRate b st a2).1) = 0 := by rw [hc9]; decide
    refine vx_catch (own := RL) (name := "java/lang/IllegalArgumentException") hown [⟨0, 136, 137, 41⟩] ⟨0, 136, 142, 43⟩ [⟨0, 136, 147, 45⟩] htab (fun z hz => by simp only [List.mem_cons, List.not_mem_nil, or_false] at hz; rcases hz with rfl; exact Or.inr ⟨by decide, _, lcx41, hStr.2.2.1⟩) (by decide) (by decide) lcx43 (hN.use (args := args) (w := .castable "java/lang/IllegalArgumentException" "java/lang/IllegalArgumentException") (by decide +kernel)) hce hcv hcl ?_
    refine W.eq (g2 := F0 m 142 ls [.ref q9]) rfl ?_
    refine lv_astore (lv' := [(4, .ref q9), (0, .ref xb), (1, .int 0), (2, .int a2), (3, .int a3)]) hx hb dL_asks_142 hl (by decide) rfl (fun ls hl => ?_)
    refine lv_bipush (v := (-102)) hx hb dL_asks_144 (by decide) ?_
    have hsp : (sL_asks0 b st a2 a3) = (((-102), st) : Int32 × (Nat → Int32)) := by simp only [sL_asks0, if_neg z2]
    exact hret _ _ _ _ _ _ _ _ hP hD hS dL_asks_146 rfl ⟨(), (by rw [hsp]), (by rw [hsp])⟩ (Nat.le_of_ble_eq_true rfl) (Nat.le_of_ble_eq_true rfl)
  · have z2 : ((s6_setRate b st a2).1) = 0 := hw.1
    have hr3 : r3 = ((s6_setRate b st a2).2.1) := hw.2
    have hP : va_P D vwCl [(xb, c6 (.ref xs) xb_1 xb_2 xb_3 xb_4 b), (xs, c5 ((s6_setRate b st a2).2.2))] H := hP
    have hD : va_D A [(xb, c6 (.ref xs) xb_1 xb_2 xb_3 xb_4 b), (xs, c5 ((s6_setRate b st a2).2.2))] := hD
    refine lv_goto (tgt := 136) hx hb dL_asks_9 (by decide) ?_
    have hsp : (sL_asks0 b st a2 a3) = ((r3, ((s6_setRate b st a2).2.2)) : Int32 × (Nat → Int32)) := by simp only [sL_asks0, ← hr3, if_pos z2]
    exact hret _ _ _ _ _ _ _ _ hP hD hS dL_asks_136 rfl ⟨(), (by rw [hsp]), (by rw [hsp])⟩ (Nat.le_of_ble_eq_true rfl) (Nat.le_of_ble_eq_true rfl)

set_option maxHeartbeats 4000000 in
set_option maxRecDepth 100000 in
theorem kL_asks1 (l : Launch) (hlt : l.stackTraces = false) (D : va_G) (cI cJ : ClassId) (xb : Nat) (xb_0 xb_1 xb_2 xb_3 xb_4 : Value) (b : Nat → Int32) (a2 : Int32) (a3 : Int32) (ha : ¬ s6_isOutside a2 1 200 = 0) : cw_Wi l yL_asks wsL_asks (cw_rx 20) D [(cI, .int)] [.ref xb, .int 1, .int a2, .int a3] [(xb, c6 xb_0 xb_1 xb_2 xb_3 xb_4 b)] 1 6 (fun r (_ : Unit) => r = (sL_asks1 b a2 a3)) (fun _ : Unit => [(xb, c6 xb_0 xb_1 xb_2 xb_3 xb_4 b)]) := by
  refine cw_ofWi (cc := cL_asks) (maxL := 5) (ret := (some .int)) (hh := [(0, 136, 137, 41), (0, 136, 142, 43), (0, 136, 147, 45)]) (by decide) rfl (Nat.le_of_ble_eq_true rfl) rfl ?_
  intro p e s m args below meth c A ls Q hin0 hret htab hZ hStr
  obtain ⟨hx, hb, hr, hml, hts, hown, hlocks, hin, hP, hK, hD, hN, hA, hl⟩ := hin0
  have hS : va_S A s.heap s.heap [] := va_S.rf
  have hl : lv_has ls 5 [(0, .ref xb), (1, .int 1), (2, .int a2), (3, .int a3)] := hl
  have lcx43 := hts (.classLink RL 43 "java/lang/IllegalArgumentException") (by decide +kernel)
  have lcx41 := hts (.classLink RL 41 "java/lang/IndexOutOfBoundsException") (by decide +kernel)
  refine lv_iload_n hx hb dL_asks_0 rfl (lv_at hl 1 rfl) ?_
  refine lv_if_ne (tgt := 12) hx hb dL_asks_1 (by decide) (fun z1 => ?_) (fun z1 => absurd z1 (by decide))
  refine lv_iload_n hx hb dL_asks_12 rfl (lv_at hl 1 rfl) ?_
  refine lv_iconst (v := 1) hx hb dL_asks_13 (by decide) ?_
  refine lv_icmp_ne (tgt := 25) hx hb dL_asks_14 (by decide) (fun z2 => absurd (by decide) z2) (fun z2 => ?_)
  refine lv_aload_n hx hb dL_asks_17 rfl (lv_at hl 0 rfl) ?_
  refine lv_iload_n hx hb dL_asks_18 rfl (lv_at hl 2 rfl) ?_
  refine cw_cVXi (As := [.int a2]) (rest := []) (wc := [(xb, c6 xb_0 xb_1 xb_2 xb_3 xb_4 b)]) (wr := []) ⟨hx, hb, hml, hown, hts⟩ (k6_pollO l hlt D cI cJ xb xb_0 xb_1 xb_2 xb_3 xb_4 b a2 (by (repeat' split) <;> first | exact Or.inl rfl | exact Or.inr rfl | assumption)) (cwV 1 hts gL_asks_X6_poll rfl rfl rfl (by decide +kernel) ⟨Nat.le_of_ble_eq_true rfl, Nat.le_of_ble_eq_true rfl⟩) hK hN hP hD hS hA hZ hStr [0] [] rfl rfl (by decide) (by decide) (by decide) 0 (ci := 6) rfl rfl rfl rfl hl.1 rfl (Nat.le_of_ble_eq_true rfl) dL_asks_19 ⟨Nat.le_of_ble_eq_true rfl, Nat.le_of_ble_eq_true rfl⟩ (fun E ce q9 H locs hxp hP hD hS hce hcv hcl => ?_) (fun r4 u5 H locs hw hP hD hS => ?_)
  · obtain ⟨hc9, rfl⟩ := hxp
    have hP : va_P D vwCl [(xb, c6 xb_0 xb_1 xb_2 xb_3 xb_4 b)] H := hP
    have hD : va_D A [(xb, c6 xb_0 xb_1 xb_2 xb_3 xb_4 b)] := hD
    have z3 : ¬ ((s6_pollO b a2).1) = 0 := by rw [hc9]; decide
    refine vx_catch (own := RL) (name := "java/lang/IllegalArgumentException") hown [⟨0, 136, 137, 41⟩] ⟨0, 136, 142, 43⟩ [⟨0, 136, 147, 45⟩] htab (fun z hz => by simp only [List.mem_cons, List.not_mem_nil, or_false] at hz; rcases hz with rfl; exact Or.inr ⟨by decide, _, lcx41, hStr.2.2.1⟩) (by decide) (by decide) lcx43 (hN.use (args := args) (w := .castable "java/lang/IllegalArgumentException" "java/lang/IllegalArgumentException") (by decide +kernel)) hce hcv hcl ?_
    refine W.eq (g2 := F0 m 142 ls [.ref q9]) rfl ?_
    refine lv_astore (lv' := [(4, .ref q9), (0, .ref xb), (1, .int 1), (2, .int a2), (3, .int a3)]) hx hb dL_asks_142 hl (by decide) rfl (fun ls hl => ?_)
    refine lv_bipush (v := (-102)) hx hb dL_asks_144 (by decide) ?_
    have hsp : (sL_asks1 b a2 a3) = ((-102) : Int32) := by simp only [sL_asks1, if_neg z3]
    exact hret _ _ _ _ _ _ _ _ hP hD hS dL_asks_146 rfl ⟨(), (by rw [hsp]), rfl⟩ (Nat.le_of_ble_eq_true rfl) (Nat.le_of_ble_eq_true rfl)
  · have z3 : ((s6_pollO b a2).1) = 0 := hw.1
    have hr4 : r4 = ((s6_pollO b a2).2) := hw.2
    have hP : va_P D vwCl [(xb, c6 xb_0 xb_1 xb_2 xb_3 xb_4 b)] H := hP
    have hD : va_D A [(xb, c6 xb_0 xb_1 xb_2 xb_3 xb_4 b)] := hD
    refine lv_goto (tgt := 136) hx hb dL_asks_22 (by decide) ?_
    have hsp : (sL_asks1 b a2 a3) = (r4 : Int32) := by simp only [sL_asks1, ← hr4, if_pos z3]
    exact hret _ _ _ _ _ _ _ _ hP hD hS dL_asks_136 rfl ⟨(), (by rw [hsp]), rfl⟩ (Nat.le_of_ble_eq_true rfl) (Nat.le_of_ble_eq_true rfl)

set_option maxHeartbeats 4000000 in
set_option maxRecDepth 100000 in
theorem kL_asks2 (l : Launch) (hlt : l.stackTraces = false) (D : va_G) (cI cJ : ClassId) (xb xf xp xq xs xh ja jb jc xr : Nat) (xb_4 : Value) (b : Nat → Int32) (f : Nat → Int32) (ep : Nat → Int32) (eq : Nat → Int32) (st : Nat → Int32) (hh : Nat → Int32) (t1 : Nat → Int32) (t2 : Nat → Int32) (t3 : Nat → Int32) (rs : Nat → Int32) (a2 : Int32) (a3 : Int32) : cw_Wi l yL_asks wsL_asks (cw_rx 20) D [(cI, .int)] [.ref xb, .int 2, .int a2, .int a3] [(xb, c6 (.ref xs) (.ref xf) (.ref xh) (.ref xr) xb_4 b), (xf, c2 (.ref xs) (.ref xp) (.ref xq) f), (xp, c1 ep), (xq, c1 eq), (xs, c5 st), (xh, c3 (.ref ja) (.ref jb) (.ref jc) hh), (ja, .inl (cI, 100, .inl t1)), (jb, .inl (cI, 100, .inl t2)), (jc, .inl (cI, 100, .inl t3)), (xr, c4 rs)] 1 6 (fun r (_ : Unit) => r = ((sL_asks2 b f ep eq st hh t1 t2 t3 rs a2 a3).1)) (fun _ : Unit => [(xb, c6 (.ref xs) (.ref xf) (.ref xh) (.ref xr) xb_4 b), (xf, c2 (.ref xs) (.ref xp) (.ref xq) ((sL_asks2 b f ep eq st hh t1 t2 t3 rs a2 a3).2.1)), (xp, c1 ep), (xq, c1 eq), (xs, c5 st), (xh, c3 (.ref ja) (.ref jb) (.ref jc) ((sL_asks2 b f ep eq st hh t1 t2 t3 rs a2 a3).2.2.1)), (ja, .inl (cI, 100, .inl ((sL_asks2 b f ep eq st hh t1 t2 t3 rs a2 a3).2.2.2.1))), (jb, .inl (cI, 100, .inl ((sL_asks2 b f ep eq st hh t1 t2 t3 rs a2 a3).2.2.2.2.1))), (jc, .inl (cI, 100, .inl ((sL_asks2 b f ep eq st hh t1 t2 t3 rs a2 a3).2.2.2.2.2.1))), (xr, c4 ((sL_asks2 b f ep eq st hh t1 t2 t3 rs a2 a3).2.2.2.2.2.2))]) := by
  refine cw_ofWi (cc := cL_asks) (maxL := 5) (ret := (some .int)) (hh := [(0, 136, 137, 41), (0, 136, 142, 43), (0, 136, 147, 45)]) (by decide) rfl (Nat.le_of_ble_eq_true rfl) rfl ?_
  intro p e s m args below meth c A ls Q hin0 hret htab hZ hStr
  obtain ⟨hx, hb, hr, hml, hts, hown, hlocks, hin, hP, hK, hD, hN, hA, hl⟩ := hin0
  have hS : va_S A s.heap s.heap [] := va_S.rf
  have hl : lv_has ls 5 [(0, .ref xb), (1, .int 2), (2, .int a2), (3, .int a3)] := hl
  have lcx45 := hts (.classLink RL 45 "java/lang/IllegalStateException") (by decide +kernel)
  have lcx41 := hts (.classLink RL 41 "java/lang/IndexOutOfBoundsException") (by decide +kernel)
  have lcx43 := hts (.classLink RL 43 "java/lang/IllegalArgumentException") (by decide +kernel)
  refine lv_iload_n hx hb dL_asks_0 rfl (lv_at hl 1 rfl) ?_
  refine lv_if_ne (tgt := 12) hx hb dL_asks_1 (by decide) (fun z1 => ?_) (fun z1 => absurd z1 (by decide))
  refine lv_iload_n hx hb dL_asks_12 rfl (lv_at hl 1 rfl) ?_
  refine lv_iconst (v := 1) hx hb dL_asks_13 (by decide) ?_
  refine lv_icmp_ne (tgt := 25) hx hb dL_asks_14 (by decide) (fun z2 => ?_) (fun z2 => absurd z2 (by decide))
  refine lv_iload_n hx hb dL_asks_25 rfl (lv_at hl 1 rfl) ?_
  refine lv_iconst (v := 2) hx hb dL_asks_26 (by decide) ?_
  refine lv_icmp_ne (tgt := 37) hx hb dL_asks_27 (by decide) (fun z3 => absurd (by decide) z3) (fun z3 => ?_)
  refine lv_aload_n hx hb dL_asks_30 rfl (lv_at hl 0 rfl) ?_
  refine cw_cVXi (As := []) (rest := []) (wc := [(xb, c6 (.ref xs) (.ref xf) (.ref xh) (.ref xr) xb_4 b), (xf, c2 (.ref xs) (.ref xp) (.ref xq) f), (xp, c1 ep), (xq, c1 eq), (xs, c5 st), (xh, c3 (.ref ja) (.ref jb) (.ref jc) hh), (ja, .inl (cI, 100, .inl t1)), (jb, .inl (cI, 100, .inl t2)), (jc, .inl (cI, 100, .inl t3)), (xr, c4 rs)]) (wr := []) ⟨hx, hb, hml, hown, hts⟩ (k6_reset l hlt D cI cJ xb xf xp xq xs xh ja jb jc xr xb_4 b f ep eq st hh t1 t2 t3 rs) (cwV 0 hts gL_asks_X6_reset rfl rfl rfl (by decide +kernel) ⟨Nat.le_of_ble_eq_true rfl, Nat.le_of_ble_eq_true rfl⟩) hK hN hP hD hS hA hZ hStr [0, 1, 2, 3, 4, 5, 6, 7, 8, 9] [] rfl rfl (by decide) (by decide) (by decide) 0 (ci := 6) rfl rfl rfl rfl hl.1 rfl (Nat.le_of_ble_eq_true rfl) dL_asks_31 ⟨Nat.le_of_ble_eq_true rfl, Nat.le_of_ble_eq_true rfl⟩ (fun E ce q9 H locs hxp hP hD hS hce hcv hcl => ?_) (fun r5 u6 H locs hw hP hD hS => ?_)
  · obtain ⟨hc9, rfl⟩ := hxp
    have hP : va_P D vwCl [(xb, c6 (.ref xs) (.ref xf) (.ref xh) (.ref xr) xb_4 b), (xf, c2 (.ref xs) (.ref xp) (.ref xq) f), (xp, c1 ep), (xq, c1 eq), (xs, c5 st), (xh, c3 (.ref ja) (.ref jb) (.ref jc) hh), (ja, .inl (cI, 100, .inl t1)), (jb, .inl (cI, 100, .inl t2)), (jc, .inl (cI, 100, .inl t3)), (xr, c4 rs)] H := hP
    have hD : va_D A [(xb, c6 (.ref xs) (.ref xf) (.ref xh) (.ref xr) xb_4 b), (xf, c2 (.ref xs) (.ref xp) (.ref xq) f), (xp, c1 ep), (xq, c1 eq), (xs, c5 st), (xh, c3 (.ref ja) (.ref jb) (.ref jc) hh), (ja, .inl (cI, 100, .inl t1)), (jb, .inl (cI, 100, .inl t2)), (jc, .inl (cI, 100, .inl t3)), (xr, c4 rs)] := hD
    have z4 : ¬ ((s6_reset b f ep eq st hh t1 t2 t3 rs).1) = 0 := by rw [hc9]; decide
    refine vx_catch (own := RL) (name := "java/lang/IllegalStateException") hown [⟨0, 136, 137, 41⟩, ⟨0, 136, 142, 43⟩] ⟨0, 136, 147, 45⟩ [] htab (fun z hz => by
        simp only [List.mem_cons, List.not_mem_nil, or_false] at hz
        rcases hz with rfl | rfl
        · exact Or.inr ⟨by decide, _, lcx41, hStr.2.2.2⟩
        · exact Or.inr ⟨by decide, _, lcx43, hStr.2.1⟩) (by decide) (by decide) lcx45 (hN.use (args := args) (w := .castable "java/lang/IllegalStateException" "java/lang/IllegalStateException") (by decide +kernel)) hce hcv hcl ?_
    refine W.eq (g2 := F0 m 147 ls [.ref q9]) rfl ?_
    refine lv_astore (lv' := [(4, .ref q9), (0, .ref xb), (1, .int 2), (2, .int a2), (3, .int a3)]) hx hb dL_asks_147 hl (by decide) rfl (fun ls hl => ?_)
    refine lv_bipush (v := (-103)) hx hb dL_asks_149 (by decide) ?_
    have hsp : (sL_asks2 b f ep eq st hh t1 t2 t3 rs a2 a3) = (((-103), f, hh, t1, t2, t3, rs) : Int32 × (Nat → Int32) × (Nat → Int32) × (Nat → Int32) × (Nat → Int32) × (Nat → Int32) × (Nat → Int32)) := by simp only [sL_asks2, if_neg z4]
    exact hret _ _ _ _ _ _ _ _ hP hD hS dL_asks_151 rfl ⟨(), (by rw [hsp]), (by rw [hsp])⟩ (Nat.le_of_ble_eq_true rfl) (Nat.le_of_ble_eq_true rfl)
  · have z4 : ((s6_reset b f ep eq st hh t1 t2 t3 rs).1) = 0 := hw.1
    have hr5 : r5 = ((s6_reset b f ep eq st hh t1 t2 t3 rs).2.1) := hw.2
    have hP : va_P D vwCl [(xb, c6 (.ref xs) (.ref xf) (.ref xh) (.ref xr) xb_4 b), (xf, c2 (.ref xs) (.ref xp) (.ref xq) ((s6_reset b f ep eq st hh t1 t2 t3 rs).2.2.1)), (xp, c1 ep), (xq, c1 eq), (xs, c5 st), (xh, c3 (.ref ja) (.ref jb) (.ref jc) ((s6_reset b f ep eq st hh t1 t2 t3 rs).2.2.2.1)), (ja, .inl (cI, 100, .inl ((s6_reset b f ep eq st hh t1 t2 t3 rs).2.2.2.2.1))), (jb, .inl (cI, 100, .inl ((s6_reset b f ep eq st hh t1 t2 t3 rs).2.2.2.2.2.1))), (jc, .inl (cI, 100, .inl ((s6_reset b f ep eq st hh t1 t2 t3 rs).2.2.2.2.2.2.1))), (xr, c4 ((s6_reset b f ep eq st hh t1 t2 t3 rs).2.2.2.2.2.2.2))] H := hP
    have hD : va_D A [(xb, c6 (.ref xs) (.ref xf) (.ref xh) (.ref xr) xb_4 b), (xf, c2 (.ref xs) (.ref xp) (.ref xq) ((s6_reset b f ep eq st hh t1 t2 t3 rs).2.2.1)), (xp, c1 ep), (xq, c1 eq), (xs, c5 st), (xh, c3 (.ref ja) (.ref jb) (.ref jc) ((s6_reset b f ep eq st hh t1 t2 t3 rs).2.2.2.1)), (ja, .inl (cI, 100, .inl ((s6_reset b f ep eq st hh t1 t2 t3 rs).2.2.2.2.1))), (jb, .inl (cI, 100, .inl ((s6_reset b f ep eq st hh t1 t2 t3 rs).2.2.2.2.2.1))), (jc, .inl (cI, 100, .inl ((s6_reset b f ep eq st hh t1 t2 t3 rs).2.2.2.2.2.2.1))), (xr, c4 ((s6_reset b f ep eq st hh t1 t2 t3 rs).2.2.2.2.2.2.2))] := hD
    refine lv_goto (tgt := 136) hx hb dL_asks_34 (by decide) ?_
    have hsp : (sL_asks2 b f ep eq st hh t1 t2 t3 rs a2 a3) = ((r5, ((s6_reset b f ep eq st hh t1 t2 t3 rs).2.2.1), ((s6_reset b f ep eq st hh t1 t2 t3 rs).2.2.2.1), ((s6_reset b f ep eq st hh t1 t2 t3 rs).2.2.2.2.1), ((s6_reset b f ep eq st hh t1 t2 t3 rs).2.2.2.2.2.1), ((s6_reset b f ep eq st hh t1 t2 t3 rs).2.2.2.2.2.2.1), ((s6_reset b f ep eq st hh t1 t2 t3 rs).2.2.2.2.2.2.2)) : Int32 × (Nat → Int32) × (Nat → Int32) × (Nat → Int32) × (Nat → Int32) × (Nat → Int32) × (Nat → Int32)) := by simp only [sL_asks2, ← hr5, if_pos z4]
    exact hret _ _ _ _ _ _ _ _ hP hD hS dL_asks_136 rfl ⟨(), (by rw [hsp]), (by rw [hsp])⟩ (Nat.le_of_ble_eq_true rfl) (Nat.le_of_ble_eq_true rfl)

set_option maxHeartbeats 4000000 in
set_option maxRecDepth 100000 in
theorem kL_asks3 (l : Launch) (hlt : l.stackTraces = false) (D : va_G) (cI cJ : ClassId) (xb xh ja jb jc : Nat) (xb_0 xb_1 xb_3 xb_4 : Value) (b : Nat → Int32) (hh : Nat → Int32) (t1 : Nat → Int32) (t2 : Nat → Int32) (t3 : Nat → Int32) (a2 : Int32) (a3 : Int32) : cw_Wi l yL_asks wsL_asks (cw_rx 20) D [(cI, .int)] [.ref xb, .int 3, .int a2, .int a3] [(xb, c6 xb_0 xb_1 (.ref xh) xb_3 xb_4 b), (xh, c3 (.ref ja) (.ref jb) (.ref jc) hh), (ja, .inl (cI, 100, .inl t1)), (jb, .inl (cI, 100, .inl t2)), (jc, .inl (cI, 100, .inl t3))] 1 6 (fun r (_ : Unit) => r = (sL_asks3 b hh t1 t2 t3 a2 a3)) (fun _ : Unit => [(xb, c6 xb_0 xb_1 (.ref xh) xb_3 xb_4 b), (xh, c3 (.ref ja) (.ref jb) (.ref jc) hh), (ja, .inl (cI, 100, .inl t1)), (jb, .inl (cI, 100, .inl t2)), (jc, .inl (cI, 100, .inl t3))]) := by
  refine cw_ofWi (cc := cL_asks) (maxL := 5) (ret := (some .int)) (hh := [(0, 136, 137, 41), (0, 136, 142, 43), (0, 136, 147, 45)]) (by decide) rfl (Nat.le_of_ble_eq_true rfl) rfl ?_
  intro p e s m args below meth c A ls Q hin0 hret htab hZ hStr
  obtain ⟨hx, hb, hr, hml, hts, hown, hlocks, hin, hP, hK, hD, hN, hA, hl⟩ := hin0
  have hS : va_S A s.heap s.heap [] := va_S.rf
  have hl : lv_has ls 5 [(0, .ref xb), (1, .int 3), (2, .int a2), (3, .int a3)] := hl
  have lcx41 := hts (.classLink RL 41 "java/lang/IndexOutOfBoundsException") (by decide +kernel)
  refine lv_iload_n hx hb dL_asks_0 rfl (lv_at hl 1 rfl) ?_
  refine lv_if_ne (tgt := 12) hx hb dL_asks_1 (by decide) (fun z1 => ?_) (fun z1 => absurd z1 (by decide))
  refine lv_iload_n hx hb dL_asks_12 rfl (lv_at hl 1 rfl) ?_
  refine lv_iconst (v := 1) hx hb dL_asks_13 (by decide) ?_
  refine lv_icmp_ne (tgt := 25) hx hb dL_asks_14 (by decide) (fun z2 => ?_) (fun z2 => absurd z2 (by decide))
  refine lv_iload_n hx hb dL_asks_25 rfl (lv_at hl 1 rfl) ?_
  refine lv_iconst (v := 2) hx hb dL_asks_26 (by decide) ?_
  refine lv_icmp_ne (tgt := 37) hx hb dL_asks_27 (by decide) (fun z3 => ?_) (fun z3 => absurd z3 (by decide))
  refine lv_iload_n hx hb dL_asks_37 rfl (lv_at hl 1 rfl) ?_
  refine lv_iconst (v := 3) hx hb dL_asks_38 (by decide) ?_
  refine lv_icmp_ne (tgt := 50) hx hb dL_asks_39 (by decide) (fun z4 => absurd (by decide) z4) (fun z4 => ?_)
  refine lv_aload_n hx hb dL_asks_42 rfl (lv_at hl 0 rfl) ?_
  refine lv_iload_n hx hb dL_asks_43 rfl (lv_at hl 2 rfl) ?_
  refine cw_cVXi (As := [.int a2]) (rest := []) (wc := [(xb, c6 xb_0 xb_1 (.ref xh) xb_3 xb_4 b), (xh, c3 (.ref ja) (.ref jb) (.ref jc) hh), (ja, .inl (cI, 100, .inl t1)), (jb, .inl (cI, 100, .inl t2)), (jc, .inl (cI, 100, .inl t3))]) (wr := []) ⟨hx, hb, hml, hown, hts⟩ (k6_tickOf l hlt D cI cJ xb xh ja jb jc xb_0 xb_1 xb_3 xb_4 b hh t1 t2 t3 a2) (cwV 1 hts gL_asks_X6_tickOf rfl rfl rfl (by decide +kernel) ⟨Nat.le_of_ble_eq_true rfl, Nat.le_of_ble_eq_true rfl⟩) hK hN hP hD hS hA hZ hStr [0, 1, 2, 3, 4] [] rfl rfl (by decide) (by decide) (by decide) 0 (ci := 6) rfl rfl rfl rfl hl.1 rfl (Nat.le_of_ble_eq_true rfl) dL_asks_44 ⟨Nat.le_of_ble_eq_true rfl, Nat.le_of_ble_eq_true rfl⟩ (fun E ce q9 H locs hxp hP hD hS hce hcv hcl => ?_) (fun r6 u7 H locs hw hP hD hS => ?_)
  · obtain ⟨hc9, rfl⟩ := hxp
    have hP : va_P D vwCl [(xb, c6 xb_0 xb_1 (.ref xh) xb_3 xb_4 b), (xh, c3 (.ref ja) (.ref jb) (.ref jc) hh), (ja, .inl (cI, 100, .inl t1)), (jb, .inl (cI, 100, .inl t2)), (jc, .inl (cI, 100, .inl t3))] H := hP
    have hD : va_D A [(xb, c6 xb_0 xb_1 (.ref xh) xb_3 xb_4 b), (xh, c3 (.ref ja) (.ref jb) (.ref jc) hh), (ja, .inl (cI, 100, .inl t1)), (jb, .inl (cI, 100, .inl t2)), (jc, .inl (cI, 100, .inl t3))] := hD
    have z5 : ¬ ((s6_tickOf b hh t1 t2 t3 a2).1) = 0 := by rw [hc9]; decide
    refine vx_catch (own := RL) (name := "java/lang/IndexOutOfBoundsException") hown [] ⟨0, 136, 137, 41⟩ [⟨0, 136, 142, 43⟩, ⟨0, 136, 147, 45⟩] htab (fun z hz => nomatch hz) (by decide) (by decide) lcx41 (hN.use (args := args) (w := .castable "java/lang/IndexOutOfBoundsException" "java/lang/IndexOutOfBoundsException") (by decide +kernel)) hce hcv hcl ?_
    refine W.eq (g2 := F0 m 137 ls [.ref q9]) rfl ?_
    refine lv_astore (lv' := [(4, .ref q9), (0, .ref xb), (1, .int 3), (2, .int a2), (3, .int a3)]) hx hb dL_asks_137 hl (by decide) rfl (fun ls hl => ?_)
    refine lv_bipush (v := (-101)) hx hb dL_asks_139 (by decide) ?_
    have hsp : (sL_asks3 b hh t1 t2 t3 a2 a3) = ((-101) : Int32) := by simp only [sL_asks3, if_neg z5]
    exact hret _ _ _ _ _ _ _ _ hP hD hS dL_asks_141 rfl ⟨(), (by rw [hsp]), rfl⟩ (Nat.le_of_ble_eq_true rfl) (Nat.le_of_ble_eq_true rfl)
  · have z5 : ((s6_tickOf b hh t1 t2 t3 a2).1) = 0 := hw.1
    have hr6 : r6 = ((s6_tickOf b hh t1 t2 t3 a2).2) := hw.2
    have hP : va_P D vwCl [(xb, c6 xb_0 xb_1 (.ref xh) xb_3 xb_4 b), (xh, c3 (.ref ja) (.ref jb) (.ref jc) hh), (ja, .inl (cI, 100, .inl t1)), (jb, .inl (cI, 100, .inl t2)), (jc, .inl (cI, 100, .inl t3))] H := hP
    have hD : va_D A [(xb, c6 xb_0 xb_1 (.ref xh) xb_3 xb_4 b), (xh, c3 (.ref ja) (.ref jb) (.ref jc) hh), (ja, .inl (cI, 100, .inl t1)), (jb, .inl (cI, 100, .inl t2)), (jc, .inl (cI, 100, .inl t3))] := hD
    refine lv_goto (tgt := 136) hx hb dL_asks_47 (by decide) ?_
    have hsp : (sL_asks3 b hh t1 t2 t3 a2 a3) = (r6 : Int32) := by simp only [sL_asks3, ← hr6, if_pos z5]
    exact hret _ _ _ _ _ _ _ _ hP hD hS dL_asks_136 rfl ⟨(), (by rw [hsp]), rfl⟩ (Nat.le_of_ble_eq_true rfl) (Nat.le_of_ble_eq_true rfl)

set_option maxHeartbeats 4000000 in
set_option maxRecDepth 100000 in
theorem kL_asks4 (l : Launch) (hlt : l.stackTraces = false) (D : va_G) (cI cJ : ClassId) (xb xh ja jb jc : Nat) (xb_0 xb_1 xb_3 xb_4 : Value) (b : Nat → Int32) (hh : Nat → Int32) (t1 : Nat → Int32) (t2 : Nat → Int32) (t3 : Nat → Int32) (a2 : Int32) (a3 : Int32) : cw_Wi l yL_asks wsL_asks (cw_rx 20) D [(cI, .int)] [.ref xb, .int 4, .int a2, .int a3] [(xb, c6 xb_0 xb_1 (.ref xh) xb_3 xb_4 b), (xh, c3 (.ref ja) (.ref jb) (.ref jc) hh), (ja, .inl (cI, 100, .inl t1)), (jb, .inl (cI, 100, .inl t2)), (jc, .inl (cI, 100, .inl t3))] 1 6 (fun r (_ : Unit) => r = (sL_asks4 b hh t1 t2 t3 a2 a3)) (fun _ : Unit => [(xb, c6 xb_0 xb_1 (.ref xh) xb_3 xb_4 b), (xh, c3 (.ref ja) (.ref jb) (.ref jc) hh), (ja, .inl (cI, 100, .inl t1)), (jb, .inl (cI, 100, .inl t2)), (jc, .inl (cI, 100, .inl t3))]) := by
  refine cw_ofWi (cc := cL_asks) (maxL := 5) (ret := (some .int)) (hh := [(0, 136, 137, 41), (0, 136, 142, 43), (0, 136, 147, 45)]) (by decide) rfl (Nat.le_of_ble_eq_true rfl) rfl ?_
  intro p e s m args below meth c A ls Q hin0 hret htab hZ hStr
  obtain ⟨hx, hb, hr, hml, hts, hown, hlocks, hin, hP, hK, hD, hN, hA, hl⟩ := hin0
  have hS : va_S A s.heap s.heap [] := va_S.rf
  have hl : lv_has ls 5 [(0, .ref xb), (1, .int 4), (2, .int a2), (3, .int a3)] := hl
  have lcx41 := hts (.classLink RL 41 "java/lang/IndexOutOfBoundsException") (by decide +kernel)
  refine lv_iload_n hx hb dL_asks_0 rfl (lv_at hl 1 rfl) ?_
  refine lv_if_ne (tgt := 12) hx hb dL_asks_1 (by decide) (fun z1 => ?_) (fun z1 => absurd z1 (by decide))
  refine lv_iload_n hx hb dL_asks_12 rfl (lv_at hl 1 rfl) ?_
  refine lv_iconst (v := 1) hx hb dL_asks_13 (by decide) ?_
  refine lv_icmp_ne (tgt := 25) hx hb dL_asks_14 (by decide) (fun z2 => ?_) (fun z2 => absurd z2 (by decide))
  refine lv_iload_n hx hb dL_asks_25 rfl (lv_at hl 1 rfl) ?_
  refine lv_iconst (v := 2) hx hb dL_asks_26 (by decide) ?_
  refine lv_icmp_ne (tgt := 37) hx hb dL_asks_27 (by decide) (fun z3 => ?_) (fun z3 => absurd z3 (by decide))
  refine lv_iload_n hx hb dL_asks_37 rfl (lv_at hl 1 rfl) ?_
  refine lv_iconst (v := 3) hx hb dL_asks_38 (by decide) ?_
  refine lv_icmp_ne (tgt := 50) hx hb dL_asks_39 (by decide) (fun z4 => ?_) (fun z4 => absurd z4 (by decide))
  refine lv_iload_n hx hb dL_asks_50 rfl (lv_at hl 1 rfl) ?_
  refine lv_iconst (v := 4) hx hb dL_asks_51 (by decide) ?_
  refine lv_icmp_ne (tgt := 63) hx hb dL_asks_52 (by decide) (fun z5 => absurd (by decide) z5) (fun z5 => ?_)
  refine lv_aload_n hx hb dL_asks_55 rfl (lv_at hl 0 rfl) ?_
  refine lv_iload_n hx hb dL_asks_56 rfl (lv_at hl 2 rfl) ?_
  refine cw_cVXi (As := [.int a2]) (rest := []) (wc := [(xb, c6 xb_0 xb_1 (.ref xh) xb_3 xb_4 b), (xh, c3 (.ref ja) (.ref jb) (.ref jc) hh), (ja, .inl (cI, 100, .inl t1)), (jb, .inl (cI, 100, .inl t2)), (jc, .inl (cI, 100, .inl t3))]) (wr := []) ⟨hx, hb, hml, hown, hts⟩ (k6_stateOf l hlt D cI cJ xb xh ja jb jc xb_0 xb_1 xb_3 xb_4 b hh t1 t2 t3 a2) (cwV 1 hts gL_asks_X6_stateOf rfl rfl rfl (by decide +kernel) ⟨Nat.le_of_ble_eq_true rfl, Nat.le_of_ble_eq_true rfl⟩) hK hN hP hD hS hA hZ hStr [0, 1, 2, 3, 4] [] rfl rfl (by decide) (by decide) (by decide) 0 (ci := 6) rfl rfl rfl rfl hl.1 rfl (Nat.le_of_ble_eq_true rfl) dL_asks_57 ⟨Nat.le_of_ble_eq_true rfl, Nat.le_of_ble_eq_true rfl⟩ (fun E ce q9 H locs hxp hP hD hS hce hcv hcl => ?_) (fun r7 u8 H locs hw hP hD hS => ?_)
  · obtain ⟨hc9, rfl⟩ := hxp
    have hP : va_P D vwCl [(xb, c6 xb_0 xb_1 (.ref xh) xb_3 xb_4 b), (xh, c3 (.ref ja) (.ref jb) (.ref jc) hh), (ja, .inl (cI, 100, .inl t1)), (jb, .inl (cI, 100, .inl t2)), (jc, .inl (cI, 100, .inl t3))] H := hP
    have hD : va_D A [(xb, c6 xb_0 xb_1 (.ref xh) xb_3 xb_4 b), (xh, c3 (.ref ja) (.ref jb) (.ref jc) hh), (ja, .inl (cI, 100, .inl t1)), (jb, .inl (cI, 100, .inl t2)), (jc, .inl (cI, 100, .inl t3))] := hD
    have z6 : ¬ ((s6_stateOf b hh t1 t2 t3 a2).1) = 0 := by rw [hc9]; decide
    refine vx_catch (own := RL) (name := "java/lang/IndexOutOfBoundsException") hown [] ⟨0, 136, 137, 41⟩ [⟨0, 136, 142, 43⟩, ⟨0, 136, 147, 45⟩] htab (fun z hz => nomatch hz) (by decide) (by decide) lcx41 (hN.use (args := args) (w := .castable "java/lang/IndexOutOfBoundsException" "java/lang/IndexOutOfBoundsException") (by decide +kernel)) hce hcv hcl ?_
    refine W.eq (g2 := F0 m 137 ls [.ref q9]) rfl ?_
    refine lv_astore (lv' := [(4, .ref q9), (0, .ref xb), (1, .int 4), (2, .int a2), (3, .int a3)]) hx hb dL_asks_137 hl (by decide) rfl (fun ls hl => ?_)
    refine lv_bipush (v := (-101)) hx hb dL_asks_139 (by decide) ?_
    have hsp : (sL_asks4 b hh t1 t2 t3 a2 a3) = ((-101) : Int32) := by simp only [sL_asks4, if_neg z6]
    exact hret _ _ _ _ _ _ _ _ hP hD hS dL_asks_141 rfl ⟨(), (by rw [hsp]), rfl⟩ (Nat.le_of_ble_eq_true rfl) (Nat.le_of_ble_eq_true rfl)
  · have z6 : ((s6_stateOf b hh t1 t2 t3 a2).1) = 0 := hw.1
    have hr7 : r7 = ((s6_stateOf b hh t1 t2 t3 a2).2) := hw.2
    have hP : va_P D vwCl [(xb, c6 xb_0 xb_1 (.ref xh) xb_3 xb_4 b), (xh, c3 (.ref ja) (.ref jb) (.ref jc) hh), (ja, .inl (cI, 100, .inl t1)), (jb, .inl (cI, 100, .inl t2)), (jc, .inl (cI, 100, .inl t3))] H := hP
    have hD : va_D A [(xb, c6 xb_0 xb_1 (.ref xh) xb_3 xb_4 b), (xh, c3 (.ref ja) (.ref jb) (.ref jc) hh), (ja, .inl (cI, 100, .inl t1)), (jb, .inl (cI, 100, .inl t2)), (jc, .inl (cI, 100, .inl t3))] := hD
    refine lv_goto (tgt := 136) hx hb dL_asks_60 (by decide) ?_
    have hsp : (sL_asks4 b hh t1 t2 t3 a2 a3) = (r7 : Int32) := by simp only [sL_asks4, ← hr7, if_pos z6]
    exact hret _ _ _ _ _ _ _ _ hP hD hS dL_asks_136 rfl ⟨(), (by rw [hsp]), rfl⟩ (Nat.le_of_ble_eq_true rfl) (Nat.le_of_ble_eq_true rfl)

set_option maxHeartbeats 4000000 in
set_option maxRecDepth 100000 in
theorem kL_asks5 (l : Launch) (hlt : l.stackTraces = false) (D : va_G) (cI cJ : ClassId) (xb xh ja jb jc : Nat) (xb_0 xb_1 xb_3 xb_4 : Value) (b : Nat → Int32) (hh : Nat → Int32) (t1 : Nat → Int32) (t2 : Nat → Int32) (t3 : Nat → Int32) (a2 : Int32) (a3 : Int32) : cw_Wi l yL_asks wsL_asks (cw_rx 20) D [(cI, .int)] [.ref xb, .int 5, .int a2, .int a3] [(xb, c6 xb_0 xb_1 (.ref xh) xb_3 xb_4 b), (xh, c3 (.ref ja) (.ref jb) (.ref jc) hh), (ja, .inl (cI, 100, .inl t1)), (jb, .inl (cI, 100, .inl t2)), (jc, .inl (cI, 100, .inl t3))] 1 6 (fun r (_ : Unit) => r = (sL_asks5 b hh t1 t2 t3 a2 a3)) (fun _ : Unit => [(xb, c6 xb_0 xb_1 (.ref xh) xb_3 xb_4 b), (xh, c3 (.ref ja) (.ref jb) (.ref jc) hh), (ja, .inl (cI, 100, .inl t1)), (jb, .inl (cI, 100, .inl t2)), (jc, .inl (cI, 100, .inl t3))]) := by
  refine cw_ofWi (cc := cL_asks) (maxL := 5) (ret := (some .int)) (hh := [(0, 136, 137, 41), (0, 136, 142, 43), (0, 136, 147, 45)]) (by decide) rfl (Nat.le_of_ble_eq_true rfl) rfl ?_
  intro p e s m args below meth c A ls Q hin0 hret htab hZ hStr
  obtain ⟨hx, hb, hr, hml, hts, hown, hlocks, hin, hP, hK, hD, hN, hA, hl⟩ := hin0
  have hS : va_S A s.heap s.heap [] := va_S.rf
  have hl : lv_has ls 5 [(0, .ref xb), (1, .int 5), (2, .int a2), (3, .int a3)] := hl
  have lcx41 := hts (.classLink RL 41 "java/lang/IndexOutOfBoundsException") (by decide +kernel)
  refine lv_iload_n hx hb dL_asks_0 rfl (lv_at hl 1 rfl) ?_
  refine lv_if_ne (tgt := 12) hx hb dL_asks_1 (by decide) (fun z1 => ?_) (fun z1 => absurd z1 (by decide))
  refine lv_iload_n hx hb dL_asks_12 rfl (lv_at hl 1 rfl) ?_
  refine lv_iconst (v := 1) hx hb dL_asks_13 (by decide) ?_
  refine lv_icmp_ne (tgt := 25) hx hb dL_asks_14 (by decide) (fun z2 => ?_) (fun z2 => absurd z2 (by decide))
  refine lv_iload_n hx hb dL_asks_25 rfl (lv_at hl 1 rfl) ?_
  refine lv_iconst (v := 2) hx hb dL_asks_26 (by decide) ?_
  refine lv_icmp_ne (tgt := 37) hx hb dL_asks_27 (by decide) (fun z3 => ?_) (fun z3 => absurd z3 (by decide))
  refine lv_iload_n hx hb dL_asks_37 rfl (lv_at hl 1 rfl) ?_
  refine lv_iconst (v := 3) hx hb dL_asks_38 (by decide) ?_
  refine lv_icmp_ne (tgt := 50) hx hb dL_asks_39 (by decide) (fun z4 => ?_) (fun z4 => absurd z4 (by decide))
  refine lv_iload_n hx hb dL_asks_50 rfl (lv_at hl 1 rfl) ?_
  refine lv_iconst (v := 4) hx hb dL_asks_51 (by decide) ?_
  refine lv_icmp_ne (tgt := 63) hx hb dL_asks_52 (by decide) (fun z5 => ?_) (fun z5 => absurd z5 (by decide))
  refine lv_iload_n hx hb dL_asks_63 rfl (lv_at hl 1 rfl) ?_
  refine lv_iconst (v := 5) hx hb dL_asks_64 (by decide) ?_
  refine lv_icmp_ne (tgt := 76) hx hb dL_asks_65 (by decide) (fun z6 => absurd (by decide) z6) (fun z6 => ?_)
  refine lv_aload_n hx hb dL_asks_68 rfl (lv_at hl 0 rfl) ?_
  refine lv_iload_n hx hb dL_asks_69 rfl (lv_at hl 2 rfl) ?_
  refine cw_cVXi (As := [.int a2]) (rest := []) (wc := [(xb, c6 xb_0 xb_1 (.ref xh) xb_3 xb_4 b), (xh, c3 (.ref ja) (.ref jb) (.ref jc) hh), (ja, .inl (cI, 100, .inl t1)), (jb, .inl (cI, 100, .inl t2)), (jc, .inl (cI, 100, .inl t3))]) (wr := []) ⟨hx, hb, hml, hown, hts⟩ (k6_reasonOf l hlt D cI cJ xb xh ja jb jc xb_0 xb_1 xb_3 xb_4 b hh t1 t2 t3 a2) (cwV 1 hts gL_asks_X6_reasonOf rfl rfl rfl (by decide +kernel) ⟨Nat.le_of_ble_eq_true rfl, Nat.le_of_ble_eq_true rfl⟩) hK hN hP hD hS hA hZ hStr [0, 1, 2, 3, 4] [] rfl rfl (by decide) (by decide) (by decide) 0 (ci := 6) rfl rfl rfl rfl hl.1 rfl (Nat.le_of_ble_eq_true rfl) dL_asks_70 ⟨Nat.le_of_ble_eq_true rfl, Nat.le_of_ble_eq_true rfl⟩ (fun E ce q9 H locs hxp hP hD hS hce hcv hcl => ?_) (fun r8 u9 H locs hw hP hD hS => ?_)
  · obtain ⟨hc9, rfl⟩ := hxp
    have hP : va_P D vwCl [(xb, c6 xb_0 xb_1 (.ref xh) xb_3 xb_4 b), (xh, c3 (.ref ja) (.ref jb) (.ref jc) hh), (ja, .inl (cI, 100, .inl t1)), (jb, .inl (cI, 100, .inl t2)), (jc, .inl (cI, 100, .inl t3))] H := hP
    have hD : va_D A [(xb, c6 xb_0 xb_1 (.ref xh) xb_3 xb_4 b), (xh, c3 (.ref ja) (.ref jb) (.ref jc) hh), (ja, .inl (cI, 100, .inl t1)), (jb, .inl (cI, 100, .inl t2)), (jc, .inl (cI, 100, .inl t3))] := hD
    have z7 : ¬ ((s6_reasonOf b hh t1 t2 t3 a2).1) = 0 := by rw [hc9]; decide
    refine vx_catch (own := RL) (name := "java/lang/IndexOutOfBoundsException") hown [] ⟨0, 136, 137, 41⟩ [⟨0, 136, 142, 43⟩, ⟨0, 136, 147, 45⟩] htab (fun z hz => nomatch hz) (by decide) (by decide) lcx41 (hN.use (args := args) (w := .castable "java/lang/IndexOutOfBoundsException" "java/lang/IndexOutOfBoundsException") (by decide +kernel)) hce hcv hcl ?_
    refine W.eq (g2 := F0 m 137 ls [.ref q9]) rfl ?_
    refine lv_astore (lv' := [(4, .ref q9), (0, .ref xb), (1, .int 5), (2, .int a2), (3, .int a3)]) hx hb dL_asks_137 hl (by decide) rfl (fun ls hl => ?_)
    refine lv_bipush (v := (-101)) hx hb dL_asks_139 (by decide) ?_
    have hsp : (sL_asks5 b hh t1 t2 t3 a2 a3) = ((-101) : Int32) := by simp only [sL_asks5, if_neg z7]
    exact hret _ _ _ _ _ _ _ _ hP hD hS dL_asks_141 rfl ⟨(), (by rw [hsp]), rfl⟩ (Nat.le_of_ble_eq_true rfl) (Nat.le_of_ble_eq_true rfl)
  · have z7 : ((s6_reasonOf b hh t1 t2 t3 a2).1) = 0 := hw.1
    have hr8 : r8 = ((s6_reasonOf b hh t1 t2 t3 a2).2) := hw.2
    have hP : va_P D vwCl [(xb, c6 xb_0 xb_1 (.ref xh) xb_3 xb_4 b), (xh, c3 (.ref ja) (.ref jb) (.ref jc) hh), (ja, .inl (cI, 100, .inl t1)), (jb, .inl (cI, 100, .inl t2)), (jc, .inl (cI, 100, .inl t3))] H := hP
    have hD : va_D A [(xb, c6 xb_0 xb_1 (.ref xh) xb_3 xb_4 b), (xh, c3 (.ref ja) (.ref jb) (.ref jc) hh), (ja, .inl (cI, 100, .inl t1)), (jb, .inl (cI, 100, .inl t2)), (jc, .inl (cI, 100, .inl t3))] := hD
    refine lv_goto (tgt := 136) hx hb dL_asks_73 (by decide) ?_
    have hsp : (sL_asks5 b hh t1 t2 t3 a2 a3) = (r8 : Int32) := by simp only [sL_asks5, ← hr8, if_pos z7]
    exact hret _ _ _ _ _ _ _ _ hP hD hS dL_asks_136 rfl ⟨(), (by rw [hsp]), rfl⟩ (Nat.le_of_ble_eq_true rfl) (Nat.le_of_ble_eq_true rfl)

set_option maxHeartbeats 4000000 in
set_option maxRecDepth 100000 in
theorem kL_asks6 (l : Launch) (hlt : l.stackTraces = false) (D : va_G) (cI cJ : ClassId) (xb : Nat) (xb_0 xb_1 xb_2 xb_3 xb_4 : Value) (b : Nat → Int32) (a2 : Int32) (a3 : Int32) (ha : ¬ (s6_isOutside a2 0 6 = 0 ∧ s6_isOutside a3 1 3 = 0)) : cw_Wi l yL_asks wsL_asks (cw_rx 20) D [(cI, .int)] [.ref xb, .int 6, .int a2, .int a3] [(xb, c6 xb_0 xb_1 xb_2 xb_3 xb_4 b)] 1 6 (fun r (_ : Unit) => r = (sL_asks6 b a2 a3)) (fun _ : Unit => [(xb, c6 xb_0 xb_1 xb_2 xb_3 xb_4 b)]) := by
  refine cw_ofWi (cc := cL_asks) (maxL := 5) (ret := (some .int)) (hh := [(0, 136, 137, 41), (0, 136, 142, 43), (0, 136, 147, 45)]) (by decide) rfl (Nat.le_of_ble_eq_true rfl) rfl ?_
  intro p e s m args below meth c A ls Q hin0 hret htab hZ hStr
  obtain ⟨hx, hb, hr, hml, hts, hown, hlocks, hin, hP, hK, hD, hN, hA, hl⟩ := hin0
  have hS : va_S A s.heap s.heap [] := va_S.rf
  have hl : lv_has ls 5 [(0, .ref xb), (1, .int 6), (2, .int a2), (3, .int a3)] := hl
  have lcx43 := hts (.classLink RL 43 "java/lang/IllegalArgumentException") (by decide +kernel)
  have lcx41 := hts (.classLink RL 41 "java/lang/IndexOutOfBoundsException") (by decide +kernel)
  refine lv_iload_n hx hb dL_asks_0 rfl (lv_at hl 1 rfl) ?_
  refine lv_if_ne (tgt := 12) hx hb dL_asks_1 (by decide) (fun z1 => ?_) (fun z1 => absurd z1 (by decide))
  refine lv_iload_n hx hb dL_asks_12 rfl (lv_at hl 1 rfl) ?_
  refine lv_iconst (v := 1) hx hb dL_asks_13 (by decide) ?_
  refine lv_icmp_ne (tgt := 25) hx hb dL_asks_14 (by decide) (fun z2 => ?_) (fun z2 => absurd z2 (by decide))
  refine lv_iload_n hx hb dL_asks_25 rfl (lv_at hl 1 rfl) ?_
  refine lv_iconst (v := 2) hx hb dL_asks_26 (by decide) ?_
  refine lv_icmp_ne (tgt := 37) hx hb dL_asks_27 (by decide) (fun z3 => ?_) (fun z3 => absurd z3 (by decide))
  refine lv_iload_n hx hb dL_asks_37 rfl (lv_at hl 1 rfl) ?_
  refine lv_iconst (v := 3) hx hb dL_asks_38 (by decide) ?_
  refine lv_icmp_ne (tgt := 50) hx hb dL_asks_39 (by decide) (fun z4 => ?_) (fun z4 => absurd z4 (by decide))
  refine lv_iload_n hx hb dL_asks_50 rfl (lv_at hl 1 rfl) ?_
  refine lv_iconst (v := 4) hx hb dL_asks_51 (by decide) ?_
  refine lv_icmp_ne (tgt := 63) hx hb dL_asks_52 (by decide) (fun z5 => ?_) (fun z5 => absurd z5 (by decide))
  refine lv_iload_n hx hb dL_asks_63 rfl (lv_at hl 1 rfl) ?_
  refine lv_iconst (v := 5) hx hb dL_asks_64 (by decide) ?_
  refine lv_icmp_ne (tgt := 76) hx hb dL_asks_65 (by decide) (fun z6 => ?_) (fun z6 => absurd z6 (by decide))
  refine lv_iload_n hx hb dL_asks_76 rfl (lv_at hl 1 rfl) ?_
  refine lv_bipush (v := 6) hx hb dL_asks_77 (by decide) ?_
  refine lv_icmp_ne (tgt := 99) hx hb dL_asks_79 (by decide) (fun z7 => absurd (by decide) z7) (fun z7 => ?_)
  refine lv_aload_n hx hb dL_asks_82 rfl (lv_at hl 0 rfl) ?_
  refine lv_iload_n hx hb dL_asks_83 rfl (lv_at hl 2 rfl) ?_
  refine lv_iload_n hx hb dL_asks_84 rfl (lv_at hl 3 rfl) ?_
  refine cw_cVXi (As := [.int a2, .int a3]) (rest := []) (wc := [(xb, c6 xb_0 xb_1 xb_2 xb_3 xb_4 b)]) (wr := []) ⟨hx, hb, hml, hown, hts⟩ (k6_couldBeO l hlt D cI cJ xb xb_0 xb_1 xb_2 xb_3 xb_4 b a2 a3 (by (repeat' split) <;> first | exact Or.inl rfl | exact Or.inr rfl | assumption)) (cwV 2 hts gL_asks_X6_couldBe rfl rfl rfl (by decide +kernel) ⟨Nat.le_of_ble_eq_true rfl, Nat.le_of_ble_eq_true rfl⟩) hK hN hP hD hS hA hZ hStr [0] [] rfl rfl (by decide) (by decide) (by decide) 0 (ci := 6) rfl rfl rfl rfl hl.1 rfl (Nat.le_of_ble_eq_true rfl) dL_asks_85 ⟨Nat.le_of_ble_eq_true rfl, Nat.le_of_ble_eq_true rfl⟩ (fun E ce q9 H locs hxp hP hD hS hce hcv hcl => ?_) (fun r9 u10 H locs hw hP hD hS => ?_)
  · obtain ⟨hc9, rfl⟩ := hxp
    have hP : va_P D vwCl [(xb, c6 xb_0 xb_1 xb_2 xb_3 xb_4 b)] H := hP
    have hD : va_D A [(xb, c6 xb_0 xb_1 xb_2 xb_3 xb_4 b)] := hD
    have z8 : ¬ ((s6_couldBeO b a2 a3).1) = 0 := by rw [hc9]; decide
    refine vx_catch (own := RL) (name := "java/lang/IllegalArgumentException") hown [⟨0, 136, 137, 41⟩] ⟨0, 136, 142, 43⟩ [⟨0, 136, 147, 45⟩] htab (fun z hz => by simp only [List.mem_cons, List.not_mem_nil, or_false] at hz; rcases hz with rfl; exact Or.inr ⟨by decide, _, lcx41, hStr.2.2.1⟩) (by decide) (by decide) lcx43 (hN.use (args := args) (w := .castable "java/lang/IllegalArgumentException" "java/lang/IllegalArgumentException") (by decide +kernel)) hce hcv hcl ?_
    refine W.eq (g2 := F0 m 142 ls [.ref q9]) rfl ?_
    refine lv_astore (lv' := [(4, .ref q9), (0, .ref xb), (1, .int 6), (2, .int a2), (3, .int a3)]) hx hb dL_asks_142 hl (by decide) rfl (fun ls hl => ?_)
    refine lv_bipush (v := (-102)) hx hb dL_asks_144 (by decide) ?_
    have hsp : (sL_asks6 b a2 a3) = ((-102) : Int32) := by simp only [sL_asks6, if_neg z8]
    exact hret _ _ _ _ _ _ _ _ hP hD hS dL_asks_146 rfl ⟨(), (by rw [hsp]), rfl⟩ (Nat.le_of_ble_eq_true rfl) (Nat.le_of_ble_eq_true rfl)
  · have z8 : ((s6_couldBeO b a2 a3).1) = 0 := hw.1
    have hr9 : r9 = ((s6_couldBeO b a2 a3).2) := hw.2
    have hP : va_P D vwCl [(xb, c6 xb_0 xb_1 xb_2 xb_3 xb_4 b)] H := hP
    have hD : va_D A [(xb, c6 xb_0 xb_1 xb_2 xb_3 xb_4 b)] := hD
    have J12 : ∀ (w13 : Int32), w13 = (if r9 = 0 then 0 else 1) → W p l e (cw_rx 20) s m args below meth c H locs 1 6 (Q) (F0 m 136 ls [.int w13]) := by
      intro w13 hw13
      have hsp : (sL_asks6 b a2 a3) = (w13 : Int32) := by simp only [sL_asks6, ← hr9, ← hw13, if_pos z8]
      exact hret _ _ _ _ _ _ _ _ hP hD hS dL_asks_136 rfl ⟨(), (by rw [hsp]), rfl⟩ (Nat.le_of_ble_eq_true rfl) (Nat.le_of_ble_eq_true rfl)
    refine lv_if_eq (tgt := 95) hx hb dL_asks_88 (by decide) (fun z11 => ?_) (fun z11 => ?_)
    · refine lv_iconst (v := 0) hx hb dL_asks_95 (by decide) ?_
      refine lv_goto (tgt := 136) hx hb dL_asks_96 (by decide) ?_
      exact J12 0 (by simp only [if_pos z11])
    · refine lv_iconst (v := 1) hx hb dL_asks_91 (by decide) ?_
      refine lv_goto (tgt := 136) hx hb dL_asks_92 (by decide) ?_
      exact J12 1 (by simp only [if_neg z11])

set_option maxHeartbeats 4000000 in
set_option maxRecDepth 100000 in
theorem kL_asks7 (l : Launch) (hlt : l.stackTraces = false) (D : va_G) (cI cJ : ClassId) (xb : Nat) (xb_0 xb_1 xb_2 xb_3 xb_4 : Value) (b : Nat → Int32) (a2 : Int32) (a3 : Int32) (ha : ¬ s6_isOutside a2 1 3 = 0) : cw_Wi l yL_asks wsL_asks (cw_rx 20) D [(cI, .int)] [.ref xb, .int 7, .int a2, .int a3] [(xb, c6 xb_0 xb_1 xb_2 xb_3 xb_4 b)] 1 6 (fun r (_ : Unit) => r = (sL_asks7 b a2 a3)) (fun _ : Unit => [(xb, c6 xb_0 xb_1 xb_2 xb_3 xb_4 b)]) := by
  refine cw_ofWi (cc := cL_asks) (maxL := 5) (ret := (some .int)) (hh := [(0, 136, 137, 41), (0, 136, 142, 43), (0, 136, 147, 45)]) (by decide) rfl (Nat.le_of_ble_eq_true rfl) rfl ?_
  intro p e s m args below meth c A ls Q hin0 hret htab hZ hStr
  obtain ⟨hx, hb, hr, hml, hts, hown, hlocks, hin, hP, hK, hD, hN, hA, hl⟩ := hin0
  have hS : va_S A s.heap s.heap [] := va_S.rf
  have hl : lv_has ls 5 [(0, .ref xb), (1, .int 7), (2, .int a2), (3, .int a3)] := hl
  have lcx43 := hts (.classLink RL 43 "java/lang/IllegalArgumentException") (by decide +kernel)
  have lcx41 := hts (.classLink RL 41 "java/lang/IndexOutOfBoundsException") (by decide +kernel)
  refine lv_iload_n hx hb dL_asks_0 rfl (lv_at hl 1 rfl) ?_
  refine lv_if_ne (tgt := 12) hx hb dL_asks_1 (by decide) (fun z1 => ?_) (fun z1 => absurd z1 (by decide))
  refine lv_iload_n hx hb dL_asks_12 rfl (lv_at hl 1 rfl) ?_
  refine lv_iconst (v := 1) hx hb dL_asks_13 (by decide) ?_
  refine lv_icmp_ne (tgt := 25) hx hb dL_asks_14 (by decide) (fun z2 => ?_) (fun z2 => absurd z2 (by decide))
  refine lv_iload_n hx hb dL_asks_25 rfl (lv_at hl 1 rfl) ?_
  refine lv_iconst (v := 2) hx hb dL_asks_26 (by decide) ?_
  refine lv_icmp_ne (tgt := 37) hx hb dL_asks_27 (by decide) (fun z3 => ?_) (fun z3 => absurd z3 (by decide))
  refine lv_iload_n hx hb dL_asks_37 rfl (lv_at hl 1 rfl) ?_
  refine lv_iconst (v := 3) hx hb dL_asks_38 (by decide) ?_
  refine lv_icmp_ne (tgt := 50) hx hb dL_asks_39 (by decide) (fun z4 => ?_) (fun z4 => absurd z4 (by decide))
  refine lv_iload_n hx hb dL_asks_50 rfl (lv_at hl 1 rfl) ?_
  refine lv_iconst (v := 4) hx hb dL_asks_51 (by decide) ?_
  refine lv_icmp_ne (tgt := 63) hx hb dL_asks_52 (by decide) (fun z5 => ?_) (fun z5 => absurd z5 (by decide))
  refine lv_iload_n hx hb dL_asks_63 rfl (lv_at hl 1 rfl) ?_
  refine lv_iconst (v := 5) hx hb dL_asks_64 (by decide) ?_
  refine lv_icmp_ne (tgt := 76) hx hb dL_asks_65 (by decide) (fun z6 => ?_) (fun z6 => absurd z6 (by decide))
  refine lv_iload_n hx hb dL_asks_76 rfl (lv_at hl 1 rfl) ?_
  refine lv_bipush (v := 6) hx hb dL_asks_77 (by decide) ?_
  refine lv_icmp_ne (tgt := 99) hx hb dL_asks_79 (by decide) (fun z7 => ?_) (fun z7 => absurd z7 (by decide))
  refine lv_iload_n hx hb dL_asks_99 rfl (lv_at hl 1 rfl) ?_
  refine lv_bipush (v := 7) hx hb dL_asks_100 (by decide) ?_
  refine lv_icmp_ne (tgt := 113) hx hb dL_asks_102 (by decide) (fun z8 => absurd (by decide) z8) (fun z8 => ?_)
  refine lv_aload_n hx hb dL_asks_105 rfl (lv_at hl 0 rfl) ?_
  refine lv_iload_n hx hb dL_asks_106 rfl (lv_at hl 2 rfl) ?_
  refine cw_cVXi (As := [.int a2]) (rest := []) (wc := [(xb, c6 xb_0 xb_1 xb_2 xb_3 xb_4 b)]) (wr := []) ⟨hx, hb, hml, hown, hts⟩ (k6_reasonsAheadO l hlt D cI cJ xb xb_0 xb_1 xb_2 xb_3 xb_4 b a2 (by (repeat' split) <;> first | exact Or.inl rfl | exact Or.inr rfl | assumption)) (cwV 1 hts gL_asks_X6_reasonsAhead rfl rfl rfl (by decide +kernel) ⟨Nat.le_of_ble_eq_true rfl, Nat.le_of_ble_eq_true rfl⟩) hK hN hP hD hS hA hZ hStr [0] [] rfl rfl (by decide) (by decide) (by decide) 0 (ci := 6) rfl rfl rfl rfl hl.1 rfl (Nat.le_of_ble_eq_true rfl) dL_asks_107 ⟨Nat.le_of_ble_eq_true rfl, Nat.le_of_ble_eq_true rfl⟩ (fun E ce q9 H locs hxp hP hD hS hce hcv hcl => ?_) (fun r10 u11 H locs hw hP hD hS => ?_)
  · obtain ⟨hc9, rfl⟩ := hxp
    have hP : va_P D vwCl [(xb, c6 xb_0 xb_1 xb_2 xb_3 xb_4 b)] H := hP
    have hD : va_D A [(xb, c6 xb_0 xb_1 xb_2 xb_3 xb_4 b)] := hD
    have z9 : ¬ ((s6_reasonsAheadO b a2).1) = 0 := by rw [hc9]; decide
    refine vx_catch (own := RL) (name := "java/lang/IllegalArgumentException") hown [⟨0, 136, 137, 41⟩] ⟨0, 136, 142, 43⟩ [⟨0, 136, 147, 45⟩] htab (fun z hz => by simp only [List.mem_cons, List.not_mem_nil, or_false] at hz; rcases hz with rfl; exact Or.inr ⟨by decide, _, lcx41, hStr.2.2.1⟩) (by decide) (by decide) lcx43 (hN.use (args := args) (w := .castable "java/lang/IllegalArgumentException" "java/lang/IllegalArgumentException") (by decide +kernel)) hce hcv hcl ?_
    refine W.eq (g2 := F0 m 142 ls [.ref q9]) rfl ?_
    refine lv_astore (lv' := [(4, .ref q9), (0, .ref xb), (1, .int 7), (2, .int a2), (3, .int a3)]) hx hb dL_asks_142 hl (by decide) rfl (fun ls hl => ?_)
    refine lv_bipush (v := (-102)) hx hb dL_asks_144 (by decide) ?_
    have hsp : (sL_asks7 b a2 a3) = ((-102) : Int32) := by simp only [sL_asks7, if_neg z9]
    exact hret _ _ _ _ _ _ _ _ hP hD hS dL_asks_146 rfl ⟨(), (by rw [hsp]), rfl⟩ (Nat.le_of_ble_eq_true rfl) (Nat.le_of_ble_eq_true rfl)
  · have z9 : ((s6_reasonsAheadO b a2).1) = 0 := hw.1
    have hr10 : r10 = ((s6_reasonsAheadO b a2).2) := hw.2
    have hP : va_P D vwCl [(xb, c6 xb_0 xb_1 xb_2 xb_3 xb_4 b)] H := hP
    have hD : va_D A [(xb, c6 xb_0 xb_1 xb_2 xb_3 xb_4 b)] := hD
    refine lv_goto (tgt := 136) hx hb dL_asks_110 (by decide) ?_
    have hsp : (sL_asks7 b a2 a3) = (r10 : Int32) := by simp only [sL_asks7, ← hr10, if_pos z9]
    exact hret _ _ _ _ _ _ _ _ hP hD hS dL_asks_136 rfl ⟨(), (by rw [hsp]), rfl⟩ (Nat.le_of_ble_eq_true rfl) (Nat.le_of_ble_eq_true rfl)

set_option maxHeartbeats 4000000 in
set_option maxRecDepth 100000 in
theorem kL_asks8 (l : Launch) (hlt : l.stackTraces = false) (D : va_G) (cI cJ : ClassId) (xb : Nat) (xb_0 xb_1 xb_2 xb_3 xb_4 : Value) (b : Nat → Int32) (a2 : Int32) (a3 : Int32) : cw_Wi l yL_asks wsL_asks (cw_rx 20) D [(cI, .int)] [.ref xb, .int 8, .int a2, .int a3] [(xb, c6 xb_0 xb_1 xb_2 xb_3 xb_4 b)] 1 6 (fun r (_ : Unit) => r = ((sL_asks8 b a2 a3).1)) (fun _ : Unit => [(xb, c6 xb_0 xb_1 xb_2 xb_3 xb_4 ((sL_asks8 b a2 a3).2))]) := by
  refine cw_ofWi (cc := cL_asks) (maxL := 5) (ret := (some .int)) (hh := [(0, 136, 137, 41), (0, 136, 142, 43), (0, 136, 147, 45)]) (by decide) rfl (Nat.le_of_ble_eq_true rfl) rfl ?_
  intro p e s m args below meth c A ls Q hin0 hret htab hZ hStr
  obtain ⟨hx, hb, hr, hml, hts, hown, hlocks, hin, hP, hK, hD, hN, hA, hl⟩ := hin0
  have hS : va_S A s.heap s.heap [] := va_S.rf
  have hl : lv_has ls 5 [(0, .ref xb), (1, .int 8), (2, .int a2), (3, .int a3)] := hl
  have lcx41 := hts (.classLink RL 41 "java/lang/IndexOutOfBoundsException") (by decide +kernel)
  refine lv_iload_n hx hb dL_asks_0 rfl (lv_at hl 1 rfl) ?_
  refine lv_if_ne (tgt := 12) hx hb dL_asks_1 (by decide) (fun z1 => ?_) (fun z1 => absurd z1 (by decide))
  refine lv_iload_n hx hb dL_asks_12 rfl (lv_at hl 1 rfl) ?_
  refine lv_iconst (v := 1) hx hb dL_asks_13 (by decide) ?_
  refine lv_icmp_ne (tgt := 25) hx hb dL_asks_14 (by decide) (fun z2 => ?_) (fun z2 => absurd z2 (by decide))
  refine lv_iload_n hx hb dL_asks_25 rfl (lv_at hl 1 rfl) ?_
  refine lv_iconst (v := 2) hx hb dL_asks_26 (by decide) ?_
  refine lv_icmp_ne (tgt := 37) hx hb dL_asks_27 (by decide) (fun z3 => ?_) (fun z3 => absurd z3 (by decide))
  refine lv_iload_n hx hb dL_asks_37 rfl (lv_at hl 1 rfl) ?_
  refine lv_iconst (v := 3) hx hb dL_asks_38 (by decide) ?_
  refine lv_icmp_ne (tgt := 50) hx hb dL_asks_39 (by decide) (fun z4 => ?_) (fun z4 => absurd z4 (by decide))
  refine lv_iload_n hx hb dL_asks_50 rfl (lv_at hl 1 rfl) ?_
  refine lv_iconst (v := 4) hx hb dL_asks_51 (by decide) ?_
  refine lv_icmp_ne (tgt := 63) hx hb dL_asks_52 (by decide) (fun z5 => ?_) (fun z5 => absurd z5 (by decide))
  refine lv_iload_n hx hb dL_asks_63 rfl (lv_at hl 1 rfl) ?_
  refine lv_iconst (v := 5) hx hb dL_asks_64 (by decide) ?_
  refine lv_icmp_ne (tgt := 76) hx hb dL_asks_65 (by decide) (fun z6 => ?_) (fun z6 => absurd z6 (by decide))
  refine lv_iload_n hx hb dL_asks_76 rfl (lv_at hl 1 rfl) ?_
  refine lv_bipush (v := 6) hx hb dL_asks_77 (by decide) ?_
  refine lv_icmp_ne (tgt := 99) hx hb dL_asks_79 (by decide) (fun z7 => ?_) (fun z7 => absurd z7 (by decide))
  refine lv_iload_n hx hb dL_asks_99 rfl (lv_at hl 1 rfl) ?_
  refine lv_bipush (v := 7) hx hb dL_asks_100 (by decide) ?_
  refine lv_icmp_ne (tgt := 113) hx hb dL_asks_102 (by decide) (fun z8 => ?_) (fun z8 => absurd z8 (by decide))
  refine lv_aload_n hx hb dL_asks_113 rfl (lv_at hl 0 rfl) ?_
  refine lv_iload_n hx hb dL_asks_114 rfl (lv_at hl 2 rfl) ?_
  refine lv_iload_n hx hb dL_asks_115 rfl (lv_at hl 3 rfl) ?_
  refine lv_iconst (v := 1) hx hb dL_asks_116 (by decide) ?_
  have J10 : ∀ (w11 : Int32), w11 = (if a3 = 1 then 1 else 0) → W p l e (cw_rx 20) s m args below meth c s.heap [] 0 0 (Q) (F0 m 125 ls [.int w11, .int a2, .ref xb]) := by
    intro w11 hw11
    refine cw_cVXi (As := [.int a2, .int w11]) (rest := []) (wc := [(xb, c6 xb_0 xb_1 xb_2 xb_3 xb_4 b)]) (wr := []) ⟨hx, hb, hml, hown, hts⟩ (k6_signal l hlt D cI cJ xb xb_0 xb_1 xb_2 xb_3 xb_4 b a2 w11) (cwV 2 hts gL_asks_X6_signal rfl rfl rfl (by decide +kernel) ⟨Nat.le_of_ble_eq_true rfl, Nat.le_of_ble_eq_true rfl⟩) hK hN hP hD hS hA hZ hStr [0] [] rfl rfl (by decide) (by decide) (by decide) 0 (ci := 6) rfl rfl rfl rfl hl.1 rfl (Nat.le_of_ble_eq_true rfl) dL_asks_125 ⟨Nat.le_of_ble_eq_true rfl, Nat.le_of_ble_eq_true rfl⟩ (fun E ce q9 H locs hxp hP hD hS hce hcv hcl => ?_) (fun r13 u14 H locs hw hP hD hS => ?_)
    · obtain ⟨hc9, rfl⟩ := hxp
      have hP : va_P D vwCl [(xb, c6 xb_0 xb_1 xb_2 xb_3 xb_4 b)] H := hP
      have hD : va_D A [(xb, c6 xb_0 xb_1 xb_2 xb_3 xb_4 b)] := hD
      have z12 : ¬ ((s6_signal b a2 w11).1) = 0 := by rw [hc9]; decide
      refine vx_catch (own := RL) (name := "java/lang/IndexOutOfBoundsException") hown [] ⟨0, 136, 137, 41⟩ [⟨0, 136, 142, 43⟩, ⟨0, 136, 147, 45⟩] htab (fun z hz => nomatch hz) (by decide) (by decide) lcx41 (hN.use (args := args) (w := .castable "java/lang/IndexOutOfBoundsException" "java/lang/IndexOutOfBoundsException") (by decide +kernel)) hce hcv hcl ?_
      refine W.eq (g2 := F0 m 137 ls [.ref q9]) rfl ?_
      refine lv_astore (lv' := [(4, .ref q9), (0, .ref xb), (1, .int 8), (2, .int a2), (3, .int a3)]) hx hb dL_asks_137 hl (by decide) rfl (fun ls hl => ?_)
      refine lv_bipush (v := (-101)) hx hb dL_asks_139 (by decide) ?_
      have hsp : (sL_asks8 b a2 a3) = (((-101), b) : Int32 × (Nat → Int32)) := by simp only [sL_asks8, ← hw11, if_neg z12]
      exact hret _ _ _ _ _ _ _ _ hP hD hS dL_asks_141 rfl ⟨(), (by rw [hsp]), (by rw [hsp])⟩ (Nat.le_of_ble_eq_true rfl) (Nat.le_of_ble_eq_true rfl)
    · have z12 : ((s6_signal b a2 w11).1) = 0 := hw.1
      have hr13 : r13 = ((s6_signal b a2 w11).2.1) := hw.2
      have hP : va_P D vwCl [(xb, c6 xb_0 xb_1 xb_2 xb_3 xb_4 ((s6_signal b a2 w11).2.2))] H := hP
      have hD : va_D A [(xb, c6 xb_0 xb_1 xb_2 xb_3 xb_4 ((s6_signal b a2 w11).2.2))] := hD
      have J16 : ∀ (w17 : Int32), w17 = (if r13 = 0 then 0 else 1) → W p l e (cw_rx 20) s m args below meth c H locs 1 6 (Q) (F0 m 136 ls [.int w17]) := by
        intro w17 hw17
        have hsp : (sL_asks8 b a2 a3) = ((w17, ((s6_signal b a2 w11).2.2)) : Int32 × (Nat → Int32)) := by simp only [sL_asks8, ← hw11, ← hr13, ← hw17, if_pos z12]
        exact hret _ _ _ _ _ _ _ _ hP hD hS dL_asks_136 rfl ⟨(), (by rw [hsp]), (by rw [hsp])⟩ (Nat.le_of_ble_eq_true rfl) (Nat.le_of_ble_eq_true rfl)
      refine lv_if_eq (tgt := 135) hx hb dL_asks_128 (by decide) (fun z15 => ?_) (fun z15 => ?_)
      · refine lv_iconst (v := 0) hx hb dL_asks_135 (by decide) ?_
        exact J16 0 (by simp only [if_pos z15])
      · refine lv_iconst (v := 1) hx hb dL_asks_131 (by decide) ?_
        refine lv_goto (tgt := 136) hx hb dL_asks_132 (by decide) ?_
        exact J16 1 (by simp only [if_neg z15])
  refine lv_icmp_ne (tgt := 124) hx hb dL_asks_117 (by decide) (fun z9 => ?_) (fun z9 => ?_)
  · refine lv_iconst (v := 0) hx hb dL_asks_124 (by decide) ?_
    exact J10 0 (by simp only [if_neg z9])
  · refine lv_iconst (v := 1) hx hb dL_asks_120 (by decide) ?_
    refine lv_goto (tgt := 125) hx hb dL_asks_121 (by decide) ?_
    exact J10 1 (by simp only [if_pos z9])
