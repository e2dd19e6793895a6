def cw_cnt (B : Int) (i : Int32) (n : Nat) : Prop := 0 ≤ i.toInt ∧ i.toInt ≤ B ∧ B < i.toInt + n ∧ B < 1073741824
theorem cw_cnt0 {B : Int} {i : Int32} (h : cw_cnt B i 0) : False := by
  obtain ⟨h1, h2, h3, h4⟩ := h
  omega
theorem cw_inc {i : Int32} (h0 : 0 ≤ i.toInt) (h1 : i.toInt < 1073741824) : (i + 1).toInt = i.toInt + 1 := by
  have hn : ¬ i < 0 := by
    intro h
    rw [Int32.lt_iff_toInt_lt] at h
    have h9 : (0 : Int32).toInt = 0 := by decide
    omega
  obtain ⟨j, hj, rfl⟩ := nI_of hn
  rw [nI_toInt hj] at h1 ⊢
  rw [nI_1, nI_toInt (by omega)]
  omega
theorem cw_cntS {B : Int} {i : Int32} {n : Nat} (h : cw_cnt B i (n + 1)) (hlt : i.toInt < B) : cw_cnt B (i + 1) n := by
  obtain ⟨h1, h2, h3, h4⟩ := h
  have h5 := cw_inc h1 (by omega)
  exact ⟨by omega, by omega, by rw [h5]; omega, h4⟩
theorem cw_lt1 {a b : Int32} (h : ¬ a ≤ b) : b.toInt < a.toInt := by
  rw [Int32.le_iff_toInt_le] at h
  omega
theorem cw_le2 {a b : Int32} (h : ¬ a < b) : b.toInt ≤ a.toInt := by
  rw [Int32.lt_iff_toInt_lt] at h
  omega
theorem cw_cnt200 {x : Int32} (h : s6_isOutside x 1 200 = 0) : cw_cnt x.toInt 0 201 := by
  have h8 : (200 : Int32).toInt = 200 := by decide
  have h9 : (1 : Int32).toInt = 1 := by decide
  have h7 : (0 : Int32).toInt = 0 := by decide
  simp only [s6_isOutside] at h
  by_cases c1 : x < 1
  · rw [if_pos c1] at h; exact absurd h (by decide)
  · rw [if_neg c1] at h
    by_cases c2 : x ≤ 200
    · have d1 := cw_le2 c1
      have d2 := Int32.le_iff_toInt_le.mp c2
      rw [h9] at d1
      rw [h8] at d2
      refine ⟨by rw [h7]; omega, by rw [h7]; omega, by rw [h7]; omega, by omega⟩
    · rw [if_neg c2] at h; exact absurd h (by decide)

def s6_poll_L (b : Nat → Int32) (f : Nat → Int32) (ep : Nat → Int32) (eq : Nat → Int32) (st : Nat → Int32) (hh : Nat → Int32) (t1 : Nat → Int32) (t2 : Nat → Int32) (t3 : Nat → Int32) (a1 : Int32) : Nat → (Nat → Int32) → (Nat → Int32) → (Nat → Int32) → (Nat → Int32) → (Nat → Int32) → (Nat → Int32) → (Nat → Int32) → (Nat → Int32) → Int32 → Int32 → Int32 × Int32 × (Nat → Int32) × (Nat → Int32) × (Nat → Int32) × (Nat → Int32) × (Nat → Int32) × (Nat → Int32) × (Nat → Int32) × (Nat → Int32)
  | 0, _, _, _, _, _, _, _, _, _, _ => (0, 0, (fun _ => 0), (fun _ => 0), (fun _ => 0), (fun _ => 0), (fun _ => 0), (fun _ => 0), (fun _ => 0), (fun _ => 0))
  | n9 + 1, l_xb, l_xf, l_xp, l_xq, l_xh, l_ja, l_jb, l_jc, l_2, l_3 => (if a1 ≤ l_3 then (0, l_2, l_xb, l_xf, l_xp, l_xq, l_xh, l_ja, l_jb, l_jc) else (let v26 : Nat → Int32 := ((s2_tick l_xf l_xp l_xq st (l_xb 5)).2.1); (let v27 : Nat → Int32 := ((s2_tick l_xf l_xp l_xq st (l_xb 5)).2.2.1); (let v28 : Nat → Int32 := ((s2_tick l_xf l_xp l_xq st (l_xb 5)).2.2.2); (let r25 : Int32 := ((s2_tick l_xf l_xp l_xq st (l_xb 5)).1); (let w37 : Int32 := (if r25 = 0 then l_2 else (l_2 + 1)); (let w38 : Nat → Int32 := (if r25 = 0 then l_xh else ((s6_recordChange (upd l_xb 6 ((l_xb 6) + 1)) v26 l_xh l_ja l_jb l_jc).1)); (let w39 : Nat → Int32 := (if r25 = 0 then l_ja else ((s6_recordChange (upd l_xb 6 ((l_xb 6) + 1)) v26 l_xh l_ja l_jb l_jc).2.1)); (let w40 : Nat → Int32 := (if r25 = 0 then l_jb else ((s6_recordChange (upd l_xb 6 ((l_xb 6) + 1)) v26 l_xh l_ja l_jb l_jc).2.2.1)); (let w41 : Nat → Int32 := (if r25 = 0 then l_jc else ((s6_recordChange (upd l_xb 6 ((l_xb 6) + 1)) v26 l_xh l_ja l_jb l_jc).2.2.2)); (s6_poll_L b f ep eq st hh t1 t2 t3 a1 n9 (upd l_xb 6 ((l_xb 6) + 1)) v26 v27 v28 w38 w39 w40 w41 w37 (l_3 + 1))))))))))))
def s6_poll (b : Nat → Int32) (f : Nat → Int32) (ep : Nat → Int32) (eq : Nat → Int32) (st : Nat → Int32) (hh : Nat → Int32) (t1 : Nat → Int32) (t2 : Nat → Int32) (t3 : Nat → Int32) (a1 : Int32) : Int32 × Int32 × (Nat → Int32) × (Nat → Int32) × (Nat → Int32) × (Nat → Int32) × (Nat → Int32) × (Nat → Int32) × (Nat → Int32) × (Nat → Int32) := (let r2 : Int32 := (s6_isOutside a1 1 200); (if r2 = 0 then (s6_poll_L b f ep eq st hh t1 t2 t3 a1 201 b f ep eq hh t1 t2 t3 0 0) else (1, 0, b, f, ep, eq, hh, t1, t2, t3)))


set_option maxHeartbeats 4000000 in
set_option maxRecDepth 100000 in
theorem k6_poll (l : Launch) (hlt : l.stackTraces = false) (D : va_G) (cI cJ : ClassId) (xb xf xp xq xs xh ja jb jc : Nat) (xb_3 xb_4 : Value) (b : Nat → Int32) (f : Nat → Int32) (ep : Nat → Int32) (eq : Nat → Int32) (st : Nat → Int32) (hh : Nat → Int32) (t1 : Nat → Int32) (t2 : Nat → Int32) (t3 : Nat → Int32) (a1 : Int32) : cw_Xi l yX6_poll wsX6_poll (cw_rx 7) D [(cI, .int)] [.ref xb, .int a1] [(xb, c6 (.ref xs) (.ref xf) (.ref xh) xb_3 xb_4 b), (xf, c2 (.ref xs) (.ref xp) (.ref xq) f), (xp, c1 ep), (xq, c1 eq), (xs, c5 st), (xh, c3 (.ref ja) (.ref jb) (.ref jc) hh), (ja, .inl (cI, 100, .inl t1)), (jb, .inl (cI, 100, .inl t2)), (jc, .inl (cI, 100, .inl t3))] 1 6 (fun r (_ : Unit) => ((s6_poll b f ep eq st hh t1 t2 t3 a1).1) = 0 ∧ r = ((s6_poll b f ep eq st hh t1 t2 t3 a1).2.1)) (fun _ : Unit => [(xb, c6 (.ref xs) (.ref xf) (.ref xh) xb_3 xb_4 ((s6_poll b f ep eq st hh t1 t2 t3 a1).2.2.1)), (xf, c2 (.ref xs) (.ref xp) (.ref xq) ((s6_poll b f ep eq st hh t1 t2 t3 a1).2.2.2.1)), (xp, c1 ((s6_poll b f ep eq st hh t1 t2 t3 a1).2.2.2.2.1)), (xq, c1 ((s6_poll b f ep eq st hh t1 t2 t3 a1).2.2.2.2.2.1)), (xs, c5 st), (xh, c3 (.ref ja) (.ref jb) (.ref jc) ((s6_poll b f ep eq st hh t1 t2 t3 a1).2.2.2.2.2.2.1)), (ja, .inl (cI, 100, .inl ((s6_poll b f ep eq st hh t1 t2 t3 a1).2.2.2.2.2.2.2.1))), (jb, .inl (cI, 100, .inl ((s6_poll b f ep eq st hh t1 t2 t3 a1).2.2.2.2.2.2.2.2.1))), (jc, .inl (cI, 100, .inl ((s6_poll b f ep eq st hh t1 t2 t3 a1).2.2.2.2.2.2.2.2.2)))]) (fun E => (((s6_poll b f ep eq st hh t1 t2 t3 a1).1) = 1 ∧ E = "java/lang/IllegalArgumentException")) := by
  refine cw_ofXi (cc := cX6_poll) (maxL := 4) (ret := (some .int)) (by decide) rfl (Nat.le_of_ble_eq_true rfl) rfl ?_
  intro p e s m args below meth c A ls Q hin0 hret htab hZ hStr hQ
  obtain ⟨hx, hb, hr, hml, hts, hown, hlocks, hin, hP, hK, hD, hN, hA, hl⟩ := hin0
  have hS : va_S A s.heap s.heap [] := va_S.rf
  have hl : lv_has ls 4 [(0, .ref xb), (1, .int a1)] := hl
  have lf116 := hts (.fieldLink RX6 116 "Burnerline" "ticks" "I") (by decide +kernel)
  have i6 : ∀ w ∈ wsX60, w ∈ wsX6_poll := by decide +kernel
  have lf21 := hts (.fieldLink RX6 21 "Burnerline" "furnace" "LBurnerline$Furnace;") (by decide +kernel)
  have lf55 := hts (.fieldLink RX6 55 "Burnerline" "signals" "I") (by decide +kernel)
  have lcl67 := hts (.classLink RX6 67 "java/lang/IllegalArgumentException") (by decide +kernel)
  have lin_67 := hts (.initialized "java/lang/IllegalArgumentException") (by decide +kernel)
  have lg71 : ∀ w ∈ (vx_atS RX6 71 "java/lang/IllegalArgumentException" cw_nm).filter goodWord, w.before args s = true := fun w h => hts w ((by decide +kernel : ∀ w ∈ (vx_atS RX6 71 "java/lang/IllegalArgumentException" cw_nm).filter goodWord, w ∈ wsX6_poll) w h)
  have LOOP : ∀ (n9 : Nat) (l_xb : Nat → Int32) (l_xf : Nat → Int32) (l_xp : Nat → Int32) (l_xq : Nat → Int32) (l_xh : Nat → Int32) (l_ja : Nat → Int32) (l_jb : Nat → Int32) (l_jc : Nat → Int32) (l_2 : Int32) (l_3 : Int32), cw_cnt a1.toInt l_3 n9 → s6_poll_L b f ep eq st hh t1 t2 t3 a1 n9 l_xb l_xf l_xp l_xq l_xh l_ja l_jb l_jc l_2 l_3 = (s6_poll b f ep eq st hh t1 t2 t3 a1) → ∀ (H : Heap) (locs : List Loc), va_P D vwCl [(xb, c6 (.ref xs) (.ref xf) (.ref xh) xb_3 xb_4 l_xb), (xf, c2 (.ref xs) (.ref xp) (.ref xq) l_xf), (xp, c1 l_xp), (xq, c1 l_xq), (xs, c5 st), (xh, c3 (.ref ja) (.ref jb) (.ref jc) l_xh), (ja, .inl (cI, 100, .inl l_ja)), (jb, .inl (cI, 100, .inl l_jb)), (jc, .inl (cI, 100, .inl l_jc))] H → va_D A [(xb, c6 (.ref xs) (.ref xf) (.ref xh) xb_3 xb_4 l_xb), (xf, c2 (.ref xs) (.ref xp) (.ref xq) l_xf), (xp, c1 l_xp), (xq, c1 l_xq), (xs, c5 st), (xh, c3 (.ref ja) (.ref jb) (.ref jc) l_xh), (ja, .inl (cI, 100, .inl l_ja)), (jb, .inl (cI, 100, .inl l_jb)), (jc, .inl (cI, 100, .inl l_jc))] → va_S A s.heap H locs → ∀ (ls : Array Slot), lv_has ls 4 [(0, .ref xb), (1, .int a1), (2, .int l_2), (3, .int l_3)] → W p l e (cw_rx 7) s m args below meth c H locs 0 0 (Q) (F0 m 25 ls []) := by
    intro n9
    induction n9 with
    | zero =>
      intro l_xb l_xf l_xp l_xq l_xh l_ja l_jb l_jc l_2 l_3 hinv
      exact (cw_cnt0 hinv).elim
    | succ n9 ih =>
      intro l_xb l_xf l_xp l_xq l_xh l_ja l_jb l_jc l_2 l_3 hinv hI H locs hP hD hS ls hl
      refine lv_iload_n hx hb dX6_poll_25 rfl (lv_at hl 3 rfl) ?_
      refine lv_iload_n hx hb dX6_poll_26 rfl (lv_at hl 1 rfl) ?_
      refine lv_icmp_ge (tgt := 67) hx hb dX6_poll_27 (by decide) (fun z4 => ?_) (fun z4 => ?_)
      · refine lv_iload_n hx hb dX6_poll_67 rfl (lv_at hl 2 rfl) ?_
        have hsp : (s6_poll b f ep eq st hh t1 t2 t3 a1) = ((0, l_2, l_xb, l_xf, l_xp, l_xq, l_xh, l_ja, l_jb, l_jc) : Int32 × Int32 × (Nat → Int32) × (Nat → Int32) × (Nat → Int32) × (Nat → Int32) × (Nat → Int32) × (Nat → Int32) × (Nat → Int32) × (Nat → Int32)) := by rw [← hI]; simp only [s6_poll_L, if_pos z4]
        exact hret _ _ _ _ _ _ _ _ hP hD hS dX6_poll_68 rfl ⟨(), ⟨by rw [hsp], by rw [hsp]⟩, (by rw [hsp])⟩ (Nat.le_of_ble_eq_true rfl) (Nat.le_of_ble_eq_true rfl)
      · refine lv_aload_n hx hb dX6_poll_30 rfl (lv_at hl 0 rfl) ?_
        refine lv_dup hx hb dX6_poll_31 rfl ?_
        refine va_get (D := D) (ci := 6) (v := .int (l_xb 6)) (C := RX6) (T := TX6) (N := 7) hx hb hts i6 hown hK hP 0 rfl rfl 6 (by decide) lf116 (fun _ h9 => h9) rfl dX6_poll_32 ?_
        refine lv_iconst (v := 1) hx hb dX6_poll_35 (by decide) ?_
        refine lv_iadd hx hb dX6_poll_36 ?_
        refine va_put (D := D) (ci := 6) (v := .int ((l_xb 6) + 1)) (ty := .int) (C := RX6) (T := TX6) (N := 7) hx hb hts i6 tyX6 tyX6_ok nmX6 hown hK hP hD hS 0 rfl rfl 6 (by decide) lf116 (fun _ h9 => h9) rfl (by decide +kernel) rfl rfl (Nat.le_of_ble_eq_true rfl) dX6_poll_37 (fun H locs hP hD hS => ?_)
        have hP : va_P D vwCl [(xb, c6 (.ref xs) (.ref xf) (.ref xh) xb_3 xb_4 (upd l_xb 6 ((l_xb 6) + 1))), (xf, c2 (.ref xs) (.ref xp) (.ref xq) l_xf), (xp, c1 l_xp), (xq, c1 l_xq), (xs, c5 st), (xh, c3 (.ref ja) (.ref jb) (.ref jc) l_xh), (ja, .inl (cI, 100, .inl l_ja)), (jb, .inl (cI, 100, .inl l_jb)), (jc, .inl (cI, 100, .inl l_jc))] H := (congrArg (fun z9 => va_P D vwCl [(xb, .inr (6, z9)), (xf, c2 (.ref xs) (.ref xp) (.ref xq) l_xf), (xp, c1 l_xp), (xq, c1 l_xq), (xs, c5 st), (xh, c3 (.ref ja) (.ref jb) (.ref jc) l_xh), (ja, .inl (cI, 100, .inl l_ja)), (jb, .inl (cI, 100, .inl l_jb)), (jc, .inl (cI, 100, .inl l_jc))] H) (cs6_6 (.ref xs) (.ref xf) (.ref xh) xb_3 xb_4 l_xb ((l_xb 6) + 1))).mp hP
        have hD : va_D A [(xb, c6 (.ref xs) (.ref xf) (.ref xh) xb_3 xb_4 (upd l_xb 6 ((l_xb 6) + 1))), (xf, c2 (.ref xs) (.ref xp) (.ref xq) l_xf), (xp, c1 l_xp), (xq, c1 l_xq), (xs, c5 st), (xh, c3 (.ref ja) (.ref jb) (.ref jc) l_xh), (ja, .inl (cI, 100, .inl l_ja)), (jb, .inl (cI, 100, .inl l_jb)), (jc, .inl (cI, 100, .inl l_jc))] := (congrArg (fun z9 => va_D A [(xb, .inr (6, z9)), (xf, c2 (.ref xs) (.ref xp) (.ref xq) l_xf), (xp, c1 l_xp), (xq, c1 l_xq), (xs, c5 st), (xh, c3 (.ref ja) (.ref jb) (.ref jc) l_xh), (ja, .inl (cI, 100, .inl l_ja)), (jb, .inl (cI, 100, .inl l_jb)), (jc, .inl (cI, 100, .inl l_jc))]) (cs6_6 (.ref xs) (.ref xf) (.ref xh) xb_3 xb_4 l_xb ((l_xb 6) + 1))).mp hD
        refine lv_aload_n hx hb dX6_poll_40 rfl (lv_at hl 0 rfl) ?_
        refine va_get (D := D) (ci := 6) (v := .ref xf) (C := RX6) (T := TX6) (N := 7) hx hb hts i6 hown hK hP 0 rfl rfl 1 (by decide) lf21 (fun _ h9 => h9) rfl dX6_poll_41 ?_
        refine lv_aload_n hx hb dX6_poll_44 rfl (lv_at hl 0 rfl) ?_
        refine va_get (D := D) (ci := 6) (v := .int ((upd l_xb 6 ((l_xb 6) + 1)) 5)) (C := RX6) (T := TX6) (N := 7) hx hb hts i6 hown hK hP 0 rfl rfl 5 (by decide) lf55 (fun _ h9 => h9) rfl dX6_poll_45 ?_
        refine cw_topi (y := (l_xb 5)) (cw_updn _ _ (by decide)) ?_
        refine cw_cVi (As := [.int (l_xb 5)]) (rest := []) (wc := [(xf, c2 (.ref xs) (.ref xp) (.ref xq) l_xf), (xp, c1 l_xp), (xq, c1 l_xq), (xs, c5 st)]) (wr := [(xb, c6 (.ref xs) (.ref xf) (.ref xh) xb_3 xb_4 (upd l_xb 6 ((l_xb 6) + 1))), (xh, c3 (.ref ja) (.ref jb) (.ref jc) l_xh), (ja, .inl (cI, 100, .inl l_ja)), (jb, .inl (cI, 100, .inl l_jb)), (jc, .inl (cI, 100, .inl l_jc))]) ⟨hx, hb, hml, hown, hts⟩ (k2_tick l D cI cJ xf xp xq xs l_xf l_xp l_xq st (l_xb 5)) (cwV 1 hts gX6_poll_X2_tick rfl rfl rfl (by decide +kernel) ⟨Nat.le_of_ble_eq_true rfl, Nat.le_of_ble_eq_true rfl⟩) hK hN hP hD hS hA [1, 2, 3, 4] [0, 5, 6, 7, 8] rfl rfl (by decide) (by decide) (by decide) 0 (ci := 2) rfl rfl rfl rfl hl.1 rfl (Nat.le_of_ble_eq_true rfl) dX6_poll_48 ⟨Nat.le_of_ble_eq_true rfl, Nat.le_of_ble_eq_true rfl⟩ (fun r25 u24 H locs hw hP hD hS => ?_)
        have hr25 : r25 = ((s2_tick l_xf l_xp l_xq st (l_xb 5)).1) := hw
        obtain ⟨v26, hv26⟩ : ∃ z : Nat → Int32, z = ((s2_tick l_xf l_xp l_xq st (l_xb 5)).2.1) := ⟨_, rfl⟩
        obtain ⟨v27, hv27⟩ : ∃ z : Nat → Int32, z = ((s2_tick l_xf l_xp l_xq st (l_xb 5)).2.2.1) := ⟨_, rfl⟩
        obtain ⟨v28, hv28⟩ : ∃ z : Nat → Int32, z = ((s2_tick l_xf l_xp l_xq st (l_xb 5)).2.2.2) := ⟨_, rfl⟩
        have hP : va_P D vwCl [(xb, c6 (.ref xs) (.ref xf) (.ref xh) xb_3 xb_4 (upd l_xb 6 ((l_xb 6) + 1))), (xh, c3 (.ref ja) (.ref jb) (.ref jc) l_xh), (ja, .inl (cI, 100, .inl l_ja)), (jb, .inl (cI, 100, .inl l_jb)), (jc, .inl (cI, 100, .inl l_jc)), (xf, c2 (.ref xs) (.ref xp) (.ref xq) v26), (xp, c1 v27), (xq, c1 v28), (xs, c5 st)] H := by rw [hv26, hv27, hv28]; exact hP
        have hD : va_D A [(xb, c6 (.ref xs) (.ref xf) (.ref xh) xb_3 xb_4 (upd l_xb 6 ((l_xb 6) + 1))), (xh, c3 (.ref ja) (.ref jb) (.ref jc) l_xh), (ja, .inl (cI, 100, .inl l_ja)), (jb, .inl (cI, 100, .inl l_jb)), (jc, .inl (cI, 100, .inl l_jc)), (xf, c2 (.ref xs) (.ref xp) (.ref xq) v26), (xp, c1 v27), (xq, c1 v28), (xs, c5 st)] := by rw [hv26, hv27, hv28]; exact hD
        have J36 : ∀ (w37 : Int32), w37 = (if r25 = 0 then l_2 else (l_2 + 1)) → ∀ (w38 : Nat → Int32), w38 = (if r25 = 0 then l_xh else ((s6_recordChange (upd l_xb 6 ((l_xb 6) + 1)) v26 l_xh l_ja l_jb l_jc).1)) → ∀ (w39 : Nat → Int32), w39 = (if r25 = 0 then l_ja else ((s6_recordChange (upd l_xb 6 ((l_xb 6) + 1)) v26 l_xh l_ja l_jb l_jc).2.1)) → ∀ (w40 : Nat → Int32), w40 = (if r25 = 0 then l_jb else ((s6_recordChange (upd l_xb 6 ((l_xb 6) + 1)) v26 l_xh l_ja l_jb l_jc).2.2.1)) → ∀ (w41 : Nat → Int32), w41 = (if r25 = 0 then l_jc else ((s6_recordChange (upd l_xb 6 ((l_xb 6) + 1)) v26 l_xh l_ja l_jb l_jc).2.2.2)) → ∀ (H : Heap) (locs : List Loc), va_P D vwCl [(xb, c6 (.ref xs) (.ref xf) (.ref xh) xb_3 xb_4 (upd l_xb 6 ((l_xb 6) + 1))), (xh, c3 (.ref ja) (.ref jb) (.ref jc) w38), (ja, .inl (cI, 100, .inl w39)), (jb, .inl (cI, 100, .inl w40)), (jc, .inl (cI, 100, .inl w41)), (xf, c2 (.ref xs) (.ref xp) (.ref xq) v26), (xp, c1 v27), (xq, c1 v28), (xs, c5 st)] H → va_D A [(xb, c6 (.ref xs) (.ref xf) (.ref xh) xb_3 xb_4 (upd l_xb 6 ((l_xb 6) + 1))), (xh, c3 (.ref ja) (.ref jb) (.ref jc) w38), (ja, .inl (cI, 100, .inl w39)), (jb, .inl (cI, 100, .inl w40)), (jc, .inl (cI, 100, .inl w41)), (xf, c2 (.ref xs) (.ref xp) (.ref xq) v26), (xp, c1 v27), (xq, c1 v28), (xs, c5 st)] → va_S A s.heap H locs → ∀ (ls : Array Slot), lv_has ls 4 [(0, .ref xb), (1, .int a1), (2, .int w37), (3, .int l_3)] → W p l e (cw_rx 7) s m args below meth c H locs 0 0 (Q) (F0 m 61 ls []) := by
          intro w37 hw37 w38 hw38 w39 hw39 w40 hw40 w41 hw41 H locs hP hD hS ls hl
          refine lv_iinc (v := (l_3 + 1)) (lv' := [(3, .int (l_3 + 1)), (0, .ref xb), (1, .int a1), (2, .int w37)]) hx hb dX6_poll_61 hl (k := 3) rfl rfl (by decide) rfl (fun ls hl => ?_)
          refine lv_goto (tgt := 25) hx hb dX6_poll_64 (by decide) ?_
          exact ih (upd l_xb 6 ((l_xb 6) + 1)) v26 v27 v28 w38 w39 w40 w41 w37 (l_3 + 1) (cw_cntS hinv (cw_lt1 (by assumption))) (by rw [← hI]; simp only [s6_poll_L, ← hv26, ← hv27, ← hv28, ← hr25, ← hw37, ← hw38, ← hw39, ← hw40, ← hw41, if_neg z4]) _ _ (hP.sub [0, 5, 6, 7, 8, 1, 2, 3, 4] rfl) (hD.sub [0, 5, 6, 7, 8, 1, 2, 3, 4] (by decide) rfl) hS _ (lv_sub hl [1, 2, 3, 0] rfl)
        refine lv_if_eq (tgt := 61) hx hb dX6_poll_51 (by decide) (fun z29 => ?_) (fun z29 => ?_)
        · exact J36 l_2 (by simp only [if_pos z29]) l_xh (by simp only [if_pos z29]) l_ja (by simp only [if_pos z29]) l_jb (by simp only [if_pos z29]) l_jc (by simp only [if_pos z29]) _ _ hP hD hS _ (lv_sub hl [0, 1, 2, 3] rfl)
        · refine lv_aload_n hx hb dX6_poll_54 rfl (lv_at hl 0 rfl) ?_
          refine cw_cVv (As := []) (rest := []) (wc := [(xb, c6 (.ref xs) (.ref xf) (.ref xh) xb_3 xb_4 (upd l_xb 6 ((l_xb 6) + 1))), (xf, c2 (.ref xs) (.ref xp) (.ref xq) v26), (xh, c3 (.ref ja) (.ref jb) (.ref jc) l_xh), (ja, .inl (cI, 100, .inl l_ja)), (jb, .inl (cI, 100, .inl l_jb)), (jc, .inl (cI, 100, .inl l_jc))]) (wr := [(xp, c1 v27), (xq, c1 v28), (xs, c5 st)]) ⟨hx, hb, hml, hown, hts⟩ (k6_recordChange l D cI cJ xb xf xh ja jb jc (.ref xs) xb_3 xb_4 (.ref xs) (.ref xp) (.ref xq) (upd l_xb 6 ((l_xb 6) + 1)) v26 l_xh l_ja l_jb l_jc) (cwV 0 hts gX6_poll_X6_recordChange rfl rfl rfl (by decide +kernel) ⟨Nat.le_of_ble_eq_true rfl, Nat.le_of_ble_eq_true rfl⟩) hK hN hP hD hS hA [0, 5, 1, 2, 3, 4] [6, 7, 8] rfl rfl (by decide) (by decide) (by decide) 0 (ci := 6) rfl rfl rfl rfl hl.1 rfl (Nat.le_of_ble_eq_true rfl) dX6_poll_55 ⟨Nat.le_of_ble_eq_true rfl, Nat.le_of_ble_eq_true rfl⟩ (fun u30 H locs hw hP hD hS => ?_)
          obtain ⟨v32, hv32⟩ : ∃ z : Nat → Int32, z = ((s6_recordChange (upd l_xb 6 ((l_xb 6) + 1)) v26 l_xh l_ja l_jb l_jc).1) := ⟨_, rfl⟩
          obtain ⟨v33, hv33⟩ : ∃ z : Nat → Int32, z = ((s6_recordChange (upd l_xb 6 ((l_xb 6) + 1)) v26 l_xh l_ja l_jb l_jc).2.1) := ⟨_, rfl⟩
          obtain ⟨v34, hv34⟩ : ∃ z : Nat → Int32, z = ((s6_recordChange (upd l_xb 6 ((l_xb 6) + 1)) v26 l_xh l_ja l_jb l_jc).2.2.1) := ⟨_, rfl⟩
          obtain ⟨v35, hv35⟩ : ∃ z : Nat → Int32, z = ((s6_recordChange (upd l_xb 6 ((l_xb 6) + 1)) v26 l_xh l_ja l_jb l_jc).2.2.2) := ⟨_, rfl⟩
          have hP : va_P D vwCl [(xp, c1 v27), (xq, c1 v28), (xs, c5 st), (xb, c6 (.ref xs) (.ref xf) (.ref xh) xb_3 xb_4 (upd l_xb 6 ((l_xb 6) + 1))), (xf, c2 (.ref xs) (.ref xp) (.ref xq) v26), (xh, c3 (.ref ja) (.ref jb) (.ref jc) v32), (ja, .inl (cI, 100, .inl v33)), (jb, .inl (cI, 100, .inl v34)), (jc, .inl (cI, 100, .inl v35))] H := by rw [hv32, hv33, hv34, hv35]; exact hP
          have hD : va_D A [(xp, c1 v27), (xq, c1 v28), (xs, c5 st), (xb, c6 (.ref xs) (.ref xf) (.ref xh) xb_3 xb_4 (upd l_xb 6 ((l_xb 6) + 1))), (xf, c2 (.ref xs) (.ref xp) (.ref xq) v26), (xh, c3 (.ref ja) (.ref jb) (.ref jc) v32), (ja, .inl (cI, 100, .inl v33)), (jb, .inl (cI, 100, .inl v34)), (jc, .inl (cI, 100, .inl v35))] := by rw [hv32, hv33, hv34, hv35]; exact hD
          refine lv_iinc (v := (l_2 + 1)) (lv' := [(2, .int (l_2 + 1)), (0, .ref xb), (1, .int a1), (3, .int l_3)]) hx hb dX6_poll_58 hl (k := 2) rfl rfl (by decide) rfl (fun ls hl => ?_)
          exact J36 (l_2 + 1) (by simp only [← hv32, ← hv33, ← hv34, ← hv35, if_neg z29]) v32 (by simp only [← hv32, ← hv33, ← hv34, ← hv35, if_neg z29]) v33 (by simp only [← hv32, ← hv33, ← hv34, ← hv35, if_neg z29]) v34 (by simp only [← hv32, ← hv33, ← hv34, ← hv35, if_neg z29]) v35 (by simp only [← hv32, ← hv33, ← hv34, ← hv35, if_neg z29]) _ _ (hP.sub [3, 5, 6, 7, 8, 4, 0, 1, 2] rfl) (hD.sub [3, 5, 6, 7, 8, 4, 0, 1, 2] (by decide) rfl) hS _ (lv_sub hl [1, 2, 0, 3] rfl)
  refine lv_iload_n hx hb dX6_poll_0 rfl (lv_at hl 1 rfl) ?_
  refine lv_iconst (v := 1) hx hb dX6_poll_1 (by decide) ?_
  refine lv_sipush (v := 200) hx hb dX6_poll_2 (by decide) ?_
  refine cw_cSi (As := [.int a1, .int 1, .int 200]) (rest := []) (wc := []) (wr := [(xb, c6 (.ref xs) (.ref xf) (.ref xh) xb_3 xb_4 b), (xf, c2 (.ref xs) (.ref xp) (.ref xq) f), (xp, c1 ep), (xq, c1 eq), (xs, c5 st), (xh, c3 (.ref ja) (.ref jb) (.ref jc) hh), (ja, .inl (cI, 100, .inl t1)), (jb, .inl (cI, 100, .inl t2)), (jc, .inl (cI, 100, .inl t3))]) ⟨hx, hb, hml, hown, hts⟩ (k6_isOutside l D cI cJ a1 1 200) (va_cwS 3 hts gX6_poll_X6_isOutside rfl rfl rfl (by decide +kernel) ⟨Nat.le_of_ble_eq_true rfl, Nat.le_of_ble_eq_true rfl⟩) hK hN hP hD hS hA [] [0, 1, 2, 3, 4, 5, 6, 7, 8] rfl rfl (by decide) (by decide) (by decide) rfl hl.1 rfl (Nat.le_of_ble_eq_true rfl) dX6_poll_5 ⟨Nat.le_of_ble_eq_true rfl, Nat.le_of_ble_eq_true rfl⟩ (fun r2 u1 H locs hw hP hD hS => ?_)
  have hr2 : r2 = (s6_isOutside a1 1 200) := hw
  have hP : va_P D vwCl [(xb, c6 (.ref xs) (.ref xf) (.ref xh) xb_3 xb_4 b), (xf, c2 (.ref xs) (.ref xp) (.ref xq) f), (xp, c1 ep), (xq, c1 eq), (xs, c5 st), (xh, c3 (.ref ja) (.ref jb) (.ref jc) hh), (ja, .inl (cI, 100, .inl t1)), (jb, .inl (cI, 100, .inl t2)), (jc, .inl (cI, 100, .inl t3))] H := hP
  have hD : va_D A [(xb, c6 (.ref xs) (.ref xf) (.ref xh) xb_3 xb_4 b), (xf, c2 (.ref xs) (.ref xp) (.ref xq) f), (xp, c1 ep), (xq, c1 eq), (xs, c5 st), (xh, c3 (.ref ja) (.ref jb) (.ref jc) hh), (ja, .inl (cI, 100, .inl t1)), (jb, .inl (cI, 100, .inl t2)), (jc, .inl (cI, 100, .inl t3))] := hD
  refine lv_if_eq (tgt := 21) hx hb dX6_poll_8 (by decide) (fun z3 => ?_) (fun z3 => ?_)
  · refine lv_iconst (v := 0) hx hb dX6_poll_21 (by decide) ?_
    refine lv_istore_n (lv' := [(2, .int 0), (0, .ref xb), (1, .int a1)]) hx hb dX6_poll_22 rfl hl (by decide) rfl (fun ls hl => ?_)
    refine lv_iconst (v := 0) hx hb dX6_poll_23 (by decide) ?_
    refine lv_istore_n (lv' := [(3, .int 0), (2, .int 0), (0, .ref xb), (1, .int a1)]) hx hb dX6_poll_24 rfl hl (by decide) rfl (fun ls hl => ?_)
    exact LOOP 201 b f ep eq hh t1 t2 t3 0 0 (by subst_vars; exact cw_cnt200 (by assumption)) (by simp only [s6_poll, ← hr2, if_pos z3]) _ _ hP hD hS _ (lv_sub hl [2, 3, 1, 0] rfl)
  · have hsp : (s6_poll b f ep eq st hh t1 t2 t3 a1) = ((1, 0, b, f, ep, eq, hh, t1, t2, t3) : Int32 × Int32 × (Nat → Int32) × (Nat → Int32) × (Nat → Int32) × (Nat → Int32) × (Nat → Int32) × (Nat → Int32) × (Nat → Int32) × (Nat → Int32)) := by simp only [s6_poll, ← hr2, if_neg z3]
    exact cw_thr (own := RX6) (ik := 67) (is := 114) (ic := 71) (cls := "java/lang/IllegalArgumentException") (text := "ticks is out of range") hQ hx hb hlt hown hml hl.1 htab hlocks (by decide +kernel) lcl67 lin_67 hStr (by decide +kernel) lg71 xn_71 hN (by decide +kernel) xg_71 hZ hS hP hD [0, 1, 2, 3, 4, 5, 6, 7, 8] rfl (by decide) dX6_poll_11 dX6_poll_14 dX6_poll_15 dX6_poll_17 dX6_poll_20 (Nat.le_of_ble_eq_true rfl) (Nat.le_of_ble_eq_true rfl) (Nat.le_of_ble_eq_true rfl) (Nat.le_of_ble_eq_true rfl) (Nat.le_of_ble_eq_true rfl) (Nat.le_of_ble_eq_true rfl) (⟨by rw [hsp], rfl⟩)
