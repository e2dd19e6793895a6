theorem cw_in3 {B : Int} {i : Int32} {n : Nat} (h : cw_cnt B i n) (z : ¬ (3 : Int32) ≤ i) : vp_in i 3 := by
  rw [vp_in_iff]
  have h9 := cw_lt1 z
  have h8 : (3 : Int32).toInt = 3 := by decide
  exact ⟨h.1, by omega⟩
theorem cw_lt3 {i : Int32} (h : ¬ (3 : Int32) ≤ i) : i.toInt < 3 := by
  have h9 := cw_lt1 h
  have h8 : (3 : Int32).toInt = 3 := by decide
  omega
theorem cw_lt300 {i : Int32} (h : ¬ (300 : Int32) ≤ i) : i.toInt < 300 := by
  have h9 := cw_lt1 h
  have h8 : (300 : Int32).toInt = 300 := by decide
  omega
/-- the fields that a tick may change are 12 to 20 -/
theorem f7_begins (m : Nat → Int32) (a b : Int32) (k : Nat) (h : k < 12 ∨ 20 < k) : s7_begins m a b k = m k := by
  have h1 : ¬ k = 12 := by omega
  have h2 : ¬ k = 13 := by omega
  have h3 : ¬ k = 14 := by omega
  have h4 : ¬ k = 16 := by omega
  have h5 : ¬ k = 17 := by omega
  simp [s7_begins, upd, h1, h2, h3, h4, h5]
theorem f7_lacks (m : Nat → Int32) (a : Int32) (k : Nat) (h : k < 12 ∨ 20 < k) : (s7_lacks m a).2 k = m k := by
  simp only [s7_lacks]
  (repeat' split) <;> simp [f7_begins _ _ _ k h]
theorem f7_looks (m : Nat → Int32) (a b c : Int32) (k : Nat) (h : k < 12 ∨ 20 < k) : (s7_looks m a b c).2 k = m k := by
  have h1 : ¬ k = 18 := by omega
  simp only [s7_looks]
  (repeat' split) <;> simp [upd, h1]
theorem f7_goes (m : Nat → Int32) (k : Nat) (h : k < 12 ∨ 20 < k) : s7_goes m k = m k := by
  have h1 : ¬ k = 15 := by omega
  have h2 : ¬ k = 16 := by omega
  simp [s7_goes, upd, h1, h2]
theorem f7_purges (m : Nat → Int32) (a b : Int32) (k : Nat) (h : k < 12 ∨ 20 < k) : s7_purges m a b k = m k := by
  have h1 : ¬ k = 17 := by omega
  simp only [s7_purges]
  (repeat' split) <;> simp [f7_begins _ _ _ k h, upd, h1]
theorem f7_lights (m : Nat → Int32) (a b : Int32) (k : Nat) (h : k < 12 ∨ 20 < k) : s7_lights m a b k = m k := by
  simp only [s7_lights]
  (repeat' split) <;> simp [f7_begins _ _ _ k h, f7_lacks _ _ k h]
theorem f7_runs (m : Nat → Int32) (a b : Int32) (k : Nat) (h : k < 12 ∨ 20 < k) : s7_runs m a b k = m k := by
  simp only [s7_runs]
  (repeat' split) <;> simp [f7_begins _ _ _ k h, f7_lacks _ _ k h]
theorem f7_decides (m : Nat → Int32) (a : Int32) (k : Nat) (h : k < 12 ∨ 20 < k) : s7_decides m a k = m k := by
  simp only [s7_decides]
  (repeat' split) <;> simp [f7_begins _ _ _ k h, f7_purges _ _ _ k h, f7_lights _ _ _ k h, f7_runs _ _ _ k h]
theorem f7_plays (m : Nat → Int32) (a : Int32) (k : Nat) (h : k < 12 ∨ 20 < k) : s7_plays m a k = m k := by
  have h1 : ¬ k = 19 := by omega
  have h2 : ¬ k = 20 := by omega
  have h3 : ¬ k = 14 := by omega
  simp [s7_plays, f7_decides _ _ k h, f7_goes _ k h, f7_looks _ _ _ _ k h, upd, h1, h2, h3]
theorem cw_modN {x : Int32} {d : Nat} {D : Int32} (hD : D = nI d) (hd : 0 < d) (hd2 : d < 1000) (h0 : 0 ≤ x.toInt) : vp_in (x - x / D * D) d := by
  have hn : ¬ x < 0 := by
    intro h
    rw [Int32.lt_iff_toInt_lt] at h
    have h9 : (0 : Int32).toInt = 0 := by decide
    omega
  obtain ⟨j, hj, rfl⟩ := nI_of hn
  rw [hD, pk_rem hj hd (by omega)]
  exact vp_in_nI (Nat.mod_lt _ hd) (by omega)

def s7_recentResets_L (mm : Nat → Int32) (nr : Nat → Int32) : Nat → Int32 → Int32 → Int32
  | 0, _, _ => 0
  | n9 + 1, l_1, l_2 => (if 3 ≤ l_2 then l_1 else (if (mm 28) ≤ l_2 then l_1 else (let w14 : Int32 := (if 100 ≤ ((mm 21) - (nr l_2.toNatClampNeg)) then 0 else 1); (s7_recentResets_L mm nr n9 (l_1 + w14) (l_2 + 1)))))
def s7_recentResets (mm : Nat → Int32) (nr : Nat → Int32) : Int32 := (s7_recentResets_L mm nr 4 0 0)

def s7_reset (mm : Nat → Int32) (n1 : Nat → Int32) (n2 : Nat → Int32) (n3 : Nat → Int32) (nr : Nat → Int32) : Int32 × (Nat → Int32) × (Nat → Int32) × (Nat → Int32) × (Nat → Int32) × (Nat → Int32) := (let w8 : Int32 := (if (mm 12) = 6 then (if (mm 18) = 0 then (if (mm 14) < 5 then 0 else (if 3 ≤ (s7_recentResets mm nr) then 0 else 1)) else 0) else 0); (let v11 : Nat → Int32 := ((s7_asks mm w8).2); (let r10 : Int32 := ((s7_asks mm w8).1); (if r10 = 0 then (0, v11, n1, n2, n3, nr) else (let v15 : Nat → Int32 := (s7_begins (upd v11 28 ((v11 28) + 1)) 0 0); (let v18 : Nat → Int32 := ((s7_notes v15 n1 n2 n3).1); (let v19 : Nat → Int32 := ((s7_notes v15 n1 n2 n3).2.1); (let v20 : Nat → Int32 := ((s7_notes v15 n1 n2 n3).2.2.1); (let v21 : Nat → Int32 := ((s7_notes v15 n1 n2 n3).2.2.2); (let r23 : Int32 := (s7_recentResets v18 (upd nr (((v11 28) - (v11 28) / 3 * 3).toNatClampNeg) (v11 21))); (r23, v18, v19, v20, v21, (upd nr (((v11 28) - (v11 28) / 3 * 3).toNatClampNeg) (v11 21)))))))))))))


set_option maxHeartbeats 4000000 in
set_option maxRecDepth 100000 in
theorem k7_recentResets (l : Launch) (D : va_G) (cI cJ : ClassId) (xm jr : Nat) (xm_25 xm_26 xm_27 xm_30 xm_31 : Value) (mm : Nat → Int32) (nr : Nat → Int32) : cw_Mi l yX7_recentResets wsX7_recentResets (cw_rm 0) D [(cI, .int), (cJ, .long)] [.ref xm] [(xm, c7 xm_25 xm_26 xm_27 (.ref jr) xm_30 xm_31 mm), (jr, .inl (cI, 3, .inl nr))] 0 0 (fun r (_ : Unit) => r = (s7_recentResets mm nr)) (fun _ : Unit => [(xm, c7 xm_25 xm_26 xm_27 (.ref jr) xm_30 xm_31 mm), (jr, .inl (cI, 3, .inl nr))]) := by
  refine cw_ofi (cc := cX7_recentResets) (maxL := 3) (ret := (some .int)) (by decide) rfl (Nat.le_of_ble_eq_true rfl) rfl ?_
  intro p e s m args below meth c A ls Q hin0 hret
  obtain ⟨hx, hb, hr, hml, hts, hown, hlocks, hin, hP, hK, hD, hN, hA, hl⟩ := hin0
  have hS : va_S A s.heap s.heap [] := va_S.rf
  have hl : lv_has ls 3 [(0, .ref xm)] := hl
  have lf161 := hts (.fieldLink RX7 161 "BurnerlineModel" "resets" "I") (by decide +kernel)
  have i7 : ∀ w ∈ wsX70, w ∈ wsX7_recentResets := by decide +kernel
  have lf146 := hts (.fieldLink RX7 146 "BurnerlineModel" "ticks" "I") (by decide +kernel)
  have lf53 := hts (.fieldLink RX7 53 "BurnerlineModel" "resetAt" "[I") (by decide +kernel)
  have LOOP : ∀ (n9 : Nat) (l_1 : Int32) (l_2 : Int32), cw_cnt 3 l_2 n9 → s7_recentResets_L mm nr n9 l_1 l_2 = (s7_recentResets mm nr) → ∀ (H : Heap) (locs : List Loc), va_P D vwCl [(xm, c7 xm_25 xm_26 xm_27 (.ref jr) xm_30 xm_31 mm), (jr, .inl (cI, 3, .inl nr))] H → va_D A [(xm, c7 xm_25 xm_26 xm_27 (.ref jr) xm_30 xm_31 mm), (jr, .inl (cI, 3, .inl nr))] → va_S A s.heap H locs → ∀ (ls : Array Slot), lv_has ls 3 [(0, .ref xm), (1, .int l_1), (2, .int l_2)] → W p l e (cw_rm 0) s m args below meth c H locs 0 0 (Q) (F0 m 4 ls []) := by
    intro n9
    induction n9 with
    | zero =>
      intro l_1 l_2 hinv
      exact (cw_cnt0 hinv).elim
    | succ n9 ih =>
      intro l_1 l_2 hinv hI H locs hP hD hS ls hl
      refine lv_iload_n hx hb dX7_recentResets_4 rfl (lv_at hl 2 rfl) ?_
      refine lv_iconst (v := 3) hx hb dX7_recentResets_5 (by decide) ?_
      refine lv_icmp_ge (tgt := 47) hx hb dX7_recentResets_6 (by decide) (fun z1 => ?_) (fun z1 => ?_)
      · refine lv_iload_n hx hb dX7_recentResets_47 rfl (lv_at hl 1 rfl) ?_
        have hsp : (s7_recentResets mm nr) = (l_1 : Int32) := by rw [← hI]; simp only [s7_recentResets_L, if_pos z1]
        exact hret _ _ _ _ _ _ _ _ hP hD hS dX7_recentResets_48 rfl ⟨(), (by rw [hsp]), rfl⟩ (Nat.le_of_ble_eq_true rfl) (Nat.le_of_ble_eq_true rfl)
      · refine lv_iload_n hx hb dX7_recentResets_9 rfl (lv_at hl 2 rfl) ?_
        refine lv_aload_n hx hb dX7_recentResets_10 rfl (lv_at hl 0 rfl) ?_
        refine va_get (D := D) (ci := 7) (v := .int (mm 28)) (C := RX7) (T := TX7) (N := 35) hx hb hts i7 hown hK hP 0 rfl rfl 28 (by decide) lf161 (fun _ h9 => h9) rfl dX7_recentResets_11 ?_
        refine lv_icmp_ge (tgt := 47) hx hb dX7_recentResets_14 (by decide) (fun z7 => ?_) (fun z7 => ?_)
        · refine lv_iload_n hx hb dX7_recentResets_47 rfl (lv_at hl 1 rfl) ?_
          have hsp : (s7_recentResets mm nr) = (l_1 : Int32) := by rw [← hI]; simp only [s7_recentResets_L, if_neg z1, if_pos z7]
          exact hret _ _ _ _ _ _ _ _ hP hD hS dX7_recentResets_48 rfl ⟨(), (by rw [hsp]), rfl⟩ (Nat.le_of_ble_eq_true rfl) (Nat.le_of_ble_eq_true rfl)
        · refine lv_iload_n hx hb dX7_recentResets_17 rfl (lv_at hl 1 rfl) ?_
          refine lv_aload_n hx hb dX7_recentResets_18 rfl (lv_at hl 0 rfl) ?_
          refine va_get (D := D) (ci := 7) (v := .int (mm 21)) (C := RX7) (T := TX7) (N := 35) hx hb hts i7 hown hK hP 0 rfl rfl 21 (by decide) lf146 (fun _ h9 => h9) rfl dX7_recentResets_19 ?_
          refine lv_aload_n hx hb dX7_recentResets_22 rfl (lv_at hl 0 rfl) ?_
          refine va_get (D := D) (ci := 7) (v := .ref jr) (C := RX7) (T := TX7) (N := 35) hx hb hts i7 hown hK hP 0 rfl rfl 29 (by decide) lf53 (fun _ h9 => h9) rfl dX7_recentResets_23 ?_
          refine lv_iload_n hx hb dX7_recentResets_26 rfl (lv_at hl 2 rfl) ?_
          refine va_iald hx hb hK hP 1 0 rfl rfl (cw_in3 hinv (by assumption)) dX7_recentResets_27 ?_
          refine lv_isub hx hb dX7_recentResets_28 ?_
          refine lv_bipush (v := 100) hx hb dX7_recentResets_29 (by decide) ?_
          have J13 : ∀ (w14 : Int32), w14 = (if 100 ≤ ((mm 21) - (nr l_2.toNatClampNeg)) then 0 else 1) → W p l e (cw_rm 0) s m args below meth c H locs 0 0 (Q) (F0 m 39 ls [.int w14, .int l_1]) := by
            intro w14 hw14
            refine lv_iadd hx hb dX7_recentResets_39 ?_
            refine lv_istore_n (lv' := [(1, .int (l_1 + w14)), (0, .ref xm), (2, .int l_2)]) hx hb dX7_recentResets_40 rfl hl (by decide) rfl (fun ls hl => ?_)
            refine lv_iinc (v := (l_2 + 1)) (lv' := [(2, .int (l_2 + 1)), (1, .int (l_1 + w14)), (0, .ref xm)]) hx hb dX7_recentResets_41 hl (k := 2) rfl rfl (by decide) rfl (fun ls hl => ?_)
            refine lv_goto (tgt := 4) hx hb dX7_recentResets_44 (by decide) ?_
            exact ih (l_1 + w14) (l_2 + 1) (cw_cntS hinv (cw_lt3 (by assumption))) (by rw [← hI]; simp only [s7_recentResets_L, ← hw14, if_neg z1, if_neg z7]) _ _ hP hD hS _ (lv_sub hl [2, 1, 0] rfl)
          refine lv_icmp_ge (tgt := 38) hx hb dX7_recentResets_31 (by decide) (fun z12 => ?_) (fun z12 => ?_)
          · refine lv_iconst (v := 0) hx hb dX7_recentResets_38 (by decide) ?_
            exact J13 0 (by simp only [if_pos z12])
          · refine lv_iconst (v := 1) hx hb dX7_recentResets_34 (by decide) ?_
            refine lv_goto (tgt := 39) hx hb dX7_recentResets_35 (by decide) ?_
            exact J13 1 (by simp only [if_neg z12])
  refine lv_iconst (v := 0) hx hb dX7_recentResets_0 (by decide) ?_
  refine lv_istore_n (lv' := [(1, .int 0), (0, .ref xm)]) hx hb dX7_recentResets_1 rfl hl (by decide) rfl (fun ls hl => ?_)
  refine lv_iconst (v := 0) hx hb dX7_recentResets_2 (by decide) ?_
  refine lv_istore_n (lv' := [(2, .int 0), (1, .int 0), (0, .ref xm)]) hx hb dX7_recentResets_3 rfl hl (by decide) rfl (fun ls hl => ?_)
  exact LOOP 4 0 0 ⟨by decide, by decide, by decide, by decide⟩ (by simp only [s7_recentResets]) _ _ hP hD hS _ (lv_sub hl [2, 1, 0] rfl)

set_option maxHeartbeats 4000000 in
set_option maxRecDepth 100000 in
theorem k7_reset (l : Launch) (D : va_G) (cI cJ : ClassId) (xm ja jb jc jr : Nat) (xm_30 xm_31 : Value) (mm : Nat → Int32) (n1 : Nat → Int32) (n2 : Nat → Int32) (n3 : Nat → Int32) (nr : Nat → Int32) (hix : vp_in ((mm 24) - (mm 24) / 100 * 100) 100) (hir : vp_in ((mm 28) - (mm 28) / 3 * 3) 3) : cw_Mi l yX7_reset wsX7_reset (cw_rm 1) D [(cI, .int), (cJ, .long)] [.ref xm] [(xm, c7 (.ref ja) (.ref jb) (.ref jc) (.ref jr) xm_30 xm_31 mm), (ja, .inl (cI, 100, .inl n1)), (jb, .inl (cI, 100, .inl n2)), (jc, .inl (cI, 100, .inl n3)), (jr, .inl (cI, 3, .inl nr))] 0 0 (fun r (_ : Unit) => r = (s7_reset mm n1 n2 n3 nr).1) (fun _ : Unit => [(xm, c7 (.ref ja) (.ref jb) (.ref jc) (.ref jr) xm_30 xm_31 (s7_reset mm n1 n2 n3 nr).2.1), (ja, .inl (cI, 100, .inl (s7_reset mm n1 n2 n3 nr).2.2.1)), (jb, .inl (cI, 100, .inl (s7_reset mm n1 n2 n3 nr).2.2.2.1)), (jc, .inl (cI, 100, .inl (s7_reset mm n1 n2 n3 nr).2.2.2.2.1)), (jr, .inl (cI, 3, .inl (s7_reset mm n1 n2 n3 nr).2.2.2.2.2))]) := by
  refine cw_ofi (cc := cX7_reset) (maxL := 1) (ret := (some .int)) (by decide) rfl (Nat.le_of_ble_eq_true rfl) rfl ?_
  intro p e s m args below meth c A ls Q hin0 hret
  obtain ⟨hx, hb, hr, hml, hts, hown, hlocks, hin, hP, hK, hD, hN, hA, hl⟩ := hin0
  have hS : va_S A s.heap s.heap [] := va_S.rf
  have hl : lv_has ls 1 [(0, .ref xm)] := hl
  have lf77 := hts (.fieldLink RX7 77 "BurnerlineModel" "state" "I") (by decide +kernel)
  have i7 : ∀ w ∈ wsX70, w ∈ wsX7_reset := by decide +kernel
  have lf87 := hts (.fieldLink RX7 87 "BurnerlineModel" "seen" "I") (by decide +kernel)
  have lf103 := hts (.fieldLink RX7 103 "BurnerlineModel" "time" "I") (by decide +kernel)
  have lf53 := hts (.fieldLink RX7 53 "BurnerlineModel" "resetAt" "[I") (by decide +kernel)
  have lf161 := hts (.fieldLink RX7 161 "BurnerlineModel" "resets" "I") (by decide +kernel)
  have lf146 := hts (.fieldLink RX7 146 "BurnerlineModel" "ticks" "I") (by decide +kernel)
  refine lv_aload_n hx hb dX7_reset_0 rfl (lv_at hl 0 rfl) ?_
  refine lv_aload_n hx hb dX7_reset_1 rfl (lv_at hl 0 rfl) ?_
  refine va_get (D := D) (ci := 7) (v := .int (mm 12)) (C := RX7) (T := TX7) (N := 35) hx hb hts i7 hown hK hP 0 rfl rfl 12 (by decide) lf77 (fun _ h9 => h9) rfl dX7_reset_2 ?_
  refine lv_bipush (v := 6) hx hb dX7_reset_5 (by decide) ?_
  have J7 : ∀ (w8 : Int32), w8 = (if (mm 12) = 6 then (if (mm 18) = 0 then (if (mm 14) < 5 then 0 else (if 3 ≤ (s7_recentResets mm nr) then 0 else 1)) else 0) else 0) → ∀ (H : Heap) (locs : List Loc), va_P D vwCl [(xm, c7 (.ref ja) (.ref jb) (.ref jc) (.ref jr) xm_30 xm_31 mm), (ja, .inl (cI, 100, .inl n1)), (jb, .inl (cI, 100, .inl n2)), (jc, .inl (cI, 100, .inl n3)), (jr, .inl (cI, 3, .inl nr))] H → va_D A [(xm, c7 (.ref ja) (.ref jb) (.ref jc) (.ref jr) xm_30 xm_31 mm), (ja, .inl (cI, 100, .inl n1)), (jb, .inl (cI, 100, .inl n2)), (jc, .inl (cI, 100, .inl n3)), (jr, .inl (cI, 3, .inl nr))] → va_S A s.heap H locs → W p l e (cw_rm 1) s m args below meth c H locs 0 0 (Q) (F0 m 38 ls [.int w8, .ref xm]) := by
    intro w8 hw8 H locs hP hD hS
    refine cw_cVi (As := [.int w8]) (rest := []) (wc := [(xm, c7 (.ref ja) (.ref jb) (.ref jc) (.ref jr) xm_30 xm_31 mm)]) (wr := [(ja, .inl (cI, 100, .inl n1)), (jb, .inl (cI, 100, .inl n2)), (jc, .inl (cI, 100, .inl n3)), (jr, .inl (cI, 3, .inl nr))]) ⟨hx, hb, hml, hown, hts⟩ (k7_asks l D cI cJ xm (.ref ja) (.ref jb) (.ref jc) (.ref jr) xm_30 xm_31 mm w8 (by (try simp only [hw8]); (repeat' split) <;> first | exact Or.inl rfl | exact Or.inr rfl | assumption)) (cwV 1 hts gX7_reset_X7_asks rfl rfl rfl (by decide +kernel) ⟨Nat.le_of_ble_eq_true rfl, Nat.le_of_ble_eq_true rfl⟩) hK hN hP hD hS hA [0] [1, 2, 3, 4] rfl rfl (by decide) (by decide) (by decide) 0 (ci := 7) rfl rfl rfl rfl hl.1 rfl (Nat.le_of_ble_eq_true rfl) dX7_reset_38 ⟨Nat.le_of_ble_eq_true rfl, Nat.le_of_ble_eq_true rfl⟩ (fun r10 u9 H locs hw hP hD hS => ?_)
    have hr10 : r10 = ((s7_asks mm w8).1) := hw
    obtain ⟨v11, hv11⟩ : ∃ z : Nat → Int32, z = ((s7_asks mm w8).2) := ⟨_, rfl⟩
    have hP : va_P D vwCl [(ja, .inl (cI, 100, .inl n1)), (jb, .inl (cI, 100, .inl n2)), (jc, .inl (cI, 100, .inl n3)), (jr, .inl (cI, 3, .inl nr)), (xm, c7 (.ref ja) (.ref jb) (.ref jc) (.ref jr) xm_30 xm_31 v11)] H := by rw [hv11]; exact hP
    have hD : va_D A [(ja, .inl (cI, 100, .inl n1)), (jb, .inl (cI, 100, .inl n2)), (jc, .inl (cI, 100, .inl n3)), (jr, .inl (cI, 3, .inl nr)), (xm, c7 (.ref ja) (.ref jb) (.ref jc) (.ref jr) xm_30 xm_31 v11)] := by rw [hv11]; exact hD
    refine lv_if_ne (tgt := 46) hx hb dX7_reset_41 (by decide) (fun z12 => ?_) (fun z12 => ?_)
    · refine lv_aload_n hx hb dX7_reset_46 rfl (lv_at hl 0 rfl) ?_
      refine va_get (D := D) (ci := 7) (v := .ref jr) (C := RX7) (T := TX7) (N := 35) hx hb hts i7 hown hK hP 4 rfl rfl 29 (by decide) lf53 (fun _ h9 => h9) rfl dX7_reset_47 ?_
      refine lv_aload_n hx hb dX7_reset_50 rfl (lv_at hl 0 rfl) ?_
      refine va_get (D := D) (ci := 7) (v := .int (v11 28)) (C := RX7) (T := TX7) (N := 35) hx hb hts i7 hown hK hP 4 rfl rfl 28 (by decide) lf161 (fun _ h9 => h9) rfl dX7_reset_51 ?_
      refine lv_iconst (v := 3) hx hb dX7_reset_54 (by decide) ?_
      refine lv_irem hx hb dX7_reset_55 (by decide) ?_
      refine lv_aload_n hx hb dX7_reset_56 rfl (lv_at hl 0 rfl) ?_
      refine va_get (D := D) (ci := 7) (v := .int (v11 21)) (C := RX7) (T := TX7) (N := 35) hx hb hts i7 hown hK hP 4 rfl rfl 21 (by decide) lf146 (fun _ h9 => h9) rfl dX7_reset_57 ?_
      refine va_iast hx hb hK hP hD hS 3 0 rfl rfl (by subst_vars; simpa [s7_asks, upd] using hir) dX7_reset_60 (fun H locs hP hD hS => ?_)
      have hP : va_P D vwCl [(ja, .inl (cI, 100, .inl n1)), (jb, .inl (cI, 100, .inl n2)), (jc, .inl (cI, 100, .inl n3)), (jr, .inl (cI, 3, .inl (upd nr (((v11 28) - (v11 28) / 3 * 3).toNatClampNeg) (v11 21)))), (xm, c7 (.ref ja) (.ref jb) (.ref jc) (.ref jr) xm_30 xm_31 v11)] H := hP
      have hD : va_D A [(ja, .inl (cI, 100, .inl n1)), (jb, .inl (cI, 100, .inl n2)), (jc, .inl (cI, 100, .inl n3)), (jr, .inl (cI, 3, .inl (upd nr (((v11 28) - (v11 28) / 3 * 3).toNatClampNeg) (v11 21)))), (xm, c7 (.ref ja) (.ref jb) (.ref jc) (.ref jr) xm_30 xm_31 v11)] := hD
      refine lv_aload_n hx hb dX7_reset_61 rfl (lv_at hl 0 rfl) ?_
      refine lv_dup hx hb dX7_reset_62 rfl ?_
      refine va_get (D := D) (ci := 7) (v := .int (v11 28)) (C := RX7) (T := TX7) (N := 35) hx hb hts i7 hown hK hP 4 rfl rfl 28 (by decide) lf161 (fun _ h9 => h9) rfl dX7_reset_63 ?_
      refine lv_iconst (v := 1) hx hb dX7_reset_66 (by decide) ?_
      refine lv_iadd hx hb dX7_reset_67 ?_
      refine va_put (D := D) (ci := 7) (v := .int ((v11 28) + 1)) (ty := .int) (C := RX7) (T := TX7) (N := 35) hx hb hts i7 tyX7 tyX7_ok nmX7 hown hK hP hD hS 4 rfl rfl 28 (by decide) lf161 (fun _ h9 => h9) rfl (by decide +kernel) rfl rfl (Nat.le_of_ble_eq_true rfl) dX7_reset_68 (fun H locs hP hD hS => ?_)
      have hP : va_P D vwCl [(ja, .inl (cI, 100, .inl n1)), (jb, .inl (cI, 100, .inl n2)), (jc, .inl (cI, 100, .inl n3)), (jr, .inl (cI, 3, .inl (upd nr (((v11 28) - (v11 28) / 3 * 3).toNatClampNeg) (v11 21)))), (xm, c7 (.ref ja) (.ref jb) (.ref jc) (.ref jr) xm_30 xm_31 (upd v11 28 ((v11 28) + 1)))] H := (congrArg (fun z9 => va_P D vwCl [(ja, .inl (cI, 100, .inl n1)), (jb, .inl (cI, 100, .inl n2)), (jc, .inl (cI, 100, .inl n3)), (jr, .inl (cI, 3, .inl (upd nr (((v11 28) - (v11 28) / 3 * 3).toNatClampNeg) (v11 21)))), (xm, .inr (7, z9))] H) (cs7_28 (.ref ja) (.ref jb) (.ref jc) (.ref jr) xm_30 xm_31 v11 ((v11 28) + 1))).mp hP
      have hD : va_D A [(ja, .inl (cI, 100, .inl n1)), (jb, .inl (cI, 100, .inl n2)), (jc, .inl (cI, 100, .inl n3)), (jr, .inl (cI, 3, .inl (upd nr (((v11 28) - (v11 28) / 3 * 3).toNatClampNeg) (v11 21)))), (xm, c7 (.ref ja) (.ref jb) (.ref jc) (.ref jr) xm_30 xm_31 (upd v11 28 ((v11 28) + 1)))] := (congrArg (fun z9 => va_D A [(ja, .inl (cI, 100, .inl n1)), (jb, .inl (cI, 100, .inl n2)), (jc, .inl (cI, 100, .inl n3)), (jr, .inl (cI, 3, .inl (upd nr (((v11 28) - (v11 28) / 3 * 3).toNatClampNeg) (v11 21)))), (xm, .inr (7, z9))]) (cs7_28 (.ref ja) (.ref jb) (.ref jc) (.ref jr) xm_30 xm_31 v11 ((v11 28) + 1))).mp hD
      refine lv_aload_n hx hb dX7_reset_71 rfl (lv_at hl 0 rfl) ?_
      refine lv_iconst (v := 0) hx hb dX7_reset_72 (by decide) ?_
      refine lv_iconst (v := 0) hx hb dX7_reset_73 (by decide) ?_
      refine cw_cVv (As := [.int 0, .int 0]) (rest := []) (wc := [(xm, c7 (.ref ja) (.ref jb) (.ref jc) (.ref jr) xm_30 xm_31 (upd v11 28 ((v11 28) + 1)))]) (wr := [(ja, .inl (cI, 100, .inl n1)), (jb, .inl (cI, 100, .inl n2)), (jc, .inl (cI, 100, .inl n3)), (jr, .inl (cI, 3, .inl (upd nr (((v11 28) - (v11 28) / 3 * 3).toNatClampNeg) (v11 21))))]) ⟨hx, hb, hml, hown, hts⟩ (k7_begins l D cI cJ xm (.ref ja) (.ref jb) (.ref jc) (.ref jr) xm_30 xm_31 (upd v11 28 ((v11 28) + 1)) 0 0) (cwV 2 hts gX7_reset_X7_begins rfl rfl rfl (by decide +kernel) ⟨Nat.le_of_ble_eq_true rfl, Nat.le_of_ble_eq_true rfl⟩) hK hN hP hD hS hA [4] [0, 1, 2, 3] rfl rfl (by decide) (by decide) (by decide) 0 (ci := 7) rfl rfl rfl rfl hl.1 rfl (Nat.le_of_ble_eq_true rfl) dX7_reset_74 ⟨Nat.le_of_ble_eq_true rfl, Nat.le_of_ble_eq_true rfl⟩ (fun u13 H locs hw hP hD hS => ?_)
      obtain ⟨v15, hv15⟩ : ∃ z : Nat → Int32, z = (s7_begins (upd v11 28 ((v11 28) + 1)) 0 0) := ⟨_, rfl⟩
      have hP : va_P D vwCl [(ja, .inl (cI, 100, .inl n1)), (jb, .inl (cI, 100, .inl n2)), (jc, .inl (cI, 100, .inl n3)), (jr, .inl (cI, 3, .inl (upd nr (((v11 28) - (v11 28) / 3 * 3).toNatClampNeg) (v11 21)))), (xm, c7 (.ref ja) (.ref jb) (.ref jc) (.ref jr) xm_30 xm_31 v15)] H := by rw [hv15]; exact hP
      have hD : va_D A [(ja, .inl (cI, 100, .inl n1)), (jb, .inl (cI, 100, .inl n2)), (jc, .inl (cI, 100, .inl n3)), (jr, .inl (cI, 3, .inl (upd nr (((v11 28) - (v11 28) / 3 * 3).toNatClampNeg) (v11 21)))), (xm, c7 (.ref ja) (.ref jb) (.ref jc) (.ref jr) xm_30 xm_31 v15)] := by rw [hv15]; exact hD
      refine lv_aload_n hx hb dX7_reset_77 rfl (lv_at hl 0 rfl) ?_
      refine cw_cVv (As := []) (rest := []) (wc := [(xm, c7 (.ref ja) (.ref jb) (.ref jc) (.ref jr) xm_30 xm_31 v15), (ja, .inl (cI, 100, .inl n1)), (jb, .inl (cI, 100, .inl n2)), (jc, .inl (cI, 100, .inl n3))]) (wr := [(jr, .inl (cI, 3, .inl (upd nr (((v11 28) - (v11 28) / 3 * 3).toNatClampNeg) (v11 21))))]) ⟨hx, hb, hml, hown, hts⟩ (k7_notes l D cI cJ xm ja jb jc (.ref jr) xm_30 xm_31 v15 n1 n2 n3 (by subst_vars; simpa [s7_asks, s7_begins, upd] using hix)) (cwV 0 hts gX7_reset_X7_notes rfl rfl rfl (by decide +kernel) ⟨Nat.le_of_ble_eq_true rfl, Nat.le_of_ble_eq_true rfl⟩) hK hN hP hD hS hA [4, 0, 1, 2] [3] rfl rfl (by decide) (by decide) (by decide) 0 (ci := 7) rfl rfl rfl rfl hl.1 rfl (Nat.le_of_ble_eq_true rfl) dX7_reset_78 ⟨Nat.le_of_ble_eq_true rfl, Nat.le_of_ble_eq_true rfl⟩ (fun u16 H locs hw hP hD hS => ?_)
      obtain ⟨v18, hv18⟩ : ∃ z : Nat → Int32, z = ((s7_notes v15 n1 n2 n3).1) := ⟨_, rfl⟩
      obtain ⟨v19, hv19⟩ : ∃ z : Nat → Int32, z = ((s7_notes v15 n1 n2 n3).2.1) := ⟨_, rfl⟩
      obtain ⟨v20, hv20⟩ : ∃ z : Nat → Int32, z = ((s7_notes v15 n1 n2 n3).2.2.1) := ⟨_, rfl⟩
      obtain ⟨v21, hv21⟩ : ∃ z : Nat → Int32, z = ((s7_notes v15 n1 n2 n3).2.2.2) := ⟨_, rfl⟩
      have hP : va_P D vwCl [(jr, .inl (cI, 3, .inl (upd nr (((v11 28) - (v11 28) / 3 * 3).toNatClampNeg) (v11 21)))), (xm, c7 (.ref ja) (.ref jb) (.ref jc) (.ref jr) xm_30 xm_31 v18), (ja, .inl (cI, 100, .inl v19)), (jb, .inl (cI, 100, .inl v20)), (jc, .inl (cI, 100, .inl v21))] H := by rw [hv18, hv19, hv20, hv21]; exact hP
      have hD : va_D A [(jr, .inl (cI, 3, .inl (upd nr (((v11 28) - (v11 28) / 3 * 3).toNatClampNeg) (v11 21)))), (xm, c7 (.ref ja) (.ref jb) (.ref jc) (.ref jr) xm_30 xm_31 v18), (ja, .inl (cI, 100, .inl v19)), (jb, .inl (cI, 100, .inl v20)), (jc, .inl (cI, 100, .inl v21))] := by rw [hv18, hv19, hv20, hv21]; exact hD
      refine lv_aload_n hx hb dX7_reset_81 rfl (lv_at hl 0 rfl) ?_
      refine cw_cVi (As := []) (rest := []) (wc := [(xm, c7 (.ref ja) (.ref jb) (.ref jc) (.ref jr) xm_30 xm_31 v18), (jr, .inl (cI, 3, .inl (upd nr (((v11 28) - (v11 28) / 3 * 3).toNatClampNeg) (v11 21))))]) (wr := [(ja, .inl (cI, 100, .inl v19)), (jb, .inl (cI, 100, .inl v20)), (jc, .inl (cI, 100, .inl v21))]) ⟨hx, hb, hml, hown, hts⟩ (k7_recentResets l D cI cJ xm jr (.ref ja) (.ref jb) (.ref jc) xm_30 xm_31 v18 (upd nr (((v11 28) - (v11 28) / 3 * 3).toNatClampNeg) (v11 21))) (cwV 0 hts gX7_reset_X7_recentResets rfl rfl rfl (by decide +kernel) ⟨Nat.le_of_ble_eq_true rfl, Nat.le_of_ble_eq_true rfl⟩) hK hN hP hD hS hA [1, 0] [2, 3, 4] rfl rfl (by decide) (by decide) (by decide) 0 (ci := 7) rfl rfl rfl rfl hl.1 rfl (Nat.le_of_ble_eq_true rfl) dX7_reset_82 ⟨Nat.le_of_ble_eq_true rfl, Nat.le_of_ble_eq_true rfl⟩ (fun r23 u22 H locs hw hP hD hS => ?_)
      have hr23 : r23 = (s7_recentResets v18 (upd nr (((v11 28) - (v11 28) / 3 * 3).toNatClampNeg) (v11 21))) := hw
      have hP : va_P D vwCl [(ja, .inl (cI, 100, .inl v19)), (jb, .inl (cI, 100, .inl v20)), (jc, .inl (cI, 100, .inl v21)), (xm, c7 (.ref ja) (.ref jb) (.ref jc) (.ref jr) xm_30 xm_31 v18), (jr, .inl (cI, 3, .inl (upd nr (((v11 28) - (v11 28) / 3 * 3).toNatClampNeg) (v11 21))))] H := hP
      have hD : va_D A [(ja, .inl (cI, 100, .inl v19)), (jb, .inl (cI, 100, .inl v20)), (jc, .inl (cI, 100, .inl v21)), (xm, c7 (.ref ja) (.ref jb) (.ref jc) (.ref jr) xm_30 xm_31 v18), (jr, .inl (cI, 3, .inl (upd nr (((v11 28) - (v11 28) / 3 * 3).toNatClampNeg) (v11 21))))] := hD
      have hsp : (s7_reset mm n1 n2 n3 nr) = ((r23, v18, v19, v20, v21, (upd nr (((v11 28) - (v11 28) / 3 * 3).toNatClampNeg) (v11 21))) : Int32 × (Nat → Int32) × (Nat → Int32) × (Nat → Int32) × (Nat → Int32) × (Nat → Int32)) := by simp only [s7_reset, ← hw8, ← hv11, ← hr10, ← hv15, ← hv18, ← hv19, ← hv20, ← hv21, ← hr23, if_neg z12]
      exact hret _ _ _ _ _ _ _ _ (hP.sub (ws' := [(xm, c7 (.ref ja) (.ref jb) (.ref jc) (.ref jr) xm_30 xm_31 v18), (ja, .inl (cI, 100, .inl v19)), (jb, .inl (cI, 100, .inl v20)), (jc, .inl (cI, 100, .inl v21)), (jr, .inl (cI, 3, .inl (upd nr (((v11 28) - (v11 28) / 3 * 3).toNatClampNeg) (v11 21))))]) [3, 0, 1, 2, 4] rfl) (hD.sub (ws' := [(xm, c7 (.ref ja) (.ref jb) (.ref jc) (.ref jr) xm_30 xm_31 v18), (ja, .inl (cI, 100, .inl v19)), (jb, .inl (cI, 100, .inl v20)), (jc, .inl (cI, 100, .inl v21)), (jr, .inl (cI, 3, .inl (upd nr (((v11 28) - (v11 28) / 3 * 3).toNatClampNeg) (v11 21))))]) [3, 0, 1, 2, 4] (by decide) rfl) hS dX7_reset_85 rfl ⟨(), (by rw [hsp]), (by rw [hsp])⟩ (Nat.le_of_ble_eq_true rfl) (Nat.le_of_ble_eq_true rfl)
    · refine lv_iconst (v := 0) hx hb dX7_reset_44 (by decide) ?_
      have hsp : (s7_reset mm n1 n2 n3 nr) = ((0, v11, n1, n2, n3, nr) : Int32 × (Nat → Int32) × (Nat → Int32) × (Nat → Int32) × (Nat → Int32) × (Nat → Int32)) := by simp only [s7_reset, ← hw8, ← hv11, ← hr10, if_pos z12]
      exact hret _ _ _ _ _ _ _ _ (hP.sub (ws' := [(xm, c7 (.ref ja) (.ref jb) (.ref jc) (.ref jr) xm_30 xm_31 v11), (ja, .inl (cI, 100, .inl n1)), (jb, .inl (cI, 100, .inl n2)), (jc, .inl (cI, 100, .inl n3)), (jr, .inl (cI, 3, .inl nr))]) [4, 0, 1, 2, 3] rfl) (hD.sub (ws' := [(xm, c7 (.ref ja) (.ref jb) (.ref jc) (.ref jr) xm_30 xm_31 v11), (ja, .inl (cI, 100, .inl n1)), (jb, .inl (cI, 100, .inl n2)), (jc, .inl (cI, 100, .inl n3)), (jr, .inl (cI, 3, .inl nr))]) [4, 0, 1, 2, 3] (by decide) rfl) hS dX7_reset_45 rfl ⟨(), (by rw [hsp]), (by rw [hsp])⟩ (Nat.le_of_ble_eq_true rfl) (Nat.le_of_ble_eq_true rfl)
  refine lv_icmp_ne (tgt := 37) hx hb dX7_reset_7 (by decide) (fun z1 => ?_) (fun z1 => ?_)
  · refine lv_iconst (v := 0) hx hb dX7_reset_37 (by decide) ?_
    exact J7 0 (by simp only [if_neg z1]) _ _ hP hD hS
  · refine lv_aload_n hx hb dX7_reset_10 rfl (lv_at hl 0 rfl) ?_
    refine va_get (D := D) (ci := 7) (v := .int (mm 18)) (C := RX7) (T := TX7) (N := 35) hx hb hts i7 hown hK hP 0 rfl rfl 18 (by decide) lf87 (fun _ h9 => h9) rfl dX7_reset_11 ?_
    refine lv_if_ne (tgt := 37) hx hb dX7_reset_14 (by decide) (fun z2 => ?_) (fun z2 => ?_)
    · refine lv_iconst (v := 0) hx hb dX7_reset_37 (by decide) ?_
      exact J7 0 (by simp only [if_pos z1, if_neg z2]) _ _ hP hD hS
    · refine lv_aload_n hx hb dX7_reset_17 rfl (lv_at hl 0 rfl) ?_
      refine va_get (D := D) (ci := 7) (v := .int (mm 14)) (C := RX7) (T := TX7) (N := 35) hx hb hts i7 hown hK hP 0 rfl rfl 14 (by decide) lf103 (fun _ h9 => h9) rfl dX7_reset_18 ?_
      refine lv_iconst (v := 5) hx hb dX7_reset_21 (by decide) ?_
      refine lv_icmp_lt (tgt := 37) hx hb dX7_reset_22 (by decide) (fun z3 => ?_) (fun z3 => ?_)
      · refine lv_iconst (v := 0) hx hb dX7_reset_37 (by decide) ?_
        exact J7 0 (by simp only [if_pos z1, if_pos z2, if_pos z3]) _ _ hP hD hS
      · refine lv_aload_n hx hb dX7_reset_25 rfl (lv_at hl 0 rfl) ?_
        refine cw_cVi (As := []) (rest := [.ref xm]) (wc := [(xm, c7 (.ref ja) (.ref jb) (.ref jc) (.ref jr) xm_30 xm_31 mm), (jr, .inl (cI, 3, .inl nr))]) (wr := [(ja, .inl (cI, 100, .inl n1)), (jb, .inl (cI, 100, .inl n2)), (jc, .inl (cI, 100, .inl n3))]) ⟨hx, hb, hml, hown, hts⟩ (k7_recentResets l D cI cJ xm jr (.ref ja) (.ref jb) (.ref jc) xm_30 xm_31 mm nr) (cwV 0 hts gX7_reset_X7_recentResets rfl rfl rfl (by decide +kernel) ⟨Nat.le_of_ble_eq_true rfl, Nat.le_of_ble_eq_true rfl⟩) hK hN hP hD hS hA [0, 4] [1, 2, 3] rfl rfl (by decide) (by decide) (by decide) 0 (ci := 7) rfl rfl rfl rfl hl.1 rfl (Nat.le_of_ble_eq_true rfl) dX7_reset_26 ⟨Nat.le_of_ble_eq_true rfl, Nat.le_of_ble_eq_true rfl⟩ (fun r5 u4 H locs hw hP hD hS => ?_)
        have hr5 : r5 = (s7_recentResets mm nr) := hw
        have hP : va_P D vwCl [(ja, .inl (cI, 100, .inl n1)), (jb, .inl (cI, 100, .inl n2)), (jc, .inl (cI, 100, .inl n3)), (xm, c7 (.ref ja) (.ref jb) (.ref jc) (.ref jr) xm_30 xm_31 mm), (jr, .inl (cI, 3, .inl nr))] H := hP
        have hD : va_D A [(ja, .inl (cI, 100, .inl n1)), (jb, .inl (cI, 100, .inl n2)), (jc, .inl (cI, 100, .inl n3)), (xm, c7 (.ref ja) (.ref jb) (.ref jc) (.ref jr) xm_30 xm_31 mm), (jr, .inl (cI, 3, .inl nr))] := hD
        refine lv_iconst (v := 3) hx hb dX7_reset_29 (by decide) ?_
        refine lv_icmp_ge (tgt := 37) hx hb dX7_reset_30 (by decide) (fun z6 => ?_) (fun z6 => ?_)
        · refine lv_iconst (v := 0) hx hb dX7_reset_37 (by decide) ?_
          exact J7 0 (by simp only [← hr5, if_pos z1, if_pos z2, if_neg z3, if_pos z6]) _ _ (hP.sub [3, 0, 1, 2, 4] rfl) (hD.sub [3, 0, 1, 2, 4] (by decide) rfl) hS
        · refine lv_iconst (v := 1) hx hb dX7_reset_33 (by decide) ?_
          refine lv_goto (tgt := 38) hx hb dX7_reset_34 (by decide) ?_
          exact J7 1 (by simp only [← hr5, if_pos z1, if_pos z2, if_neg z3, if_neg z6]) _ _ (hP.sub [3, 0, 1, 2, 4] rfl) (hD.sub [3, 0, 1, 2, 4] (by decide) rfl) hS
