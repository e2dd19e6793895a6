theorem cp2 (v0 v1 v2 : Value) (f ep eq g gp gq : Nat → Int32) : c2 v0 v1 v2 (s2_copyFrom f ep eq g gp gq).1 = c2 v0 v1 v2 g := by simp [s2_copyFrom, upd]
theorem cp1 (f ep eq g gp gq : Nat → Int32) : c1 (s2_copyFrom f ep eq g gp gq).2.1 = c1 gp := by simp [s2_copyFrom, s1_copyFrom, upd]
theorem cp0 (f ep eq g gp gq : Nat → Int32) : c1 (s2_copyFrom f ep eq g gp gq).2.2 = c1 gq := by simp [s2_copyFrom, s1_copyFrom, upd]
theorem k2_copyFromP (l : Launch) (D : va_G) (cI cJ : ClassId) (xf xp xq yf yp yq : Nat) (xf_0 yf_0 : Value) (f : Nat → Int32) (ep : Nat → Int32) (eq : Nat → Int32) (g : Nat → Int32) (gp : Nat → Int32) (gq : Nat → Int32) (hgp : gp 0 = 0 ∨ gp 0 = 1) (hgq : gq 0 = 0 ∨ gq 0 = 1) : cw_Mv l yX2_copyFrom wsX2_copyFrom (cw_rm 1) D [(cI, .int)] [.ref xf, .ref yf] [(xf, c2 xf_0 (.ref xp) (.ref xq) f), (xp, c1 ep), (xq, c1 eq), (yf, c2 yf_0 (.ref yp) (.ref yq) g), (yp, c1 gp), (yq, c1 gq)] 0 0 (fun _ : Unit => True) (fun _ : Unit => [(xf, c2 xf_0 (.ref xp) (.ref xq) g), (xp, c1 gp), (xq, c1 gq), (yf, c2 yf_0 (.ref yp) (.ref yq) g), (yp, c1 gp), (yq, c1 gq)]) := by
  have h := k2_copyFrom l D cI cJ xf xp xq yf yp yq xf_0 yf_0 f ep eq g gp gq hgp hgq
  simp only [cp2, cp1, cp0] at h
  exact h

def s6_toPilot_L (b : Nat → Int32) (f : Nat → Int32) (ep : Nat → Int32) (eq : Nat → Int32) (st : Nat → Int32) : Nat → (Nat → Int32) → (Nat → Int32) → (Nat → Int32) → Int32 → Int32
  | 0, _, _, _, _ => 0
  | n9 + 1, l_yf, l_yp, l_yq, l_2 => (if 300 < l_2 then (-1) else (let v9 : Nat → Int32 := ((s2_tick l_yf l_yp l_yq st 7).2.1); (let v10 : Nat → Int32 := ((s2_tick l_yf l_yp l_yq st 7).2.2.1); (let v11 : Nat → Int32 := ((s2_tick l_yf l_yp l_yq st 7).2.2.2); (let r8 : Int32 := ((s2_tick l_yf l_yp l_yq st 7).1); (let r13 : Int32 := (s2_isPilotOpen v9); (if r13 = 0 then (s6_toPilot_L b f ep eq st n9 v9 v10 v11 (l_2 + 1)) else l_2)))))))
def s6_toPilot (b : Nat → Int32) (f : Nat → Int32) (ep : Nat → Int32) (eq : Nat → Int32) (st : Nat → Int32) : Int32 := (let r2 : Int32 := (s2_isPilotOpen f); (if r2 = 0 then (s6_toPilot_L b f ep eq st 301 f ep eq 1) else 0))


set_option maxHeartbeats 4000000 in
set_option maxRecDepth 100000 in
theorem k6_toPilot (l : Launch) (D : va_G) (cI cJ : ClassId) (xb xf xp xq xs xa yf yp yq : Nat) (xb_0 xb_2 xb_3 xa_1 : Value) (b : Nat → Int32) (f : Nat → Int32) (ep : Nat → Int32) (eq : Nat → Int32) (st : Nat → Int32) (g : Nat → Int32) (gp : Nat → Int32) (gq : Nat → Int32) (hep : ep 0 = 0 ∨ ep 0 = 1) (heq : eq 0 = 0 ∨ eq 0 = 1) : cw_Mi l yX6_toPilot wsX6_toPilot (cw_rm 7) D [(cI, .int)] [.ref xb] [(xb, c6 xb_0 (.ref xf) xb_2 xb_3 (.ref xa) b), (xf, c2 (.ref xs) (.ref xp) (.ref xq) f), (xp, c1 ep), (xq, c1 eq), (xs, c5 st), (xa, c0 (.ref yf) xa_1), (yf, c2 (.ref xs) (.ref yp) (.ref yq) g), (yp, c1 gp), (yq, c1 gq)] 0 0 (fun r (_ : (Nat → Int32) × (Nat → Int32) × (Nat → Int32)) => r = (s6_toPilot b f ep eq st)) (fun u : (Nat → Int32) × (Nat → Int32) × (Nat → Int32) => [(xb, c6 xb_0 (.ref xf) xb_2 xb_3 (.ref xa) b), (xf, c2 (.ref xs) (.ref xp) (.ref xq) f), (xp, c1 ep), (xq, c1 eq), (xs, c5 st), (xa, c0 (.ref yf) xa_1), (yf, c2 (.ref xs) (.ref yp) (.ref yq) u.1), (yp, c1 u.2.1), (yq, c1 u.2.2)]) := by
  refine cw_ofi (cc := cX6_toPilot) (maxL := 3) (ret := (some .int)) (by decide) rfl (Nat.le_of_ble_eq_true rfl) rfl ?_
  intro p e s m args below meth c A ls Q hin0 hret
  obtain ⟨hx, hb, hr, hml, hts, hown, hlocks, hin, hP, hK, hD, hN, hA, hl⟩ := hin0
  have hS : va_S A s.heap s.heap [] := va_S.rf
  have hl : lv_has ls 3 [(0, .ref xb)] := hl
  have lf21 := hts (.fieldLink RX6 21 "Burnerline" "furnace" "LBurnerline$Furnace;") (by decide +kernel)
  have i6 : ∀ w ∈ wsX60, w ∈ wsX6_toPilot := by decide +kernel
  have lf44 := hts (.fieldLink RX6 44 "Burnerline" "ahead" "LBurnerline$Ahead;") (by decide +kernel)
  have lf225 := hN.use (args := args) (w := .fieldLinkNest "Burnerline" 225 "Burnerline$Ahead" "furnace" "LBurnerline$Furnace;" "Burnerline") (by decide +kernel)
  have i0 : ∀ w ∈ wsX00, w ∈ wsX6_toPilot := by decide +kernel
  have LOOP : ∀ (n9 : Nat) (l_yf : Nat → Int32) (l_yp : Nat → Int32) (l_yq : Nat → Int32) (l_2 : Int32), cw_cnt 301 l_2 n9 → s6_toPilot_L b f ep eq st n9 l_yf l_yp l_yq l_2 = (s6_toPilot b f ep eq st) → ∀ (H : Heap) (locs : List Loc), va_P D vwCl [(xb, c6 xb_0 (.ref xf) xb_2 xb_3 (.ref xa) b), (xf, c2 (.ref xs) (.ref xp) (.ref xq) f), (xp, c1 ep), (xq, c1 eq), (xs, c5 st), (xa, c0 (.ref yf) xa_1), (yf, c2 (.ref xs) (.ref yp) (.ref yq) l_yf), (yp, c1 l_yp), (yq, c1 l_yq)] H → va_D A [(xb, c6 xb_0 (.ref xf) xb_2 xb_3 (.ref xa) b), (xf, c2 (.ref xs) (.ref xp) (.ref xq) f), (xp, c1 ep), (xq, c1 eq), (xs, c5 st), (xa, c0 (.ref yf) xa_1), (yf, c2 (.ref xs) (.ref yp) (.ref yq) l_yf), (yp, c1 l_yp), (yq, c1 l_yq)] → va_S A s.heap H locs → ∀ (ls : Array Slot), lv_has ls 3 [(0, .ref xb), (1, .ref yf), (2, .int l_2)] → W p l e (cw_rm 7) s m args below meth c H locs 0 0 (Q) (F0 m 30 ls []) := by
    intro n9
    induction n9 with
    | zero =>
      intro l_yf l_yp l_yq l_2 hinv
      exact (cw_cnt0 hinv).elim
    | succ n9 ih =>
      intro l_yf l_yp l_yq l_2 hinv hI H locs hP hD hS ls hl
      refine lv_iload_n hx hb dX6_toPilot_30 rfl (lv_at hl 2 rfl) ?_
      refine lv_sipush (v := 300) hx hb dX6_toPilot_31 (by decide) ?_
      refine lv_icmp_gt (tgt := 59) hx hb dX6_toPilot_34 (by decide) (fun z6 => ?_) (fun z6 => ?_)
      · refine lv_iconst (v := (-1)) hx hb dX6_toPilot_59 (by decide) ?_
        have hsp : (s6_toPilot b f ep eq st) = ((-1) : Int32) := by rw [← hI]; simp only [s6_toPilot_L, if_pos z6]
        exact hret _ _ _ _ _ _ _ _ hP hD hS dX6_toPilot_60 rfl ⟨(l_yf, l_yp, l_yq), (by rw [hsp]), rfl⟩ (Nat.le_of_ble_eq_true rfl) (Nat.le_of_ble_eq_true rfl)
      · refine lv_aload_n hx hb dX6_toPilot_37 rfl (lv_at hl 1 rfl) ?_
        refine lv_bipush (v := 7) hx hb dX6_toPilot_38 (by decide) ?_
        refine cw_cVi (As := [.int 7]) (rest := []) (wc := [(yf, c2 (.ref xs) (.ref yp) (.ref yq) l_yf), (yp, c1 l_yp), (yq, c1 l_yq), (xs, c5 st)]) (wr := [(xb, c6 xb_0 (.ref xf) xb_2 xb_3 (.ref xa) b), (xf, c2 (.ref xs) (.ref xp) (.ref xq) f), (xp, c1 ep), (xq, c1 eq), (xa, c0 (.ref yf) xa_1)]) ⟨hx, hb, hml, hown, hts⟩ (k2_tick l D cI cJ yf yp yq xs l_yf l_yp l_yq st 7) (cwV 1 hts gX6_toPilot_X2_tick rfl rfl rfl (by decide +kernel) ⟨Nat.le_of_ble_eq_true rfl, Nat.le_of_ble_eq_true rfl⟩) hK hN hP hD hS hA [6, 7, 8, 4] [0, 1, 2, 3, 5] rfl rfl (by decide) (by decide) (by decide) 0 (ci := 2) rfl rfl rfl rfl hl.1 rfl (Nat.le_of_ble_eq_true rfl) dX6_toPilot_40 ⟨Nat.le_of_ble_eq_true rfl, Nat.le_of_ble_eq_true rfl⟩ (fun r8 u7 H locs hw hP hD hS => ?_)
        have hr8 : r8 = ((s2_tick l_yf l_yp l_yq st 7).1) := hw
        obtain ⟨v9, hv9⟩ : ∃ z : Nat → Int32, z = ((s2_tick l_yf l_yp l_yq st 7).2.1) := ⟨_, rfl⟩
        obtain ⟨v10, hv10⟩ : ∃ z : Nat → Int32, z = ((s2_tick l_yf l_yp l_yq st 7).2.2.1) := ⟨_, rfl⟩
        obtain ⟨v11, hv11⟩ : ∃ z : Nat → Int32, z = ((s2_tick l_yf l_yp l_yq st 7).2.2.2) := ⟨_, rfl⟩
        have hP : va_P D vwCl [(xb, c6 xb_0 (.ref xf) xb_2 xb_3 (.ref xa) b), (xf, c2 (.ref xs) (.ref xp) (.ref xq) f), (xp, c1 ep), (xq, c1 eq), (xa, c0 (.ref yf) xa_1), (yf, c2 (.ref xs) (.ref yp) (.ref yq) v9), (yp, c1 v10), (yq, c1 v11), (xs, c5 st)] H := by rw [hv9, hv10, hv11]; exact hP
        have hD : va_D A [(xb, c6 xb_0 (.ref xf) xb_2 xb_3 (.ref xa) b), (xf, c2 (.ref xs) (.ref xp) (.ref xq) f), (xp, c1 ep), (xq, c1 eq), (xa, c0 (.ref yf) xa_1), (yf, c2 (.ref xs) (.ref yp) (.ref yq) v9), (yp, c1 v10), (yq, c1 v11), (xs, c5 st)] := by rw [hv9, hv10, hv11]; exact hD
        refine lv_pop hx hb dX6_toPilot_43 rfl ?_
        refine lv_aload_n hx hb dX6_toPilot_44 rfl (lv_at hl 1 rfl) ?_
        refine cw_cVi (As := []) (rest := []) (wc := [(yf, c2 (.ref xs) (.ref yp) (.ref yq) v9)]) (wr := [(xb, c6 xb_0 (.ref xf) xb_2 xb_3 (.ref xa) b), (xf, c2 (.ref xs) (.ref xp) (.ref xq) f), (xp, c1 ep), (xq, c1 eq), (xa, c0 (.ref yf) xa_1), (yp, c1 v10), (yq, c1 v11), (xs, c5 st)]) ⟨hx, hb, hml, hown, hts⟩ (k2_isPilotOpen l D cI cJ yf (.ref xs) (.ref yp) (.ref yq) v9) (cwV 0 hts gX6_toPilot_X2_isPilotOpen rfl rfl rfl (by decide +kernel) ⟨Nat.le_of_ble_eq_true rfl, Nat.le_of_ble_eq_true rfl⟩) hK hN hP hD hS hA [5] [0, 1, 2, 3, 4, 6, 7, 8] rfl rfl (by decide) (by decide) (by decide) 0 (ci := 2) rfl rfl rfl rfl hl.1 rfl (Nat.le_of_ble_eq_true rfl) dX6_toPilot_45 ⟨Nat.le_of_ble_eq_true rfl, Nat.le_of_ble_eq_true rfl⟩ (fun r13 u12 H locs hw hP hD hS => ?_)
        have hr13 : r13 = (s2_isPilotOpen v9) := hw
        have hP : va_P D vwCl [(xb, c6 xb_0 (.ref xf) xb_2 xb_3 (.ref xa) b), (xf, c2 (.ref xs) (.ref xp) (.ref xq) f), (xp, c1 ep), (xq, c1 eq), (xa, c0 (.ref yf) xa_1), (yp, c1 v10), (yq, c1 v11), (xs, c5 st), (yf, c2 (.ref xs) (.ref yp) (.ref yq) v9)] H := hP
        have hD : va_D A [(xb, c6 xb_0 (.ref xf) xb_2 xb_3 (.ref xa) b), (xf, c2 (.ref xs) (.ref xp) (.ref xq) f), (xp, c1 ep), (xq, c1 eq), (xa, c0 (.ref yf) xa_1), (yp, c1 v10), (yq, c1 v11), (xs, c5 st), (yf, c2 (.ref xs) (.ref yp) (.ref yq) v9)] := hD
        refine lv_if_eq (tgt := 53) hx hb dX6_toPilot_48 (by decide) (fun z14 => ?_) (fun z14 => ?_)
        · refine lv_iinc (v := (l_2 + 1)) (lv' := [(2, .int (l_2 + 1)), (0, .ref xb), (1, .ref yf)]) hx hb dX6_toPilot_53 hl (k := 2) rfl rfl (by decide) rfl (fun ls hl => ?_)
          refine lv_goto (tgt := 30) hx hb dX6_toPilot_56 (by decide) ?_
          exact ih v9 v10 v11 (l_2 + 1) (cw_cntS hinv (cw_lt301 (by assumption))) (by rw [← hI]; simp only [s6_toPilot_L, ← hv9, ← hv10, ← hv11, ← hr8, ← hr13, if_neg z6, if_pos z14]) _ _ (hP.sub [0, 1, 2, 3, 7, 4, 8, 5, 6] rfl) (hD.sub [0, 1, 2, 3, 7, 4, 8, 5, 6] (by decide) rfl) hS _ (lv_sub hl [1, 2, 0] rfl)
        · refine lv_iload_n hx hb dX6_toPilot_51 rfl (lv_at hl 2 rfl) ?_
          have hsp : (s6_toPilot b f ep eq st) = (l_2 : Int32) := by rw [← hI]; simp only [s6_toPilot_L, ← hv9, ← hv10, ← hv11, ← hr8, ← hr13, if_neg z6, if_neg z14]
          exact hret _ _ _ _ _ _ _ _ (hP.sub (ws' := [(xb, c6 xb_0 (.ref xf) xb_2 xb_3 (.ref xa) b), (xf, c2 (.ref xs) (.ref xp) (.ref xq) f), (xp, c1 ep), (xq, c1 eq), (xs, c5 st), (xa, c0 (.ref yf) xa_1), (yf, c2 (.ref xs) (.ref yp) (.ref yq) v9), (yp, c1 v10), (yq, c1 v11)]) [0, 1, 2, 3, 7, 4, 8, 5, 6] rfl) (hD.sub (ws' := [(xb, c6 xb_0 (.ref xf) xb_2 xb_3 (.ref xa) b), (xf, c2 (.ref xs) (.ref xp) (.ref xq) f), (xp, c1 ep), (xq, c1 eq), (xs, c5 st), (xa, c0 (.ref yf) xa_1), (yf, c2 (.ref xs) (.ref yp) (.ref yq) v9), (yp, c1 v10), (yq, c1 v11)]) [0, 1, 2, 3, 7, 4, 8, 5, 6] (by decide) rfl) hS dX6_toPilot_52 rfl ⟨(v9, v10, v11), (by rw [hsp]), rfl⟩ (Nat.le_of_ble_eq_true rfl) (Nat.le_of_ble_eq_true rfl)
  refine lv_aload_n hx hb dX6_toPilot_0 rfl (lv_at hl 0 rfl) ?_
  refine va_get (D := D) (ci := 6) (v := .ref xf) (C := RX6) (T := TX6) (N := 7) hx hb hts i6 hown hK hP 0 rfl rfl 1 (by decide) lf21 (fun _ h9 => h9) rfl dX6_toPilot_1 ?_
  refine cw_cVi (As := []) (rest := []) (wc := [(xf, c2 (.ref xs) (.ref xp) (.ref xq) f)]) (wr := [(xb, c6 xb_0 (.ref xf) xb_2 xb_3 (.ref xa) b), (xp, c1 ep), (xq, c1 eq), (xs, c5 st), (xa, c0 (.ref yf) xa_1), (yf, c2 (.ref xs) (.ref yp) (.ref yq) g), (yp, c1 gp), (yq, c1 gq)]) ⟨hx, hb, hml, hown, hts⟩ (k2_isPilotOpen l D cI cJ xf (.ref xs) (.ref xp) (.ref xq) f) (cwV 0 hts gX6_toPilot_X2_isPilotOpen rfl rfl rfl (by decide +kernel) ⟨Nat.le_of_ble_eq_true rfl, Nat.le_of_ble_eq_true rfl⟩) hK hN hP hD hS hA [1] [0, 2, 3, 4, 5, 6, 7, 8] rfl rfl (by decide) (by decide) (by decide) 0 (ci := 2) rfl rfl rfl rfl hl.1 rfl (Nat.le_of_ble_eq_true rfl) dX6_toPilot_4 ⟨Nat.le_of_ble_eq_true rfl, Nat.le_of_ble_eq_true rfl⟩ (fun r2 u1 H locs hw hP hD hS => ?_)
  have hr2 : r2 = (s2_isPilotOpen f) := hw
  have hP : va_P D vwCl [(xb, c6 xb_0 (.ref xf) xb_2 xb_3 (.ref xa) b), (xp, c1 ep), (xq, c1 eq), (xs, c5 st), (xa, c0 (.ref yf) xa_1), (yf, c2 (.ref xs) (.ref yp) (.ref yq) g), (yp, c1 gp), (yq, c1 gq), (xf, c2 (.ref xs) (.ref xp) (.ref xq) f)] H := hP
  have hD : va_D A [(xb, c6 xb_0 (.ref xf) xb_2 xb_3 (.ref xa) b), (xp, c1 ep), (xq, c1 eq), (xs, c5 st), (xa, c0 (.ref yf) xa_1), (yf, c2 (.ref xs) (.ref yp) (.ref yq) g), (yp, c1 gp), (yq, c1 gq), (xf, c2 (.ref xs) (.ref xp) (.ref xq) f)] := hD
  refine lv_if_eq (tgt := 12) hx hb dX6_toPilot_7 (by decide) (fun z3 => ?_) (fun z3 => ?_)
  · refine lv_aload_n hx hb dX6_toPilot_12 rfl (lv_at hl 0 rfl) ?_
    refine va_get (D := D) (ci := 6) (v := .ref xa) (C := RX6) (T := TX6) (N := 7) hx hb hts i6 hown hK hP 0 rfl rfl 4 (by decide) lf44 (fun _ h9 => h9) rfl dX6_toPilot_13 ?_
    refine va_getN (D := D) (ci := 0) (v := .ref yf) (C := RX0) (T := TX0) (N := 2) hx hb hts i0 hown hK hP 4 rfl rfl 0 (by decide) lf225 (fun _ h9 => h9) rfl dX6_toPilot_16 ?_
    refine lv_astore_n (lv' := [(1, .ref yf), (0, .ref xb)]) hx hb dX6_toPilot_19 rfl hl (by decide) rfl (fun ls hl => ?_)
    refine lv_aload_n hx hb dX6_toPilot_20 rfl (lv_at hl 0 rfl) ?_
    refine lv_aload_n hx hb dX6_toPilot_21 rfl (lv_at hl 1 rfl) ?_
    refine va_get (D := D) (ci := 6) (v := .ref xf) (C := RX6) (T := TX6) (N := 7) hx hb hts i6 hown hK hP 0 rfl rfl 1 (by decide) lf21 (fun _ h9 => h9) rfl dX6_toPilot_22 ?_
    refine cw_cVv (As := [.ref xf]) (rest := []) (wc := [(yf, c2 (.ref xs) (.ref yp) (.ref yq) g), (yp, c1 gp), (yq, c1 gq), (xf, c2 (.ref xs) (.ref xp) (.ref xq) f), (xp, c1 ep), (xq, c1 eq)]) (wr := [(xb, c6 xb_0 (.ref xf) xb_2 xb_3 (.ref xa) b), (xs, c5 st), (xa, c0 (.ref yf) xa_1)]) ⟨hx, hb, hml, hown, hts⟩ (k2_copyFromP l D cI cJ yf yp yq xf xp xq (.ref xs) (.ref xs) g gp gq f ep eq (by (repeat' split) <;> first | exact Or.inl rfl | exact Or.inr rfl | assumption) (by (repeat' split) <;> first | exact Or.inl rfl | exact Or.inr rfl | assumption)) (cwV 1 hts gX6_toPilot_X2_copyFrom rfl rfl rfl (by decide +kernel) ⟨Nat.le_of_ble_eq_true rfl, Nat.le_of_ble_eq_true rfl⟩) hK hN hP hD hS hA [5, 6, 7, 8, 1, 2] [0, 3, 4] rfl rfl (by decide) (by decide) (by decide) 0 (ci := 2) rfl rfl rfl rfl hl.1 rfl (Nat.le_of_ble_eq_true rfl) dX6_toPilot_25 ⟨Nat.le_of_ble_eq_true rfl, Nat.le_of_ble_eq_true rfl⟩ (fun u4 H locs hw hP hD hS => ?_)
    have hP : va_P D vwCl [(xb, c6 xb_0 (.ref xf) xb_2 xb_3 (.ref xa) b), (xs, c5 st), (xa, c0 (.ref yf) xa_1), (yf, c2 (.ref xs) (.ref yp) (.ref yq) f), (yp, c1 ep), (yq, c1 eq), (xf, c2 (.ref xs) (.ref xp) (.ref xq) f), (xp, c1 ep), (xq, c1 eq)] H := hP
    have hD : va_D A [(xb, c6 xb_0 (.ref xf) xb_2 xb_3 (.ref xa) b), (xs, c5 st), (xa, c0 (.ref yf) xa_1), (yf, c2 (.ref xs) (.ref yp) (.ref yq) f), (yp, c1 ep), (yq, c1 eq), (xf, c2 (.ref xs) (.ref xp) (.ref xq) f), (xp, c1 ep), (xq, c1 eq)] := hD
    refine lv_iconst (v := 1) hx hb dX6_toPilot_28 (by decide) ?_
    refine lv_istore_n (lv' := [(2, .int 1), (1, .ref yf), (0, .ref xb)]) hx hb dX6_toPilot_29 rfl hl (by decide) rfl (fun ls hl => ?_)
    exact LOOP 301 f ep eq 1 ⟨by decide, by decide, by decide, by decide⟩ (by simp only [s6_toPilot, ← hr2, if_pos z3]) _ _ (hP.sub [0, 6, 7, 8, 1, 2, 3, 4, 5] rfl) (hD.sub [0, 6, 7, 8, 1, 2, 3, 4, 5] (by decide) rfl) hS _ (lv_sub hl [2, 1, 0] rfl)
  · refine lv_iconst (v := 0) hx hb dX6_toPilot_10 (by decide) ?_
    have hsp : (s6_toPilot b f ep eq st) = (0 : Int32) := by simp only [s6_toPilot, ← hr2, if_neg z3]
    exact hret _ _ _ _ _ _ _ _ (hP.sub (ws' := [(xb, c6 xb_0 (.ref xf) xb_2 xb_3 (.ref xa) b), (xf, c2 (.ref xs) (.ref xp) (.ref xq) f), (xp, c1 ep), (xq, c1 eq), (xs, c5 st), (xa, c0 (.ref yf) xa_1), (yf, c2 (.ref xs) (.ref yp) (.ref yq) g), (yp, c1 gp), (yq, c1 gq)]) [0, 8, 1, 2, 3, 4, 5, 6, 7] rfl) (hD.sub (ws' := [(xb, c6 xb_0 (.ref xf) xb_2 xb_3 (.ref xa) b), (xf, c2 (.ref xs) (.ref xp) (.ref xq) f), (xp, c1 ep), (xq, c1 eq), (xs, c5 st), (xa, c0 (.ref yf) xa_1), (yf, c2 (.ref xs) (.ref yp) (.ref yq) g), (yp, c1 gp), (yq, c1 gq)]) [0, 8, 1, 2, 3, 4, 5, 6, 7] (by decide) rfl) hS dX6_toPilot_11 rfl ⟨(g, gp, gq), (by rw [hsp]), rfl⟩ (Nat.le_of_ble_eq_true rfl) (Nat.le_of_ble_eq_true rfl)
