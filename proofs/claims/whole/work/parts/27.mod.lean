theorem cw_cnt200m {x : Int32} (h : ¬ s7_in x 1 200 = 0) : cw_cnt x.toInt 0 201 := by
  have h8 : (200 : Int32).toInt = 200 := by decide
  have h9 : (1 : Int32).toInt = 1 := by decide
  have h7 : (0 : Int32).toInt = 0 := by decide
  simp only [s7_in] at h
  by_cases c1 : x < 1
  · rw [if_pos c1] at h; exact absurd rfl h
  · rw [if_neg c1] at h
    by_cases c2 : 200 < x
    · rw [if_pos c2] at h; exact absurd rfl h
    · have d1 := cw_le2 c1
      have d2 := cw_le2 c2
      rw [h9] at d1
      rw [h8] at d2
      refine ⟨by rw [h7]; omega, by rw [h7]; omega, by rw [h7]; omega, by omega⟩
theorem cw_bigS {x : Int32} {n : Nat} (h0 : 0 ≤ x.toInt) (h1 : x.toInt + (n + 1 : Nat) < 1000000) : 0 ≤ (x + 1).toInt ∧ (x + 1).toInt + n < 1000000 := by
  have h := cw_inc h0 (by omega)
  constructor <;> omega
theorem cw_poll7 {c : Prop} [Decidable c] (l : Nat → Int32) (a x y z : Int32) (n1 n2 n3 : Nat → Int32) {n : Nat} (h8 : ¬ l 8 = 0) (h0 : 0 ≤ (l 24).toInt) (h1 : (l 24).toInt + (n + 1 : Nat) < 1000000) :
    ¬ (upd (upd (if c then upd (s7_plays l a) 21 x else (s7_notes (upd (s7_plays l a) 21 x) n1 n2 n3).1) 22 y) 23 z) 8 = 0 ∧ 0 ≤ ((upd (upd (if c then upd (s7_plays l a) 21 x else (s7_notes (upd (s7_plays l a) 21 x) n1 n2 n3).1) 22 y) 23 z) 24).toInt ∧
      ((upd (upd (if c then upd (s7_plays l a) 21 x else (s7_notes (upd (s7_plays l a) 21 x) n1 n2 n3).1) 22 y) 23 z) 24).toInt + n < 1000000 := by
  have e8 := f7_plays l a 8 (Or.inl (by decide))
  have e24 := f7_plays l a 24 (Or.inr (by decide))
  have hb := cw_bigS h0 h1
  by_cases hc : c
  · simp only [if_pos hc]
    simp [upd, e8, e24, h8]
    constructor <;> omega
  · simp only [if_neg hc]
    simp [s7_notes, upd, e8, e24, h8]
    simpa using hb
theorem cw_inB {a i : Int32} {B : Int} {n : Nat} (ha : vp_in a 512) (h : cw_cnt B i n) (z : ¬ a ≤ i) : vp_in i 512 := by
  rw [vp_in_iff] at ha ⊢
  have h9 := cw_lt1 z
  exact ⟨h.1, by omega⟩
theorem cw_cnt512 {a : Int32} (ha : vp_in a 512) : cw_cnt a.toInt 0 513 := by
  rw [vp_in_iff] at ha
  have h7 : (0 : Int32).toInt = 0 := by decide
  refine ⟨by rw [h7]; omega, by rw [h7]; omega, by rw [h7]; omega, by omega⟩

def s7_poll_L (mm : Nat → Int32) (n1 : Nat → Int32) (n2 : Nat → Int32) (n3 : Nat → Int32) (a1 : Int32) : Nat → (Nat → Int32) → (Nat → Int32) → (Nat → Int32) → (Nat → Int32) → Int32 → Int32 → Int32 × (Nat → Int32) × (Nat → Int32) × (Nat → Int32) × (Nat → Int32)
  | 0, _, _, _, _, _, _ => (0, (fun _ => 0), (fun _ => 0), (fun _ => 0), (fun _ => 0))
  | n9 + 1, l_xm, l_ja, l_jb, l_jc, l_2, l_3 => (if a1 ≤ l_3 then (((l_xm 24) - l_2), l_xm, l_ja, l_jb, l_jc) else (let v35 : Nat → Int32 := (s7_plays l_xm (l_xm 0)); (let w44 : Nat → Int32 := (if (v35 12) = (l_xm 12) then l_ja else ((s7_notes (upd v35 21 ((v35 21) + 1)) l_ja l_jb l_jc).2.1)); (let w45 : Nat → Int32 := (if (v35 12) = (l_xm 12) then l_jb else ((s7_notes (upd v35 21 ((v35 21) + 1)) l_ja l_jb l_jc).2.2.1)); (let w46 : Nat → Int32 := (if (v35 12) = (l_xm 12) then l_jc else ((s7_notes (upd v35 21 ((v35 21) + 1)) l_ja l_jb l_jc).2.2.2)); (let w47 : Nat → Int32 := (if (v35 12) = (l_xm 12) then (upd v35 21 ((v35 21) + 1)) else ((s7_notes (upd v35 21 ((v35 21) + 1)) l_ja l_jb l_jc).1)); (let r49 : Int32 := (s7_in (l_xm 12) 2 4); (let w53 : Int32 := (if r49 = 0 then 0 else (if (w47 18) = 0 then ((w47 22) + 1) else 0)); (let w56 : Int32 := (if w53 ≤ (w47 23) then (w47 23) else w53); (s7_poll_L mm n1 n2 n3 a1 n9 (upd (upd w47 22 w53) 23 w56) w44 w45 w46 l_2 (l_3 + 1)))))))))))
def s7_poll (mm : Nat → Int32) (n1 : Nat → Int32) (n2 : Nat → Int32) (n3 : Nat → Int32) (a1 : Int32) : Int32 × (Nat → Int32) × (Nat → Int32) × (Nat → Int32) × (Nat → Int32) := (let r2 : Int32 := (s7_in a1 1 200); (let v5 : Nat → Int32 := ((s7_asks mm r2).2); (let r4 : Int32 := ((s7_asks mm r2).1); (if r4 = 0 then (0, v5, n1, n2, n3) else (s7_poll_L mm n1 n2 n3 a1 201 v5 n1 n2 n3 (v5 24) 0)))))

def s7_adds_L (mm : Nat → Int32) (nt : Nat → Int64) (a1 : Int32) : Nat → Int64 → Int32 → Int32 → Int32 × (Nat → Int64)
  | 0, _, _, _ => (0, (fun _ => 0))
  | n9 + 1, l_2, l_4, l_5 => (if a1 ≤ l_5 then (let w11 : Nat → Int64 := (if l_4 = 0 then nt else (vp_updL nt a1.toNatClampNeg l_2)); (let w14 : Int32 := (if l_4 = 0 then a1 else (a1 + 1)); (w14, w11))) else (if l_4 = 0 then (let w22 : Nat → Int64 := (if l_4 = 0 then nt else (vp_updL nt a1.toNatClampNeg l_2)); (let w25 : Int32 := (if l_4 = 0 then a1 else (a1 + 1)); (w25, w22))) else (let w28 : Int32 := (if (lg_cmp (nt l_5.toNatClampNeg) l_2) = 0 then 0 else 1); (s7_adds_L mm nt a1 n9 l_2 w28 (l_5 + 1)))))
def s7_adds (mm : Nat → Int32) (nt : Nat → Int64) (a1 : Int32) : Int32 × (Nat → Int64) := (let r2 : Int64 := (s7_packs mm); (s7_adds_L mm nt a1 513 r2 1 0))

def s7_toPilot_L (mm : Nat → Int32) : Nat → (Nat → Int32) → Int64 → Int32 → Int32 × (Nat → Int32)
  | 0, _, _, _ => (0, (fun _ => 0))
  | n9 + 1, l_xm, l_1, l_3 => (if (l_xm 12) = 2 then (let w13 : Int32 := (if (l_xm 12) = 2 then 1 else 0); (let v16 : Nat → Int32 := (s7_unpacks l_xm l_1); (let w19 : Int32 := (if w13 = 0 then (-1) else l_3); (w19, v16)))) else (if 300 ≤ l_3 then (let w27 : Int32 := (if (l_xm 12) = 2 then 1 else 0); (let v30 : Nat → Int32 := (s7_unpacks l_xm l_1); (let w33 : Int32 := (if w27 = 0 then (-1) else l_3); (w33, v30)))) else (let v36 : Nat → Int32 := (s7_plays l_xm (((l_xm 0) &&& 32) ||| 7)); (s7_toPilot_L mm n9 v36 l_1 (l_3 + 1)))))
def s7_toPilot (mm : Nat → Int32) : Int32 × (Nat → Int32) := (if (mm 12) = 2 then (0, (upd mm 34 0)) else (if (mm 12) = 3 then (0, (upd mm 34 0)) else (let r4 : Int64 := (s7_packs (upd mm 34 0)); (s7_toPilot_L mm 301 (upd mm 34 0) r4 0))))


set_option maxHeartbeats 4000000 in
set_option maxRecDepth 100000 in
theorem k7_poll (l : Launch) (D : va_G) (cI cJ : ClassId) (xm ja jb jc : Nat) (xm_29 xm_30 xm_31 : Value) (mm : Nat → Int32) (n1 : Nat → Int32) (n2 : Nat → Int32) (n3 : Nat → Int32) (a1 : Int32) (hck : ¬ mm 8 = 0) (h24 : 0 ≤ (mm 24).toInt ∧ (mm 24).toInt < 900000) : cw_Mi l yX7_poll wsX7_poll (cw_rm 6) D [(cI, .int), (cJ, .long)] [.ref xm, .int a1] [(xm, c7 (.ref ja) (.ref jb) (.ref jc) xm_29 xm_30 xm_31 mm), (ja, .inl (cI, 100, .inl n1)), (jb, .inl (cI, 100, .inl n2)), (jc, .inl (cI, 100, .inl n3))] 0 0 (fun r (_ : Unit) => r = (s7_poll mm n1 n2 n3 a1).1) (fun _ : Unit => [(xm, c7 (.ref ja) (.ref jb) (.ref jc) xm_29 xm_30 xm_31 (s7_poll mm n1 n2 n3 a1).2.1), (ja, .inl (cI, 100, .inl (s7_poll mm n1 n2 n3 a1).2.2.1)), (jb, .inl (cI, 100, .inl (s7_poll mm n1 n2 n3 a1).2.2.2.1)), (jc, .inl (cI, 100, .inl (s7_poll mm n1 n2 n3 a1).2.2.2.2))]) := by
  refine cw_ofi (cc := cX7_poll) (maxL := 5) (ret := (some .int)) (by decide) rfl (Nat.le_of_ble_eq_true rfl) rfl ?_
  intro p e s m args below meth c A ls Q hin0 hret
  obtain ⟨hx, hb, hr, hml, hts, hown, hlocks, hin, hP, hK, hD, hN, hA, hl⟩ := hin0
  have hS : va_S A s.heap s.heap [] := va_S.rf
  have hl : lv_has ls 5 [(0, .ref xm), (1, .int a1)] := hl
  have lf143 := hts (.fieldLink RX7 143 "BurnerlineModel" "changes" "I") (by decide +kernel)
  have i7 : ∀ w ∈ wsX70, w ∈ wsX7_poll := by decide +kernel
  have lf77 := hts (.fieldLink RX7 77 "BurnerlineModel" "state" "I") (by decide +kernel)
  have lf74 := hts (.fieldLink RX7 74 "BurnerlineModel" "signals" "I") (by decide +kernel)
  have lf146 := hts (.fieldLink RX7 146 "BurnerlineModel" "ticks" "I") (by decide +kernel)
  have lf87 := hts (.fieldLink RX7 87 "BurnerlineModel" "seen" "I") (by decide +kernel)
  have lf155 := hts (.fieldLink RX7 155 "BurnerlineModel" "unlit" "I") (by decide +kernel)
  have lf158 := hts (.fieldLink RX7 158 "BurnerlineModel" "longestUnlit" "I") (by decide +kernel)
  have LOOP : ∀ (n9 : Nat) (l_xm : Nat → Int32) (l_ja : Nat → Int32) (l_jb : Nat → Int32) (l_jc : Nat → Int32) (l_2 : Int32) (l_3 : Int32), (cw_cnt a1.toInt l_3 n9 ∧ ¬ l_xm 8 = 0 ∧ 0 ≤ (l_xm 24).toInt ∧ (l_xm 24).toInt + n9 < 1000000) → s7_poll_L mm n1 n2 n3 a1 n9 l_xm l_ja l_jb l_jc l_2 l_3 = (s7_poll mm n1 n2 n3 a1) → ∀ (H : Heap) (locs : List Loc), va_P D vwCl [(xm, c7 (.ref ja) (.ref jb) (.ref jc) xm_29 xm_30 xm_31 l_xm), (ja, .inl (cI, 100, .inl l_ja)), (jb, .inl (cI, 100, .inl l_jb)), (jc, .inl (cI, 100, .inl l_jc))] H → va_D A [(xm, c7 (.ref ja) (.ref jb) (.ref jc) xm_29 xm_30 xm_31 l_xm), (ja, .inl (cI, 100, .inl l_ja)), (jb, .inl (cI, 100, .inl l_jb)), (jc, .inl (cI, 100, .inl l_jc))] → va_S A s.heap H locs → ∀ (ls : Array Slot), lv_has ls 5 [(0, .ref xm), (1, .int a1), (2, .int l_2), (3, .int l_3)] → W p l e (cw_rm 6) s m args below meth c H locs 0 0 (Q) (F0 m 24 ls []) := by
    intro n9
    induction n9 with
    | zero =>
      intro l_xm l_ja l_jb l_jc l_2 l_3 hinv
      exact ((fun h => cw_cnt0 h.1) hinv).elim
    | succ n9 ih =>
      intro l_xm l_ja l_jb l_jc l_2 l_3 hinv hI H locs hP hD hS ls hl
      refine lv_iload_n hx hb dX7_poll_24 rfl (lv_at hl 3 rfl) ?_
      refine lv_iload_n hx hb dX7_poll_25 rfl (lv_at hl 1 rfl) ?_
      refine lv_icmp_ge (tgt := 129) hx hb dX7_poll_26 (by decide) (fun z7 => ?_) (fun z7 => ?_)
      · refine lv_aload_n hx hb dX7_poll_129 rfl (lv_at hl 0 rfl) ?_
        refine va_get (D := D) (ci := 7) (v := .int (l_xm 24)) (C := RX7) (T := TX7) (N := 35) hx hb hts i7 hown hK hP 0 rfl rfl 24 (by decide) lf143 (fun _ h9 => h9) rfl dX7_poll_130 ?_
        refine lv_iload_n hx hb dX7_poll_133 rfl (lv_at hl 2 rfl) ?_
        refine lv_isub hx hb dX7_poll_134 ?_
        have hsp : (s7_poll mm n1 n2 n3 a1) = ((((l_xm 24) - l_2), l_xm, l_ja, l_jb, l_jc) : Int32 × (Nat → Int32) × (Nat → Int32) × (Nat → Int32) × (Nat → Int32)) := by rw [← hI]; simp only [s7_poll_L, if_pos z7]
        exact hret _ _ _ _ _ _ _ _ hP hD hS dX7_poll_135 rfl ⟨(), (by rw [hsp]), (by rw [hsp])⟩ (Nat.le_of_ble_eq_true rfl) (Nat.le_of_ble_eq_true rfl)
      · refine lv_aload_n hx hb dX7_poll_29 rfl (lv_at hl 0 rfl) ?_
        refine va_get (D := D) (ci := 7) (v := .int (l_xm 12)) (C := RX7) (T := TX7) (N := 35) hx hb hts i7 hown hK hP 0 rfl rfl 12 (by decide) lf77 (fun _ h9 => h9) rfl dX7_poll_30 ?_
        refine lv_istore (lv' := [(4, .int (l_xm 12)), (0, .ref xm), (1, .int a1), (2, .int l_2), (3, .int l_3)]) hx hb dX7_poll_33 hl (by decide) rfl (fun ls hl => ?_)
        refine lv_aload_n hx hb dX7_poll_35 rfl (lv_at hl 1 rfl) ?_
        refine lv_aload_n hx hb dX7_poll_36 rfl (lv_at hl 1 rfl) ?_
        refine va_get (D := D) (ci := 7) (v := .int (l_xm 0)) (C := RX7) (T := TX7) (N := 35) hx hb hts i7 hown hK hP 0 rfl rfl 0 (by decide) lf74 (fun _ h9 => h9) rfl dX7_poll_37 ?_
        refine cw_cVv (As := [.int (l_xm 0)]) (rest := []) (wc := [(xm, c7 (.ref ja) (.ref jb) (.ref jc) xm_29 xm_30 xm_31 l_xm)]) (wr := [(ja, .inl (cI, 100, .inl l_ja)), (jb, .inl (cI, 100, .inl l_jb)), (jc, .inl (cI, 100, .inl l_jc))]) ⟨hx, hb, hml, hown, hts⟩ (k7_plays l D cI cJ xm (.ref ja) (.ref jb) (.ref jc) xm_29 xm_30 xm_31 l_xm (l_xm 0) hinv.2.1) (cwV 1 hts gX7_poll_X7_plays rfl rfl rfl (by decide +kernel) ⟨Nat.le_of_ble_eq_true rfl, Nat.le_of_ble_eq_true rfl⟩) hK hN hP hD hS hA [0] [1, 2, 3] rfl rfl (by decide) (by decide) (by decide) 0 (ci := 7) rfl rfl rfl rfl hl.1 rfl (Nat.le_of_ble_eq_true rfl) dX7_poll_40 ⟨Nat.le_of_ble_eq_true rfl, Nat.le_of_ble_eq_true rfl⟩ (fun u33 H locs hw hP hD hS => ?_)
        obtain ⟨v35, hv35⟩ : ∃ z : Nat → Int32, z = (s7_plays l_xm (l_xm 0)) := ⟨_, rfl⟩
        have hP : va_P D vwCl [(ja, .inl (cI, 100, .inl l_ja)), (jb, .inl (cI, 100, .inl l_jb)), (jc, .inl (cI, 100, .inl l_jc)), (xm, c7 (.ref ja) (.ref jb) (.ref jc) xm_29 xm_30 xm_31 v35)] H := by rw [hv35]; exact hP
        have hD : va_D A [(ja, .inl (cI, 100, .inl l_ja)), (jb, .inl (cI, 100, .inl l_jb)), (jc, .inl (cI, 100, .inl l_jc)), (xm, c7 (.ref ja) (.ref jb) (.ref jc) xm_29 xm_30 xm_31 v35)] := by rw [hv35]; exact hD
        refine lv_aload_n hx hb dX7_poll_43 rfl (lv_at hl 1 rfl) ?_
        refine lv_dup hx hb dX7_poll_44 rfl ?_
        refine va_get (D := D) (ci := 7) (v := .int (v35 21)) (C := RX7) (T := TX7) (N := 35) hx hb hts i7 hown hK hP 3 rfl rfl 21 (by decide) lf146 (fun _ h9 => h9) rfl dX7_poll_45 ?_
        refine lv_iconst (v := 1) hx hb dX7_poll_48 (by decide) ?_
        refine lv_iadd hx hb dX7_poll_49 ?_
        refine va_put (D := D) (ci := 7) (v := .int ((v35 21) + 1)) (ty := .int) (C := RX7) (T := TX7) (N := 35) hx hb hts i7 tyX7 tyX7_ok nmX7 hown hK hP hD hS 3 rfl rfl 21 (by decide) lf146 (fun _ h9 => h9) rfl (by decide +kernel) rfl rfl (Nat.le_of_ble_eq_true rfl) dX7_poll_50 (fun H locs hP hD hS => ?_)
        have hP : va_P D vwCl [(ja, .inl (cI, 100, .inl l_ja)), (jb, .inl (cI, 100, .inl l_jb)), (jc, .inl (cI, 100, .inl l_jc)), (xm, c7 (.ref ja) (.ref jb) (.ref jc) xm_29 xm_30 xm_31 (upd v35 21 ((v35 21) + 1)))] H := (congrArg (fun z9 => va_P D vwCl [(ja, .inl (cI, 100, .inl l_ja)), (jb, .inl (cI, 100, .inl l_jb)), (jc, .inl (cI, 100, .inl l_jc)), (xm, .inr (7, z9))] H) (cs7_21 (.ref ja) (.ref jb) (.ref jc) xm_29 xm_30 xm_31 v35 ((v35 21) + 1))).mp hP
        have hD : va_D A [(ja, .inl (cI, 100, .inl l_ja)), (jb, .inl (cI, 100, .inl l_jb)), (jc, .inl (cI, 100, .inl l_jc)), (xm, c7 (.ref ja) (.ref jb) (.ref jc) xm_29 xm_30 xm_31 (upd v35 21 ((v35 21) + 1)))] := (congrArg (fun z9 => va_D A [(ja, .inl (cI, 100, .inl l_ja)), (jb, .inl (cI, 100, .inl l_jb)), (jc, .inl (cI, 100, .inl l_jc)), (xm, .inr (7, z9))]) (cs7_21 (.ref ja) (.ref jb) (.ref jc) xm_29 xm_30 xm_31 v35 ((v35 21) + 1))).mp hD
        refine lv_aload_n hx hb dX7_poll_53 rfl (lv_at hl 1 rfl) ?_
        refine va_get (D := D) (ci := 7) (v := .int ((upd v35 21 ((v35 21) + 1)) 12)) (C := RX7) (T := TX7) (N := 35) hx hb hts i7 hown hK hP 3 rfl rfl 12 (by decide) lf77 (fun _ h9 => h9) rfl dX7_poll_54 ?_
        refine cw_topi (y := (v35 12)) (cw_updn _ _ (by decide)) ?_
        refine lv_iload hx hb dX7_poll_57 (lv_at hl 0 rfl) ?_
        have J43 : ∀ (w44 : Nat → Int32), w44 = (if (v35 12) = (l_xm 12) then l_ja else ((s7_notes (upd v35 21 ((v35 21) + 1)) l_ja l_jb l_jc).2.1)) → ∀ (w45 : Nat → Int32), w45 = (if (v35 12) = (l_xm 12) then l_jb else ((s7_notes (upd v35 21 ((v35 21) + 1)) l_ja l_jb l_jc).2.2.1)) → ∀ (w46 : Nat → Int32), w46 = (if (v35 12) = (l_xm 12) then l_jc else ((s7_notes (upd v35 21 ((v35 21) + 1)) l_ja l_jb l_jc).2.2.2)) → ∀ (w47 : Nat → Int32), w47 = (if (v35 12) = (l_xm 12) then (upd v35 21 ((v35 21) + 1)) else ((s7_notes (upd v35 21 ((v35 21) + 1)) l_ja l_jb l_jc).1)) → ∀ (H : Heap) (locs : List Loc), va_P D vwCl [(ja, .inl (cI, 100, .inl w44)), (jb, .inl (cI, 100, .inl w45)), (jc, .inl (cI, 100, .inl w46)), (xm, c7 (.ref ja) (.ref jb) (.ref jc) xm_29 xm_30 xm_31 w47)] H → va_D A [(ja, .inl (cI, 100, .inl w44)), (jb, .inl (cI, 100, .inl w45)), (jc, .inl (cI, 100, .inl w46)), (xm, c7 (.ref ja) (.ref jb) (.ref jc) xm_29 xm_30 xm_31 w47)] → va_S A s.heap H locs → W p l e (cw_rm 6) s m args below meth c H locs 0 0 (Q) (F0 m 66 ls []) := by
          intro w44 hw44 w45 hw45 w46 hw46 w47 hw47 H locs hP hD hS
          refine lv_aload_n hx hb dX7_poll_66 rfl (lv_at hl 1 rfl) ?_
          refine lv_iload hx hb dX7_poll_67 (lv_at hl 0 rfl) ?_
          refine lv_iconst (v := 2) hx hb dX7_poll_69 (by decide) ?_
          refine lv_iconst (v := 4) hx hb dX7_poll_70 (by decide) ?_
          refine cw_cSi (As := [.int (l_xm 12), .int 2, .int 4]) (rest := [.ref xm]) (wc := []) (wr := [(ja, .inl (cI, 100, .inl w44)), (jb, .inl (cI, 100, .inl w45)), (jc, .inl (cI, 100, .inl w46)), (xm, c7 (.ref ja) (.ref jb) (.ref jc) xm_29 xm_30 xm_31 w47)]) ⟨hx, hb, hml, hown, hts⟩ (k7_in l D cI cJ (l_xm 12) 2 4) (va_cwS 3 hts gX7_poll_X7_in rfl rfl rfl (by decide +kernel) ⟨Nat.le_of_ble_eq_true rfl, Nat.le_of_ble_eq_true rfl⟩) hK hN hP hD hS hA [] [0, 1, 2, 3] rfl rfl (by decide) (by decide) (by decide) rfl hl.1 rfl (Nat.le_of_ble_eq_true rfl) dX7_poll_71 ⟨Nat.le_of_ble_eq_true rfl, Nat.le_of_ble_eq_true rfl⟩ (fun r49 u48 H locs hw hP hD hS => ?_)
          have hr49 : r49 = (s7_in (l_xm 12) 2 4) := hw
          have hP : va_P D vwCl [(ja, .inl (cI, 100, .inl w44)), (jb, .inl (cI, 100, .inl w45)), (jc, .inl (cI, 100, .inl w46)), (xm, c7 (.ref ja) (.ref jb) (.ref jc) xm_29 xm_30 xm_31 w47)] H := hP
          have hD : va_D A [(ja, .inl (cI, 100, .inl w44)), (jb, .inl (cI, 100, .inl w45)), (jc, .inl (cI, 100, .inl w46)), (xm, c7 (.ref ja) (.ref jb) (.ref jc) xm_29 xm_30 xm_31 w47)] := hD
          have J52 : ∀ (w53 : Int32), w53 = (if r49 = 0 then 0 else (if (w47 18) = 0 then ((w47 22) + 1) else 0)) → W p l e (cw_rm 6) s m args below meth c H locs 0 0 (Q) (F0 m 94 ls [.int w53, .ref xm]) := by
            intro w53 hw53
            refine va_put (D := D) (ci := 7) (v := .int w53) (ty := .int) (C := RX7) (T := TX7) (N := 35) hx hb hts i7 tyX7 tyX7_ok nmX7 hown hK hP hD hS 3 rfl rfl 22 (by decide) lf155 (fun _ h9 => h9) rfl (by decide +kernel) rfl rfl (Nat.le_of_ble_eq_true rfl) dX7_poll_94 (fun H locs hP hD hS => ?_)
            have hP : va_P D vwCl [(ja, .inl (cI, 100, .inl w44)), (jb, .inl (cI, 100, .inl w45)), (jc, .inl (cI, 100, .inl w46)), (xm, c7 (.ref ja) (.ref jb) (.ref jc) xm_29 xm_30 xm_31 (upd w47 22 w53))] H := (congrArg (fun z9 => va_P D vwCl [(ja, .inl (cI, 100, .inl w44)), (jb, .inl (cI, 100, .inl w45)), (jc, .inl (cI, 100, .inl w46)), (xm, .inr (7, z9))] H) (cs7_22 (.ref ja) (.ref jb) (.ref jc) xm_29 xm_30 xm_31 w47 w53)).mp hP
            have hD : va_D A [(ja, .inl (cI, 100, .inl w44)), (jb, .inl (cI, 100, .inl w45)), (jc, .inl (cI, 100, .inl w46)), (xm, c7 (.ref ja) (.ref jb) (.ref jc) xm_29 xm_30 xm_31 (upd w47 22 w53))] := (congrArg (fun z9 => va_D A [(ja, .inl (cI, 100, .inl w44)), (jb, .inl (cI, 100, .inl w45)), (jc, .inl (cI, 100, .inl w46)), (xm, .inr (7, z9))]) (cs7_22 (.ref ja) (.ref jb) (.ref jc) xm_29 xm_30 xm_31 w47 w53)).mp hD
            refine lv_aload_n hx hb dX7_poll_97 rfl (lv_at hl 1 rfl) ?_
            refine lv_aload_n hx hb dX7_poll_98 rfl (lv_at hl 1 rfl) ?_
            refine va_get (D := D) (ci := 7) (v := .int ((upd w47 22 w53) 22)) (C := RX7) (T := TX7) (N := 35) hx hb hts i7 hown hK hP 3 rfl rfl 22 (by decide) lf155 (fun _ h9 => h9) rfl dX7_poll_99 ?_
            refine cw_topi (y := w53) (cw_upd0 _ _ _) ?_
            refine lv_aload_n hx hb dX7_poll_102 rfl (lv_at hl 1 rfl) ?_
            refine va_get (D := D) (ci := 7) (v := .int ((upd w47 22 w53) 23)) (C := RX7) (T := TX7) (N := 35) hx hb hts i7 hown hK hP 3 rfl rfl 23 (by decide) lf158 (fun _ h9 => h9) rfl dX7_poll_103 ?_
            refine cw_topi (y := (w47 23)) (cw_updn _ _ (by decide)) ?_
            have J55 : ∀ (w56 : Int32), w56 = (if w53 ≤ (w47 23) then (w47 23) else w53) → W p l e (cw_rm 6) s m args below meth c H locs 0 0 (Q) (F0 m 120 ls [.int w56, .ref xm]) := by
              intro w56 hw56
              refine va_put (D := D) (ci := 7) (v := .int w56) (ty := .int) (C := RX7) (T := TX7) (N := 35) hx hb hts i7 tyX7 tyX7_ok nmX7 hown hK hP hD hS 3 rfl rfl 23 (by decide) lf158 (fun _ h9 => h9) rfl (by decide +kernel) rfl rfl (Nat.le_of_ble_eq_true rfl) dX7_poll_120 (fun H locs hP hD hS => ?_)
              have hP : va_P D vwCl [(ja, .inl (cI, 100, .inl w44)), (jb, .inl (cI, 100, .inl w45)), (jc, .inl (cI, 100, .inl w46)), (xm, c7 (.ref ja) (.ref jb) (.ref jc) xm_29 xm_30 xm_31 (upd (upd w47 22 w53) 23 w56))] H := (congrArg (fun z9 => va_P D vwCl [(ja, .inl (cI, 100, .inl w44)), (jb, .inl (cI, 100, .inl w45)), (jc, .inl (cI, 100, .inl w46)), (xm, .inr (7, z9))] H) (cs7_23 (.ref ja) (.ref jb) (.ref jc) xm_29 xm_30 xm_31 (upd w47 22 w53) w56)).mp hP
              have hD : va_D A [(ja, .inl (cI, 100, .inl w44)), (jb, .inl (cI, 100, .inl w45)), (jc, .inl (cI, 100, .inl w46)), (xm, c7 (.ref ja) (.ref jb) (.ref jc) xm_29 xm_30 xm_31 (upd (upd w47 22 w53) 23 w56))] := (congrArg (fun z9 => va_D A [(ja, .inl (cI, 100, .inl w44)), (jb, .inl (cI, 100, .inl w45)), (jc, .inl (cI, 100, .inl w46)), (xm, .inr (7, z9))]) (cs7_23 (.ref ja) (.ref jb) (.ref jc) xm_29 xm_30 xm_31 (upd w47 22 w53) w56)).mp hD
              refine lv_iinc (v := (l_3 + 1)) (lv' := [(3, .int (l_3 + 1)), (4, .int (l_xm 12)), (0, .ref xm), (1, .int a1), (2, .int l_2)]) hx hb dX7_poll_123 hl (k := 4) rfl rfl (by decide) rfl (fun ls hl => ?_)
              refine lv_goto (tgt := 24) hx hb dX7_poll_126 (by decide) ?_
              exact ih (upd (upd w47 22 w53) 23 w56) w44 w45 w46 l_2 (l_3 + 1) (by subst_vars; exact ⟨cw_cntS hinv.1 (cw_lt1 (by assumption)), cw_poll7 _ _ _ _ _ _ _ _ hinv.2.1 hinv.2.2.1 hinv.2.2.2⟩) (by rw [← hI]; simp only [s7_poll_L, ← hv35, ← hw44, ← hw45, ← hw46, ← hw47, ← hr49, ← hw53, ← hw56, if_neg z7]) _ _ (hP.sub [3, 0, 1, 2] rfl) (hD.sub [3, 0, 1, 2] (by decide) rfl) hS _ (lv_sub hl [2, 3, 4, 0] rfl)
            refine lv_icmp_le (tgt := 116) hx hb dX7_poll_106 (by decide) (fun z54 => ?_) (fun z54 => ?_)
            · refine lv_aload_n hx hb dX7_poll_116 rfl (lv_at hl 1 rfl) ?_
              refine va_get (D := D) (ci := 7) (v := .int ((upd w47 22 w53) 23)) (C := RX7) (T := TX7) (N := 35) hx hb hts i7 hown hK hP 3 rfl rfl 23 (by decide) lf158 (fun _ h9 => h9) rfl dX7_poll_117 ?_
              refine cw_topi (y := (w47 23)) (cw_updn _ _ (by decide)) ?_
              exact J55 (w47 23) (by simp only [if_pos z54])
            · refine lv_aload_n hx hb dX7_poll_109 rfl (lv_at hl 1 rfl) ?_
              refine va_get (D := D) (ci := 7) (v := .int ((upd w47 22 w53) 22)) (C := RX7) (T := TX7) (N := 35) hx hb hts i7 hown hK hP 3 rfl rfl 22 (by decide) lf155 (fun _ h9 => h9) rfl dX7_poll_110 ?_
              refine cw_topi (y := w53) (cw_upd0 _ _ _) ?_
              refine lv_goto (tgt := 120) hx hb dX7_poll_113 (by decide) ?_
              exact J55 w53 (by simp only [if_neg z54])
          refine lv_if_eq (tgt := 93) hx hb dX7_poll_74 (by decide) (fun z50 => ?_) (fun z50 => ?_)
          · refine lv_iconst (v := 0) hx hb dX7_poll_93 (by decide) ?_
            exact J52 0 (by simp only [if_pos z50])
          · refine lv_aload_n hx hb dX7_poll_77 rfl (lv_at hl 1 rfl) ?_
            refine va_get (D := D) (ci := 7) (v := .int (w47 18)) (C := RX7) (T := TX7) (N := 35) hx hb hts i7 hown hK hP 3 rfl rfl 18 (by decide) lf87 (fun _ h9 => h9) rfl dX7_poll_78 ?_
            refine lv_if_ne (tgt := 93) hx hb dX7_poll_81 (by decide) (fun z51 => ?_) (fun z51 => ?_)
            · refine lv_iconst (v := 0) hx hb dX7_poll_93 (by decide) ?_
              exact J52 0 (by simp only [if_neg z50, if_neg z51])
            · refine lv_aload_n hx hb dX7_poll_84 rfl (lv_at hl 1 rfl) ?_
              refine va_get (D := D) (ci := 7) (v := .int (w47 22)) (C := RX7) (T := TX7) (N := 35) hx hb hts i7 hown hK hP 3 rfl rfl 22 (by decide) lf155 (fun _ h9 => h9) rfl dX7_poll_85 ?_
              refine lv_iconst (v := 1) hx hb dX7_poll_88 (by decide) ?_
              refine lv_iadd hx hb dX7_poll_89 ?_
              refine lv_goto (tgt := 94) hx hb dX7_poll_90 (by decide) ?_
              exact J52 ((w47 22) + 1) (by simp only [if_neg z50, if_pos z51])
        refine lv_icmp_eq (tgt := 66) hx hb dX7_poll_59 (by decide) (fun z36 => ?_) (fun z36 => ?_)
        · exact J43 l_ja (by simp only [if_pos z36]) l_jb (by simp only [if_pos z36]) l_jc (by simp only [if_pos z36]) (upd v35 21 ((v35 21) + 1)) (by simp only [if_pos z36]) _ _ hP hD hS
        · refine lv_aload_n hx hb dX7_poll_62 rfl (lv_at hl 1 rfl) ?_
          refine cw_cVv (As := []) (rest := []) (wc := [(xm, c7 (.ref ja) (.ref jb) (.ref jc) xm_29 xm_30 xm_31 (upd v35 21 ((v35 21) + 1))), (ja, .inl (cI, 100, .inl l_ja)), (jb, .inl (cI, 100, .inl l_jb)), (jc, .inl (cI, 100, .inl l_jc))]) (wr := []) ⟨hx, hb, hml, hown, hts⟩ (k7_notes l D cI cJ xm ja jb jc xm_29 xm_30 xm_31 (upd v35 21 ((v35 21) + 1)) l_ja l_jb l_jc (by subst_vars; simp only [upd, if_neg (show ¬ (24 : Nat) = 21 by decide), f7_plays _ _ 24 (Or.inr (by decide))]; exact cw_modN rfl (by decide) (by decide) hinv.2.2.1)) (cwV 0 hts gX7_poll_X7_notes rfl rfl rfl (by decide +kernel) ⟨Nat.le_of_ble_eq_true rfl, Nat.le_of_ble_eq_true rfl⟩) hK hN hP hD hS hA [3, 0, 1, 2] [] rfl rfl (by decide) (by decide) (by decide) 0 (ci := 7) rfl rfl rfl rfl hl.1 rfl (Nat.le_of_ble_eq_true rfl) dX7_poll_63 ⟨Nat.le_of_ble_eq_true rfl, Nat.le_of_ble_eq_true rfl⟩ (fun u37 H locs hw hP hD hS => ?_)
          obtain ⟨v39, hv39⟩ : ∃ z : Nat → Int32, z = ((s7_notes (upd v35 21 ((v35 21) + 1)) l_ja l_jb l_jc).1) := ⟨_, rfl⟩
          obtain ⟨v40, hv40⟩ : ∃ z : Nat → Int32, z = ((s7_notes (upd v35 21 ((v35 21) + 1)) l_ja l_jb l_jc).2.1) := ⟨_, rfl⟩
          obtain ⟨v41, hv41⟩ : ∃ z : Nat → Int32, z = ((s7_notes (upd v35 21 ((v35 21) + 1)) l_ja l_jb l_jc).2.2.1) := ⟨_, rfl⟩
          obtain ⟨v42, hv42⟩ : ∃ z : Nat → Int32, z = ((s7_notes (upd v35 21 ((v35 21) + 1)) l_ja l_jb l_jc).2.2.2) := ⟨_, rfl⟩
          have hP : va_P D vwCl [(xm, c7 (.ref ja) (.ref jb) (.ref jc) xm_29 xm_30 xm_31 v39), (ja, .inl (cI, 100, .inl v40)), (jb, .inl (cI, 100, .inl v41)), (jc, .inl (cI, 100, .inl v42))] H := by rw [hv39, hv40, hv41, hv42]; exact hP
          have hD : va_D A [(xm, c7 (.ref ja) (.ref jb) (.ref jc) xm_29 xm_30 xm_31 v39), (ja, .inl (cI, 100, .inl v40)), (jb, .inl (cI, 100, .inl v41)), (jc, .inl (cI, 100, .inl v42))] := by rw [hv39, hv40, hv41, hv42]; exact hD
          exact J43 v40 (by simp only [← hv39, ← hv40, ← hv41, ← hv42, if_neg z36]) v41 (by simp only [← hv39, ← hv40, ← hv41, ← hv42, if_neg z36]) v42 (by simp only [← hv39, ← hv40, ← hv41, ← hv42, if_neg z36]) v39 (by simp only [← hv39, ← hv40, ← hv41, ← hv42, if_neg z36]) _ _ (hP.sub [1, 2, 3, 0] rfl) (hD.sub [1, 2, 3, 0] (by decide) rfl) hS
  refine lv_aload_n hx hb dX7_poll_0 rfl (lv_at hl 0 rfl) ?_
  refine lv_iload_n hx hb dX7_poll_1 rfl (lv_at hl 1 rfl) ?_
  refine lv_iconst (v := 1) hx hb dX7_poll_2 (by decide) ?_
  refine lv_sipush (v := 200) hx hb dX7_poll_3 (by decide) ?_
  refine cw_cSi (As := [.int a1, .int 1, .int 200]) (rest := [.ref xm]) (wc := []) (wr := [(xm, c7 (.ref ja) (.ref jb) (.ref jc) xm_29 xm_30 xm_31 mm), (ja, .inl (cI, 100, .inl n1)), (jb, .inl (cI, 100, .inl n2)), (jc, .inl (cI, 100, .inl n3))]) ⟨hx, hb, hml, hown, hts⟩ (k7_in l D cI cJ a1 1 200) (va_cwS 3 hts gX7_poll_X7_in rfl rfl rfl (by decide +kernel) ⟨Nat.le_of_ble_eq_true rfl, Nat.le_of_ble_eq_true rfl⟩) hK hN hP hD hS hA [] [0, 1, 2, 3] rfl rfl (by decide) (by decide) (by decide) rfl hl.1 rfl (Nat.le_of_ble_eq_true rfl) dX7_poll_6 ⟨Nat.le_of_ble_eq_true rfl, Nat.le_of_ble_eq_true rfl⟩ (fun r2 u1 H locs hw hP hD hS => ?_)
  have hr2 : r2 = (s7_in a1 1 200) := hw
  have hP : va_P D vwCl [(xm, c7 (.ref ja) (.ref jb) (.ref jc) xm_29 xm_30 xm_31 mm), (ja, .inl (cI, 100, .inl n1)), (jb, .inl (cI, 100, .inl n2)), (jc, .inl (cI, 100, .inl n3))] H := hP
  have hD : va_D A [(xm, c7 (.ref ja) (.ref jb) (.ref jc) xm_29 xm_30 xm_31 mm), (ja, .inl (cI, 100, .inl n1)), (jb, .inl (cI, 100, .inl n2)), (jc, .inl (cI, 100, .inl n3))] := hD
  refine cw_cVi (As := [.int r2]) (rest := []) (wc := [(xm, c7 (.ref ja) (.ref jb) (.ref jc) xm_29 xm_30 xm_31 mm)]) (wr := [(ja, .inl (cI, 100, .inl n1)), (jb, .inl (cI, 100, .inl n2)), (jc, .inl (cI, 100, .inl n3))]) ⟨hx, hb, hml, hown, hts⟩ (k7_asks l D cI cJ xm (.ref ja) (.ref jb) (.ref jc) xm_29 xm_30 xm_31 mm r2 (by (try simp only [hr2]); (repeat' split) <;> first | exact Or.inl rfl | exact Or.inr rfl | assumption | exact z7_in _ _ _)) (cwV 1 hts gX7_poll_X7_asks rfl rfl rfl (by decide +kernel) ⟨Nat.le_of_ble_eq_true rfl, Nat.le_of_ble_eq_true rfl⟩) hK hN hP hD hS hA [0] [1, 2, 3] rfl rfl (by decide) (by decide) (by decide) 0 (ci := 7) rfl rfl rfl rfl hl.1 rfl (Nat.le_of_ble_eq_true rfl) dX7_poll_9 ⟨Nat.le_of_ble_eq_true rfl, Nat.le_of_ble_eq_true rfl⟩ (fun r4 u3 H locs hw hP hD hS => ?_)
  have hr4 : r4 = ((s7_asks mm r2).1) := hw
  obtain ⟨v5, hv5⟩ : ∃ z : Nat → Int32, z = ((s7_asks mm r2).2) := ⟨_, rfl⟩
  have hP : va_P D vwCl [(ja, .inl (cI, 100, .inl n1)), (jb, .inl (cI, 100, .inl n2)), (jc, .inl (cI, 100, .inl n3)), (xm, c7 (.ref ja) (.ref jb) (.ref jc) xm_29 xm_30 xm_31 v5)] H := by rw [hv5]; exact hP
  have hD : va_D A [(ja, .inl (cI, 100, .inl n1)), (jb, .inl (cI, 100, .inl n2)), (jc, .inl (cI, 100, .inl n3)), (xm, c7 (.ref ja) (.ref jb) (.ref jc) xm_29 xm_30 xm_31 v5)] := by rw [hv5]; exact hD
  refine lv_if_ne (tgt := 17) hx hb dX7_poll_12 (by decide) (fun z6 => ?_) (fun z6 => ?_)
  · refine lv_aload_n hx hb dX7_poll_17 rfl (lv_at hl 0 rfl) ?_
    refine va_get (D := D) (ci := 7) (v := .int (v5 24)) (C := RX7) (T := TX7) (N := 35) hx hb hts i7 hown hK hP 3 rfl rfl 24 (by decide) lf143 (fun _ h9 => h9) rfl dX7_poll_18 ?_
    refine lv_istore_n (lv' := [(2, .int (v5 24)), (0, .ref xm), (1, .int a1)]) hx hb dX7_poll_21 rfl hl (by decide) rfl (fun ls hl => ?_)
    refine lv_iconst (v := 0) hx hb dX7_poll_22 (by decide) ?_
    refine lv_istore_n (lv' := [(3, .int 0), (2, .int (v5 24)), (0, .ref xm), (1, .int a1)]) hx hb dX7_poll_23 rfl hl (by decide) rfl (fun ls hl => ?_)
    exact LOOP 201 v5 n1 n2 n3 (v5 24) 0 (by subst_vars; refine ⟨cw_cnt200m (by assumption), ?_, ?_, ?_⟩ <;> simp only [s7_asks, upd] <;> first | exact hck | exact h24.1 | (have h9 := h24.2; simp; omega)) (by simp only [s7_poll, ← hr2, ← hv5, ← hr4, if_neg z6]) _ _ (hP.sub [3, 0, 1, 2] rfl) (hD.sub [3, 0, 1, 2] (by decide) rfl) hS _ (lv_sub hl [2, 3, 1, 0] rfl)
  · refine lv_iconst (v := 0) hx hb dX7_poll_15 (by decide) ?_
    have hsp : (s7_poll mm n1 n2 n3 a1) = ((0, v5, n1, n2, n3) : Int32 × (Nat → Int32) × (Nat → Int32) × (Nat → Int32) × (Nat → Int32)) := by simp only [s7_poll, ← hr2, ← hv5, ← hr4, if_pos z6]
    exact hret _ _ _ _ _ _ _ _ (hP.sub (ws' := [(xm, c7 (.ref ja) (.ref jb) (.ref jc) xm_29 xm_30 xm_31 v5), (ja, .inl (cI, 100, .inl n1)), (jb, .inl (cI, 100, .inl n2)), (jc, .inl (cI, 100, .inl n3))]) [3, 0, 1, 2] rfl) (hD.sub (ws' := [(xm, c7 (.ref ja) (.ref jb) (.ref jc) xm_29 xm_30 xm_31 v5), (ja, .inl (cI, 100, .inl n1)), (jb, .inl (cI, 100, .inl n2)), (jc, .inl (cI, 100, .inl n3))]) [3, 0, 1, 2] (by decide) rfl) hS dX7_poll_16 rfl ⟨(), (by rw [hsp]), (by rw [hsp])⟩ (Nat.le_of_ble_eq_true rfl) (Nat.le_of_ble_eq_true rfl)

set_option maxHeartbeats 4000000 in
set_option maxRecDepth 100000 in
theorem k7_adds (l : Launch) (D : va_G) (cI cJ : ClassId) (xm jt : Nat) (xm_25 xm_26 xm_27 xm_29 xm_30 : Value) (mm : Nat → Int32) (nt : Nat → Int64) (a1 : Int32) (ha : vp_in a1 512) : cw_Mi l yX7_adds wsX7_adds (cw_rm 1) D [(cI, .int), (cJ, .long)] [.ref xm, .int a1] [(xm, c7 xm_25 xm_26 xm_27 xm_29 xm_30 (.ref jt) mm), (jt, .inl (cJ, 512, .inr (.inl nt)))] 0 0 (fun r (_ : Unit) => r = (s7_adds mm nt a1).1) (fun _ : Unit => [(xm, c7 xm_25 xm_26 xm_27 xm_29 xm_30 (.ref jt) mm), (jt, .inl (cJ, 512, .inr (.inl (s7_adds mm nt a1).2)))]) := by
  refine cw_ofi (cc := cX7_adds) (maxL := 6) (ret := (some .int)) (by decide) rfl (Nat.le_of_ble_eq_true rfl) rfl ?_
  intro p e s m args below meth c A ls Q hin0 hret
  obtain ⟨hx, hb, hr, hml, hts, hown, hlocks, hin, hP, hK, hD, hN, hA, hl⟩ := hin0
  have hS : va_S A s.heap s.heap [] := va_S.rf
  have hl : lv_has ls 6 [(0, .ref xm), (1, .int a1)] := hl
  have lf60 := hts (.fieldLink RX7 60 "BurnerlineModel" "then" "[J") (by decide +kernel)
  have i7 : ∀ w ∈ wsX70, w ∈ wsX7_adds := by decide +kernel
  have LOOP : ∀ (n9 : Nat) (l_2 : Int64) (l_4 : Int32) (l_5 : Int32), cw_cnt a1.toInt l_5 n9 → s7_adds_L mm nt a1 n9 l_2 l_4 l_5 = (s7_adds mm nt a1) → ∀ (H : Heap) (locs : List Loc), va_P D vwCl [(xm, c7 xm_25 xm_26 xm_27 xm_29 xm_30 (.ref jt) mm), (jt, .inl (cJ, 512, .inr (.inl nt)))] H → va_D A [(xm, c7 xm_25 xm_26 xm_27 xm_29 xm_30 (.ref jt) mm), (jt, .inl (cJ, 512, .inr (.inl nt)))] → va_S A s.heap H locs → ∀ (ls : Array Slot), lv_has ls 6 [(0, .ref xm), (1, .int a1), (2, .long l_2), (4, .int l_4), (5, .int l_5)] → W p l e (cw_rm 1) s m args below meth c H locs 0 0 (Q) (F0 m 11 ls []) := by
    intro n9
    induction n9 with
    | zero =>
      intro l_2 l_4 l_5 hinv
      exact (cw_cnt0 hinv).elim
    | succ n9 ih =>
      intro l_2 l_4 l_5 hinv hI H locs hP hD hS ls hl
      refine lv_iload hx hb dX7_adds_11 (lv_at hl 4 rfl) ?_
      refine lv_iload_n hx hb dX7_adds_13 rfl (lv_at hl 1 rfl) ?_
      refine lv_icmp_ge (tgt := 47) hx hb dX7_adds_14 (by decide) (fun z3 => ?_) (fun z3 => ?_)
      · refine lv_iload hx hb dX7_adds_47 (lv_at hl 3 rfl) ?_
        have J10 : ∀ (w11 : Nat → Int64), w11 = (if l_4 = 0 then nt else (vp_updL nt a1.toNatClampNeg l_2)) → ∀ (H : Heap) (locs : List Loc), va_P D vwCl [(xm, c7 xm_25 xm_26 xm_27 xm_29 xm_30 (.ref jt) mm), (jt, .inl (cJ, 512, .inr (.inl w11)))] H → va_D A [(xm, c7 xm_25 xm_26 xm_27 xm_29 xm_30 (.ref jt) mm), (jt, .inl (cJ, 512, .inr (.inl w11)))] → va_S A s.heap H locs → W p l e (cw_rm 1) s m args below meth c H locs 0 0 (Q) (F0 m 59 ls []) := by
          intro w11 hw11 H locs hP hD hS
          refine lv_iload hx hb dX7_adds_59 (lv_at hl 3 rfl) ?_
          have J13 : ∀ (w14 : Int32), w14 = (if l_4 = 0 then a1 else (a1 + 1)) → W p l e (cw_rm 1) s m args below meth c H locs 0 0 (Q) (F0 m 71 ls [.int w14]) := by
            intro w14 hw14
            have hsp : (s7_adds mm nt a1) = ((w14, w11) : Int32 × (Nat → Int64)) := by rw [← hI]; simp only [s7_adds_L, ← hw11, ← hw14, if_pos z3]
            exact hret _ _ _ _ _ _ _ _ hP hD hS dX7_adds_71 rfl ⟨(), (by rw [hsp]), (by rw [hsp])⟩ (Nat.le_of_ble_eq_true rfl) (Nat.le_of_ble_eq_true rfl)
          refine lv_if_eq (tgt := 70) hx hb dX7_adds_61 (by decide) (fun z12 => ?_) (fun z12 => ?_)
          · refine lv_iload_n hx hb dX7_adds_70 rfl (lv_at hl 1 rfl) ?_
            exact J13 a1 (by simp only [if_pos z12])
          · refine lv_iload_n hx hb dX7_adds_64 rfl (lv_at hl 1 rfl) ?_
            refine lv_iconst (v := 1) hx hb dX7_adds_65 (by decide) ?_
            refine lv_iadd hx hb dX7_adds_66 ?_
            refine lv_goto (tgt := 71) hx hb dX7_adds_67 (by decide) ?_
            exact J13 (a1 + 1) (by simp only [if_neg z12])
        refine lv_if_eq (tgt := 59) hx hb dX7_adds_49 (by decide) (fun z9 => ?_) (fun z9 => ?_)
        · exact J10 nt (by simp only [if_pos z9]) _ _ hP hD hS
        · refine lv_aload_n hx hb dX7_adds_52 rfl (lv_at hl 0 rfl) ?_
          refine va_get (D := D) (ci := 7) (v := .ref jt) (C := RX7) (T := TX7) (N := 35) hx hb hts i7 hown hK hP 0 rfl rfl 31 (by decide) lf60 (fun _ h9 => h9) rfl dX7_adds_53 ?_
          refine lv_iload_n hx hb dX7_adds_56 rfl (lv_at hl 1 rfl) ?_
          refine lv_lload_n hx hb dX7_adds_57 rfl (lv_at hl 2 rfl) ?_
          refine va_last hx hb hK hP hD hS 1 1 rfl rfl ha dX7_adds_58 (fun H locs hP hD hS => ?_)
          have hP : va_P D vwCl [(xm, c7 xm_25 xm_26 xm_27 xm_29 xm_30 (.ref jt) mm), (jt, .inl (cJ, 512, .inr (.inl (vp_updL nt a1.toNatClampNeg l_2))))] H := hP
          have hD : va_D A [(xm, c7 xm_25 xm_26 xm_27 xm_29 xm_30 (.ref jt) mm), (jt, .inl (cJ, 512, .inr (.inl (vp_updL nt a1.toNatClampNeg l_2))))] := hD
          exact J10 (vp_updL nt a1.toNatClampNeg l_2) (by simp only [if_neg z9]) _ _ hP hD hS
      · refine lv_iload hx hb dX7_adds_17 (lv_at hl 3 rfl) ?_
        refine lv_if_eq (tgt := 47) hx hb dX7_adds_19 (by decide) (fun z15 => ?_) (fun z15 => ?_)
        · refine lv_iload hx hb dX7_adds_47 (lv_at hl 3 rfl) ?_
          have J21 : ∀ (w22 : Nat → Int64), w22 = (if l_4 = 0 then nt else (vp_updL nt a1.toNatClampNeg l_2)) → ∀ (H : Heap) (locs : List Loc), va_P D vwCl [(xm, c7 xm_25 xm_26 xm_27 xm_29 xm_30 (.ref jt) mm), (jt, .inl (cJ, 512, .inr (.inl w22)))] H → va_D A [(xm, c7 xm_25 xm_26 xm_27 xm_29 xm_30 (.ref jt) mm), (jt, .inl (cJ, 512, .inr (.inl w22)))] → va_S A s.heap H locs → W p l e (cw_rm 1) s m args below meth c H locs 0 0 (Q) (F0 m 59 ls []) := by
            intro w22 hw22 H locs hP hD hS
            refine lv_iload hx hb dX7_adds_59 (lv_at hl 3 rfl) ?_
            have J24 : ∀ (w25 : Int32), w25 = (if l_4 = 0 then a1 else (a1 + 1)) → W p l e (cw_rm 1) s m args below meth c H locs 0 0 (Q) (F0 m 71 ls [.int w25]) := by
              intro w25 hw25
              have hsp : (s7_adds mm nt a1) = ((w25, w22) : Int32 × (Nat → Int64)) := by rw [← hI]; simp only [s7_adds_L, ← hw22, ← hw25, if_neg z3, if_pos z15]
              exact hret _ _ _ _ _ _ _ _ hP hD hS dX7_adds_71 rfl ⟨(), (by rw [hsp]), (by rw [hsp])⟩ (Nat.le_of_ble_eq_true rfl) (Nat.le_of_ble_eq_true rfl)
            refine lv_if_eq (tgt := 70) hx hb dX7_adds_61 (by decide) (fun z23 => ?_) (fun z23 => ?_)
            · refine lv_iload_n hx hb dX7_adds_70 rfl (lv_at hl 1 rfl) ?_
              exact J24 a1 (by simp only [if_pos z23])
            · refine lv_iload_n hx hb dX7_adds_64 rfl (lv_at hl 1 rfl) ?_
              refine lv_iconst (v := 1) hx hb dX7_adds_65 (by decide) ?_
              refine lv_iadd hx hb dX7_adds_66 ?_
              refine lv_goto (tgt := 71) hx hb dX7_adds_67 (by decide) ?_
              exact J24 (a1 + 1) (by simp only [if_neg z23])
          refine lv_if_eq (tgt := 59) hx hb dX7_adds_49 (by decide) (fun z20 => ?_) (fun z20 => ?_)
          · exact J21 nt (by simp only [if_pos z20]) _ _ hP hD hS
          · refine lv_aload_n hx hb dX7_adds_52 rfl (lv_at hl 0 rfl) ?_
            refine va_get (D := D) (ci := 7) (v := .ref jt) (C := RX7) (T := TX7) (N := 35) hx hb hts i7 hown hK hP 0 rfl rfl 31 (by decide) lf60 (fun _ h9 => h9) rfl dX7_adds_53 ?_
            refine lv_iload_n hx hb dX7_adds_56 rfl (lv_at hl 1 rfl) ?_
            refine lv_lload_n hx hb dX7_adds_57 rfl (lv_at hl 2 rfl) ?_
            refine va_last hx hb hK hP hD hS 1 1 rfl rfl ha dX7_adds_58 (fun H locs hP hD hS => ?_)
            have hP : va_P D vwCl [(xm, c7 xm_25 xm_26 xm_27 xm_29 xm_30 (.ref jt) mm), (jt, .inl (cJ, 512, .inr (.inl (vp_updL nt a1.toNatClampNeg l_2))))] H := hP
            have hD : va_D A [(xm, c7 xm_25 xm_26 xm_27 xm_29 xm_30 (.ref jt) mm), (jt, .inl (cJ, 512, .inr (.inl (vp_updL nt a1.toNatClampNeg l_2))))] := hD
            exact J21 (vp_updL nt a1.toNatClampNeg l_2) (by simp only [if_neg z20]) _ _ hP hD hS
        · refine lv_aload_n hx hb dX7_adds_22 rfl (lv_at hl 0 rfl) ?_
          refine va_get (D := D) (ci := 7) (v := .ref jt) (C := RX7) (T := TX7) (N := 35) hx hb hts i7 hown hK hP 0 rfl rfl 31 (by decide) lf60 (fun _ h9 => h9) rfl dX7_adds_23 ?_
          refine lv_iload hx hb dX7_adds_26 (lv_at hl 4 rfl) ?_
          refine va_lald hx hb hK hP 1 1 rfl rfl (cw_inB ha hinv (by assumption)) dX7_adds_28 ?_
          refine lv_lload_n hx hb dX7_adds_29 rfl (lv_at hl 2 rfl) ?_
          refine W.lcmp hx hb dX7_adds_30 ?_
          have J27 : ∀ (w28 : Int32), w28 = (if (lg_cmp (nt l_5.toNatClampNeg) l_2) = 0 then 0 else 1) → W p l e (cw_rm 1) s m args below meth c H locs 0 0 (Q) (F0 m 39 ls [.int w28]) := by
            intro w28 hw28
            refine lv_istore (lv' := [(4, .int w28), (0, .ref xm), (1, .int a1), (2, .long l_2), (5, .int l_5)]) hx hb dX7_adds_39 hl (by decide) rfl (fun ls hl => ?_)
            refine lv_iinc (v := (l_5 + 1)) (lv' := [(5, .int (l_5 + 1)), (4, .int w28), (0, .ref xm), (1, .int a1), (2, .long l_2)]) hx hb dX7_adds_41 hl (k := 4) rfl rfl (by decide) rfl (fun ls hl => ?_)
            refine lv_goto (tgt := 11) hx hb dX7_adds_44 (by decide) ?_
            exact ih l_2 w28 (l_5 + 1) (cw_cntS hinv (cw_lt1 (by assumption))) (by rw [← hI]; simp only [s7_adds_L, ← hw28, if_neg z3, if_neg z15]) _ _ hP hD hS _ (lv_sub hl [2, 3, 4, 1, 0] rfl)
          refine lv_if_eq (tgt := 38) hx hb dX7_adds_31 (by decide) (fun z26 => ?_) (fun z26 => ?_)
          · refine lv_iconst (v := 0) hx hb dX7_adds_38 (by decide) ?_
            exact J27 0 (by simp only [if_pos z26])
          · refine lv_iconst (v := 1) hx hb dX7_adds_34 (by decide) ?_
            refine lv_goto (tgt := 39) hx hb dX7_adds_35 (by decide) ?_
            exact J27 1 (by simp only [if_neg z26])
  refine lv_aload_n hx hb dX7_adds_0 rfl (lv_at hl 0 rfl) ?_
  refine cw_cVl (As := []) (rest := []) (wc := [(xm, c7 xm_25 xm_26 xm_27 xm_29 xm_30 (.ref jt) mm)]) (wr := [(jt, .inl (cJ, 512, .inr (.inl nt)))]) ⟨hx, hb, hml, hown, hts⟩ (k7_packs l D cI cJ xm xm_25 xm_26 xm_27 xm_29 xm_30 (.ref jt) mm) (cwV 0 hts gX7_adds_X7_packs rfl rfl rfl (by decide +kernel) ⟨Nat.le_of_ble_eq_true rfl, Nat.le_of_ble_eq_true rfl⟩) hK hN hP hD hS hA [0] [1] rfl rfl (by decide) (by decide) (by decide) 0 (ci := 7) rfl rfl rfl rfl hl.1 rfl (Nat.le_of_ble_eq_true rfl) dX7_adds_1 ⟨Nat.le_of_ble_eq_true rfl, Nat.le_of_ble_eq_true rfl⟩ (fun r2 u1 H locs hw hP hD hS => ?_)
  have hr2 : r2 = (s7_packs mm) := hw
  have hP : va_P D vwCl [(jt, .inl (cJ, 512, .inr (.inl nt))), (xm, c7 xm_25 xm_26 xm_27 xm_29 xm_30 (.ref jt) mm)] H := hP
  have hD : va_D A [(jt, .inl (cJ, 512, .inr (.inl nt))), (xm, c7 xm_25 xm_26 xm_27 xm_29 xm_30 (.ref jt) mm)] := hD
  refine lv_lstore_n (lv' := [(2, .long r2), (0, .ref xm), (1, .int a1)]) hx hb dX7_adds_4 rfl hl (by decide) rfl (fun ls hl => ?_)
  refine lv_iconst (v := 1) hx hb dX7_adds_5 (by decide) ?_
  refine lv_istore (lv' := [(4, .int 1), (2, .long r2), (0, .ref xm), (1, .int a1)]) hx hb dX7_adds_6 hl (by decide) rfl (fun ls hl => ?_)
  refine lv_iconst (v := 0) hx hb dX7_adds_8 (by decide) ?_
  refine lv_istore (lv' := [(5, .int 0), (4, .int 1), (2, .long r2), (0, .ref xm), (1, .int a1)]) hx hb dX7_adds_9 hl (by decide) rfl (fun ls hl => ?_)
  exact LOOP 513 r2 1 0 (cw_cnt512 ha) (by simp only [s7_adds, ← hr2]) _ _ (hP.sub [1, 0] rfl) (hD.sub [1, 0] (by decide) rfl) hS _ (lv_sub hl [3, 4, 2, 1, 0] rfl)

set_option maxHeartbeats 4000000 in
set_option maxRecDepth 100000 in
theorem k7_toPilot (l : Launch) (D : va_G) (cI cJ : ClassId) (xm : Nat) (xm_25 xm_26 xm_27 xm_29 xm_30 xm_31 : Value) (mm : Nat → Int32) (hck : ¬ mm 8 = 0) : cw_Mi l yX7_toPilot wsX7_toPilot (cw_rm 6) D [(cI, .int), (cJ, .long)] [.ref xm] [(xm, c7 xm_25 xm_26 xm_27 xm_29 xm_30 xm_31 mm)] 0 0 (fun r (_ : Unit) => r = (s7_toPilot mm).1) (fun _ : Unit => [(xm, c7 xm_25 xm_26 xm_27 xm_29 xm_30 xm_31 (s7_toPilot mm).2)]) := by
  refine cw_ofi (cc := cX7_toPilot) (maxL := 5) (ret := (some .int)) (by decide) rfl (Nat.le_of_ble_eq_true rfl) rfl ?_
  intro p e s m args below meth c A ls Q hin0 hret
  obtain ⟨hx, hb, hr, hml, hts, hown, hlocks, hin, hP, hK, hD, hN, hA, hl⟩ := hin0
  have hS : va_S A s.heap s.heap [] := va_S.rf
  have hl : lv_has ls 5 [(0, .ref xm)] := hl
  have lf63 := hts (.fieldLink RX7 63 "BurnerlineModel" "thrown" "I") (by decide +kernel)
  have i7 : ∀ w ∈ wsX70, w ∈ wsX7_toPilot := by decide +kernel
  have lf77 := hts (.fieldLink RX7 77 "BurnerlineModel" "state" "I") (by decide +kernel)
  have lf74 := hts (.fieldLink RX7 74 "BurnerlineModel" "signals" "I") (by decide +kernel)
  have LOOP : ∀ (n9 : Nat) (l_xm : Nat → Int32) (l_1 : Int64) (l_3 : Int32), (cw_cnt 300 l_3 n9 ∧ ¬ l_xm 8 = 0) → s7_toPilot_L mm n9 l_xm l_1 l_3 = (s7_toPilot mm) → ∀ (H : Heap) (locs : List Loc), va_P D vwCl [(xm, c7 xm_25 xm_26 xm_27 xm_29 xm_30 xm_31 l_xm)] H → va_D A [(xm, c7 xm_25 xm_26 xm_27 xm_29 xm_30 xm_31 l_xm)] → va_S A s.heap H locs → ∀ (ls : Array Slot), lv_has ls 5 [(0, .ref xm), (1, .long l_1), (3, .int l_3)] → W p l e (cw_rm 6) s m args below meth c H locs 0 0 (Q) (F0 m 30 ls []) := by
    intro n9
    induction n9 with
    | zero =>
      intro l_xm l_1 l_3 hinv
      exact ((fun h => cw_cnt0 h.1) hinv).elim
    | succ n9 ih =>
      intro l_xm l_1 l_3 hinv hI H locs hP hD hS ls hl
      refine lv_aload_n hx hb dX7_toPilot_30 rfl (lv_at hl 0 rfl) ?_
      refine va_get (D := D) (ci := 7) (v := .int (l_xm 12)) (C := RX7) (T := TX7) (N := 35) hx hb hts i7 hown hK hP 0 rfl rfl 12 (by decide) lf77 (fun _ h9 => h9) rfl dX7_toPilot_31 ?_
      refine lv_iconst (v := 2) hx hb dX7_toPilot_34 (by decide) ?_
      refine lv_icmp_eq (tgt := 65) hx hb dX7_toPilot_35 (by decide) (fun z5 => ?_) (fun z5 => ?_)
      · refine lv_aload_n hx hb dX7_toPilot_65 rfl (lv_at hl 0 rfl) ?_
        refine va_get (D := D) (ci := 7) (v := .int (l_xm 12)) (C := RX7) (T := TX7) (N := 35) hx hb hts i7 hown hK hP 0 rfl rfl 12 (by decide) lf77 (fun _ h9 => h9) rfl dX7_toPilot_66 ?_
        refine lv_iconst (v := 2) hx hb dX7_toPilot_69 (by decide) ?_
        have J12 : ∀ (w13 : Int32), w13 = (if (l_xm 12) = 2 then 1 else 0) → W p l e (cw_rm 6) s m args below meth c H locs 0 0 (Q) (F0 m 78 ls [.int w13]) := by
          intro w13 hw13
          refine lv_istore (lv' := [(4, .int w13), (0, .ref xm), (1, .long l_1), (3, .int l_3)]) hx hb dX7_toPilot_78 hl (by decide) rfl (fun ls hl => ?_)
          refine lv_aload_n hx hb dX7_toPilot_80 rfl (lv_at hl 1 rfl) ?_
          refine lv_lload_n hx hb dX7_toPilot_81 rfl (lv_at hl 2 rfl) ?_
          refine cw_cVv (As := [.long l_1]) (rest := []) (wc := [(xm, c7 xm_25 xm_26 xm_27 xm_29 xm_30 xm_31 l_xm)]) (wr := []) ⟨hx, hb, hml, hown, hts⟩ (k7_unpacks l D cI cJ xm xm_25 xm_26 xm_27 xm_29 xm_30 xm_31 l_xm l_1) (cwV 1 hts gX7_toPilot_X7_unpacks rfl rfl rfl (by decide +kernel) ⟨Nat.le_of_ble_eq_true rfl, Nat.le_of_ble_eq_true rfl⟩) hK hN hP hD hS hA [0] [] rfl rfl (by decide) (by decide) (by decide) 0 (ci := 7) rfl rfl rfl rfl hl.1 rfl (Nat.le_of_ble_eq_true rfl) dX7_toPilot_82 ⟨Nat.le_of_ble_eq_true rfl, Nat.le_of_ble_eq_true rfl⟩ (fun u14 H locs hw hP hD hS => ?_)
          obtain ⟨v16, hv16⟩ : ∃ z : Nat → Int32, z = (s7_unpacks l_xm l_1) := ⟨_, rfl⟩
          have hP : va_P D vwCl [(xm, c7 xm_25 xm_26 xm_27 xm_29 xm_30 xm_31 v16)] H := by rw [hv16]; exact hP
          have hD : va_D A [(xm, c7 xm_25 xm_26 xm_27 xm_29 xm_30 xm_31 v16)] := by rw [hv16]; exact hD
          refine lv_iload hx hb dX7_toPilot_85 (lv_at hl 0 rfl) ?_
          have J18 : ∀ (w19 : Int32), w19 = (if w13 = 0 then (-1) else l_3) → W p l e (cw_rm 6) s m args below meth c H locs 0 0 (Q) (F0 m 95 ls [.int w19]) := by
            intro w19 hw19
            have hsp : (s7_toPilot mm) = ((w19, v16) : Int32 × (Nat → Int32)) := by rw [← hI]; simp only [s7_toPilot_L, ← hw13, ← hv16, ← hw19, if_pos z5]
            exact hret _ _ _ _ _ _ _ _ hP hD hS dX7_toPilot_95 rfl ⟨(), (by rw [hsp]), (by rw [hsp])⟩ (Nat.le_of_ble_eq_true rfl) (Nat.le_of_ble_eq_true rfl)
          refine lv_if_eq (tgt := 94) hx hb dX7_toPilot_87 (by decide) (fun z17 => ?_) (fun z17 => ?_)
          · refine lv_iconst (v := (-1)) hx hb dX7_toPilot_94 (by decide) ?_
            exact J18 (-1) (by simp only [if_pos z17])
          · refine lv_iload_n hx hb dX7_toPilot_90 rfl (lv_at hl 3 rfl) ?_
            refine lv_goto (tgt := 95) hx hb dX7_toPilot_91 (by decide) ?_
            exact J18 l_3 (by simp only [if_neg z17])
        refine lv_icmp_ne (tgt := 77) hx hb dX7_toPilot_70 (by decide) (fun z11 => ?_) (fun z11 => ?_)
        · refine lv_iconst (v := 0) hx hb dX7_toPilot_77 (by decide) ?_
          exact J12 0 (by simp only [if_neg z11])
        · refine lv_iconst (v := 1) hx hb dX7_toPilot_73 (by decide) ?_
          refine lv_goto (tgt := 78) hx hb dX7_toPilot_74 (by decide) ?_
          exact J12 1 (by simp only [if_pos z11])
      · refine lv_iload_n hx hb dX7_toPilot_38 rfl (lv_at hl 2 rfl) ?_
        refine lv_sipush (v := 300) hx hb dX7_toPilot_39 (by decide) ?_
        refine lv_icmp_ge (tgt := 65) hx hb dX7_toPilot_42 (by decide) (fun z20 => ?_) (fun z20 => ?_)
        · refine lv_aload_n hx hb dX7_toPilot_65 rfl (lv_at hl 0 rfl) ?_
          refine va_get (D := D) (ci := 7) (v := .int (l_xm 12)) (C := RX7) (T := TX7) (N := 35) hx hb hts i7 hown hK hP 0 rfl rfl 12 (by decide) lf77 (fun _ h9 => h9) rfl dX7_toPilot_66 ?_
          refine lv_iconst (v := 2) hx hb dX7_toPilot_69 (by decide) ?_
          have J26 : ∀ (w27 : Int32), w27 = (if (l_xm 12) = 2 then 1 else 0) → W p l e (cw_rm 6) s m args below meth c H locs 0 0 (Q) (F0 m 78 ls [.int w27]) := by
            intro w27 hw27
            refine lv_istore (lv' := [(4, .int w27), (0, .ref xm), (1, .long l_1), (3, .int l_3)]) hx hb dX7_toPilot_78 hl (by decide) rfl (fun ls hl => ?_)
            refine lv_aload_n hx hb dX7_toPilot_80 rfl (lv_at hl 1 rfl) ?_
            refine lv_lload_n hx hb dX7_toPilot_81 rfl (lv_at hl 2 rfl) ?_
            refine cw_cVv (As := [.long l_1]) (rest := []) (wc := [(xm, c7 xm_25 xm_26 xm_27 xm_29 xm_30 xm_31 l_xm)]) (wr := []) ⟨hx, hb, hml, hown, hts⟩ (k7_unpacks l D cI cJ xm xm_25 xm_26 xm_27 xm_29 xm_30 xm_31 l_xm l_1) (cwV 1 hts gX7_toPilot_X7_unpacks rfl rfl rfl (by decide +kernel) ⟨Nat.le_of_ble_eq_true rfl, Nat.le_of_ble_eq_true rfl⟩) hK hN hP hD hS hA [0] [] rfl rfl (by decide) (by decide) (by decide) 0 (ci := 7) rfl rfl rfl rfl hl.1 rfl (Nat.le_of_ble_eq_true rfl) dX7_toPilot_82 ⟨Nat.le_of_ble_eq_true rfl, Nat.le_of_ble_eq_true rfl⟩ (fun u28 H locs hw hP hD hS => ?_)
            obtain ⟨v30, hv30⟩ : ∃ z : Nat → Int32, z = (s7_unpacks l_xm l_1) := ⟨_, rfl⟩
            have hP : va_P D vwCl [(xm, c7 xm_25 xm_26 xm_27 xm_29 xm_30 xm_31 v30)] H := by rw [hv30]; exact hP
            have hD : va_D A [(xm, c7 xm_25 xm_26 xm_27 xm_29 xm_30 xm_31 v30)] := by rw [hv30]; exact hD
            refine lv_iload hx hb dX7_toPilot_85 (lv_at hl 0 rfl) ?_
            have J32 : ∀ (w33 : Int32), w33 = (if w27 = 0 then (-1) else l_3) → W p l e (cw_rm 6) s m args below meth c H locs 0 0 (Q) (F0 m 95 ls [.int w33]) := by
              intro w33 hw33
              have hsp : (s7_toPilot mm) = ((w33, v30) : Int32 × (Nat → Int32)) := by rw [← hI]; simp only [s7_toPilot_L, ← hw27, ← hv30, ← hw33, if_neg z5, if_pos z20]
              exact hret _ _ _ _ _ _ _ _ hP hD hS dX7_toPilot_95 rfl ⟨(), (by rw [hsp]), (by rw [hsp])⟩ (Nat.le_of_ble_eq_true rfl) (Nat.le_of_ble_eq_true rfl)
            refine lv_if_eq (tgt := 94) hx hb dX7_toPilot_87 (by decide) (fun z31 => ?_) (fun z31 => ?_)
            · refine lv_iconst (v := (-1)) hx hb dX7_toPilot_94 (by decide) ?_
              exact J32 (-1) (by simp only [if_pos z31])
            · refine lv_iload_n hx hb dX7_toPilot_90 rfl (lv_at hl 3 rfl) ?_
              refine lv_goto (tgt := 95) hx hb dX7_toPilot_91 (by decide) ?_
              exact J32 l_3 (by simp only [if_neg z31])
          refine lv_icmp_ne (tgt := 77) hx hb dX7_toPilot_70 (by decide) (fun z25 => ?_) (fun z25 => ?_)
          · refine lv_iconst (v := 0) hx hb dX7_toPilot_77 (by decide) ?_
            exact J26 0 (by simp only [if_neg z25])
          · refine lv_iconst (v := 1) hx hb dX7_toPilot_73 (by decide) ?_
            refine lv_goto (tgt := 78) hx hb dX7_toPilot_74 (by decide) ?_
            exact J26 1 (by simp only [if_pos z25])
        · refine lv_aload_n hx hb dX7_toPilot_45 rfl (lv_at hl 0 rfl) ?_
          refine lv_aload_n hx hb dX7_toPilot_46 rfl (lv_at hl 0 rfl) ?_
          refine va_get (D := D) (ci := 7) (v := .int (l_xm 0)) (C := RX7) (T := TX7) (N := 35) hx hb hts i7 hown hK hP 0 rfl rfl 0 (by decide) lf74 (fun _ h9 => h9) rfl dX7_toPilot_47 ?_
          refine lv_bipush (v := 32) hx hb dX7_toPilot_50 (by decide) ?_
          refine lv_iand hx hb dX7_toPilot_52 ?_
          refine lv_bipush (v := 7) hx hb dX7_toPilot_53 (by decide) ?_
          refine lv_ior hx hb dX7_toPilot_55 ?_
          refine cw_cVv (As := [.int (((l_xm 0) &&& 32) ||| 7)]) (rest := []) (wc := [(xm, c7 xm_25 xm_26 xm_27 xm_29 xm_30 xm_31 l_xm)]) (wr := []) ⟨hx, hb, hml, hown, hts⟩ (k7_plays l D cI cJ xm xm_25 xm_26 xm_27 xm_29 xm_30 xm_31 l_xm (((l_xm 0) &&& 32) ||| 7) hinv.2) (cwV 1 hts gX7_toPilot_X7_plays rfl rfl rfl (by decide +kernel) ⟨Nat.le_of_ble_eq_true rfl, Nat.le_of_ble_eq_true rfl⟩) hK hN hP hD hS hA [0] [] rfl rfl (by decide) (by decide) (by decide) 0 (ci := 7) rfl rfl rfl rfl hl.1 rfl (Nat.le_of_ble_eq_true rfl) dX7_toPilot_56 ⟨Nat.le_of_ble_eq_true rfl, Nat.le_of_ble_eq_true rfl⟩ (fun u34 H locs hw hP hD hS => ?_)
          obtain ⟨v36, hv36⟩ : ∃ z : Nat → Int32, z = (s7_plays l_xm (((l_xm 0) &&& 32) ||| 7)) := ⟨_, rfl⟩
          have hP : va_P D vwCl [(xm, c7 xm_25 xm_26 xm_27 xm_29 xm_30 xm_31 v36)] H := by rw [hv36]; exact hP
          have hD : va_D A [(xm, c7 xm_25 xm_26 xm_27 xm_29 xm_30 xm_31 v36)] := by rw [hv36]; exact hD
          refine lv_iinc (v := (l_3 + 1)) (lv' := [(3, .int (l_3 + 1)), (0, .ref xm), (1, .long l_1)]) hx hb dX7_toPilot_59 hl (k := 2) rfl rfl (by decide) rfl (fun ls hl => ?_)
          refine lv_goto (tgt := 30) hx hb dX7_toPilot_62 (by decide) ?_
          exact ih v36 l_1 (l_3 + 1) (by subst_vars; exact ⟨cw_cntS hinv.1 (cw_lt300 (by assumption)), by rw [f7_plays _ _ 8 (Or.inl (by decide))]; exact hinv.2⟩) (by rw [← hI]; simp only [s7_toPilot_L, ← hv36, if_neg z5, if_neg z20]) _ _ hP hD hS _ (lv_sub hl [1, 2, 0] rfl)
  refine lv_aload_n hx hb dX7_toPilot_0 rfl (lv_at hl 0 rfl) ?_
  refine lv_iconst (v := 0) hx hb dX7_toPilot_1 (by decide) ?_
  refine va_put (D := D) (ci := 7) (v := .int 0) (ty := .int) (C := RX7) (T := TX7) (N := 35) hx hb hts i7 tyX7 tyX7_ok nmX7 hown hK hP hD hS 0 rfl rfl 34 (by decide) lf63 (fun _ h9 => h9) rfl (by decide +kernel) rfl rfl (Nat.le_of_ble_eq_true rfl) dX7_toPilot_2 (fun H locs hP hD hS => ?_)
  have hP : va_P D vwCl [(xm, c7 xm_25 xm_26 xm_27 xm_29 xm_30 xm_31 (upd mm 34 0))] H := (congrArg (fun z9 => va_P D vwCl [(xm, .inr (7, z9))] H) (cs7_34 xm_25 xm_26 xm_27 xm_29 xm_30 xm_31 mm 0)).mp hP
  have hD : va_D A [(xm, c7 xm_25 xm_26 xm_27 xm_29 xm_30 xm_31 (upd mm 34 0))] := (congrArg (fun z9 => va_D A [(xm, .inr (7, z9))]) (cs7_34 xm_25 xm_26 xm_27 xm_29 xm_30 xm_31 mm 0)).mp hD
  refine lv_aload_n hx hb dX7_toPilot_5 rfl (lv_at hl 0 rfl) ?_
  refine va_get (D := D) (ci := 7) (v := .int ((upd mm 34 0) 12)) (C := RX7) (T := TX7) (N := 35) hx hb hts i7 hown hK hP 0 rfl rfl 12 (by decide) lf77 (fun _ h9 => h9) rfl dX7_toPilot_6 ?_
  refine cw_topi (y := (mm 12)) (cw_updn _ _ (by decide)) ?_
  refine lv_iconst (v := 2) hx hb dX7_toPilot_9 (by decide) ?_
  refine lv_icmp_eq (tgt := 21) hx hb dX7_toPilot_10 (by decide) (fun z1 => ?_) (fun z1 => ?_)
  · refine lv_iconst (v := 0) hx hb dX7_toPilot_21 (by decide) ?_
    have hsp : (s7_toPilot mm) = ((0, (upd mm 34 0)) : Int32 × (Nat → Int32)) := by simp only [s7_toPilot, if_pos z1]
    exact hret _ _ _ _ _ _ _ _ hP hD hS dX7_toPilot_22 rfl ⟨(), (by rw [hsp]), (by rw [hsp])⟩ (Nat.le_of_ble_eq_true rfl) (Nat.le_of_ble_eq_true rfl)
  · refine lv_aload_n hx hb dX7_toPilot_13 rfl (lv_at hl 0 rfl) ?_
    refine va_get (D := D) (ci := 7) (v := .int ((upd mm 34 0) 12)) (C := RX7) (T := TX7) (N := 35) hx hb hts i7 hown hK hP 0 rfl rfl 12 (by decide) lf77 (fun _ h9 => h9) rfl dX7_toPilot_14 ?_
    refine cw_topi (y := (mm 12)) (cw_updn _ _ (by decide)) ?_
    refine lv_iconst (v := 3) hx hb dX7_toPilot_17 (by decide) ?_
    refine lv_icmp_ne (tgt := 23) hx hb dX7_toPilot_18 (by decide) (fun z2 => ?_) (fun z2 => ?_)
    · refine lv_aload_n hx hb dX7_toPilot_23 rfl (lv_at hl 0 rfl) ?_
      refine cw_cVl (As := []) (rest := []) (wc := [(xm, c7 xm_25 xm_26 xm_27 xm_29 xm_30 xm_31 (upd mm 34 0))]) (wr := []) ⟨hx, hb, hml, hown, hts⟩ (k7_packs l D cI cJ xm xm_25 xm_26 xm_27 xm_29 xm_30 xm_31 (upd mm 34 0)) (cwV 0 hts gX7_toPilot_X7_packs rfl rfl rfl (by decide +kernel) ⟨Nat.le_of_ble_eq_true rfl, Nat.le_of_ble_eq_true rfl⟩) hK hN hP hD hS hA [0] [] rfl rfl (by decide) (by decide) (by decide) 0 (ci := 7) rfl rfl rfl rfl hl.1 rfl (Nat.le_of_ble_eq_true rfl) dX7_toPilot_24 ⟨Nat.le_of_ble_eq_true rfl, Nat.le_of_ble_eq_true rfl⟩ (fun r4 u3 H locs hw hP hD hS => ?_)
      have hr4 : r4 = (s7_packs (upd mm 34 0)) := hw
      have hP : va_P D vwCl [(xm, c7 xm_25 xm_26 xm_27 xm_29 xm_30 xm_31 (upd mm 34 0))] H := hP
      have hD : va_D A [(xm, c7 xm_25 xm_26 xm_27 xm_29 xm_30 xm_31 (upd mm 34 0))] := hD
      refine lv_lstore_n (lv' := [(1, .long r4), (0, .ref xm)]) hx hb dX7_toPilot_27 rfl hl (by decide) rfl (fun ls hl => ?_)
      refine lv_iconst (v := 0) hx hb dX7_toPilot_28 (by decide) ?_
      refine lv_istore_n (lv' := [(3, .int 0), (1, .long r4), (0, .ref xm)]) hx hb dX7_toPilot_29 rfl hl (by decide) rfl (fun ls hl => ?_)
      exact LOOP 301 (upd mm 34 0) r4 0 (by subst_vars; exact ⟨⟨by decide, by decide, by decide, by decide⟩, by simpa [upd] using hck⟩) (by simp only [s7_toPilot, ← hr4, if_neg z1, if_neg z2]) _ _ hP hD hS _ (lv_sub hl [2, 1, 0] rfl)
    · refine lv_iconst (v := 0) hx hb dX7_toPilot_21 (by decide) ?_
      have hsp : (s7_toPilot mm) = ((0, (upd mm 34 0)) : Int32 × (Nat → Int32)) := by simp only [s7_toPilot, if_neg z1, if_pos z2]
      exact hret _ _ _ _ _ _ _ _ hP hD hS dX7_toPilot_22 rfl ⟨(), (by rw [hsp]), (by rw [hsp])⟩ (Nat.le_of_ble_eq_true rfl) (Nat.le_of_ble_eq_true rfl)
