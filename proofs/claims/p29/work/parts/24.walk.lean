theorem zl1 (e : Nat → Int32) (a n : Int32) (he : e 0 = 0 ∨ e 0 = 1) (ha : a = 0 ∨ a = 1) : s1_look e a n 0 = 0 ∨ s1_look e a n 0 = 1 := by
  simp only [s1_look]
  (repeat' split) <;> simp [upd, he, ha]
theorem zt1 (f ep eq st : Nat → Int32) (a : Int32) (h : ep 0 = 0 ∨ ep 0 = 1) : (s2_tick f ep eq st a).2.2.1 0 = 0 ∨ (s2_tick f ep eq st a).2.2.1 0 = 1 := by
  show s1_look ep (s6_isOn a 8) _ 0 = 0 ∨ s1_look ep (s6_isOn a 8) _ 0 = 1
  exact zl1 _ _ _ h (z6_isOn _ _)
theorem zt2 (f ep eq st : Nat → Int32) (a : Int32) (h : eq 0 = 0 ∨ eq 0 = 1) : (s2_tick f ep eq st a).2.2.2 0 = 0 ∨ (s2_tick f ep eq st a).2.2.2 0 = 1 := by
  show s1_look eq (s6_isOn a 16) _ 0 = 0 ∨ s1_look eq (s6_isOn a 16) _ 0 = 1
  exact zl1 _ _ _ h (z6_isOn _ _)
theorem zc1 (f ep eq g gp gq : Nat → Int32) : (s2_copyFrom f ep eq g gp gq).2.1 0 = gp 0 := by simp [s2_copyFrom, s1_copyFrom, upd]
theorem zc2 (f ep eq g gp gq : Nat → Int32) : (s2_copyFrom f ep eq g gp gq).2.2 0 = gq 0 := by simp [s2_copyFrom, s1_copyFrom, upd]

def s6_walk0 (a3 : Int32) : Int32 := 0

def s6_walk1_L (f : Nat → Int32) (ep : Nat → Int32) (eq : Nat → Int32) (st : Nat → Int32) (a3 : Int32) : Nat → Int32 → Int32 → Int32 → Int32
  | 0, _, _, _ => 0
  | n9 + 1, l_3, l_4, l_6 => (if 63 < l_6 then l_3 else (let w42 : Int32 := (if (l_6 &&& (l_4 ^^^ (-1))) = 0 then (if (s2_isLockedOut ((s2_tick f ep eq st l_6).2.1)) = 0 then ((l_3 ||| (s6_foundAt ((s2_tick f ep eq st l_6).2.1))) ||| (s6_walk0 (a3 - 1))) else (l_3 ||| (s6_foundAt ((s2_tick f ep eq st l_6).2.1)))) else l_3); (s6_walk1_L f ep eq st a3 n9 w42 l_4 (l_6 + 1))))
def s6_walk1 (f : Nat → Int32) (ep : Nat → Int32) (eq : Nat → Int32) (st : Nat → Int32) (a3 : Int32) : Int32 := (if 0 < a3 then (let r3 : Int32 := (s6_tellingSignals (f 3)); (s6_walk1_L f ep eq st a3 65 0 r3 0)) else 0)

def s6_walk2_L (f : Nat → Int32) (ep : Nat → Int32) (eq : Nat → Int32) (st : Nat → Int32) (a3 : Int32) : Nat → Int32 → Int32 → Int32 → Int32
  | 0, _, _, _ => 0
  | n9 + 1, l_3, l_4, l_6 => (if 63 < l_6 then l_3 else (let w51 : Int32 := (if (l_6 &&& (l_4 ^^^ (-1))) = 0 then (if (s2_isLockedOut ((s2_tick f ep eq st l_6).2.1)) = 0 then ((l_3 ||| (s6_foundAt ((s2_tick f ep eq st l_6).2.1))) ||| (s6_walk1 ((s2_tick f ep eq st l_6).2.1) ((s2_tick f ep eq st l_6).2.2.1) ((s2_tick f ep eq st l_6).2.2.2) st (a3 - 1))) else (l_3 ||| (s6_foundAt ((s2_tick f ep eq st l_6).2.1)))) else l_3); (s6_walk2_L f ep eq st a3 n9 w51 l_4 (l_6 + 1))))
def s6_walk2 (f : Nat → Int32) (ep : Nat → Int32) (eq : Nat → Int32) (st : Nat → Int32) (a3 : Int32) : Int32 := (if 0 < a3 then (let r3 : Int32 := (s6_tellingSignals (f 3)); (s6_walk2_L f ep eq st a3 65 0 r3 0)) else 0)

def s6_walk3_L (f : Nat → Int32) (ep : Nat → Int32) (eq : Nat → Int32) (st : Nat → Int32) (a3 : Int32) : Nat → Int32 → Int32 → Int32 → Int32
  | 0, _, _, _ => 0
  | n9 + 1, l_3, l_4, l_6 => (if 63 < l_6 then l_3 else (let w60 : Int32 := (if (l_6 &&& (l_4 ^^^ (-1))) = 0 then (if (s2_isLockedOut ((s2_tick f ep eq st l_6).2.1)) = 0 then ((l_3 ||| (s6_foundAt ((s2_tick f ep eq st l_6).2.1))) ||| (s6_walk2 ((s2_tick f ep eq st l_6).2.1) ((s2_tick f ep eq st l_6).2.2.1) ((s2_tick f ep eq st l_6).2.2.2) st (a3 - 1))) else (l_3 ||| (s6_foundAt ((s2_tick f ep eq st l_6).2.1)))) else l_3); (s6_walk3_L f ep eq st a3 n9 w60 l_4 (l_6 + 1))))
def s6_walk3 (f : Nat → Int32) (ep : Nat → Int32) (eq : Nat → Int32) (st : Nat → Int32) (a3 : Int32) : Int32 := (if 0 < a3 then (let r3 : Int32 := (s6_tellingSignals (f 3)); (s6_walk3_L f ep eq st a3 65 0 r3 0)) else 0)


set_option maxHeartbeats 4000000 in
set_option maxRecDepth 100000 in
theorem k6_walk0 (l : Launch) (D : va_G) (cI cJ : ClassId) (xf : Nat) (a3 : Int32) : cw_Mi l yX6_walk wsX6_walk (cw_rm 0) D [(cI, .int)] [.null, .ref xf, .int a3] [] 0 0 (fun r (_ : Unit) => r = (s6_walk0 a3)) (fun _ : Unit => []) := by
  refine cw_ofi (cc := cX6_walk) (maxL := 7) (ret := (some .int)) (by decide) rfl (Nat.le_of_ble_eq_true rfl) rfl ?_
  intro p e s m args below meth c A ls Q hin0 hret
  obtain ⟨hx, hb, hr, hml, hts, hown, hlocks, hin, hP, hK, hD, hN, hA, hl⟩ := hin0
  have hS : va_S A s.heap s.heap [] := va_S.rf
  have hl : lv_has ls 7 [(0, .null), (1, .ref xf), (2, .int a3)] := hl
  refine lv_aload_nN hx hb dX6_walk_0 rfl (lv_at hl 0 rfl) ?_
  refine lv_ifnullN (tgt := 8) hx hb dX6_walk_1 (by decide) ?_
  refine lv_iconst (v := 0) hx hb dX6_walk_8 (by decide) ?_
  have hsp : (s6_walk0 a3) = (0 : Int32) := rfl
  exact hret _ _ _ _ _ _ _ _ hP hD hS dX6_walk_9 rfl ⟨(), (by rw [hsp]), rfl⟩ (Nat.le_of_ble_eq_true rfl) (Nat.le_of_ble_eq_true rfl)

set_option maxHeartbeats 4000000 in
set_option maxRecDepth 100000 in
theorem k6_walk1 (l : Launch) (D : va_G) (cI cJ : ClassId) (xf xp xq xs ya yf yp yq : Nat) (f : Nat → Int32) (ep : Nat → Int32) (eq : Nat → Int32) (st : Nat → Int32) (a3 : Int32) (g : Nat → Int32) (gp : Nat → Int32) (gq : Nat → Int32) (hep : ep 0 = 0 ∨ ep 0 = 1) (heq : eq 0 = 0 ∨ eq 0 = 1) : cw_Mi l yX6_walk wsX6_walk (cw_rm 8) D [(cI, .int)] [.ref ya, .ref xf, .int a3] [(xf, c2 (.ref xs) (.ref xp) (.ref xq) f), (xp, c1 ep), (xq, c1 eq), (xs, c5 st), (ya, c0 (.ref yf) .null), (yf, c2 (.ref xs) (.ref yp) (.ref yq) g), (yp, c1 gp), (yq, c1 gq)] 0 0 (fun r (_ : (Nat → Int32) × (Nat → Int32) × (Nat → Int32)) => r = (s6_walk1 f ep eq st a3)) (fun u : (Nat → Int32) × (Nat → Int32) × (Nat → Int32) => [(xf, c2 (.ref xs) (.ref xp) (.ref xq) f), (xp, c1 ep), (xq, c1 eq), (xs, c5 st), (ya, c0 (.ref yf) .null), (yf, c2 (.ref xs) (.ref yp) (.ref yq) u.1), (yp, c1 u.2.1), (yq, c1 u.2.2)]) := by
  refine cw_ofi (cc := cX6_walk) (maxL := 7) (ret := (some .int)) (by decide) rfl (Nat.le_of_ble_eq_true rfl) rfl ?_
  intro p e s m args below meth c A ls Q hin0 hret
  obtain ⟨hx, hb, hr, hml, hts, hown, hlocks, hin, hP, hK, hD, hN, hA, hl⟩ := hin0
  have hS : va_S A s.heap s.heap [] := va_S.rf
  have hl : lv_has ls 7 [(0, .ref ya), (1, .ref xf), (2, .int a3)] := hl
  have lf154 := hN.use (args := args) (w := .fieldLinkNest "Burnerline" 154 "Burnerline$Furnace" "state" "I" "Burnerline") (by decide +kernel)
  have i2 : ∀ w ∈ wsX20, w ∈ wsX6_walk := by decide +kernel
  have lf225 := hN.use (args := args) (w := .fieldLinkNest "Burnerline" 225 "Burnerline$Ahead" "furnace" "LBurnerline$Furnace;" "Burnerline") (by decide +kernel)
  have i0 : ∀ w ∈ wsX00, w ∈ wsX6_walk := by decide +kernel
  have lf242 := hN.use (args := args) (w := .fieldLinkNest "Burnerline" 242 "Burnerline$Ahead" "next" "LBurnerline$Ahead;" "Burnerline") (by decide +kernel)
  have LOOP : ∀ (n9 : Nat) (l_3 : Int32) (l_4 : Int32) (l_6 : Int32) (l_yf : Nat → Int32) (l_yp : Nat → Int32) (l_yq : Nat → Int32), cw_cnt 64 l_6 n9 → s6_walk1_L f ep eq st a3 n9 l_3 l_4 l_6 = (s6_walk1 f ep eq st a3) → ∀ (H : Heap) (locs : List Loc), va_P D vwCl [(xf, c2 (.ref xs) (.ref xp) (.ref xq) f), (xp, c1 ep), (xq, c1 eq), (xs, c5 st), (ya, c0 (.ref yf) .null), (yf, c2 (.ref xs) (.ref yp) (.ref yq) l_yf), (yp, c1 l_yp), (yq, c1 l_yq)] H → va_D A [(xf, c2 (.ref xs) (.ref xp) (.ref xq) f), (xp, c1 ep), (xq, c1 eq), (xs, c5 st), (ya, c0 (.ref yf) .null), (yf, c2 (.ref xs) (.ref yp) (.ref yq) l_yf), (yp, c1 l_yp), (yq, c1 l_yq)] → va_S A s.heap H locs → ∀ (ls : Array Slot), lv_has ls 7 [(0, .ref ya), (1, .ref xf), (2, .int a3), (3, .int l_3), (4, .int l_4), (5, .ref yf), (6, .int l_6)] → W p l e (cw_rm 8) s m args below meth c H locs 0 0 (Q) (F0 m 30 ls []) := by
    intro n9
    induction n9 with
    | zero =>
      intro l_3 l_4 l_6 l_yf l_yp l_yq hinv
      exact (cw_cnt0 hinv).elim
    | succ n9 ih =>
      intro l_3 l_4 l_6 l_yf l_yp l_yq hinv hI H locs hP hD hS ls hl
      refine lv_iload hx hb dX6_walk_30 (lv_at hl 6 rfl) ?_
      refine lv_bipush (v := 63) hx hb dX6_walk_32 (by decide) ?_
      refine lv_icmp_gt (tgt := 98) hx hb dX6_walk_34 (by decide) (fun z4 => ?_) (fun z4 => ?_)
      · refine lv_iload_n hx hb dX6_walk_98 rfl (lv_at hl 3 rfl) ?_
        have hsp : (s6_walk1 f ep eq st a3) = (l_3 : Int32) := by rw [← hI]; simp only [s6_walk1_L, if_pos z4]
        exact hret _ _ _ _ _ _ _ _ hP hD hS dX6_walk_99 rfl ⟨(l_yf, l_yp, l_yq), (by rw [hsp]), rfl⟩ (Nat.le_of_ble_eq_true rfl) (Nat.le_of_ble_eq_true rfl)
      · refine lv_iload hx hb dX6_walk_37 (lv_at hl 6 rfl) ?_
        refine lv_iload hx hb dX6_walk_39 (lv_at hl 4 rfl) ?_
        refine lv_iconst (v := (-1)) hx hb dX6_walk_41 (by decide) ?_
        refine lv_ixor hx hb dX6_walk_42 ?_
        refine lv_iand hx hb dX6_walk_43 ?_
        have J41 : ∀ (w42 : Int32), w42 = (if (l_6 &&& (l_4 ^^^ (-1))) = 0 then (if (s2_isLockedOut ((s2_tick f ep eq st l_6).2.1)) = 0 then ((l_3 ||| (s6_foundAt ((s2_tick f ep eq st l_6).2.1))) ||| (s6_walk0 (a3 - 1))) else (l_3 ||| (s6_foundAt ((s2_tick f ep eq st l_6).2.1)))) else l_3) → ∀ (y43 : Nat → Int32), ∀ (y44 : Nat → Int32), ∀ (y45 : Nat → Int32), ∀ (H : Heap) (locs : List Loc), va_P D vwCl [(xf, c2 (.ref xs) (.ref xp) (.ref xq) f), (xp, c1 ep), (xq, c1 eq), (xs, c5 st), (ya, c0 (.ref yf) .null), (yf, c2 (.ref xs) (.ref yp) (.ref yq) y43), (yp, c1 y44), (yq, c1 y45)] H → va_D A [(xf, c2 (.ref xs) (.ref xp) (.ref xq) f), (xp, c1 ep), (xq, c1 eq), (xs, c5 st), (ya, c0 (.ref yf) .null), (yf, c2 (.ref xs) (.ref yp) (.ref yq) y43), (yp, c1 y44), (yq, c1 y45)] → va_S A s.heap H locs → ∀ (ls : Array Slot), lv_has ls 7 [(0, .ref ya), (1, .ref xf), (2, .int a3), (3, .int w42), (4, .int l_4), (5, .ref yf), (6, .int l_6)] → W p l e (cw_rm 8) s m args below meth c H locs 0 0 (Q) (F0 m 92 ls []) := by
          intro w42 hw42 y43 y44 y45 H locs hP hD hS ls hl
          refine lv_iinc (v := (l_6 + 1)) (lv' := [(6, .int (l_6 + 1)), (0, .ref ya), (1, .ref xf), (2, .int a3), (3, .int w42), (4, .int l_4), (5, .ref yf)]) hx hb dX6_walk_92 hl (k := 6) rfl rfl (by decide) rfl (fun ls hl => ?_)
          refine lv_goto (tgt := 30) hx hb dX6_walk_95 (by decide) ?_
          exact ih w42 l_4 (l_6 + 1) y43 y44 y45 (cw_cntS hinv (cw_lt64 (by assumption))) (by rw [← hI]; simp only [s6_walk1_L, ← hw42, if_neg z4]) _ _ hP hD hS _ (lv_sub hl [1, 2, 3, 4, 5, 6, 0] rfl)
        refine lv_if_ne (tgt := 92) hx hb dX6_walk_44 (by decide) (fun z26 => ?_) (fun z26 => ?_)
        · exact J41 l_3 (by simp only [if_neg z26]) l_yf l_yp l_yq _ _ hP hD hS _ (lv_sub hl [0, 1, 2, 3, 4, 5, 6] rfl)
        · refine lv_aload hx hb dX6_walk_47 (lv_at hl 5 rfl) ?_
          refine lv_aload_n hx hb dX6_walk_49 rfl (lv_at hl 1 rfl) ?_
          refine cw_cVv (As := [.ref xf]) (rest := []) (wc := [(yf, c2 (.ref xs) (.ref yp) (.ref yq) l_yf), (yp, c1 l_yp), (yq, c1 l_yq), (xf, c2 (.ref xs) (.ref xp) (.ref xq) f), (xp, c1 ep), (xq, c1 eq)]) (wr := [(xs, c5 st), (ya, c0 (.ref yf) .null)]) ⟨hx, hb, hml, hown, hts⟩ (k2_copyFromP l D cI cJ yf yp yq xf xp xq (.ref xs) (.ref xs) l_yf l_yp l_yq f ep eq (by (repeat' split) <;> first | exact Or.inl rfl | exact Or.inr rfl | assumption) (by (repeat' split) <;> first | exact Or.inl rfl | exact Or.inr rfl | assumption)) (cwV 1 hts gX6_walk_X2_copyFrom rfl rfl rfl (by decide +kernel) ⟨Nat.le_of_ble_eq_true rfl, Nat.le_of_ble_eq_true rfl⟩) hK hN hP hD hS hA [5, 6, 7, 0, 1, 2] [3, 4] rfl rfl (by decide) (by decide) (by decide) 0 (ci := 2) rfl rfl rfl rfl hl.1 rfl (Nat.le_of_ble_eq_true rfl) dX6_walk_50 ⟨Nat.le_of_ble_eq_true rfl, Nat.le_of_ble_eq_true rfl⟩ (fun u27 H locs hw hP hD hS => ?_)
          have hP : va_P D vwCl [(xs, c5 st), (ya, c0 (.ref yf) .null), (yf, c2 (.ref xs) (.ref yp) (.ref yq) f), (yp, c1 ep), (yq, c1 eq), (xf, c2 (.ref xs) (.ref xp) (.ref xq) f), (xp, c1 ep), (xq, c1 eq)] H := hP
          have hD : va_D A [(xs, c5 st), (ya, c0 (.ref yf) .null), (yf, c2 (.ref xs) (.ref yp) (.ref yq) f), (yp, c1 ep), (yq, c1 eq), (xf, c2 (.ref xs) (.ref xp) (.ref xq) f), (xp, c1 ep), (xq, c1 eq)] := hD
          refine lv_aload hx hb dX6_walk_53 (lv_at hl 5 rfl) ?_
          refine lv_iload hx hb dX6_walk_55 (lv_at hl 6 rfl) ?_
          refine cw_cVi (As := [.int l_6]) (rest := []) (wc := [(yf, c2 (.ref xs) (.ref yp) (.ref yq) f), (yp, c1 ep), (yq, c1 eq), (xs, c5 st)]) (wr := [(ya, c0 (.ref yf) .null), (xf, c2 (.ref xs) (.ref xp) (.ref xq) f), (xp, c1 ep), (xq, c1 eq)]) ⟨hx, hb, hml, hown, hts⟩ (k2_tick l D cI cJ yf yp yq xs f ep eq st l_6) (cwV 1 hts gX6_walk_X2_tick rfl rfl rfl (by decide +kernel) ⟨Nat.le_of_ble_eq_true rfl, Nat.le_of_ble_eq_true rfl⟩) hK hN hP hD hS hA [2, 3, 4, 0] [1, 5, 6, 7] rfl rfl (by decide) (by decide) (by decide) 0 (ci := 2) rfl rfl rfl rfl hl.1 rfl (Nat.le_of_ble_eq_true rfl) dX6_walk_57 ⟨Nat.le_of_ble_eq_true rfl, Nat.le_of_ble_eq_true rfl⟩ (fun r30 u29 H locs hw hP hD hS => ?_)
          have hr30 : r30 = ((s2_tick f ep eq st l_6).1) := hw
          obtain ⟨v31, hv31⟩ : ∃ z : Nat → Int32, z = ((s2_tick f ep eq st l_6).2.1) := ⟨_, rfl⟩
          obtain ⟨v32, hv32⟩ : ∃ z : Nat → Int32, z = ((s2_tick f ep eq st l_6).2.2.1) := ⟨_, rfl⟩
          obtain ⟨v33, hv33⟩ : ∃ z : Nat → Int32, z = ((s2_tick f ep eq st l_6).2.2.2) := ⟨_, rfl⟩
          have hP : va_P D vwCl [(ya, c0 (.ref yf) .null), (xf, c2 (.ref xs) (.ref xp) (.ref xq) f), (xp, c1 ep), (xq, c1 eq), (yf, c2 (.ref xs) (.ref yp) (.ref yq) v31), (yp, c1 v32), (yq, c1 v33), (xs, c5 st)] H := by rw [hv31, hv32, hv33]; exact hP
          have hD : va_D A [(ya, c0 (.ref yf) .null), (xf, c2 (.ref xs) (.ref xp) (.ref xq) f), (xp, c1 ep), (xq, c1 eq), (yf, c2 (.ref xs) (.ref yp) (.ref yq) v31), (yp, c1 v32), (yq, c1 v33), (xs, c5 st)] := by rw [hv31, hv32, hv33]; exact hD
          refine lv_pop hx hb dX6_walk_60 rfl ?_
          refine lv_iload_n hx hb dX6_walk_61 rfl (lv_at hl 3 rfl) ?_
          refine lv_aload hx hb dX6_walk_62 (lv_at hl 5 rfl) ?_
          refine cw_cSi (As := [.ref yf]) (rest := [.int l_3]) (wc := [(yf, c2 (.ref xs) (.ref yp) (.ref yq) v31)]) (wr := [(ya, c0 (.ref yf) .null), (xf, c2 (.ref xs) (.ref xp) (.ref xq) f), (xp, c1 ep), (xq, c1 eq), (yp, c1 v32), (yq, c1 v33), (xs, c5 st)]) ⟨hx, hb, hml, hown, hts⟩ (k6_foundAt l D cI cJ yf (.ref xs) (.ref yp) (.ref yq) v31) (va_cwS 1 hts gX6_walk_X6_foundAt rfl rfl rfl (by decide +kernel) ⟨Nat.le_of_ble_eq_true rfl, Nat.le_of_ble_eq_true rfl⟩) hK hN hP hD hS hA [4] [0, 1, 2, 3, 5, 6, 7] rfl rfl (by decide) (by decide) (by decide) rfl hl.1 rfl (Nat.le_of_ble_eq_true rfl) dX6_walk_64 ⟨Nat.le_of_ble_eq_true rfl, Nat.le_of_ble_eq_true rfl⟩ (fun r35 u34 H locs hw hP hD hS => ?_)
          have hr35 : r35 = (s6_foundAt v31) := hw
          have hP : va_P D vwCl [(ya, c0 (.ref yf) .null), (xf, c2 (.ref xs) (.ref xp) (.ref xq) f), (xp, c1 ep), (xq, c1 eq), (yp, c1 v32), (yq, c1 v33), (xs, c5 st), (yf, c2 (.ref xs) (.ref yp) (.ref yq) v31)] H := hP
          have hD : va_D A [(ya, c0 (.ref yf) .null), (xf, c2 (.ref xs) (.ref xp) (.ref xq) f), (xp, c1 ep), (xq, c1 eq), (yp, c1 v32), (yq, c1 v33), (xs, c5 st), (yf, c2 (.ref xs) (.ref yp) (.ref yq) v31)] := hD
          refine lv_ior hx hb dX6_walk_67 ?_
          refine lv_istore_n (lv' := [(3, .int (l_3 ||| r35)), (0, .ref ya), (1, .ref xf), (2, .int a3), (4, .int l_4), (5, .ref yf), (6, .int l_6)]) hx hb dX6_walk_68 rfl hl (by decide) rfl (fun ls hl => ?_)
          refine lv_aload hx hb dX6_walk_69 (lv_at hl 5 rfl) ?_
          refine cw_cVi (As := []) (rest := []) (wc := [(yf, c2 (.ref xs) (.ref yp) (.ref yq) v31)]) (wr := [(ya, c0 (.ref yf) .null), (xf, c2 (.ref xs) (.ref xp) (.ref xq) f), (xp, c1 ep), (xq, c1 eq), (yp, c1 v32), (yq, c1 v33), (xs, c5 st)]) ⟨hx, hb, hml, hown, hts⟩ (k2_isLockedOut l D cI cJ yf (.ref xs) (.ref yp) (.ref yq) v31) (cwV 0 hts gX6_walk_X2_isLockedOut rfl rfl rfl (by decide +kernel) ⟨Nat.le_of_ble_eq_true rfl, Nat.le_of_ble_eq_true rfl⟩) hK hN hP hD hS hA [7] [0, 1, 2, 3, 4, 5, 6] rfl rfl (by decide) (by decide) (by decide) 0 (ci := 2) rfl rfl rfl rfl hl.1 rfl (Nat.le_of_ble_eq_true rfl) dX6_walk_71 ⟨Nat.le_of_ble_eq_true rfl, Nat.le_of_ble_eq_true rfl⟩ (fun r37 u36 H locs hw hP hD hS => ?_)
          have hr37 : r37 = (s2_isLockedOut v31) := hw
          have hP : va_P D vwCl [(ya, c0 (.ref yf) .null), (xf, c2 (.ref xs) (.ref xp) (.ref xq) f), (xp, c1 ep), (xq, c1 eq), (yp, c1 v32), (yq, c1 v33), (xs, c5 st), (yf, c2 (.ref xs) (.ref yp) (.ref yq) v31)] H := hP
          have hD : va_D A [(ya, c0 (.ref yf) .null), (xf, c2 (.ref xs) (.ref xp) (.ref xq) f), (xp, c1 ep), (xq, c1 eq), (yp, c1 v32), (yq, c1 v33), (xs, c5 st), (yf, c2 (.ref xs) (.ref yp) (.ref yq) v31)] := hD
          refine lv_if_ne (tgt := 92) hx hb dX6_walk_74 (by decide) (fun z38 => ?_) (fun z38 => ?_)
          · exact J41 (l_3 ||| r35) (by simp only [← hv31, ← hv32, ← hv33, ← hr30, ← hr35, ← hr37, if_pos z26, if_neg z38]) v31 v32 v33 _ _ (hP.sub [1, 2, 3, 6, 0, 7, 4, 5] rfl) (hD.sub [1, 2, 3, 6, 0, 7, 4, 5] (by decide) rfl) hS _ (lv_sub hl [1, 2, 3, 0, 4, 5, 6] rfl)
          · refine lv_iload_n hx hb dX6_walk_77 rfl (lv_at hl 0 rfl) ?_
            refine lv_aload_n hx hb dX6_walk_78 rfl (lv_at hl 1 rfl) ?_
            refine va_getN (D := D) (ci := 0) (v := .null) (C := RX0) (T := TX0) (N := 2) hx hb hts i0 hown hK hP 0 rfl rfl 1 (by decide) lf242 (fun _ h9 => h9) rfl dX6_walk_79 ?_
            refine lv_aload hx hb dX6_walk_82 (lv_at hl 5 rfl) ?_
            refine lv_iload_n hx hb dX6_walk_84 rfl (lv_at hl 3 rfl) ?_
            refine lv_iconst (v := 1) hx hb dX6_walk_85 (by decide) ?_
            refine lv_isub hx hb dX6_walk_86 ?_
            refine cw_cSi (As := [.null, .ref yf, .int (a3 - 1)]) (rest := [.int (l_3 ||| r35)]) (wc := []) (wr := [(ya, c0 (.ref yf) .null), (xf, c2 (.ref xs) (.ref xp) (.ref xq) f), (xp, c1 ep), (xq, c1 eq), (yp, c1 v32), (yq, c1 v33), (xs, c5 st), (yf, c2 (.ref xs) (.ref yp) (.ref yq) v31)]) ⟨hx, hb, hml, hown, hts⟩ (k6_walk0 l D cI cJ yf (a3 - 1)) (va_cwS 3 hts gX6_walk_X6_walk rfl rfl rfl (by decide +kernel) ⟨Nat.le_of_ble_eq_true rfl, Nat.le_of_ble_eq_true rfl⟩) hK hN hP hD hS hA [] [0, 1, 2, 3, 4, 5, 6, 7] rfl rfl (by decide) (by decide) (by decide) rfl hl.1 rfl (Nat.le_of_ble_eq_true rfl) dX6_walk_87 ⟨Nat.le_of_ble_eq_true rfl, Nat.le_of_ble_eq_true rfl⟩ (fun r40 u39 H locs hw hP hD hS => ?_)
            have hr40 : r40 = (s6_walk0 (a3 - 1)) := hw
            have hP : va_P D vwCl [(ya, c0 (.ref yf) .null), (xf, c2 (.ref xs) (.ref xp) (.ref xq) f), (xp, c1 ep), (xq, c1 eq), (yp, c1 v32), (yq, c1 v33), (xs, c5 st), (yf, c2 (.ref xs) (.ref yp) (.ref yq) v31)] H := hP
            have hD : va_D A [(ya, c0 (.ref yf) .null), (xf, c2 (.ref xs) (.ref xp) (.ref xq) f), (xp, c1 ep), (xq, c1 eq), (yp, c1 v32), (yq, c1 v33), (xs, c5 st), (yf, c2 (.ref xs) (.ref yp) (.ref yq) v31)] := hD
            refine lv_ior hx hb dX6_walk_90 ?_
            refine lv_istore_n (lv' := [(3, .int ((l_3 ||| r35) ||| r40)), (0, .ref ya), (1, .ref xf), (2, .int a3), (4, .int l_4), (5, .ref yf), (6, .int l_6)]) hx hb dX6_walk_91 rfl hl (by decide) rfl (fun ls hl => ?_)
            exact J41 ((l_3 ||| r35) ||| r40) (by simp only [← hv31, ← hv32, ← hv33, ← hr30, ← hr35, ← hr37, ← hr40, if_pos z26, if_pos z38]) v31 v32 v33 _ _ (hP.sub [1, 2, 3, 6, 0, 7, 4, 5] rfl) (hD.sub [1, 2, 3, 6, 0, 7, 4, 5] (by decide) rfl) hS _ (lv_sub hl [1, 2, 3, 0, 4, 5, 6] rfl)
  refine lv_aload_n hx hb dX6_walk_0 rfl (lv_at hl 0 rfl) ?_
  refine lv_ifnull hx hb dX6_walk_1 ?_
  refine lv_iload_n hx hb dX6_walk_4 rfl (lv_at hl 2 rfl) ?_
  refine lv_if_gt (tgt := 10) hx hb dX6_walk_5 (by decide) (fun z1 => ?_) (fun z1 => ?_)
  · refine lv_iconst (v := 0) hx hb dX6_walk_10 (by decide) ?_
    refine lv_istore_n (lv' := [(3, .int 0), (0, .ref ya), (1, .ref xf), (2, .int a3)]) hx hb dX6_walk_11 rfl hl (by decide) rfl (fun ls hl => ?_)
    refine lv_aload_n hx hb dX6_walk_12 rfl (lv_at hl 2 rfl) ?_
    refine va_getN (D := D) (ci := 2) (v := .int (f 3)) (C := RX2) (T := TX2) (N := 11) hx hb hts i2 hown hK hP 0 rfl rfl 3 (by decide) lf154 (fun _ h9 => h9) rfl dX6_walk_13 ?_
    refine cw_cSi (As := [.int (f 3)]) (rest := []) (wc := []) (wr := [(xf, c2 (.ref xs) (.ref xp) (.ref xq) f), (xp, c1 ep), (xq, c1 eq), (xs, c5 st), (ya, c0 (.ref yf) .null), (yf, c2 (.ref xs) (.ref yp) (.ref yq) g), (yp, c1 gp), (yq, c1 gq)]) ⟨hx, hb, hml, hown, hts⟩ (k6_tellingSignals l D cI cJ (f 3)) (va_cwS 1 hts gX6_walk_X6_tellingSignals rfl rfl rfl (by decide +kernel) ⟨Nat.le_of_ble_eq_true rfl, Nat.le_of_ble_eq_true rfl⟩) hK hN hP hD hS hA [] [0, 1, 2, 3, 4, 5, 6, 7] rfl rfl (by decide) (by decide) (by decide) rfl hl.1 rfl (Nat.le_of_ble_eq_true rfl) dX6_walk_16 ⟨Nat.le_of_ble_eq_true rfl, Nat.le_of_ble_eq_true rfl⟩ (fun r3 u2 H locs hw hP hD hS => ?_)
    have hr3 : r3 = (s6_tellingSignals (f 3)) := hw
    have hP : va_P D vwCl [(xf, c2 (.ref xs) (.ref xp) (.ref xq) f), (xp, c1 ep), (xq, c1 eq), (xs, c5 st), (ya, c0 (.ref yf) .null), (yf, c2 (.ref xs) (.ref yp) (.ref yq) g), (yp, c1 gp), (yq, c1 gq)] H := hP
    have hD : va_D A [(xf, c2 (.ref xs) (.ref xp) (.ref xq) f), (xp, c1 ep), (xq, c1 eq), (xs, c5 st), (ya, c0 (.ref yf) .null), (yf, c2 (.ref xs) (.ref yp) (.ref yq) g), (yp, c1 gp), (yq, c1 gq)] := hD
    refine lv_istore (lv' := [(4, .int r3), (3, .int 0), (0, .ref ya), (1, .ref xf), (2, .int a3)]) hx hb dX6_walk_19 hl (by decide) rfl (fun ls hl => ?_)
    refine lv_aload_n hx hb dX6_walk_21 rfl (lv_at hl 2 rfl) ?_
    refine va_getN (D := D) (ci := 0) (v := .ref yf) (C := RX0) (T := TX0) (N := 2) hx hb hts i0 hown hK hP 4 rfl rfl 0 (by decide) lf225 (fun _ h9 => h9) rfl dX6_walk_22 ?_
    refine lv_astore (lv' := [(5, .ref yf), (4, .int r3), (3, .int 0), (0, .ref ya), (1, .ref xf), (2, .int a3)]) hx hb dX6_walk_25 hl (by decide) rfl (fun ls hl => ?_)
    refine lv_iconst (v := 0) hx hb dX6_walk_27 (by decide) ?_
    refine lv_istore (lv' := [(6, .int 0), (5, .ref yf), (4, .int r3), (3, .int 0), (0, .ref ya), (1, .ref xf), (2, .int a3)]) hx hb dX6_walk_28 hl (by decide) rfl (fun ls hl => ?_)
    exact LOOP 65 0 r3 0 g gp gq ⟨by decide, by decide, by decide, by decide⟩ (by simp only [s6_walk1, ← hr3, if_pos z1]) _ _ hP hD hS _ (lv_sub hl [4, 5, 6, 3, 2, 1, 0] rfl)
  · refine lv_iconst (v := 0) hx hb dX6_walk_8 (by decide) ?_
    have hsp : (s6_walk1 f ep eq st a3) = (0 : Int32) := by simp only [s6_walk1, if_neg z1]
    exact hret _ _ _ _ _ _ _ _ hP hD hS dX6_walk_9 rfl ⟨(g, gp, gq), (by rw [hsp]), rfl⟩ (Nat.le_of_ble_eq_true rfl) (Nat.le_of_ble_eq_true rfl)

set_option maxHeartbeats 4000000 in
set_option maxRecDepth 100000 in
theorem k6_walk2 (l : Launch) (D : va_G) (cI cJ : ClassId) (xf xp xq xs ya yf yp yq za zf zp zq : Nat) (f : Nat → Int32) (ep : Nat → Int32) (eq : Nat → Int32) (st : Nat → Int32) (a3 : Int32) (g : Nat → Int32) (gp : Nat → Int32) (gq : Nat → Int32) (gz : Nat → Int32) (gzp : Nat → Int32) (gzq : Nat → Int32) (hep : ep 0 = 0 ∨ ep 0 = 1) (heq : eq 0 = 0 ∨ eq 0 = 1) : cw_Mi l yX6_walk wsX6_walk (cw_rm 9) D [(cI, .int)] [.ref ya, .ref xf, .int a3] [(xf, c2 (.ref xs) (.ref xp) (.ref xq) f), (xp, c1 ep), (xq, c1 eq), (xs, c5 st), (ya, c0 (.ref yf) (.ref za)), (yf, c2 (.ref xs) (.ref yp) (.ref yq) g), (yp, c1 gp), (yq, c1 gq), (za, c0 (.ref zf) .null), (zf, c2 (.ref xs) (.ref zp) (.ref zq) gz), (zp, c1 gzp), (zq, c1 gzq)] 0 0 (fun r (_ : (Nat → Int32) × (Nat → Int32) × (Nat → Int32) × (Nat → Int32) × (Nat → Int32) × (Nat → Int32)) => r = (s6_walk2 f ep eq st a3)) (fun u : (Nat → Int32) × (Nat → Int32) × (Nat → Int32) × (Nat → Int32) × (Nat → Int32) × (Nat → Int32) => [(xf, c2 (.ref xs) (.ref xp) (.ref xq) f), (xp, c1 ep), (xq, c1 eq), (xs, c5 st), (ya, c0 (.ref yf) (.ref za)), (yf, c2 (.ref xs) (.ref yp) (.ref yq) u.1), (yp, c1 u.2.1), (yq, c1 u.2.2.1), (za, c0 (.ref zf) .null), (zf, c2 (.ref xs) (.ref zp) (.ref zq) u.2.2.2.1), (zp, c1 u.2.2.2.2.1), (zq, c1 u.2.2.2.2.2)]) := by
  refine cw_ofi (cc := cX6_walk) (maxL := 7) (ret := (some .int)) (by decide) rfl (Nat.le_of_ble_eq_true rfl) rfl ?_
  intro p e s m args below meth c A ls Q hin0 hret
  obtain ⟨hx, hb, hr, hml, hts, hown, hlocks, hin, hP, hK, hD, hN, hA, hl⟩ := hin0
  have hS : va_S A s.heap s.heap [] := va_S.rf
  have hl : lv_has ls 7 [(0, .ref ya), (1, .ref xf), (2, .int a3)] := hl
  have lf154 := hN.use (args := args) (w := .fieldLinkNest "Burnerline" 154 "Burnerline$Furnace" "state" "I" "Burnerline") (by decide +kernel)
  have i2 : ∀ w ∈ wsX20, w ∈ wsX6_walk := by decide +kernel
  have lf225 := hN.use (args := args) (w := .fieldLinkNest "Burnerline" 225 "Burnerline$Ahead" "furnace" "LBurnerline$Furnace;" "Burnerline") (by decide +kernel)
  have i0 : ∀ w ∈ wsX00, w ∈ wsX6_walk := by decide +kernel
  have lf242 := hN.use (args := args) (w := .fieldLinkNest "Burnerline" 242 "Burnerline$Ahead" "next" "LBurnerline$Ahead;" "Burnerline") (by decide +kernel)
  have LOOP : ∀ (n9 : Nat) (l_3 : Int32) (l_4 : Int32) (l_6 : Int32) (l_yf : Nat → Int32) (l_yp : Nat → Int32) (l_yq : Nat → Int32) (l_zf : Nat → Int32) (l_zp : Nat → Int32) (l_zq : Nat → Int32), cw_cnt 64 l_6 n9 → s6_walk2_L f ep eq st a3 n9 l_3 l_4 l_6 = (s6_walk2 f ep eq st a3) → ∀ (H : Heap) (locs : List Loc), va_P D vwCl [(xf, c2 (.ref xs) (.ref xp) (.ref xq) f), (xp, c1 ep), (xq, c1 eq), (xs, c5 st), (ya, c0 (.ref yf) (.ref za)), (yf, c2 (.ref xs) (.ref yp) (.ref yq) l_yf), (yp, c1 l_yp), (yq, c1 l_yq), (za, c0 (.ref zf) .null), (zf, c2 (.ref xs) (.ref zp) (.ref zq) l_zf), (zp, c1 l_zp), (zq, c1 l_zq)] H → va_D A [(xf, c2 (.ref xs) (.ref xp) (.ref xq) f), (xp, c1 ep), (xq, c1 eq), (xs, c5 st), (ya, c0 (.ref yf) (.ref za)), (yf, c2 (.ref xs) (.ref yp) (.ref yq) l_yf), (yp, c1 l_yp), (yq, c1 l_yq), (za, c0 (.ref zf) .null), (zf, c2 (.ref xs) (.ref zp) (.ref zq) l_zf), (zp, c1 l_zp), (zq, c1 l_zq)] → va_S A s.heap H locs → ∀ (ls : Array Slot), lv_has ls 7 [(0, .ref ya), (1, .ref xf), (2, .int a3), (3, .int l_3), (4, .int l_4), (5, .ref yf), (6, .int l_6)] → W p l e (cw_rm 9) s m args below meth c H locs 0 0 (Q) (F0 m 30 ls []) := by
    intro n9
    induction n9 with
    | zero =>
      intro l_3 l_4 l_6 l_yf l_yp l_yq l_zf l_zp l_zq hinv
      exact (cw_cnt0 hinv).elim
    | succ n9 ih =>
      intro l_3 l_4 l_6 l_yf l_yp l_yq l_zf l_zp l_zq hinv hI H locs hP hD hS ls hl
      refine lv_iload hx hb dX6_walk_30 (lv_at hl 6 rfl) ?_
      refine lv_bipush (v := 63) hx hb dX6_walk_32 (by decide) ?_
      refine lv_icmp_gt (tgt := 98) hx hb dX6_walk_34 (by decide) (fun z4 => ?_) (fun z4 => ?_)
      · refine lv_iload_n hx hb dX6_walk_98 rfl (lv_at hl 3 rfl) ?_
        have hsp : (s6_walk2 f ep eq st a3) = (l_3 : Int32) := by rw [← hI]; simp only [s6_walk2_L, if_pos z4]
        exact hret _ _ _ _ _ _ _ _ hP hD hS dX6_walk_99 rfl ⟨(l_yf, l_yp, l_yq, l_zf, l_zp, l_zq), (by rw [hsp]), rfl⟩ (Nat.le_of_ble_eq_true rfl) (Nat.le_of_ble_eq_true rfl)
      · refine lv_iload hx hb dX6_walk_37 (lv_at hl 6 rfl) ?_
        refine lv_iload hx hb dX6_walk_39 (lv_at hl 4 rfl) ?_
        refine lv_iconst (v := (-1)) hx hb dX6_walk_41 (by decide) ?_
        refine lv_ixor hx hb dX6_walk_42 ?_
        refine lv_iand hx hb dX6_walk_43 ?_
        have J50 : ∀ (w51 : Int32), w51 = (if (l_6 &&& (l_4 ^^^ (-1))) = 0 then (if (s2_isLockedOut ((s2_tick f ep eq st l_6).2.1)) = 0 then ((l_3 ||| (s6_foundAt ((s2_tick f ep eq st l_6).2.1))) ||| (s6_walk1 ((s2_tick f ep eq st l_6).2.1) ((s2_tick f ep eq st l_6).2.2.1) ((s2_tick f ep eq st l_6).2.2.2) st (a3 - 1))) else (l_3 ||| (s6_foundAt ((s2_tick f ep eq st l_6).2.1)))) else l_3) → ∀ (y52 : Nat → Int32), ∀ (y53 : Nat → Int32), ∀ (y54 : Nat → Int32), ∀ (y55 : Nat → Int32), ∀ (y56 : Nat → Int32), ∀ (y57 : Nat → Int32), ∀ (H : Heap) (locs : List Loc), va_P D vwCl [(xf, c2 (.ref xs) (.ref xp) (.ref xq) f), (xp, c1 ep), (xq, c1 eq), (xs, c5 st), (ya, c0 (.ref yf) (.ref za)), (yf, c2 (.ref xs) (.ref yp) (.ref yq) y52), (yp, c1 y53), (yq, c1 y54), (za, c0 (.ref zf) .null), (zf, c2 (.ref xs) (.ref zp) (.ref zq) y55), (zp, c1 y56), (zq, c1 y57)] H → va_D A [(xf, c2 (.ref xs) (.ref xp) (.ref xq) f), (xp, c1 ep), (xq, c1 eq), (xs, c5 st), (ya, c0 (.ref yf) (.ref za)), (yf, c2 (.ref xs) (.ref yp) (.ref yq) y52), (yp, c1 y53), (yq, c1 y54), (za, c0 (.ref zf) .null), (zf, c2 (.ref xs) (.ref zp) (.ref zq) y55), (zp, c1 y56), (zq, c1 y57)] → va_S A s.heap H locs → ∀ (ls : Array Slot), lv_has ls 7 [(0, .ref ya), (1, .ref xf), (2, .int a3), (3, .int w51), (4, .int l_4), (5, .ref yf), (6, .int l_6)] → W p l e (cw_rm 9) s m args below meth c H locs 0 0 (Q) (F0 m 92 ls []) := by
          intro w51 hw51 y52 y53 y54 y55 y56 y57 H locs hP hD hS ls hl
          refine lv_iinc (v := (l_6 + 1)) (lv' := [(6, .int (l_6 + 1)), (0, .ref ya), (1, .ref xf), (2, .int a3), (3, .int w51), (4, .int l_4), (5, .ref yf)]) hx hb dX6_walk_92 hl (k := 6) rfl rfl (by decide) rfl (fun ls hl => ?_)
          refine lv_goto (tgt := 30) hx hb dX6_walk_95 (by decide) ?_
          exact ih w51 l_4 (l_6 + 1) y52 y53 y54 y55 y56 y57 (cw_cntS hinv (cw_lt64 (by assumption))) (by rw [← hI]; simp only [s6_walk2_L, ← hw51, if_neg z4]) _ _ hP hD hS _ (lv_sub hl [1, 2, 3, 4, 5, 6, 0] rfl)
        refine lv_if_ne (tgt := 92) hx hb dX6_walk_44 (by decide) (fun z32 => ?_) (fun z32 => ?_)
        · exact J50 l_3 (by simp only [if_neg z32]) l_yf l_yp l_yq l_zf l_zp l_zq _ _ hP hD hS _ (lv_sub hl [0, 1, 2, 3, 4, 5, 6] rfl)
        · refine lv_aload hx hb dX6_walk_47 (lv_at hl 5 rfl) ?_
          refine lv_aload_n hx hb dX6_walk_49 rfl (lv_at hl 1 rfl) ?_
          refine cw_cVv (As := [.ref xf]) (rest := []) (wc := [(yf, c2 (.ref xs) (.ref yp) (.ref yq) l_yf), (yp, c1 l_yp), (yq, c1 l_yq), (xf, c2 (.ref xs) (.ref xp) (.ref xq) f), (xp, c1 ep), (xq, c1 eq)]) (wr := [(xs, c5 st), (ya, c0 (.ref yf) (.ref za)), (za, c0 (.ref zf) .null), (zf, c2 (.ref xs) (.ref zp) (.ref zq) l_zf), (zp, c1 l_zp), (zq, c1 l_zq)]) ⟨hx, hb, hml, hown, hts⟩ (k2_copyFromP l D cI cJ yf yp yq xf xp xq (.ref xs) (.ref xs) l_yf l_yp l_yq f ep eq (by (repeat' split) <;> first | exact Or.inl rfl | exact Or.inr rfl | assumption) (by (repeat' split) <;> first | exact Or.inl rfl | exact Or.inr rfl | assumption)) (cwV 1 hts gX6_walk_X2_copyFrom rfl rfl rfl (by decide +kernel) ⟨Nat.le_of_ble_eq_true rfl, Nat.le_of_ble_eq_true rfl⟩) hK hN hP hD hS hA [5, 6, 7, 0, 1, 2] [3, 4, 8, 9, 10, 11] rfl rfl (by decide) (by decide) (by decide) 0 (ci := 2) rfl rfl rfl rfl hl.1 rfl (Nat.le_of_ble_eq_true rfl) dX6_walk_50 ⟨Nat.le_of_ble_eq_true rfl, Nat.le_of_ble_eq_true rfl⟩ (fun u33 H locs hw hP hD hS => ?_)
          have hP : va_P D vwCl [(xs, c5 st), (ya, c0 (.ref yf) (.ref za)), (za, c0 (.ref zf) .null), (zf, c2 (.ref xs) (.ref zp) (.ref zq) l_zf), (zp, c1 l_zp), (zq, c1 l_zq), (yf, c2 (.ref xs) (.ref yp) (.ref yq) f), (yp, c1 ep), (yq, c1 eq), (xf, c2 (.ref xs) (.ref xp) (.ref xq) f), (xp, c1 ep), (xq, c1 eq)] H := hP
          have hD : va_D A [(xs, c5 st), (ya, c0 (.ref yf) (.ref za)), (za, c0 (.ref zf) .null), (zf, c2 (.ref xs) (.ref zp) (.ref zq) l_zf), (zp, c1 l_zp), (zq, c1 l_zq), (yf, c2 (.ref xs) (.ref yp) (.ref yq) f), (yp, c1 ep), (yq, c1 eq), (xf, c2 (.ref xs) (.ref xp) (.ref xq) f), (xp, c1 ep), (xq, c1 eq)] := hD
          refine lv_aload hx hb dX6_walk_53 (lv_at hl 5 rfl) ?_
          refine lv_iload hx hb dX6_walk_55 (lv_at hl 6 rfl) ?_
          refine cw_cVi (As := [.int l_6]) (rest := []) (wc := [(yf, c2 (.ref xs) (.ref yp) (.ref yq) f), (yp, c1 ep), (yq, c1 eq), (xs, c5 st)]) (wr := [(ya, c0 (.ref yf) (.ref za)), (za, c0 (.ref zf) .null), (zf, c2 (.ref xs) (.ref zp) (.ref zq) l_zf), (zp, c1 l_zp), (zq, c1 l_zq), (xf, c2 (.ref xs) (.ref xp) (.ref xq) f), (xp, c1 ep), (xq, c1 eq)]) ⟨hx, hb, hml, hown, hts⟩ (k2_tick l D cI cJ yf yp yq xs f ep eq st l_6) (cwV 1 hts gX6_walk_X2_tick rfl rfl rfl (by decide +kernel) ⟨Nat.le_of_ble_eq_true rfl, Nat.le_of_ble_eq_true rfl⟩) hK hN hP hD hS hA [6, 7, 8, 0] [1, 2, 3, 4, 5, 9, 10, 11] rfl rfl (by decide) (by decide) (by decide) 0 (ci := 2) rfl rfl rfl rfl hl.1 rfl (Nat.le_of_ble_eq_true rfl) dX6_walk_57 ⟨Nat.le_of_ble_eq_true rfl, Nat.le_of_ble_eq_true rfl⟩ (fun r36 u35 H locs hw hP hD hS => ?_)
          have hr36 : r36 = ((s2_tick f ep eq st l_6).1) := hw
          obtain ⟨v37, hv37⟩ : ∃ z : Nat → Int32, z = ((s2_tick f ep eq st l_6).2.1) := ⟨_, rfl⟩
          obtain ⟨v38, hv38⟩ : ∃ z : Nat → Int32, z = ((s2_tick f ep eq st l_6).2.2.1) := ⟨_, rfl⟩
          obtain ⟨v39, hv39⟩ : ∃ z : Nat → Int32, z = ((s2_tick f ep eq st l_6).2.2.2) := ⟨_, rfl⟩
          have hP : va_P D vwCl [(ya, c0 (.ref yf) (.ref za)), (za, c0 (.ref zf) .null), (zf, c2 (.ref xs) (.ref zp) (.ref zq) l_zf), (zp, c1 l_zp), (zq, c1 l_zq), (xf, c2 (.ref xs) (.ref xp) (.ref xq) f), (xp, c1 ep), (xq, c1 eq), (yf, c2 (.ref xs) (.ref yp) (.ref yq) v37), (yp, c1 v38), (yq, c1 v39), (xs, c5 st)] H := by rw [hv37, hv38, hv39]; exact hP
          have hD : va_D A [(ya, c0 (.ref yf) (.ref za)), (za, c0 (.ref zf) .null), (zf, c2 (.ref xs) (.ref zp) (.ref zq) l_zf), (zp, c1 l_zp), (zq, c1 l_zq), (xf, c2 (.ref xs) (.ref xp) (.ref xq) f), (xp, c1 ep), (xq, c1 eq), (yf, c2 (.ref xs) (.ref yp) (.ref yq) v37), (yp, c1 v38), (yq, c1 v39), (xs, c5 st)] := by rw [hv37, hv38, hv39]; exact hD
          refine lv_pop hx hb dX6_walk_60 rfl ?_
          refine lv_iload_n hx hb dX6_walk_61 rfl (lv_at hl 3 rfl) ?_
          refine lv_aload hx hb dX6_walk_62 (lv_at hl 5 rfl) ?_
          refine cw_cSi (As := [.ref yf]) (rest := [.int l_3]) (wc := [(yf, c2 (.ref xs) (.ref yp) (.ref yq) v37)]) (wr := [(ya, c0 (.ref yf) (.ref za)), (za, c0 (.ref zf) .null), (zf, c2 (.ref xs) (.ref zp) (.ref zq) l_zf), (zp, c1 l_zp), (zq, c1 l_zq), (xf, c2 (.ref xs) (.ref xp) (.ref xq) f), (xp, c1 ep), (xq, c1 eq), (yp, c1 v38), (yq, c1 v39), (xs, c5 st)]) ⟨hx, hb, hml, hown, hts⟩ (k6_foundAt l D cI cJ yf (.ref xs) (.ref yp) (.ref yq) v37) (va_cwS 1 hts gX6_walk_X6_foundAt rfl rfl rfl (by decide +kernel) ⟨Nat.le_of_ble_eq_true rfl, Nat.le_of_ble_eq_true rfl⟩) hK hN hP hD hS hA [8] [0, 1, 2, 3, 4, 5, 6, 7, 9, 10, 11] rfl rfl (by decide) (by decide) (by decide) rfl hl.1 rfl (Nat.le_of_ble_eq_true rfl) dX6_walk_64 ⟨Nat.le_of_ble_eq_true rfl, Nat.le_of_ble_eq_true rfl⟩ (fun r41 u40 H locs hw hP hD hS => ?_)
          have hr41 : r41 = (s6_foundAt v37) := hw
          have hP : va_P D vwCl [(ya, c0 (.ref yf) (.ref za)), (za, c0 (.ref zf) .null), (zf, c2 (.ref xs) (.ref zp) (.ref zq) l_zf), (zp, c1 l_zp), (zq, c1 l_zq), (xf, c2 (.ref xs) (.ref xp) (.ref xq) f), (xp, c1 ep), (xq, c1 eq), (yp, c1 v38), (yq, c1 v39), (xs, c5 st), (yf, c2 (.ref xs) (.ref yp) (.ref yq) v37)] H := hP
          have hD : va_D A [(ya, c0 (.ref yf) (.ref za)), (za, c0 (.ref zf) .null), (zf, c2 (.ref xs) (.ref zp) (.ref zq) l_zf), (zp, c1 l_zp), (zq, c1 l_zq), (xf, c2 (.ref xs) (.ref xp) (.ref xq) f), (xp, c1 ep), (xq, c1 eq), (yp, c1 v38), (yq, c1 v39), (xs, c5 st), (yf, c2 (.ref xs) (.ref yp) (.ref yq) v37)] := hD
          refine lv_ior hx hb dX6_walk_67 ?_
          refine lv_istore_n (lv' := [(3, .int (l_3 ||| r41)), (0, .ref ya), (1, .ref xf), (2, .int a3), (4, .int l_4), (5, .ref yf), (6, .int l_6)]) hx hb dX6_walk_68 rfl hl (by decide) rfl (fun ls hl => ?_)
          refine lv_aload hx hb dX6_walk_69 (lv_at hl 5 rfl) ?_
          refine cw_cVi (As := []) (rest := []) (wc := [(yf, c2 (.ref xs) (.ref yp) (.ref yq) v37)]) (wr := [(ya, c0 (.ref yf) (.ref za)), (za, c0 (.ref zf) .null), (zf, c2 (.ref xs) (.ref zp) (.ref zq) l_zf), (zp, c1 l_zp), (zq, c1 l_zq), (xf, c2 (.ref xs) (.ref xp) (.ref xq) f), (xp, c1 ep), (xq, c1 eq), (yp, c1 v38), (yq, c1 v39), (xs, c5 st)]) ⟨hx, hb, hml, hown, hts⟩ (k2_isLockedOut l D cI cJ yf (.ref xs) (.ref yp) (.ref yq) v37) (cwV 0 hts gX6_walk_X2_isLockedOut rfl rfl rfl (by decide +kernel) ⟨Nat.le_of_ble_eq_true rfl, Nat.le_of_ble_eq_true rfl⟩) hK hN hP hD hS hA [11] [0, 1, 2, 3, 4, 5, 6, 7, 8, 9, 10] rfl rfl (by decide) (by decide) (by decide) 0 (ci := 2) rfl rfl rfl rfl hl.1 rfl (Nat.le_of_ble_eq_true rfl) dX6_walk_71 ⟨Nat.le_of_ble_eq_true rfl, Nat.le_of_ble_eq_true rfl⟩ (fun r43 u42 H locs hw hP hD hS => ?_)
          have hr43 : r43 = (s2_isLockedOut v37) := hw
          have hP : va_P D vwCl [(ya, c0 (.ref yf) (.ref za)), (za, c0 (.ref zf) .null), (zf, c2 (.ref xs) (.ref zp) (.ref zq) l_zf), (zp, c1 l_zp), (zq, c1 l_zq), (xf, c2 (.ref xs) (.ref xp) (.ref xq) f), (xp, c1 ep), (xq, c1 eq), (yp, c1 v38), (yq, c1 v39), (xs, c5 st), (yf, c2 (.ref xs) (.ref yp) (.ref yq) v37)] H := hP
          have hD : va_D A [(ya, c0 (.ref yf) (.ref za)), (za, c0 (.ref zf) .null), (zf, c2 (.ref xs) (.ref zp) (.ref zq) l_zf), (zp, c1 l_zp), (zq, c1 l_zq), (xf, c2 (.ref xs) (.ref xp) (.ref xq) f), (xp, c1 ep), (xq, c1 eq), (yp, c1 v38), (yq, c1 v39), (xs, c5 st), (yf, c2 (.ref xs) (.ref yp) (.ref yq) v37)] := hD
          refine lv_if_ne (tgt := 92) hx hb dX6_walk_74 (by decide) (fun z44 => ?_) (fun z44 => ?_)
          · exact J50 (l_3 ||| r41) (by simp only [← hv37, ← hv38, ← hv39, ← hr36, ← hr41, ← hr43, if_pos z32, if_neg z44]) v37 v38 v39 l_zf l_zp l_zq _ _ (hP.sub [5, 6, 7, 10, 0, 11, 8, 9, 1, 2, 3, 4] rfl) (hD.sub [5, 6, 7, 10, 0, 11, 8, 9, 1, 2, 3, 4] (by decide) rfl) hS _ (lv_sub hl [1, 2, 3, 0, 4, 5, 6] rfl)
          · refine lv_iload_n hx hb dX6_walk_77 rfl (lv_at hl 0 rfl) ?_
            refine lv_aload_n hx hb dX6_walk_78 rfl (lv_at hl 1 rfl) ?_
            refine va_getN (D := D) (ci := 0) (v := .ref za) (C := RX0) (T := TX0) (N := 2) hx hb hts i0 hown hK hP 0 rfl rfl 1 (by decide) lf242 (fun _ h9 => h9) rfl dX6_walk_79 ?_
            refine lv_aload hx hb dX6_walk_82 (lv_at hl 5 rfl) ?_
            refine lv_iload_n hx hb dX6_walk_84 rfl (lv_at hl 3 rfl) ?_
            refine lv_iconst (v := 1) hx hb dX6_walk_85 (by decide) ?_
            refine lv_isub hx hb dX6_walk_86 ?_
            refine cw_cSi (As := [.ref za, .ref yf, .int (a3 - 1)]) (rest := [.int (l_3 ||| r41)]) (wc := [(yf, c2 (.ref xs) (.ref yp) (.ref yq) v37), (yp, c1 v38), (yq, c1 v39), (xs, c5 st), (za, c0 (.ref zf) .null), (zf, c2 (.ref xs) (.ref zp) (.ref zq) l_zf), (zp, c1 l_zp), (zq, c1 l_zq)]) (wr := [(ya, c0 (.ref yf) (.ref za)), (xf, c2 (.ref xs) (.ref xp) (.ref xq) f), (xp, c1 ep), (xq, c1 eq)]) ⟨hx, hb, hml, hown, hts⟩ (k6_walk1 l D cI cJ yf yp yq xs za zf zp zq v37 v38 v39 st (a3 - 1) l_zf l_zp l_zq (by subst_vars; exact zt1 _ _ _ _ _ (by assumption)) (by subst_vars; exact zt2 _ _ _ _ _ (by assumption))) (va_cwS 3 hts gX6_walk_X6_walk rfl rfl rfl (by decide +kernel) ⟨Nat.le_of_ble_eq_true rfl, Nat.le_of_ble_eq_true rfl⟩) hK hN hP hD hS hA [11, 8, 9, 10, 1, 2, 3, 4] [0, 5, 6, 7] rfl rfl (by decide) (by decide) (by decide) rfl hl.1 rfl (Nat.le_of_ble_eq_true rfl) dX6_walk_87 ⟨Nat.le_of_ble_eq_true rfl, Nat.le_of_ble_eq_true rfl⟩ (fun r49 u48 H locs hw hP hD hS => ?_)
            obtain ⟨y45, y46, y47⟩ := u48
            have hr49 : r49 = (s6_walk1 v37 v38 v39 st (a3 - 1)) := hw
            have hP : va_P D vwCl [(ya, c0 (.ref yf) (.ref za)), (xf, c2 (.ref xs) (.ref xp) (.ref xq) f), (xp, c1 ep), (xq, c1 eq), (yf, c2 (.ref xs) (.ref yp) (.ref yq) v37), (yp, c1 v38), (yq, c1 v39), (xs, c5 st), (za, c0 (.ref zf) .null), (zf, c2 (.ref xs) (.ref zp) (.ref zq) y45), (zp, c1 y46), (zq, c1 y47)] H := hP
            have hD : va_D A [(ya, c0 (.ref yf) (.ref za)), (xf, c2 (.ref xs) (.ref xp) (.ref xq) f), (xp, c1 ep), (xq, c1 eq), (yf, c2 (.ref xs) (.ref yp) (.ref yq) v37), (yp, c1 v38), (yq, c1 v39), (xs, c5 st), (za, c0 (.ref zf) .null), (zf, c2 (.ref xs) (.ref zp) (.ref zq) y45), (zp, c1 y46), (zq, c1 y47)] := hD
            refine lv_ior hx hb dX6_walk_90 ?_
            refine lv_istore_n (lv' := [(3, .int ((l_3 ||| r41) ||| r49)), (0, .ref ya), (1, .ref xf), (2, .int a3), (4, .int l_4), (5, .ref yf), (6, .int l_6)]) hx hb dX6_walk_91 rfl hl (by decide) rfl (fun ls hl => ?_)
            exact J50 ((l_3 ||| r41) ||| r49) (by simp only [← hv37, ← hv38, ← hv39, ← hr36, ← hr41, ← hr43, ← hr49, if_pos z32, if_pos z44]) v37 v38 v39 y45 y46 y47 _ _ (hP.sub [1, 2, 3, 7, 0, 4, 5, 6, 8, 9, 10, 11] rfl) (hD.sub [1, 2, 3, 7, 0, 4, 5, 6, 8, 9, 10, 11] (by decide) rfl) hS _ (lv_sub hl [1, 2, 3, 0, 4, 5, 6] rfl)
  refine lv_aload_n hx hb dX6_walk_0 rfl (lv_at hl 0 rfl) ?_
  refine lv_ifnull hx hb dX6_walk_1 ?_
  refine lv_iload_n hx hb dX6_walk_4 rfl (lv_at hl 2 rfl) ?_
  refine lv_if_gt (tgt := 10) hx hb dX6_walk_5 (by decide) (fun z1 => ?_) (fun z1 => ?_)
  · refine lv_iconst (v := 0) hx hb dX6_walk_10 (by decide) ?_
    refine lv_istore_n (lv' := [(3, .int 0), (0, .ref ya), (1, .ref xf), (2, .int a3)]) hx hb dX6_walk_11 rfl hl (by decide) rfl (fun ls hl => ?_)
    refine lv_aload_n hx hb dX6_walk_12 rfl (lv_at hl 2 rfl) ?_
    refine va_getN (D := D) (ci := 2) (v := .int (f 3)) (C := RX2) (T := TX2) (N := 11) hx hb hts i2 hown hK hP 0 rfl rfl 3 (by decide) lf154 (fun _ h9 => h9) rfl dX6_walk_13 ?_
    refine cw_cSi (As := [.int (f 3)]) (rest := []) (wc := []) (wr := [(xf, c2 (.ref xs) (.ref xp) (.ref xq) f), (xp, c1 ep), (xq, c1 eq), (xs, c5 st), (ya, c0 (.ref yf) (.ref za)), (yf, c2 (.ref xs) (.ref yp) (.ref yq) g), (yp, c1 gp), (yq, c1 gq), (za, c0 (.ref zf) .null), (zf, c2 (.ref xs) (.ref zp) (.ref zq) gz), (zp, c1 gzp), (zq, c1 gzq)]) ⟨hx, hb, hml, hown, hts⟩ (k6_tellingSignals l D cI cJ (f 3)) (va_cwS 1 hts gX6_walk_X6_tellingSignals rfl rfl rfl (by decide +kernel) ⟨Nat.le_of_ble_eq_true rfl, Nat.le_of_ble_eq_true rfl⟩) hK hN hP hD hS hA [] [0, 1, 2, 3, 4, 5, 6, 7, 8, 9, 10, 11] rfl rfl (by decide) (by decide) (by decide) rfl hl.1 rfl (Nat.le_of_ble_eq_true rfl) dX6_walk_16 ⟨Nat.le_of_ble_eq_true rfl, Nat.le_of_ble_eq_true rfl⟩ (fun r3 u2 H locs hw hP hD hS => ?_)
    have hr3 : r3 = (s6_tellingSignals (f 3)) := hw
    have hP : va_P D vwCl [(xf, c2 (.ref xs) (.ref xp) (.ref xq) f), (xp, c1 ep), (xq, c1 eq), (xs, c5 st), (ya, c0 (.ref yf) (.ref za)), (yf, c2 (.ref xs) (.ref yp) (.ref yq) g), (yp, c1 gp), (yq, c1 gq), (za, c0 (.ref zf) .null), (zf, c2 (.ref xs) (.ref zp) (.ref zq) gz), (zp, c1 gzp), (zq, c1 gzq)] H := hP
    have hD : va_D A [(xf, c2 (.ref xs) (.ref xp) (.ref xq) f), (xp, c1 ep), (xq, c1 eq), (xs, c5 st), (ya, c0 (.ref yf) (.ref za)), (yf, c2 (.ref xs) (.ref yp) (.ref yq) g), (yp, c1 gp), (yq, c1 gq), (za, c0 (.ref zf) .null), (zf, c2 (.ref xs) (.ref zp) (.ref zq) gz), (zp, c1 gzp), (zq, c1 gzq)] := hD
    refine lv_istore (lv' := [(4, .int r3), (3, .int 0), (0, .ref ya), (1, .ref xf), (2, .int a3)]) hx hb dX6_walk_19 hl (by decide) rfl (fun ls hl => ?_)
    refine lv_aload_n hx hb dX6_walk_21 rfl (lv_at hl 2 rfl) ?_
    refine va_getN (D := D) (ci := 0) (v := .ref yf) (C := RX0) (T := TX0) (N := 2) hx hb hts i0 hown hK hP 4 rfl rfl 0 (by decide) lf225 (fun _ h9 => h9) rfl dX6_walk_22 ?_
    refine lv_astore (lv' := [(5, .ref yf), (4, .int r3), (3, .int 0), (0, .ref ya), (1, .ref xf), (2, .int a3)]) hx hb dX6_walk_25 hl (by decide) rfl (fun ls hl => ?_)
    refine lv_iconst (v := 0) hx hb dX6_walk_27 (by decide) ?_
    refine lv_istore (lv' := [(6, .int 0), (5, .ref yf), (4, .int r3), (3, .int 0), (0, .ref ya), (1, .ref xf), (2, .int a3)]) hx hb dX6_walk_28 hl (by decide) rfl (fun ls hl => ?_)
    exact LOOP 65 0 r3 0 g gp gq gz gzp gzq ⟨by decide, by decide, by decide, by decide⟩ (by simp only [s6_walk2, ← hr3, if_pos z1]) _ _ hP hD hS _ (lv_sub hl [4, 5, 6, 3, 2, 1, 0] rfl)
  · refine lv_iconst (v := 0) hx hb dX6_walk_8 (by decide) ?_
    have hsp : (s6_walk2 f ep eq st a3) = (0 : Int32) := by simp only [s6_walk2, if_neg z1]
    exact hret _ _ _ _ _ _ _ _ hP hD hS dX6_walk_9 rfl ⟨(g, gp, gq, gz, gzp, gzq), (by rw [hsp]), rfl⟩ (Nat.le_of_ble_eq_true rfl) (Nat.le_of_ble_eq_true rfl)

set_option maxHeartbeats 4000000 in
set_option maxRecDepth 100000 in
theorem k6_walk3 (l : Launch) (D : va_G) (cI cJ : ClassId) (xf xp xq xs ya yf yp yq za zf zp zq ta tf tp tq : Nat) (f : Nat → Int32) (ep : Nat → Int32) (eq : Nat → Int32) (st : Nat → Int32) (a3 : Int32) (g : Nat → Int32) (gp : Nat → Int32) (gq : Nat → Int32) (gz : Nat → Int32) (gzp : Nat → Int32) (gzq : Nat → Int32) (gt : Nat → Int32) (gtp : Nat → Int32) (gtq : Nat → Int32) (hep : ep 0 = 0 ∨ ep 0 = 1) (heq : eq 0 = 0 ∨ eq 0 = 1) : cw_Mi l yX6_walk wsX6_walk (cw_rm 10) D [(cI, .int)] [.ref ya, .ref xf, .int a3] [(xf, c2 (.ref xs) (.ref xp) (.ref xq) f), (xp, c1 ep), (xq, c1 eq), (xs, c5 st), (ya, c0 (.ref yf) (.ref za)), (yf, c2 (.ref xs) (.ref yp) (.ref yq) g), (yp, c1 gp), (yq, c1 gq), (za, c0 (.ref zf) (.ref ta)), (zf, c2 (.ref xs) (.ref zp) (.ref zq) gz), (zp, c1 gzp), (zq, c1 gzq), (ta, c0 (.ref tf) .null), (tf, c2 (.ref xs) (.ref tp) (.ref tq) gt), (tp, c1 gtp), (tq, c1 gtq)] 0 0 (fun r (_ : (Nat → Int32) × (Nat → Int32) × (Nat → Int32) × (Nat → Int32) × (Nat → Int32) × (Nat → Int32) × (Nat → Int32) × (Nat → Int32) × (Nat → Int32)) => r = (s6_walk3 f ep eq st a3)) (fun u : (Nat → Int32) × (Nat → Int32) × (Nat → Int32) × (Nat → Int32) × (Nat → Int32) × (Nat → Int32) × (Nat → Int32) × (Nat → Int32) × (Nat → Int32) => [(xf, c2 (.ref xs) (.ref xp) (.ref xq) f), (xp, c1 ep), (xq, c1 eq), (xs, c5 st), (ya, c0 (.ref yf) (.ref za)), (yf, c2 (.ref xs) (.ref yp) (.ref yq) u.1), (yp, c1 u.2.1), (yq, c1 u.2.2.1), (za, c0 (.ref zf) (.ref ta)), (zf, c2 (.ref xs) (.ref zp) (.ref zq) u.2.2.2.1), (zp, c1 u.2.2.2.2.1), (zq, c1 u.2.2.2.2.2.1), (ta, c0 (.ref tf) .null), (tf, c2 (.ref xs) (.ref tp) (.ref tq) u.2.2.2.2.2.2.1), (tp, c1 u.2.2.2.2.2.2.2.1), (tq, c1 u.2.2.2.2.2.2.2.2)]) := by
  refine cw_ofi (cc := cX6_walk) (maxL := 7) (ret := (some .int)) (by decide) rfl (Nat.le_of_ble_eq_true rfl) rfl ?_
  intro p e s m args below meth c A ls Q hin0 hret
  obtain ⟨hx, hb, hr, hml, hts, hown, hlocks, hin, hP, hK, hD, hN, hA, hl⟩ := hin0
  have hS : va_S A s.heap s.heap [] := va_S.rf
  have hl : lv_has ls 7 [(0, .ref ya), (1, .ref xf), (2, .int a3)] := hl
  have lf154 := hN.use (args := args) (w := .fieldLinkNest "Burnerline" 154 "Burnerline$Furnace" "state" "I" "Burnerline") (by decide +kernel)
  have i2 : ∀ w ∈ wsX20, w ∈ wsX6_walk := by decide +kernel
  have lf225 := hN.use (args := args) (w := .fieldLinkNest "Burnerline" 225 "Burnerline$Ahead" "furnace" "LBurnerline$Furnace;" "Burnerline") (by decide +kernel)
  have i0 : ∀ w ∈ wsX00, w ∈ wsX6_walk := by decide +kernel
  have lf242 := hN.use (args := args) (w := .fieldLinkNest "Burnerline" 242 "Burnerline$Ahead" "next" "LBurnerline$Ahead;" "Burnerline") (by decide +kernel)
  have LOOP : ∀ (n9 : Nat) (l_3 : Int32) (l_4 : Int32) (l_6 : Int32) (l_yf : Nat → Int32) (l_yp : Nat → Int32) (l_yq : Nat → Int32) (l_zf : Nat → Int32) (l_zp : Nat → Int32) (l_zq : Nat → Int32) (l_tf : Nat → Int32) (l_tp : Nat → Int32) (l_tq : Nat → Int32), cw_cnt 64 l_6 n9 → s6_walk3_L f ep eq st a3 n9 l_3 l_4 l_6 = (s6_walk3 f ep eq st a3) → ∀ (H : Heap) (locs : List Loc), va_P D vwCl [(xf, c2 (.ref xs) (.ref xp) (.ref xq) f), (xp, c1 ep), (xq, c1 eq), (xs, c5 st), (ya, c0 (.ref yf) (.ref za)), (yf, c2 (.ref xs) (.ref yp) (.ref yq) l_yf), (yp, c1 l_yp), (yq, c1 l_yq), (za, c0 (.ref zf) (.ref ta)), (zf, c2 (.ref xs) (.ref zp) (.ref zq) l_zf), (zp, c1 l_zp), (zq, c1 l_zq), (ta, c0 (.ref tf) .null), (tf, c2 (.ref xs) (.ref tp) (.ref tq) l_tf), (tp, c1 l_tp), (tq, c1 l_tq)] H → va_D A [(xf, c2 (.ref xs) (.ref xp) (.ref xq) f), (xp, c1 ep), (xq, c1 eq), (xs, c5 st), (ya, c0 (.ref yf) (.ref za)), (yf, c2 (.ref xs) (.ref yp) (.ref yq) l_yf), (yp, c1 l_yp), (yq, c1 l_yq), (za, c0 (.ref zf) (.ref ta)), (zf, c2 (.ref xs) (.ref zp) (.ref zq) l_zf), (zp, c1 l_zp), (zq, c1 l_zq), (ta, c0 (.ref tf) .null), (tf, c2 (.ref xs) (.ref tp) (.ref tq) l_tf), (tp, c1 l_tp), (tq, c1 l_tq)] → va_S A s.heap H locs → ∀ (ls : Array Slot), lv_has ls 7 [(0, .ref ya), (1, .ref xf), (2, .int a3), (3, .int l_3), (4, .int l_4), (5, .ref yf), (6, .int l_6)] → W p l e (cw_rm 10) s m args below meth c H locs 0 0 (Q) (F0 m 30 ls []) := by
    intro n9
    induction n9 with
    | zero =>
      intro l_3 l_4 l_6 l_yf l_yp l_yq l_zf l_zp l_zq l_tf l_tp l_tq hinv
      exact (cw_cnt0 hinv).elim
    | succ n9 ih =>
      intro l_3 l_4 l_6 l_yf l_yp l_yq l_zf l_zp l_zq l_tf l_tp l_tq hinv hI H locs hP hD hS ls hl
      refine lv_iload hx hb dX6_walk_30 (lv_at hl 6 rfl) ?_
      refine lv_bipush (v := 63) hx hb dX6_walk_32 (by decide) ?_
      refine lv_icmp_gt (tgt := 98) hx hb dX6_walk_34 (by decide) (fun z4 => ?_) (fun z4 => ?_)
      · refine lv_iload_n hx hb dX6_walk_98 rfl (lv_at hl 3 rfl) ?_
        have hsp : (s6_walk3 f ep eq st a3) = (l_3 : Int32) := by rw [← hI]; simp only [s6_walk3_L, if_pos z4]
        exact hret _ _ _ _ _ _ _ _ hP hD hS dX6_walk_99 rfl ⟨(l_yf, l_yp, l_yq, l_zf, l_zp, l_zq, l_tf, l_tp, l_tq), (by rw [hsp]), rfl⟩ (Nat.le_of_ble_eq_true rfl) (Nat.le_of_ble_eq_true rfl)
      · refine lv_iload hx hb dX6_walk_37 (lv_at hl 6 rfl) ?_
        refine lv_iload hx hb dX6_walk_39 (lv_at hl 4 rfl) ?_
        refine lv_iconst (v := (-1)) hx hb dX6_walk_41 (by decide) ?_
        refine lv_ixor hx hb dX6_walk_42 ?_
        refine lv_iand hx hb dX6_walk_43 ?_
        have J59 : ∀ (w60 : Int32), w60 = (if (l_6 &&& (l_4 ^^^ (-1))) = 0 then (if (s2_isLockedOut ((s2_tick f ep eq st l_6).2.1)) = 0 then ((l_3 ||| (s6_foundAt ((s2_tick f ep eq st l_6).2.1))) ||| (s6_walk2 ((s2_tick f ep eq st l_6).2.1) ((s2_tick f ep eq st l_6).2.2.1) ((s2_tick f ep eq st l_6).2.2.2) st (a3 - 1))) else (l_3 ||| (s6_foundAt ((s2_tick f ep eq st l_6).2.1)))) else l_3) → ∀ (y61 : Nat → Int32), ∀ (y62 : Nat → Int32), ∀ (y63 : Nat → Int32), ∀ (y64 : Nat → Int32), ∀ (y65 : Nat → Int32), ∀ (y66 : Nat → Int32), ∀ (y67 : Nat → Int32), ∀ (y68 : Nat → Int32), ∀ (y69 : Nat → Int32), ∀ (H : Heap) (locs : List Loc), va_P D vwCl [(xf, c2 (.ref xs) (.ref xp) (.ref xq) f), (xp, c1 ep), (xq, c1 eq), (xs, c5 st), (ya, c0 (.ref yf) (.ref za)), (yf, c2 (.ref xs) (.ref yp) (.ref yq) y61), (yp, c1 y62), (yq, c1 y63), (za, c0 (.ref zf) (.ref ta)), (zf, c2 (.ref xs) (.ref zp) (.ref zq) y64), (zp, c1 y65), (zq, c1 y66), (ta, c0 (.ref tf) .null), (tf, c2 (.ref xs) (.ref tp) (.ref tq) y67), (tp, c1 y68), (tq, c1 y69)] H → va_D A [(xf, c2 (.ref xs) (.ref xp) (.ref xq) f), (xp, c1 ep), (xq, c1 eq), (xs, c5 st), (ya, c0 (.ref yf) (.ref za)), (yf, c2 (.ref xs) (.ref yp) (.ref yq) y61), (yp, c1 y62), (yq, c1 y63), (za, c0 (.ref zf) (.ref ta)), (zf, c2 (.ref xs) (.ref zp) (.ref zq) y64), (zp, c1 y65), (zq, c1 y66), (ta, c0 (.ref tf) .null), (tf, c2 (.ref xs) (.ref tp) (.ref tq) y67), (tp, c1 y68), (tq, c1 y69)] → va_S A s.heap H locs → ∀ (ls : Array Slot), lv_has ls 7 [(0, .ref ya), (1, .ref xf), (2, .int a3), (3, .int w60), (4, .int l_4), (5, .ref yf), (6, .int l_6)] → W p l e (cw_rm 10) s m args below meth c H locs 0 0 (Q) (F0 m 92 ls []) := by
          intro w60 hw60 y61 y62 y63 y64 y65 y66 y67 y68 y69 H locs hP hD hS ls hl
          refine lv_iinc (v := (l_6 + 1)) (lv' := [(6, .int (l_6 + 1)), (0, .ref ya), (1, .ref xf), (2, .int a3), (3, .int w60), (4, .int l_4), (5, .ref yf)]) hx hb dX6_walk_92 hl (k := 6) rfl rfl (by decide) rfl (fun ls hl => ?_)
          refine lv_goto (tgt := 30) hx hb dX6_walk_95 (by decide) ?_
          exact ih w60 l_4 (l_6 + 1) y61 y62 y63 y64 y65 y66 y67 y68 y69 (cw_cntS hinv (cw_lt64 (by assumption))) (by rw [← hI]; simp only [s6_walk3_L, ← hw60, if_neg z4]) _ _ hP hD hS _ (lv_sub hl [1, 2, 3, 4, 5, 6, 0] rfl)
        refine lv_if_ne (tgt := 92) hx hb dX6_walk_44 (by decide) (fun z38 => ?_) (fun z38 => ?_)
        · exact J59 l_3 (by simp only [if_neg z38]) l_yf l_yp l_yq l_zf l_zp l_zq l_tf l_tp l_tq _ _ hP hD hS _ (lv_sub hl [0, 1, 2, 3, 4, 5, 6] rfl)
        · refine lv_aload hx hb dX6_walk_47 (lv_at hl 5 rfl) ?_
          refine lv_aload_n hx hb dX6_walk_49 rfl (lv_at hl 1 rfl) ?_
          refine cw_cVv (As := [.ref xf]) (rest := []) (wc := [(yf, c2 (.ref xs) (.ref yp) (.ref yq) l_yf), (yp, c1 l_yp), (yq, c1 l_yq), (xf, c2 (.ref xs) (.ref xp) (.ref xq) f), (xp, c1 ep), (xq, c1 eq)]) (wr := [(xs, c5 st), (ya, c0 (.ref yf) (.ref za)), (za, c0 (.ref zf) (.ref ta)), (zf, c2 (.ref xs) (.ref zp) (.ref zq) l_zf), (zp, c1 l_zp), (zq, c1 l_zq), (ta, c0 (.ref tf) .null), (tf, c2 (.ref xs) (.ref tp) (.ref tq) l_tf), (tp, c1 l_tp), (tq, c1 l_tq)]) ⟨hx, hb, hml, hown, hts⟩ (k2_copyFromP l D cI cJ yf yp yq xf xp xq (.ref xs) (.ref xs) l_yf l_yp l_yq f ep eq (by (repeat' split) <;> first | exact Or.inl rfl | exact Or.inr rfl | assumption) (by (repeat' split) <;> first | exact Or.inl rfl | exact Or.inr rfl | assumption)) (cwV 1 hts gX6_walk_X2_copyFrom rfl rfl rfl (by decide +kernel) ⟨Nat.le_of_ble_eq_true rfl, Nat.le_of_ble_eq_true rfl⟩) hK hN hP hD hS hA [5, 6, 7, 0, 1, 2] [3, 4, 8, 9, 10, 11, 12, 13, 14, 15] rfl rfl (by decide) (by decide) (by decide) 0 (ci := 2) rfl rfl rfl rfl hl.1 rfl (Nat.le_of_ble_eq_true rfl) dX6_walk_50 ⟨Nat.le_of_ble_eq_true rfl, Nat.le_of_ble_eq_true rfl⟩ (fun u39 H locs hw hP hD hS => ?_)
          have hP : va_P D vwCl [(xs, c5 st), (ya, c0 (.ref yf) (.ref za)), (za, c0 (.ref zf) (.ref ta)), (zf, c2 (.ref xs) (.ref zp) (.ref zq) l_zf), (zp, c1 l_zp), (zq, c1 l_zq), (ta, c0 (.ref tf) .null), (tf, c2 (.ref xs) (.ref tp) (.ref tq) l_tf), (tp, c1 l_tp), (tq, c1 l_tq), (yf, c2 (.ref xs) (.ref yp) (.ref yq) f), (yp, c1 ep), (yq, c1 eq), (xf, c2 (.ref xs) (.ref xp) (.ref xq) f), (xp, c1 ep), (xq, c1 eq)] H := hP
          have hD : va_D A [(xs, c5 st), (ya, c0 (.ref yf) (.ref za)), (za, c0 (.ref zf) (.ref ta)), (zf, c2 (.ref xs) (.ref zp) (.ref zq) l_zf), (zp, c1 l_zp), (zq, c1 l_zq), (ta, c0 (.ref tf) .null), (tf, c2 (.ref xs) (.ref tp) (.ref tq) l_tf), (tp, c1 l_tp), (tq, c1 l_tq), (yf, c2 (.ref xs) (.ref yp) (.ref yq) f), (yp, c1 ep), (yq, c1 eq), (xf, c2 (.ref xs) (.ref xp) (.ref xq) f), (xp, c1 ep), (xq, c1 eq)] := hD
          refine lv_aload hx hb dX6_walk_53 (lv_at hl 5 rfl) ?_
          refine lv_iload hx hb dX6_walk_55 (lv_at hl 6 rfl) ?_
          refine cw_cVi (As := [.int l_6]) (rest := []) (wc := [(yf, c2 (.ref xs) (.ref yp) (.ref yq) f), (yp, c1 ep), (yq, c1 eq), (xs, c5 st)]) (wr := [(ya, c0 (.ref yf) (.ref za)), (za, c0 (.ref zf) (.ref ta)), (zf, c2 (.ref xs) (.ref zp) (.ref zq) l_zf), (zp, c1 l_zp), (zq, c1 l_zq), (ta, c0 (.ref tf) .null), (tf, c2 (.ref xs) (.ref tp) (.ref tq) l_tf), (tp, c1 l_tp), (tq, c1 l_tq), (xf, c2 (.ref xs) (.ref xp) (.ref xq) f), (xp, c1 ep), (xq, c1 eq)]) ⟨hx, hb, hml, hown, hts⟩ (k2_tick l D cI cJ yf yp yq xs f ep eq st l_6) (cwV 1 hts gX6_walk_X2_tick rfl rfl rfl (by decide +kernel) ⟨Nat.le_of_ble_eq_true rfl, Nat.le_of_ble_eq_true rfl⟩) hK hN hP hD hS hA [10, 11, 12, 0] [1, 2, 3, 4, 5, 6, 7, 8, 9, 13, 14, 15] rfl rfl (by decide) (by decide) (by decide) 0 (ci := 2) rfl rfl rfl rfl hl.1 rfl (Nat.le_of_ble_eq_true rfl) dX6_walk_57 ⟨Nat.le_of_ble_eq_true rfl, Nat.le_of_ble_eq_true rfl⟩ (fun r42 u41 H locs hw hP hD hS => ?_)
          have hr42 : r42 = ((s2_tick f ep eq st l_6).1) := hw
          obtain ⟨v43, hv43⟩ : ∃ z : Nat → Int32, z = ((s2_tick f ep eq st l_6).2.1) := ⟨_, rfl⟩
          obtain ⟨v44, hv44⟩ : ∃ z : Nat → Int32, z = ((s2_tick f ep eq st l_6).2.2.1) := ⟨_, rfl⟩
          obtain ⟨v45, hv45⟩ : ∃ z : Nat → Int32, z = ((s2_tick f ep eq st l_6).2.2.2) := ⟨_, rfl⟩
          have hP : va_P D vwCl [(ya, c0 (.ref yf) (.ref za)), (za, c0 (.ref zf) (.ref ta)), (zf, c2 (.ref xs) (.ref zp) (.ref zq) l_zf), (zp, c1 l_zp), (zq, c1 l_zq), (ta, c0 (.ref tf) .null), (tf, c2 (.ref xs) (.ref tp) (.ref tq) l_tf), (tp, c1 l_tp), (tq, c1 l_tq), (xf, c2 (.ref xs) (.ref xp) (.ref xq) f), (xp, c1 ep), (xq, c1 eq), (yf, c2 (.ref xs) (.ref yp) (.ref yq) v43), (yp, c1 v44), (yq, c1 v45), (xs, c5 st)] H := by rw [hv43, hv44, hv45]; exact hP
          have hD : va_D A [(ya, c0 (.ref yf) (.ref za)), (za, c0 (.ref zf) (.ref ta)), (zf, c2 (.ref xs) (.ref zp) (.ref zq) l_zf), (zp, c1 l_zp), (zq, c1 l_zq), (ta, c0 (.ref tf) .null), (tf, c2 (.ref xs) (.ref tp) (.ref tq) l_tf), (tp, c1 l_tp), (tq, c1 l_tq), (xf, c2 (.ref xs) (.ref xp) (.ref xq) f), (xp, c1 ep), (xq, c1 eq), (yf, c2 (.ref xs) (.ref yp) (.ref yq) v43), (yp, c1 v44), (yq, c1 v45), (xs, c5 st)] := by rw [hv43, hv44, hv45]; exact hD
          refine lv_pop hx hb dX6_walk_60 rfl ?_
          refine lv_iload_n hx hb dX6_walk_61 rfl (lv_at hl 3 rfl) ?_
          refine lv_aload hx hb dX6_walk_62 (lv_at hl 5 rfl) ?_
          refine cw_cSi (As := [.ref yf]) (rest := [.int l_3]) (wc := [(yf, c2 (.ref xs) (.ref yp) (.ref yq) v43)]) (wr := [(ya, c0 (.ref yf) (.ref za)), (za, c0 (.ref zf) (.ref ta)), (zf, c2 (.ref xs) (.ref zp) (.ref zq) l_zf), (zp, c1 l_zp), (zq, c1 l_zq), (ta, c0 (.ref tf) .null), (tf, c2 (.ref xs) (.ref tp) (.ref tq) l_tf), (tp, c1 l_tp), (tq, c1 l_tq), (xf, c2 (.ref xs) (.ref xp) (.ref xq) f), (xp, c1 ep), (xq, c1 eq), (yp, c1 v44), (yq, c1 v45), (xs, c5 st)]) ⟨hx, hb, hml, hown, hts⟩ (k6_foundAt l D cI cJ yf (.ref xs) (.ref yp) (.ref yq) v43) (va_cwS 1 hts gX6_walk_X6_foundAt rfl rfl rfl (by decide +kernel) ⟨Nat.le_of_ble_eq_true rfl, Nat.le_of_ble_eq_true rfl⟩) hK hN hP hD hS hA [12] [0, 1, 2, 3, 4, 5, 6, 7, 8, 9, 10, 11, 13, 14, 15] rfl rfl (by decide) (by decide) (by decide) rfl hl.1 rfl (Nat.le_of_ble_eq_true rfl) dX6_walk_64 ⟨Nat.le_of_ble_eq_true rfl, Nat.le_of_ble_eq_true rfl⟩ (fun r47 u46 H locs hw hP hD hS => ?_)
          have hr47 : r47 = (s6_foundAt v43) := hw
          have hP : va_P D vwCl [(ya, c0 (.ref yf) (.ref za)), (za, c0 (.ref zf) (.ref ta)), (zf, c2 (.ref xs) (.ref zp) (.ref zq) l_zf), (zp, c1 l_zp), (zq, c1 l_zq), (ta, c0 (.ref tf) .null), (tf, c2 (.ref xs) (.ref tp) (.ref tq) l_tf), (tp, c1 l_tp), (tq, c1 l_tq), (xf, c2 (.ref xs) (.ref xp) (.ref xq) f), (xp, c1 ep), (xq, c1 eq), (yp, c1 v44), (yq, c1 v45), (xs, c5 st), (yf, c2 (.ref xs) (.ref yp) (.ref yq) v43)] H := hP
          have hD : va_D A [(ya, c0 (.ref yf) (.ref za)), (za, c0 (.ref zf) (.ref ta)), (zf, c2 (.ref xs) (.ref zp) (.ref zq) l_zf), (zp, c1 l_zp), (zq, c1 l_zq), (ta, c0 (.ref tf) .null), (tf, c2 (.ref xs) (.ref tp) (.ref tq) l_tf), (tp, c1 l_tp), (tq, c1 l_tq), (xf, c2 (.ref xs) (.ref xp) (.ref xq) f), (xp, c1 ep), (xq, c1 eq), (yp, c1 v44), (yq, c1 v45), (xs, c5 st), (yf, c2 (.ref xs) (.ref yp) (.ref yq) v43)] := hD
          refine lv_ior hx hb dX6_walk_67 ?_
          refine lv_istore_n (lv' := [(3, .int (l_3 ||| r47)), (0, .ref ya), (1, .ref xf), (2, .int a3), (4, .int l_4), (5, .ref yf), (6, .int l_6)]) hx hb dX6_walk_68 rfl hl (by decide) rfl (fun ls hl => ?_)
          refine lv_aload hx hb dX6_walk_69 (lv_at hl 5 rfl) ?_
          refine cw_cVi (As := []) (rest := []) (wc := [(yf, c2 (.ref xs) (.ref yp) (.ref yq) v43)]) (wr := [(ya, c0 (.ref yf) (.ref za)), (za, c0 (.ref zf) (.ref ta)), (zf, c2 (.ref xs) (.ref zp) (.ref zq) l_zf), (zp, c1 l_zp), (zq, c1 l_zq), (ta, c0 (.ref tf) .null), (tf, c2 (.ref xs) (.ref tp) (.ref tq) l_tf), (tp, c1 l_tp), (tq, c1 l_tq), (xf, c2 (.ref xs) (.ref xp) (.ref xq) f), (xp, c1 ep), (xq, c1 eq), (yp, c1 v44), (yq, c1 v45), (xs, c5 st)]) ⟨hx, hb, hml, hown, hts⟩ (k2_isLockedOut l D cI cJ yf (.ref xs) (.ref yp) (.ref yq) v43) (cwV 0 hts gX6_walk_X2_isLockedOut rfl rfl rfl (by decide +kernel) ⟨Nat.le_of_ble_eq_true rfl, Nat.le_of_ble_eq_true rfl⟩) hK hN hP hD hS hA [15] [0, 1, 2, 3, 4, 5, 6, 7, 8, 9, 10, 11, 12, 13, 14] rfl rfl (by decide) (by decide) (by decide) 0 (ci := 2) rfl rfl rfl rfl hl.1 rfl (Nat.le_of_ble_eq_true rfl) dX6_walk_71 ⟨Nat.le_of_ble_eq_true rfl, Nat.le_of_ble_eq_true rfl⟩ (fun r49 u48 H locs hw hP hD hS => ?_)
          have hr49 : r49 = (s2_isLockedOut v43) := hw
          have hP : va_P D vwCl [(ya, c0 (.ref yf) (.ref za)), (za, c0 (.ref zf) (.ref ta)), (zf, c2 (.ref xs) (.ref zp) (.ref zq) l_zf), (zp, c1 l_zp), (zq, c1 l_zq), (ta, c0 (.ref tf) .null), (tf, c2 (.ref xs) (.ref tp) (.ref tq) l_tf), (tp, c1 l_tp), (tq, c1 l_tq), (xf, c2 (.ref xs) (.ref xp) (.ref xq) f), (xp, c1 ep), (xq, c1 eq), (yp, c1 v44), (yq, c1 v45), (xs, c5 st), (yf, c2 (.ref xs) (.ref yp) (.ref yq) v43)] H := hP
          have hD : va_D A [(ya, c0 (.ref yf) (.ref za)), (za, c0 (.ref zf) (.ref ta)), (zf, c2 (.ref xs) (.ref zp) (.ref zq) l_zf), (zp, c1 l_zp), (zq, c1 l_zq), (ta, c0 (.ref tf) .null), (tf, c2 (.ref xs) (.ref tp) (.ref tq) l_tf), (tp, c1 l_tp), (tq, c1 l_tq), (xf, c2 (.ref xs) (.ref xp) (.ref xq) f), (xp, c1 ep), (xq, c1 eq), (yp, c1 v44), (yq, c1 v45), (xs, c5 st), (yf, c2 (.ref xs) (.ref yp) (.ref yq) v43)] := hD
          refine lv_if_ne (tgt := 92) hx hb dX6_walk_74 (by decide) (fun z50 => ?_) (fun z50 => ?_)
          · exact J59 (l_3 ||| r47) (by simp only [← hv43, ← hv44, ← hv45, ← hr42, ← hr47, ← hr49, if_pos z38, if_neg z50]) v43 v44 v45 l_zf l_zp l_zq l_tf l_tp l_tq _ _ (hP.sub [9, 10, 11, 14, 0, 15, 12, 13, 1, 2, 3, 4, 5, 6, 7, 8] rfl) (hD.sub [9, 10, 11, 14, 0, 15, 12, 13, 1, 2, 3, 4, 5, 6, 7, 8] (by decide) rfl) hS _ (lv_sub hl [1, 2, 3, 0, 4, 5, 6] rfl)
          · refine lv_iload_n hx hb dX6_walk_77 rfl (lv_at hl 0 rfl) ?_
            refine lv_aload_n hx hb dX6_walk_78 rfl (lv_at hl 1 rfl) ?_
            refine va_getN (D := D) (ci := 0) (v := .ref za) (C := RX0) (T := TX0) (N := 2) hx hb hts i0 hown hK hP 0 rfl rfl 1 (by decide) lf242 (fun _ h9 => h9) rfl dX6_walk_79 ?_
            refine lv_aload hx hb dX6_walk_82 (lv_at hl 5 rfl) ?_
            refine lv_iload_n hx hb dX6_walk_84 rfl (lv_at hl 3 rfl) ?_
            refine lv_iconst (v := 1) hx hb dX6_walk_85 (by decide) ?_
            refine lv_isub hx hb dX6_walk_86 ?_
            refine cw_cSi (As := [.ref za, .ref yf, .int (a3 - 1)]) (rest := [.int (l_3 ||| r47)]) (wc := [(yf, c2 (.ref xs) (.ref yp) (.ref yq) v43), (yp, c1 v44), (yq, c1 v45), (xs, c5 st), (za, c0 (.ref zf) (.ref ta)), (zf, c2 (.ref xs) (.ref zp) (.ref zq) l_zf), (zp, c1 l_zp), (zq, c1 l_zq), (ta, c0 (.ref tf) .null), (tf, c2 (.ref xs) (.ref tp) (.ref tq) l_tf), (tp, c1 l_tp), (tq, c1 l_tq)]) (wr := [(ya, c0 (.ref yf) (.ref za)), (xf, c2 (.ref xs) (.ref xp) (.ref xq) f), (xp, c1 ep), (xq, c1 eq)]) ⟨hx, hb, hml, hown, hts⟩ (k6_walk2 l D cI cJ yf yp yq xs za zf zp zq ta tf tp tq v43 v44 v45 st (a3 - 1) l_zf l_zp l_zq l_tf l_tp l_tq (by subst_vars; exact zt1 _ _ _ _ _ (by assumption)) (by subst_vars; exact zt2 _ _ _ _ _ (by assumption))) (va_cwS 3 hts gX6_walk_X6_walk rfl rfl rfl (by decide +kernel) ⟨Nat.le_of_ble_eq_true rfl, Nat.le_of_ble_eq_true rfl⟩) hK hN hP hD hS hA [15, 12, 13, 14, 1, 2, 3, 4, 5, 6, 7, 8] [0, 9, 10, 11] rfl rfl (by decide) (by decide) (by decide) rfl hl.1 rfl (Nat.le_of_ble_eq_true rfl) dX6_walk_87 ⟨Nat.le_of_ble_eq_true rfl, Nat.le_of_ble_eq_true rfl⟩ (fun r58 u57 H locs hw hP hD hS => ?_)
            obtain ⟨y51, y52, y53, y54, y55, y56⟩ := u57
            have hr58 : r58 = (s6_walk2 v43 v44 v45 st (a3 - 1)) := hw
            have hP : va_P D vwCl [(ya, c0 (.ref yf) (.ref za)), (xf, c2 (.ref xs) (.ref xp) (.ref xq) f), (xp, c1 ep), (xq, c1 eq), (yf, c2 (.ref xs) (.ref yp) (.ref yq) v43), (yp, c1 v44), (yq, c1 v45), (xs, c5 st), (za, c0 (.ref zf) (.ref ta)), (zf, c2 (.ref xs) (.ref zp) (.ref zq) y51), (zp, c1 y52), (zq, c1 y53), (ta, c0 (.ref tf) .null), (tf, c2 (.ref xs) (.ref tp) (.ref tq) y54), (tp, c1 y55), (tq, c1 y56)] H := hP
            have hD : va_D A [(ya, c0 (.ref yf) (.ref za)), (xf, c2 (.ref xs) (.ref xp) (.ref xq) f), (xp, c1 ep), (xq, c1 eq), (yf, c2 (.ref xs) (.ref yp) (.ref yq) v43), (yp, c1 v44), (yq, c1 v45), (xs, c5 st), (za, c0 (.ref zf) (.ref ta)), (zf, c2 (.ref xs) (.ref zp) (.ref zq) y51), (zp, c1 y52), (zq, c1 y53), (ta, c0 (.ref tf) .null), (tf, c2 (.ref xs) (.ref tp) (.ref tq) y54), (tp, c1 y55), (tq, c1 y56)] := hD
            refine lv_ior hx hb dX6_walk_90 ?_
            refine lv_istore_n (lv' := [(3, .int ((l_3 ||| r47) ||| r58)), (0, .ref ya), (1, .ref xf), (2, .int a3), (4, .int l_4), (5, .ref yf), (6, .int l_6)]) hx hb dX6_walk_91 rfl hl (by decide) rfl (fun ls hl => ?_)
            exact J59 ((l_3 ||| r47) ||| r58) (by simp only [← hv43, ← hv44, ← hv45, ← hr42, ← hr47, ← hr49, ← hr58, if_pos z38, if_pos z50]) v43 v44 v45 y51 y52 y53 y54 y55 y56 _ _ (hP.sub [1, 2, 3, 7, 0, 4, 5, 6, 8, 9, 10, 11, 12, 13, 14, 15] rfl) (hD.sub [1, 2, 3, 7, 0, 4, 5, 6, 8, 9, 10, 11, 12, 13, 14, 15] (by decide) rfl) hS _ (lv_sub hl [1, 2, 3, 0, 4, 5, 6] rfl)
  refine lv_aload_n hx hb dX6_walk_0 rfl (lv_at hl 0 rfl) ?_
  refine lv_ifnull hx hb dX6_walk_1 ?_
  refine lv_iload_n hx hb dX6_walk_4 rfl (lv_at hl 2 rfl) ?_
  refine lv_if_gt (tgt := 10) hx hb dX6_walk_5 (by decide) (fun z1 => ?_) (fun z1 => ?_)
  · refine lv_iconst (v := 0) hx hb dX6_walk_10 (by decide) ?_
    refine lv_istore_n (lv' := [(3, .int 0), (0, .ref ya), (1, .ref xf), (2, .int a3)]) hx hb dX6_walk_11 rfl hl (by decide) rfl (fun ls hl => ?_)
    refine lv_aload_n hx hb dX6_walk_12 rfl (lv_at hl 2 rfl) ?_
    refine va_getN (D := D) (ci := 2) (v := .int (f 3)) (C := RX2) (T := TX2) (N := 11) hx hb hts i2 hown hK hP 0 rfl rfl 3 (by decide) lf154 (fun _ h9 => h9) rfl dX6_walk_13 ?_
    refine cw_cSi (As := [.int (f 3)]) (rest := []) (wc := []) (wr := [(xf, c2 (.ref xs) (.ref xp) (.ref xq) f), (xp, c1 ep), (xq, c1 eq), (xs, c5 st), (ya, c0 (.ref yf) (.ref za)), (yf, c2 (.ref xs) (.ref yp) (.ref yq) g), (yp, c1 gp), (yq, c1 gq), (za, c0 (.ref zf) (.ref ta)), (zf, c2 (.ref xs) (.ref zp) (.ref zq) gz), (zp, c1 gzp), (zq, c1 gzq), (ta, c0 (.ref tf) .null), (tf, c2 (.ref xs) (.ref tp) (.ref tq) gt), (tp, c1 gtp), (tq, c1 gtq)]) ⟨hx, hb, hml, hown, hts⟩ (k6_tellingSignals l D cI cJ (f 3)) (va_cwS 1 hts gX6_walk_X6_tellingSignals rfl rfl rfl (by decide +kernel) ⟨Nat.le_of_ble_eq_true rfl, Nat.le_of_ble_eq_true rfl⟩) hK hN hP hD hS hA [] [0, 1, 2, 3, 4, 5, 6, 7, 8, 9, 10, 11, 12, 13, 14, 15] rfl rfl (by decide) (by decide) (by decide) rfl hl.1 rfl (Nat.le_of_ble_eq_true rfl) dX6_walk_16 ⟨Nat.le_of_ble_eq_true rfl, Nat.le_of_ble_eq_true rfl⟩ (fun r3 u2 H locs hw hP hD hS => ?_)
    have hr3 : r3 = (s6_tellingSignals (f 3)) := hw
    have hP : va_P D vwCl [(xf, c2 (.ref xs) (.ref xp) (.ref xq) f), (xp, c1 ep), (xq, c1 eq), (xs, c5 st), (ya, c0 (.ref yf) (.ref za)), (yf, c2 (.ref xs) (.ref yp) (.ref yq) g), (yp, c1 gp), (yq, c1 gq), (za, c0 (.ref zf) (.ref ta)), (zf, c2 (.ref xs) (.ref zp) (.ref zq) gz), (zp, c1 gzp), (zq, c1 gzq), (ta, c0 (.ref tf) .null), (tf, c2 (.ref xs) (.ref tp) (.ref tq) gt), (tp, c1 gtp), (tq, c1 gtq)] H := hP
    have hD : va_D A [(xf, c2 (.ref xs) (.ref xp) (.ref xq) f), (xp, c1 ep), (xq, c1 eq), (xs, c5 st), (ya, c0 (.ref yf) (.ref za)), (yf, c2 (.ref xs) (.ref yp) (.ref yq) g), (yp, c1 gp), (yq, c1 gq), (za, c0 (.ref zf) (.ref ta)), (zf, c2 (.ref xs) (.ref zp) (.ref zq) gz), (zp, c1 gzp), (zq, c1 gzq), (ta, c0 (.ref tf) .null), (tf, c2 (.ref xs) (.ref tp) (.ref tq) gt), (tp, c1 gtp), (tq, c1 gtq)] := hD
    refine lv_istore (lv' := [(4, .int r3), (3, .int 0), (0, .ref ya), (1, .ref xf), (2, .int a3)]) hx hb dX6_walk_19 hl (by decide) rfl (fun ls hl => ?_)
    refine lv_aload_n hx hb dX6_walk_21 rfl (lv_at hl 2 rfl) ?_
    refine va_getN (D := D) (ci := 0) (v := .ref yf) (C := RX0) (T := TX0) (N := 2) hx hb hts i0 hown hK hP 4 rfl rfl 0 (by decide) lf225 (fun _ h9 => h9) rfl dX6_walk_22 ?_
    refine lv_astore (lv' := [(5, .ref yf), (4, .int r3), (3, .int 0), (0, .ref ya), (1, .ref xf), (2, .int a3)]) hx hb dX6_walk_25 hl (by decide) rfl (fun ls hl => ?_)
    refine lv_iconst (v := 0) hx hb dX6_walk_27 (by decide) ?_
    refine lv_istore (lv' := [(6, .int 0), (5, .ref yf), (4, .int r3), (3, .int 0), (0, .ref ya), (1, .ref xf), (2, .int a3)]) hx hb dX6_walk_28 hl (by decide) rfl (fun ls hl => ?_)
    exact LOOP 65 0 r3 0 g gp gq gz gzp gzq gt gtp gtq ⟨by decide, by decide, by decide, by decide⟩ (by simp only [s6_walk3, ← hr3, if_pos z1]) _ _ hP hD hS _ (lv_sub hl [4, 5, 6, 3, 2, 1, 0] rfl)
  · refine lv_iconst (v := 0) hx hb dX6_walk_8 (by decide) ?_
    have hsp : (s6_walk3 f ep eq st a3) = (0 : Int32) := by simp only [s6_walk3, if_neg z1]
    exact hret _ _ _ _ _ _ _ _ hP hD hS dX6_walk_9 rfl ⟨(g, gp, gq, gz, gzp, gzq, gt, gtp, gtq), (by rw [hsp]), rfl⟩ (Nat.le_of_ble_eq_true rfl) (Nat.le_of_ble_eq_true rfl)
