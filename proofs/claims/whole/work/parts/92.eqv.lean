theorem pq_fr {a b : Nat} (ha : a < 1000) (hb : b < 1000) (h : nI a = nI b) : a = b := (nI_eq (by omega) (by omega)).mp h
section RA
variable {T far : Nat} {st m0 mm nw0 nt0 : Nat → Int32} {nw nt : Nat → Int64} {r2 : Int64}
theorem pq_val (A B u v : Int32) : (A ||| u) ||| ((B ||| v) <<< 8) = (A ||| (B <<< 8)) ||| (u ||| (v <<< 8)) := by
  rw [Int32.shiftLeft_or]
  ac_rfl
theorem pq_loopC {nO : Nat} {K : (Nat → Int32) → (Nat → Int64) → (Nat → Int64) → Int64 → Int32 → Int32 → Int32 × (Nat → Int32) × (Nat → Int64) × (Nat → Int64)} {tn : Nat}
    (hK : ∀ x w th l4, pq_iO T st m0 far nO x w l4 (tn + 1) → pq_P m0 far r2 (K x w th r2 l4 (nI (tn + 1)))) :
    ∀ (n c : Nat) (x : Nat → Int32) (w th : Nat → Int64) (l4 : Int32), pq_iC T st m0 far nO n x w th l4 tn c → pq_P m0 far r2 (s7_walks_C K mm nw nt (nI far) n x w th r2 l4 (nI tn) (nI c)) := by
  intro n
  induction n with
  | zero => intro c x w th l4 h; exact (wq_C0 h.1).elim
  | succ n ih =>
    intro c x w th l4 h
    obtain ⟨hw, hV, ht, h1, M, hM, hc, h32, hg, he, hu⟩ := h
    by_cases d : M ≤ c
    · have z : x 32 ≤ nI c := by rw [h32]; exact nI_le d (by omega)
      have e : s7_walks_C K mm nw nt (nI far) (n + 1) x w th r2 l4 (nI tn) (nI c) = K x w th r2 l4 (nI (tn + 1)) := by simp only [s7_walks_C, if_pos z, nI_1]
      rw [e]
      have hO := wq_CO (w := w) hw z
      rw [nI_1] at hO
      have hc1 : c = M := by omega
      refine hK _ _ _ _ ⟨hO, hV, by omega, by omega, M, hM, h32, fun i hi => ?_, fun u => ?_⟩
      · rw [he i (by omega)]
        exact hg i hi
      · rw [← hu u, show far + 1 - (tn + 1) = far - tn by omega]
        constructor
        · intro q
          exact ⟨q.1, fun i hi => by rw [← he i (by omega)]; exact q.2 i hi⟩
        · intro q
          exact ⟨q.1, fun i hi => by rw [he i (by omega)]; exact q.2 i hi⟩
    · have z : ¬ x 32 ≤ nI c := by rw [h32]; exact nI_ge (by omega) (by omega)
      have cc : (nI c).toNatClampNeg = c := nI_clamp (by omega)
      have e : s7_walks_C K mm nw nt (nI far) (n + 1) x w th r2 l4 (nI tn) (nI c) = s7_walks_C K mm nw nt (nI far) n x (vp_updL w c (th c)) th r2 l4 (nI tn) (nI (c + 1)) := by simp only [s7_walks_C, if_neg z, nI_1, cc]
      rw [e]
      have hC := wq_CC hw z
      rw [nI_1] at hC
      refine ih (c + 1) _ _ _ _ ⟨hC, hV, ht, h1, M, hM, by omega, h32, hg, fun i hi => ?_, hu⟩
      by_cases q : i = c
      · simp only [vp_updL, if_pos q]
        rw [q]
      · simp only [vp_updL, if_neg q]
        exact he i (by omega)
theorem pq_loopI {nP nO : Nat} {K : (Nat → Int32) → (Nat → Int64) → (Nat → Int64) → Int64 → Int32 → Int32 → Int32 → Int32 → Int32 × (Nat → Int32) × (Nat → Int64) × (Nat → Int64)} {tn kn : Nat} (hT : T < 250000) (hfar : far ≤ 3)
    (hK : ∀ x w th l4 M, pq_iM T st m0 far nP nO x w th l4 tn M (kn + 1) → pq_P m0 far r2 (K x w th r2 l4 (nI tn) (nI M) (nI (kn + 1)))) :
    ∀ (n j : Nat) (x : Nat → Int32) (w th : Nat → Int64) (l4 : Int32) (M : Nat), pq_iI T st m0 far nP nO n x w th l4 tn M kn j → pq_P m0 far r2 (s7_walks_I K mm nw nt (nI far) n x w th r2 l4 (nI tn) (nI M) (nI kn) (nI j)) := by
  intro n
  induction n with
  | zero => intro j x w th l4 M h; exact (wq_I0 h.1).elim
  | succ n ih =>
    intro j x w th l4 M h
    obtain ⟨hw, hV, ht, h1, hM, hj, N, hN, hkN, h32, hg, hg2, hu⟩ := h
    by_cases d : 64 ≤ j
    · have z : (64 : Int32) ≤ nI j := nI_le (a := 64) d (by omega)
      have e : s7_walks_I K mm nw nt (nI far) (n + 1) x w th r2 l4 (nI tn) (nI M) (nI kn) (nI j) = K x w th r2 l4 (nI tn) (nI M) (nI (kn + 1)) := by simp only [s7_walks_I, if_pos z, nI_1]
      rw [e]
      have hM1 := wq_IM hw z
      rw [nI_1] at hM1
      refine hK _ _ _ _ _ ⟨hM1, hV, ht, h1, hM, N, hN, by omega, h32, hg, hg2, fun u => ?_⟩
      rw [← hu u]
      exact ⟨fun q => ⟨q.1, q.2.1, fun a h2 h3 => by omega, q.2.2⟩, fun q => ⟨q.1, q.2.1, q.2.2.2⟩⟩
    · have z : ¬ (64 : Int32) ≤ nI j := nI_ge (b := 64) (by omega) (by decide)
      have hj64 : j < 64 := by omega
      have ck : (nI kn).toNatClampNeg = kn := nI_clamp (by omega)
      have hag := hw.2.1
      have hM400 : M < 512 := by
        obtain ⟨⟨i1, i2, i3, -⟩, -, ⟨N1, M1, j1, j2, j3, j4, -, -, j5⟩, -⟩ := hw
        have hq := wq_M400 i1 i2 i3 j2 j4 j5
        have e := pq_fr hM (by omega) j3
        omega
      obtain ⟨v34, hv34⟩ : ∃ v34 : Nat → Int32, v34 = s7_unpacks x (w kn) := ⟨_, rfl⟩
      obtain ⟨v40, hv40⟩ : ∃ v40 : Nat → Int32, v40 = s7_plays v34 (nI j) := ⟨_, rfl⟩
      obtain ⟨y0, hy0⟩ : ∃ y0 : Nat → Int32, y0 = s7_unpacks m0 (w kn) := ⟨_, rfl⟩
      have g34 : wq_20 v34 y0 := by rw [hv34, hy0]; exact g7_unpacks hag (w kn)
      have g40 : wq_20 v40 (s7_plays y0 (nI j)) := by rw [hv40]; exact g7_plays g34 (nI j)
      obtain ⟨w44, hw44⟩ : ∃ w44 : Int32, w44 = (if v40 12 = 6 then (if (if v34 12 = 6 then (1 : Int32) else 0) = 0 then ((1 : Int32) <<< (v40 13 &&& 31)) else 0) else 0) := ⟨_, rfl⟩
      obtain ⟨x1, hx1⟩ : ∃ x1 : Nat → Int32, x1 = upd v40 33 (v40 33 ||| w44) := ⟨_, rfl⟩
      obtain ⟨l5, hl5⟩ : ∃ l5 : Int32, l5 = l4 ||| ((1 : Int32) <<< (v40 12 &&& 31)) := ⟨_, rfl⟩
      have hfm : ((1 : Int32) <<< (v40 12 &&& 31)) ||| (w44 <<< 8) = pq_fm (y0 12) (s7_plays y0 (nI j) 12) (s7_plays y0 (nI j) 13) := by
        rw [← g34 12 (by decide), ← g40 12 (by decide), ← g40 13 (by decide), hw44]
        rfl
      have k40 : ∀ k, k < 12 ∨ 20 < k → v40 k = x k := fun k hk => by rw [hv40, f7_plays _ _ k hk, hv34, pq_ukF _ _ k hk]
      have hval : pq_v l5 x1 = pq_v l4 x ||| pq_fm (y0 12) (s7_plays y0 (nI j) 12) (s7_plays y0 (nI j) 13) := by
        rw [← hfm]
        unfold pq_v
        rw [hx1, cw_upd0, hl5, k40 33 (by decide)]
        exact pq_val _ _ _ _
      obtain ⟨z0, hQ0, hag0, hz0⟩ := hg kn hkN
      have gz : wq_20 y0 z0 := by rw [hy0]; exact pq_gU hQ0 (by omega) hag0 hz0
      have gp : wq_20 v40 (s7_plays z0 (nI j)) := fun k hk => (g40 k hk).trans (g7_plays gz (nI j) k hk)
      have hQ1 : pq_Q (T + tn - 1 + 1) st (s7_plays z0 (nI j)) := pq_Qt hQ0 (by omega) ⟨j, hj64, rfl⟩
      have hag1 : wq_ag m0 (s7_plays z0 (nI j)) := fun k hk => (f7_plays _ _ k (Or.inl hk)).trans (hag0 k hk)
      have hpk : s7_packs x1 = s7_packs (s7_plays z0 (nI j)) := by rw [hx1, wq_packs33, g7_packs gp]
      have hgp : pq_g (T + tn) st m0 (s7_packs x1) := ⟨_, by rw [show T + tn = T + tn - 1 + 1 by omega]; exact hQ1, hag1, hpk⟩
      have gU : wq_20 (s7_unpacks m0 (s7_packs x1)) (s7_plays y0 (nI j)) := fun k hk => (pq_gU hQ1 (by omega) hag1 hpk k hk).trans ((g7_plays gz (nI j) k hk).symm)
      have hq13 : 0 ≤ (v40 13).toInt ∧ (v40 13).toInt ≤ 8 := by
        rw [gp 13 (by decide)]
        obtain ⟨f, ep, eq, -, -, -, -, hN9⟩ := hQ1
        exact hN9.2.1
      have hq12 : 0 ≤ (v40 12).toInt ∧ (v40 12).toInt ≤ 6 := by
        rw [gp 12 (by decide)]
        obtain ⟨f, ep, eq, -, -, -, -, hN9⟩ := hQ1
        exact hN9.1
      have hV1 : pq_V m0 x1 l5 := by
        refine ⟨fun k hk => ?_, ?_, ?_⟩
        · rw [hx1, cw_updn _ _ (by omega), k40 k (by omega)]
          exact hV.1 k hk
        · obtain ⟨q, hq, e⟩ := pq_nI (B := 6) hq12.1 hq12.2
          have hd : ∀ q : Nat, q < 7 → (((1 : Int32) <<< (nI q &&& 31)) ||| 127 = 127) := by decide +kernel
          rw [hl5, pq_leO, e]
          exact ⟨hV.2.1, hd q (by omega)⟩
        · rw [hx1, cw_upd0, k40 33 (by decide), pq_leO]
          refine ⟨hV.2.2, ?_⟩
          obtain ⟨q, hq, e⟩ := pq_nI (B := 8) hq13.1 hq13.2
          have hd : ∀ q : Nat, q < 9 → (((1 : Int32) <<< (nI q &&& 31)) ||| 511 = 511) := by decide +kernel
          rw [hw44, e]
          have h9 := hd q (by omega)
          repeat' (first | exact h9 | exact pq_le0 | split)
      have x32 : x1 32 = nI N := by rw [hx1, cw_updn _ _ (by decide), k40 32 (by decide)]; exact h32
      have hII := wq_II (v := v40 33 ||| w44) hw z
      rw [ck, ← hv34, ← hv40, ← hx1, nI_1] at hII
      have fin : ∀ (th1 : Nat → Int64) (M1 : Nat), (∀ u, (∀ i, i < M1 → pq_T (far - tn) (s7_unpacks m0 (th1 i)) u) ↔ (∀ i, i < M → pq_T (far - tn) (s7_unpacks m0 (th i)) u) ∧ pq_T (far - tn) (s7_plays y0 (nI j)) u) →
          ∀ u, (pq_le (pq_v l5 x1) u ∧ (∀ i, i < M1 → pq_T (far - tn) (s7_unpacks m0 (th1 i)) u) ∧ (∀ a, j + 1 ≤ a → a < 64 → pq_le (pq_fm (y0 12) (s7_plays y0 (nI a) 12) (s7_plays y0 (nI a) 13)) u ∧ pq_T (far - tn) (s7_plays y0 (nI a)) u) ∧ ∀ i, kn + 1 ≤ i → i < N → pq_T (far + 1 - tn) (s7_unpacks m0 (w i)) u) ↔ pq_T far m0 u := by
        intro th1 M1 hth u
        rw [← hu u, hval, pq_leO, hth u, ← hy0]
        constructor
        · intro q
          refine ⟨q.1.1, q.2.1.1, fun a h2 h3 => ?_, q.2.2.2⟩
          by_cases c : a = j
          · rw [c]; exact ⟨q.1.2, q.2.1.2⟩
          · exact q.2.2.1 a (by omega) h3
        · intro q
          have hjj := q.2.2.1 j (Nat.le_refl _) hj64
          exact ⟨⟨q.1, hjj.1⟩, ⟨q.2.1, hjj.2⟩, fun a h2 h3 => q.2.2.1 a (by omega) h3, q.2.2.2⟩
      by_cases c : nI far ≤ nI tn
      · have hft : far = tn := by
          have := (nI_leI (by omega) (by omega)).mp c
          omega
        have e : s7_walks_I K mm nw nt (nI far) (n + 1) x w th r2 l4 (nI tn) (nI M) (nI kn) (nI j) = s7_walks_I K mm nw nt (nI far) n x1 w th r2 l5 (nI tn) (nI M) (nI kn) (nI (j + 1)) := by
          simp only [s7_walks_I, if_neg z, ck, nI_1, ← hv34, ← hv40, ← hw44, ← hx1, ← hl5, if_pos c]
        rw [e]
        rw [if_pos c, if_pos c] at hII
        refine ih (j + 1) _ _ _ _ _ ⟨hII, hV1, ht, h1, hM, by omega, N, hN, hkN, x32, hg, hg2, ?_⟩
        rw [← hy0]
        refine fin th M (fun u => ?_)
        rw [show far - tn = 0 by omega]
        exact ⟨fun q => ⟨q, pq_T0⟩, fun q => q.1⟩
      · obtain ⟨M1, hM1, a1, a2⟩ := pq_adds (mm := x1) (th := th) hM400
        have e : s7_walks_I K mm nw nt (nI far) (n + 1) x w th r2 l4 (nI tn) (nI M) (nI kn) (nI j) = s7_walks_I K mm nw nt (nI far) n x1 w (s7_adds x1 th (nI M)).2 r2 l5 (nI tn) (nI M1) (nI kn) (nI (j + 1)) := by
          rw [← a1]
          simp only [s7_walks_I, if_neg z, ck, nI_1, ← hv34, ← hv40, ← hw44, ← hx1, ← hl5, if_neg c]
        rw [e]
        rw [if_neg c, if_neg c, a1] at hII
        refine ih (j + 1) _ _ _ _ _ ⟨hII, hV1, ht, h1, by omega, by omega, N, hN, hkN, x32, hg, (a2 _).mpr ⟨hg2, hgp⟩, ?_⟩
        rw [← hy0]
        refine fin _ M1 (fun u => ?_)
        rw [a2 (fun z1 => pq_T (far - tn) (s7_unpacks m0 z1) u), pq_TC gU]
theorem pq_loopM {nO : Nat} {K : (Nat → Int32) → (Nat → Int64) → (Nat → Int64) → Int64 → Int32 → Int32 → Int32 × (Nat → Int32) × (Nat → Int64) × (Nat → Int64)} {tn : Nat} (hT : T < 250000) (hfar : far ≤ 3)
    (hK : ∀ x w th l4, pq_iO T st m0 far nO x w l4 (tn + 1) → pq_P m0 far r2 (K x w th r2 l4 (nI (tn + 1)))) :
    ∀ (n kn : Nat) (x : Nat → Int32) (w th : Nat → Int64) (l4 : Int32) (M : Nat), pq_iM T st m0 far nO n x w th l4 tn M kn → pq_P m0 far r2 (s7_walks_M K mm nw nt (nI far) n x w th r2 l4 (nI tn) (nI M) (nI kn)) := by
  intro n
  induction n with
  | zero => intro kn x w th l4 M h; exact (wq_M0 h.1).elim
  | succ n ih =>
    intro kn x w th l4 M h
    obtain ⟨hw, hV, ht, h1, hM, N, hN, hk, h32, hg, hg2, hu⟩ := h
    by_cases d : N ≤ kn
    · have z : x 32 ≤ nI kn := by rw [h32]; exact nI_le d (by omega)
      have e : s7_walks_M K mm nw nt (nI far) (n + 1) x w th r2 l4 (nI tn) (nI M) (nI kn) = s7_walks_C K mm nw nt (nI far) 513 (upd x 32 (nI M)) w th r2 l4 (nI tn) (nI 0) := by
        simp only [s7_walks_M, if_pos z]
        rfl
      rw [e]
      have hC := wq_MC hw z
      have x33 : upd x 32 (nI M) 33 = x 33 := cw_updn _ _ (by decide)
      have hv : pq_v l4 (upd x 32 (nI M)) = pq_v l4 x := by unfold pq_v; rw [x33]
      refine pq_loopC hK 513 0 _ _ _ _ ⟨hC, ⟨fun k hk9 => ?_, hV.2.1, by rw [x33]; exact hV.2.2⟩, ht, h1, M, hM, Nat.zero_le _, cw_upd0 _ _ _, hg2, fun i hi => absurd hi (Nat.not_lt_zero _), fun u => ?_⟩
      · by_cases q : k = 32
        · omega
        · rw [cw_updn _ _ q]; exact hV.1 k hk9
      · rw [hv, ← hu u]
        exact ⟨fun q => ⟨q.1, q.2, fun i h2 h3 => by omega⟩, fun q => ⟨q.1, q.2.1⟩⟩
    · have z : ¬ x 32 ≤ nI kn := by rw [h32]; exact nI_ge (by omega) (by omega)
      have e : s7_walks_M K mm nw nt (nI far) (n + 1) x w th r2 l4 (nI tn) (nI M) (nI kn) = s7_walks_I (fun x0 x1 x2 x3 x4 x5 x6 x7 => s7_walks_M K mm nw nt (nI far) n x0 x1 x2 x3 x4 x5 x6 x7) mm nw nt (nI far) 65 x w th r2 l4 (nI tn) (nI M) (nI kn) (nI 0) := by
        simp only [s7_walks_M, if_neg z]
        rfl
      rw [e]
      have hI := wq_MI hw z
      refine pq_loopI hT hfar (nP := nO) (nO := n) (fun x w th l4 M h => ih (kn + 1) x w th l4 M h) 65 0 _ _ _ _ _ ⟨hI, hV, ht, h1, hM, by omega, N, hN, by omega, h32, hg, hg2, fun u => ?_⟩
      rw [← hu u]
      have hs : ∀ q : Nat → Int32, pq_T (far + 1 - tn) q u ↔ ∀ a, 0 ≤ a → a < 64 → pq_le (pq_fm (q 12) (s7_plays q (nI a) 12) (s7_plays q (nI a) 13)) u ∧ pq_T (far - tn) (s7_plays q (nI a)) u := fun q => by
        rw [show far + 1 - tn = far - tn + 1 by omega, pq_TS]
        exact ⟨fun g a _ h3 => g a h3, fun g a h3 => g a (Nat.zero_le _) h3⟩
      constructor
      · intro q
        refine ⟨q.1, q.2.1, fun i h2 h3 => ?_⟩
        by_cases c : i = kn
        · rw [c]; exact (hs _).mpr q.2.2.1
        · exact q.2.2.2 i (by omega) h3
      · intro q
        exact ⟨q.1, q.2.1, (hs _).mp (q.2.2 kn (Nat.le_refl _) (by omega)), fun i h2 h3 => q.2.2 i (by omega) h3⟩
theorem pq_loopO (hT : T < 250000) (hfar : far ≤ 3) : ∀ (n tn : Nat) (x : Nat → Int32) (w th : Nat → Int64) (l4 : Int32), pq_iO T st m0 far n x w l4 tn → pq_P m0 far r2 (s7_walks_O mm nw nt (nI far) n x w th r2 l4 (nI tn)) := by
  intro n
  induction n with
  | zero => intro tn x w th l4 h; exact (wq_O0 h.1).elim
  | succ n ih =>
    intro tn x w th l4 h
    obtain ⟨hw, hV, ht, h1, N, hN, h32, hg, hu⟩ := h
    by_cases d : far < tn
    · have z : nI far < nI tn := nI_lt d (by omega)
      have e : s7_walks_O mm nw nt (nI far) (n + 1) x w th r2 l4 (nI tn) = (l4, s7_unpacks x r2, w, th) := by simp only [s7_walks_O, if_pos z]
      rw [e]
      refine ⟨⟨x, hV, rfl⟩, fun u => ?_⟩
      have hv : pq_v l4 (s7_unpacks x r2) = pq_v l4 x := by unfold pq_v; rw [pq_ukF _ _ 33 (by decide)]
      show pq_le (pq_v l4 (s7_unpacks x r2)) u ↔ _
      rw [hv, ← hu u, show far + 1 - tn = 0 by omega]
      exact ⟨fun q => ⟨q, fun i hi => pq_T0⟩, fun q => q.1⟩
    · have z : ¬ nI far < nI tn := nI_nlt (by omega) (by omega)
      have e : s7_walks_O mm nw nt (nI far) (n + 1) x w th r2 l4 (nI tn) = s7_walks_M (fun x0 x1 x2 x3 x4 x5 => s7_walks_O mm nw nt (nI far) n x0 x1 x2 x3 x4 x5) mm nw nt (nI far) 513 x w th r2 l4 (nI tn) (nI 0) (nI 0) := by
        simp only [s7_walks_O, if_neg z]
        rfl
      rw [e]
      have hM := wq_OM (th := th) hw z
      refine pq_loopM hT hfar (nO := n) (fun x w th l4 h => ih (tn + 1) x w th l4 h) 513 0 _ _ _ _ 0 ⟨hM, hV, by omega, h1, by omega, N, hN, Nat.zero_le _, h32, hg, fun i hi => absurd hi (Nat.not_lt_zero _), fun u => ?_⟩
      rw [← hu u]
      exact ⟨fun q => ⟨q.1, fun i hi => q.2.2 i (Nat.zero_le _) hi⟩, fun q => ⟨q.1, fun i hi => absurd hi (Nat.not_lt_zero _), fun i _ hi => q.2 i hi⟩⟩
/-- the model's walk: what it finds, and that it comes back -/
theorem pq_walks (hT : T < 250000) (hf1 : 1 ≤ far) (hfar : far ≤ 3) (hQ : pq_Q T st mm) : pq_P mm far (s7_packs mm) (s7_walks mm nw nt (nI far)) := by
  have hck : ¬ mm 8 = 0 := by
    obtain ⟨f, ep, eq, -, -, -, hB, -⟩ := hQ
    intro q
    have h8 := hB.2.2.2.2.2
    rw [q] at h8
    exact absurd h8 (by decide)
  have e : s7_walks mm nw nt (nI far) = s7_walks_O mm nw nt (nI far) 5 (upd (upd mm 33 0) 32 1) (vp_updL nw 0 (s7_packs mm)) nt (s7_packs mm) 0 (nI 1) := rfl
  rw [e]
  have hfi : (nI far).toInt = far := nI_toInt (by omega)
  refine pq_loopO (st := st) hT hfar 5 1 _ _ _ _ ⟨wq_E hck (by rw [hfi]; omega), ⟨fun k hk => ?_, pq_le0, ?_⟩, by omega, by omega, 1, by omega, rfl, fun i hi => ?_, fun u => ?_⟩
  · rw [cw_updn _ _ (by omega), cw_updn _ _ (by omega)]
  · rw [cw_updn _ _ (by decide), cw_upd0]
    exact pq_le0
  · have hi0 : i = 0 := by omega
    rw [hi0]
    exact ⟨mm, by rw [show T + 1 - 1 = T by omega]; exact hQ, fun _ _ => rfl, rfl⟩
  · have hv : pq_v 0 (upd (upd mm 33 0) 32 1) = 0 := by
      unfold pq_v
      rw [cw_updn _ _ (by decide), cw_upd0]
      decide
    have gU : wq_20 (s7_unpacks mm (s7_packs mm)) mm := pq_gU hQ (by omega) (fun _ _ => rfl) rfl
    have w0 : vp_updL nw 0 (s7_packs mm) 0 = s7_packs mm := rfl
    rw [hv, show far + 1 - 1 = far by omega]
    constructor
    · intro q
      have h0 := q.2 0 (by omega)
      rw [w0] at h0
      exact (pq_TC gU).mp h0
    · intro q
      refine ⟨pq_le0, fun i hi => ?_⟩
      have hi0 : i = 0 := by omega
      rw [hi0, w0]
      exact (pq_TC gU).mpr q
end RA
