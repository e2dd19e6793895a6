/-- the resets of the class and of the model agree -/
def pq_Z (T : Nat) (rs mm nr : Nat → Int32) : Prop := ∃ r : Nat, r ≤ T ∧ mm 28 = nI r ∧ rs 0 = (if 1 ≤ r then nr ((r + 2) % 3) else -100) ∧ rs 1 = (if 2 ≤ r then nr ((r + 1) % 3) else -100) ∧ rs 2 = (if 3 ≤ r then nr (r % 3) else -100)
def pq_w (p q : Int32) : Int32 := if 100 ≤ p - q then 0 else 1
theorem pq_w01 (p q : Int32) : pq_w p q = 0 ∨ pq_w p q = 1 := by
  unfold pq_w
  split
  · exact Or.inl rfl
  · exact Or.inr rfl
theorem pq_wfar {t : Nat} (ht : t < 2000000) : pq_w (nI t) (-100) = 0 := by
  have h1 : (100 : Int32).toInt = 100 := by decide
  have h2 : (-100 : Int32).toInt = -100 := by decide
  unfold pq_w
  refine if_pos ?_
  rw [Int32.le_iff_toInt_le, Int32.toInt_sub, nI_toInt (by omega), h1, h2, Int.bmod_def]
  split <;> omega
section QA
variable {rs mm nr : Nat → Int32} {T : Nat}
theorem pq_rcS (n j : Nat) (l1 : Int32) (hj : j < 3) {r : Nat} (h28 : mm 28 = nI r) (hr : j < r) (hb : r < 2000000) : s7_recentResets_L mm nr (n + 1) l1 (nI j) = s7_recentResets_L mm nr n (l1 + pq_w (mm 21) (nr j)) (nI (j + 1)) := by
  have c1 : ¬ (3 : Int32) ≤ nI j := nI_ge (b := 3) hj (by decide)
  have c2 : ¬ mm 28 ≤ nI j := by rw [h28]; exact nI_ge hr (by omega)
  have c3 : (nI j).toNatClampNeg = j := nI_clamp (by omega)
  simp only [s7_recentResets_L, if_neg c1, if_neg c2, c3, nI_1]
  rfl
theorem pq_rcE (n j : Nat) (l1 : Int32) (hj : j ≤ 3) {r : Nat} (h28 : mm 28 = nI r) (hr : r ≤ j ∨ j = 3) (hb : r < 2000000) : s7_recentResets_L mm nr (n + 1) l1 (nI j) = l1 := by
  simp only [s7_recentResets_L]
  by_cases c1 : (3 : Int32) ≤ nI j
  · rw [if_pos c1]
  · rw [if_neg c1]
    have c2 : mm 28 ≤ nI j := by
      rw [h28]
      rcases hr with q | q
      · exact nI_le q (by omega)
      · exact absurd (by rw [q]; decide) c1
    rw [if_pos c2]
theorem pq_rec (h : pq_Z T rs mm nr) (hT : T < 1000000) {t : Nat} (h21 : mm 21 = nI t) (ht : t ≤ T) : s4_recent rs (mm 21) = s7_recentResets mm nr := by
  obtain ⟨r, hr, h28, h0, h1, h2⟩ := h
  have hm : s7_recentResets mm nr = s7_recentResets_L mm nr 4 0 (nI 0) := rfl
  have hc : s4_recent rs (mm 21) = pq_w (mm 21) (rs 0) + pq_w (mm 21) (rs 1) + pq_w (mm 21) (rs 2) := rfl
  have hf : pq_w (mm 21) (-100) = 0 := by rw [h21]; exact pq_wfar (by omega)
  rw [hm, hc, h0, h1, h2]
  by_cases r0 : r = 0
  · rw [pq_rcE 3 0 0 (by omega) h28 (by omega) (by omega), if_neg (by omega), if_neg (by omega), if_neg (by omega), hf]
    decide
  · rw [pq_rcS 3 0 0 (by omega) h28 (by omega) (by omega)]
    by_cases r1 : r = 1
    · rw [pq_rcE 2 1 _ (by omega) h28 (by omega) (by omega), if_pos (by omega), if_neg (by omega), if_neg (by omega), hf, show (r + 2) % 3 = 0 by omega]
      rcases pq_w01 (mm 21) (nr 0) with q | q <;> rw [q] <;> decide
    · rw [pq_rcS 2 1 _ (by omega) h28 (by omega) (by omega)]
      by_cases r2 : r = 2
      · rw [pq_rcE 1 2 _ (by omega) h28 (by omega) (by omega), if_pos (by omega), if_pos (by omega), if_neg (by omega), hf, show (r + 2) % 3 = 1 by omega, show (r + 1) % 3 = 0 by omega]
        rcases pq_w01 (mm 21) (nr 0) with q | q <;> rcases pq_w01 (mm 21) (nr 1) with q1 | q1 <;> rw [q, q1] <;> decide
      · rw [pq_rcS 1 2 _ (by omega) h28 (by omega) (by omega), pq_rcE 0 3 _ (by omega) h28 (by omega) (by omega), if_pos (by omega), if_pos (by omega), if_pos (by omega)]
        have h3 : r % 3 = 0 ∨ r % 3 = 1 ∨ r % 3 = 2 := by omega
        rcases h3 with g | g | g
        · rw [g, show (r + 2) % 3 = 2 by omega, show (r + 1) % 3 = 1 by omega]
          rcases pq_w01 (mm 21) (nr 0) with q | q <;> rcases pq_w01 (mm 21) (nr 1) with q1 | q1 <;> rcases pq_w01 (mm 21) (nr 2) with q2 | q2 <;> rw [q, q1, q2] <;> decide
        · rw [g, show (r + 2) % 3 = 0 by omega, show (r + 1) % 3 = 2 by omega]
          rcases pq_w01 (mm 21) (nr 0) with q | q <;> rcases pq_w01 (mm 21) (nr 1) with q1 | q1 <;> rcases pq_w01 (mm 21) (nr 2) with q2 | q2 <;> rw [q, q1, q2] <;> decide
        · rw [g, show (r + 2) % 3 = 1 by omega, show (r + 1) % 3 = 0 by omega]
          rcases pq_w01 (mm 21) (nr 0) with q | q <;> rcases pq_w01 (mm 21) (nr 1) with q1 | q1 <;> rcases pq_w01 (mm 21) (nr 2) with q2 | q2 <;> rw [q, q1, q2] <;> decide
theorem pq_Zc {T1 : Nat} {w : Nat → Int32} (h : pq_Z T rs mm nr) (hT : T ≤ T1) (hw : w 28 = mm 28) : pq_Z T1 rs w nr := by
  obtain ⟨r, hr, h28, h2⟩ := h
  exact ⟨r, by omega, hw.trans h28, h2⟩
theorem pq_rem3 {n : Nat} (hn : n < 2 ^ 31) : (nI n - nI n / 3 * 3).toNatClampNeg = n % 3 := by
  show (nI n - nI n / nI 3 * nI 3).toNatClampNeg = n % 3
  rw [pk_rem hn (by decide) (by decide), nI_clamp (by omega)]
theorem pq_Zadd {w : Nat → Int32} {y : Int32} (h : pq_Z T rs mm nr) (hT : T < 1000000) (hw : w 28 = mm 28 + 1) : pq_Z (T + 1) (s4_add rs y) w (upd nr ((mm 28 - mm 28 / 3 * 3).toNatClampNeg) y) := by
  obtain ⟨r, hr, h28, h0, h1, h2⟩ := h
  rw [h28, pq_rem3 (by omega)]
  refine ⟨r + 1, by omega, by rw [hw, h28, nI_1], ?_, ?_, ?_⟩
  · show upd (upd (upd rs 2 (rs 1)) 1 (rs 0)) 0 y 0 = _
    rw [cw_upd0, if_pos (by omega), show (r + 1 + 2) % 3 = r % 3 by omega, cw_upd0]
  · show upd (upd (upd rs 2 (rs 1)) 1 (rs 0)) 0 y 1 = _
    rw [cw_updn _ _ (by decide), cw_upd0, h0]
    by_cases g : 1 ≤ r
    · rw [if_pos g, if_pos (by omega), cw_updn _ _ (by omega)]
    · rw [if_neg g, if_neg (by omega)]
  · show upd (upd (upd rs 2 (rs 1)) 1 (rs 0)) 0 y 2 = _
    rw [cw_updn _ _ (by decide), cw_updn _ _ (by decide), cw_upd0, h1]
    by_cases g : 2 ≤ r
    · rw [if_pos g, if_pos (by omega), cw_updn _ _ (by omega)]
    · rw [if_neg g, if_neg (by omega)]
end QA
/-- the class and the model agree -/
def pq_W (T : Nat) (b f ep eq st hh t1 t2 t3 rs mm n1 n2 n3 nr : Nat → Int32) : Prop := pq_R T b f ep eq st hh t1 t2 t3 mm n1 n2 n3 ∧ pq_Z T rs mm nr
section QB
variable {b f ep eq st hh t1 t2 t3 rs mm n1 n2 n3 nr w : Nat → Int32} {T T1 : Nat}
theorem pq_Rc (h : pq_R T b f ep eq st hh t1 t2 t3 mm n1 n2 n3) (hT : T ≤ T1) (hw : ∀ k, k ≤ 24 → w k = mm k) : pq_R T1 b f ep eq st hh t1 t2 t3 w n1 n2 n3 := by
  obtain ⟨hF, hE, hS, hB, hN, ⟨h5, j, hj, h0⟩, ⟨h6, n, hn, h21⟩, ⟨h9, h10⟩, hH⟩ := h
  refine ⟨pq_Fc hF (fun k _ hk => hw k (by omega)), pq_Ec hE (fun k _ hk => hw k (by omega)), fun k hk => (hS k hk).trans (hw (k + 1) (by omega)).symm, pq_Bc hB (fun k hk => hw k (by omega)), pq_Nm hN hT (fun k hk => hw k (by omega)), ⟨?_, j, hj, ?_⟩, ⟨?_, n, by omega, ?_⟩, ⟨?_, ?_⟩, pq_Hc hH hT (hw 24 (by decide))⟩
  · rw [hw 0 (by decide)]; exact h5
  · rw [hw 0 (by decide)]; exact h0
  · rw [hw 21 (by decide)]; exact h6
  · rw [hw 21 (by decide)]; exact h21
  · rw [hw 22 (by decide)]; exact h9
  · rw [hw 23 (by decide)]; exact h10
theorem pq_Wc (h : pq_W T b f ep eq st hh t1 t2 t3 rs mm n1 n2 n3 nr) (hT : T ≤ T1) (hw : ∀ k, k ≤ 28 → w k = mm k) : pq_W T1 b f ep eq st hh t1 t2 t3 rs w n1 n2 n3 nr :=
  ⟨pq_Rc h.1 hT (fun k hk => hw k (by omega)), pq_Zc h.2 hT (hw 28 (by decide))⟩
theorem pq_W34 (h : pq_W T b f ep eq st hh t1 t2 t3 rs mm n1 n2 n3 nr) (v : Int32) (hT : T ≤ T1) : pq_W T1 b f ep eq st hh t1 t2 t3 rs (upd mm 34 v) n1 n2 n3 nr :=
  pq_Wc h hT (fun k hk => cw_updn _ _ (by omega))
/-- poll -/
theorem pq_poll (h : pq_W T b f ep eq st hh t1 t2 t3 rs mm n1 n2 n3 nr) (hT : T < 900000) (a1 : Int32) :
    (s7_poll mm n1 n2 n3 a1).2.1 34 = (s6_poll b f ep eq st hh t1 t2 t3 a1).1 ∧ ((s6_poll b f ep eq st hh t1 t2 t3 a1).1 = 0 ∨ s6_poll b f ep eq st hh t1 t2 t3 a1 = (1, 0, b, f, ep, eq, hh, t1, t2, t3)) ∧
    ((s6_poll b f ep eq st hh t1 t2 t3 a1).1 = 0 → (s6_poll b f ep eq st hh t1 t2 t3 a1).2.1 = (s7_poll mm n1 n2 n3 a1).1) ∧
    pq_W (T + 201) (s6_poll b f ep eq st hh t1 t2 t3 a1).2.2.1 (s6_poll b f ep eq st hh t1 t2 t3 a1).2.2.2.1 (s6_poll b f ep eq st hh t1 t2 t3 a1).2.2.2.2.1 (s6_poll b f ep eq st hh t1 t2 t3 a1).2.2.2.2.2.1 st (s6_poll b f ep eq st hh t1 t2 t3 a1).2.2.2.2.2.2.1 (s6_poll b f ep eq st hh t1 t2 t3 a1).2.2.2.2.2.2.2.1 (s6_poll b f ep eq st hh t1 t2 t3 a1).2.2.2.2.2.2.2.2.1 (s6_poll b f ep eq st hh t1 t2 t3 a1).2.2.2.2.2.2.2.2.2 rs
      (s7_poll mm n1 n2 n3 a1).2.1 (s7_poll mm n1 n2 n3 a1).2.2.1 (s7_poll mm n1 n2 n3 a1).2.2.2.1 (s7_poll mm n1 n2 n3 a1).2.2.2.2 nr := by
  by_cases c : s6_isOutside a1 1 200 = 0
  · have d : ¬ s7_in a1 1 200 = 0 := by
      simp only [s6_isOutside] at c
      simp only [s7_in]
      by_cases c1 : a1 < 1
      · rw [if_pos c1] at c; exact absurd c (by decide)
      · rw [if_neg c1] at c ⊢
        by_cases c2 : a1 ≤ 200
        · have c3 : ¬ (200 : Int32) < a1 := by
            rw [Int32.lt_iff_toInt_lt]
            rw [Int32.le_iff_toInt_le] at c2
            omega
          rw [if_neg c3]; decide
        · rw [if_neg c2] at c; exact absurd c (by decide)
    have e1 : s6_poll b f ep eq st hh t1 t2 t3 a1 = s6_poll_L b f ep eq st hh t1 t2 t3 a1 201 b f ep eq hh t1 t2 t3 0 0 := by simp only [s6_poll, if_pos c]
    have e2 : s7_poll mm n1 n2 n3 a1 = s7_poll_L mm n1 n2 n3 a1 201 (upd mm 34 0) n1 n2 n3 (upd mm 34 0 24) 0 := by simp only [s7_poll, s7_asks, if_neg d]
    have hW0 := pq_W34 h 0 (Nat.le_refl T)
    have hL := pq_pollL (b0 := b) (f0 := f) (e0 := ep) (q0 := eq) (h0 := hh) (u1 := t1) (u2 := t2) (u3 := t3) (m0 := mm) (v1 := n1) (v2 := n2) (v3 := n3) 201 T b f ep eq hh t1 t2 t3 (upd mm 34 0) n1 n2 n3 0 0 (upd mm 34 0 24) (by omega) (cw_cnt200 c) hW0.1 (Int32.sub_self _)
    rw [e1, e2]
    obtain ⟨l1, l2, l3, l4⟩ := hL
    refine ⟨?_, Or.inl l1, fun _ => l2, l4, pq_Zc hW0.2 (by omega) (l3 28 (by decide))⟩
    rw [l3 34 (by decide), cw_upd0, l1]
  · have d : s7_in a1 1 200 = 0 := by
      simp only [s6_isOutside] at c
      simp only [s7_in]
      by_cases c1 : a1 < 1
      · rw [if_pos c1]
      · rw [if_neg c1] at c ⊢
        by_cases c2 : a1 ≤ 200
        · rw [if_pos c2] at c; exact absurd rfl c
        · have c3 : (200 : Int32) < a1 := by
            rw [Int32.lt_iff_toInt_lt]
            exact cw_lt1 c2
          rw [if_pos c3]
    have e1 : s6_poll b f ep eq st hh t1 t2 t3 a1 = (1, 0, b, f, ep, eq, hh, t1, t2, t3) := by simp only [s6_poll, if_neg c]
    have e2 : s7_poll mm n1 n2 n3 a1 = (0, upd mm 34 1, n1, n2, n3) := by simp only [s7_poll, s7_asks, d, if_true]
    rw [e1, e2]
    exact ⟨show upd mm 34 1 34 = 1 from cw_upd0 _ _ _, Or.inr rfl, fun q => absurd (show (1 : Int32) = 0 from q) (by decide), pq_W34 h 1 (by omega)⟩
/-- reset -/
theorem pq_reset (h : pq_W T b f ep eq st hh t1 t2 t3 rs mm n1 n2 n3 nr) (hT : T < 900000) :
    (s7_reset mm n1 n2 n3 nr).2.1 34 = (s6_reset b f ep eq st hh t1 t2 t3 rs).1 ∧ ((s6_reset b f ep eq st hh t1 t2 t3 rs).1 = 0 ∨ s6_reset b f ep eq st hh t1 t2 t3 rs = (1, 0, f, hh, t1, t2, t3, rs)) ∧
    ((s6_reset b f ep eq st hh t1 t2 t3 rs).1 = 0 → (s6_reset b f ep eq st hh t1 t2 t3 rs).2.1 = (s7_reset mm n1 n2 n3 nr).1) ∧
    pq_W (T + 1) b (s6_reset b f ep eq st hh t1 t2 t3 rs).2.2.1 ep eq st (s6_reset b f ep eq st hh t1 t2 t3 rs).2.2.2.1 (s6_reset b f ep eq st hh t1 t2 t3 rs).2.2.2.2.1 (s6_reset b f ep eq st hh t1 t2 t3 rs).2.2.2.2.2.1 (s6_reset b f ep eq st hh t1 t2 t3 rs).2.2.2.2.2.2.1 (s6_reset b f ep eq st hh t1 t2 t3 rs).2.2.2.2.2.2.2
      (s7_reset mm n1 n2 n3 nr).2.1 (s7_reset mm n1 n2 n3 nr).2.2.1 (s7_reset mm n1 n2 n3 nr).2.2.2.1 (s7_reset mm n1 n2 n3 nr).2.2.2.2.1 (s7_reset mm n1 n2 n3 nr).2.2.2.2.2 := by
  obtain ⟨⟨hF, hE, hS, hB, hN, ⟨h5, j, hj, h0⟩, ⟨h6, n, hn, h21⟩, ⟨h9, h10⟩, hH⟩, hZ⟩ := id h
  have l10 : ¬ (1 : Int32) = 0 := by decide
  have hrec := pq_rec hZ (by omega) h21 hn
  have f3 : f 3 = mm 12 := hF.1
  have f5 : f 5 = mm 14 := hF.2.2.1
  have hfl : s2_hasFlame f ep eq st = 0 ↔ mm 18 = 0 := by
    obtain ⟨hp, hq, h18, -⟩ := hE
    rw [h18]
    simp only [s2_hasFlame]
    rcases hp with hp | hp <;> rcases hq with hq | hq <;> rw [hp, hq] <;> decide
  have hno : ∀ (x y : Int32), s6_reset b f ep eq st hh t1 t2 t3 rs = (1, 0, f, hh, t1, t2, t3, rs) → s7_reset mm n1 n2 n3 nr = (0, upd mm 34 1, n1, n2, n3, nr) →
      (s7_reset mm n1 n2 n3 nr).2.1 34 = (s6_reset b f ep eq st hh t1 t2 t3 rs).1 ∧ ((s6_reset b f ep eq st hh t1 t2 t3 rs).1 = 0 ∨ s6_reset b f ep eq st hh t1 t2 t3 rs = (1, 0, f, hh, t1, t2, t3, rs)) ∧
      ((s6_reset b f ep eq st hh t1 t2 t3 rs).1 = 0 → (s6_reset b f ep eq st hh t1 t2 t3 rs).2.1 = (s7_reset mm n1 n2 n3 nr).1) ∧
      pq_W (T + 1) b (s6_reset b f ep eq st hh t1 t2 t3 rs).2.2.1 ep eq st (s6_reset b f ep eq st hh t1 t2 t3 rs).2.2.2.1 (s6_reset b f ep eq st hh t1 t2 t3 rs).2.2.2.2.1 (s6_reset b f ep eq st hh t1 t2 t3 rs).2.2.2.2.2.1 (s6_reset b f ep eq st hh t1 t2 t3 rs).2.2.2.2.2.2.1 (s6_reset b f ep eq st hh t1 t2 t3 rs).2.2.2.2.2.2.2
        (s7_reset mm n1 n2 n3 nr).2.1 (s7_reset mm n1 n2 n3 nr).2.2.1 (s7_reset mm n1 n2 n3 nr).2.2.2.1 (s7_reset mm n1 n2 n3 nr).2.2.2.2.1 (s7_reset mm n1 n2 n3 nr).2.2.2.2.2 := by
    intro _ _ e1 e2
    rw [e1, e2]
    exact ⟨show upd mm 34 1 34 = 1 from cw_upd0 _ _ _, Or.inr rfl, fun q => absurd (show (1 : Int32) = 0 from q) (by decide), pq_W34 h 1 (by omega)⟩
  by_cases c1 : mm 12 = 6
  · by_cases c2 : mm 18 = 0
    · by_cases c3 : mm 14 < 5
      · exact hno 0 0 (by simp only [s6_reset, s2_isLockedOut, f3, c1, if_true, if_neg l10, if_pos (hfl.mpr c2), f5, if_pos c3]) (by simp only [s7_reset, s7_asks, if_pos c1, if_pos c2, if_pos c3, if_true])
      · by_cases c4 : s4_recent rs (mm 21) < 3
        · have c5 : ¬ 3 ≤ s7_recentResets mm nr := by
            rw [← hrec, Int32.le_iff_toInt_le]
            rw [Int32.lt_iff_toInt_lt] at c4
            omega
          obtain ⟨v0, hv0⟩ : ∃ v0 : Nat → Int32, v0 = upd mm 34 0 := ⟨_, rfl⟩
          obtain ⟨u, hu⟩ : ∃ u : Nat → Int32, u = s7_begins (upd v0 28 (mm 28 + 1)) 0 0 := ⟨_, rfl⟩
          obtain ⟨v18, hv18⟩ : ∃ v18 : Nat → Int32, v18 = (s7_notes u n1 n2 n3).1 := ⟨_, rfl⟩
          obtain ⟨g, hg⟩ : ∃ g : Nat → Int32, g = (s2_begin f 0 0).2 := ⟨_, rfl⟩
          have v28 : v0 28 = mm 28 := by rw [hv0]; exact cw_updn _ _ (by decide)
          have v21 : v0 21 = mm 21 := by rw [hv0]; exact cw_updn _ _ (by decide)
          have e1 : s6_reset b f ep eq st hh t1 t2 t3 rs = (0, s4_recent (s4_add rs (b 6)) (b 6), g, (s6_recordChange b g hh t1 t2 t3).1, (s6_recordChange b g hh t1 t2 t3).2.1, (s6_recordChange b g hh t1 t2 t3).2.2.1, (s6_recordChange b g hh t1 t2 t3).2.2.2, s4_add rs (b 6)) := by
            have c6 : s4_recent rs (b 6) < 3 := by rw [h6]; exact c4
            simp only [s6_reset, s2_isLockedOut, f3, c1, if_true, if_neg l10, if_pos (hfl.mpr c2), f5, if_neg c3, if_pos c6, ← hg]
          have e2 : s7_reset mm n1 n2 n3 nr = (s7_recentResets v18 (upd nr ((mm 28 - mm 28 / 3 * 3).toNatClampNeg) (mm 21)), v18, (s7_notes u n1 n2 n3).2.1, (s7_notes u n1 n2 n3).2.2.1, (s7_notes u n1 n2 n3).2.2.2, upd nr ((mm 28 - mm 28 / 3 * 3).toNatClampNeg) (mm 21)) := by
            simp only [s7_reset, s7_asks, if_pos c1, if_pos c2, if_neg c3, if_neg c5, if_neg l10, ← hv0, ← hu, ← hv18, v28, v21]
          have hK : pq_K (upd v0 28 (mm 28 + 1)) u := by rw [hu]; exact pq_Kb 0 0
          have k1 : ∀ k, k < 12 ∨ k = 15 ∨ (18 ≤ k ∧ k < 28) → u k = mm k := fun k hk => by
            rw [hK.1 k (by omega), cw_updn _ _ (by omega), hv0, cw_updn _ _ (by omega)]
          have u28 : u 28 = mm 28 + 1 := by rw [hK.1 28 (by decide), cw_upd0]
          have u34 : u 34 = 0 := by rw [hK.1 34 (by decide), cw_updn _ _ (by decide), hv0, cw_upd0]
          have hM : pq_M (T + 1) u := by rw [hu]; exact pq_Mb (by decide) (by decide)
          have hF1 : pq_F g u := by
            rw [hg, hu]
            refine pq_begin (pq_Fc hF (fun k _ hk => ?_)) 0 0
            rw [cw_updn _ _ (by omega), hv0, cw_updn _ _ (by omega)]
          have hE1 : pq_E ep eq u := pq_Ec hE (fun k _ _ => k1 k (by omega))
          have hS1 : pq_S st u := fun k hk => (hS k hk).trans (k1 (k + 1) (by omega)).symm
          have hB1 : pq_B u := by
            refine pq_Bk (pq_Bc hB (fun k hk => ?_)) hK
            rw [cw_updn _ _ (by omega), hv0, cw_updn _ _ (by omega)]
          have u12 : u 12 = g 3 := hF1.1.symm
          have u13 : u 13 = g 4 := hF1.2.1.symm
          have hH1 : pq_H (T + 1) (s6_recordChange b g hh t1 t2 t3).1 (s6_recordChange b g hh t1 t2 t3).2.1 (s6_recordChange b g hh t1 t2 t3).2.2.1 (s6_recordChange b g hh t1 t2 t3).2.2.2 (s7_notes u n1 n2 n3).1 (s7_notes u n1 n2 n3).2.1 (s7_notes u n1 n2 n3).2.2.1 (s7_notes u n1 n2 n3).2.2.2 := pq_Hadd hH (by omega) (k1 24 (by decide)) ((k1 21 (by decide)).trans h6.symm) u12 u13
          rw [← hv18] at hH1
          have hv : v18 = upd u 24 (u 24 + 1) := hv18
          have k2 : ∀ k, k ≠ 24 → v18 k = u k := fun k hk => by rw [hv, cw_updn _ _ hk]
          have hZ1 : pq_Z (T + 1) (s4_add rs (mm 21)) v18 (upd nr ((mm 28 - mm 28 / 3 * 3).toNatClampNeg) (mm 21)) := pq_Zadd hZ (by omega) (by rw [k2 28 (by decide), u28])
          have x21 : v18 21 = mm 21 := (k2 21 (by decide)).trans (k1 21 (by decide))
          have hN1 : pq_N (T + 1) v18 := by
            refine pq_Nm (T := T + 1) (mm := u) ⟨hM.1, hM.2.1, hM.2.2.1, hM.2.2.2, ?_, ?_, ?_, ?_, ?_⟩ (Nat.le_refl _) (fun k hk => k2 k (by omega))
            · rw [k1 19 (by decide)]; exact hN.2.2.2.2.1
            · rw [k1 20 (by decide)]; exact hN.2.2.2.2.2.1
            · rw [k1 6 (by decide)]; exact hN.2.2.2.2.2.2.1
            · rw [k1 7 (by decide)]; exact hN.2.2.2.2.2.2.2.1
            · rw [k1 9 (by decide)]; exact hN.2.2.2.2.2.2.2.2
          have hq := pq_rec hZ1 (by omega) (x21.trans h21) (by omega)
          rw [e1, e2]
          refine ⟨?_, Or.inl rfl, fun _ => ?_, ⟨pq_Fc hF1 (fun k _ _ => k2 k (by omega)), pq_Ec hE1 (fun k _ _ => k2 k (by omega)), fun k hk => (hS1 k hk).trans (k2 (k + 1) (by omega)).symm, pq_Bc hB1 (fun k hk => k2 k (by omega)), hN1, ⟨?_, j, hj, ?_⟩, ⟨?_, n, by omega, ?_⟩, ⟨?_, ?_⟩, hH1⟩, ?_⟩
          · show v18 34 = 0
            rw [k2 34 (by decide), u34]
          · show s4_recent (s4_add rs (b 6)) (b 6) = s7_recentResets v18 _
            rw [h6, ← hq, x21]
          · show b 5 = v18 0
            rw [k2 0 (by decide), k1 0 (by decide)]; exact h5
          · show v18 0 = nI j
            rw [k2 0 (by decide), k1 0 (by decide)]; exact h0
          · show b 6 = v18 21
            rw [x21]; exact h6
          · show v18 21 = nI n
            rw [x21]; exact h21
          · show g 9 = v18 22
            rw [k2 22 (by decide), k1 22 (by decide), hg, pq_Jb0 _ _ _ 9 (by decide)]; exact h9
          · show g 10 = v18 23
            rw [k2 23 (by decide), k1 23 (by decide), hg, pq_Jb0 _ _ _ 10 (by decide)]; exact h10
          · show pq_Z (T + 1) (s4_add rs (b 6)) v18 _
            rw [h6]; exact hZ1
        · have c5 : 3 ≤ s7_recentResets mm nr := by
            rw [← hrec, Int32.le_iff_toInt_le]
            exact cw_le2 c4
          have c6 : ¬ s4_recent rs (b 6) < 3 := by rw [h6]; exact c4
          exact hno 0 0 (by simp only [s6_reset, s2_isLockedOut, f3, c1, if_true, if_neg l10, if_pos (hfl.mpr c2), f5, if_neg c3, if_neg c6]) (by simp only [s7_reset, s7_asks, if_pos c1, if_pos c2, if_neg c3, if_pos c5, if_true])
    · have c7 : ¬ s2_hasFlame f ep eq st = 0 := fun q => c2 (hfl.mp q)
      exact hno 0 0 (by simp only [s6_reset, s2_isLockedOut, f3, c1, if_true, if_neg l10, if_neg c7]) (by simp only [s7_reset, s7_asks, if_pos c1, if_neg c2, if_true])
  · exact hno 0 0 (by simp only [s6_reset, s2_isLockedOut, f3, if_neg c1, if_true]) (by simp only [s7_reset, s7_asks, if_neg c1, if_true])
end QB
