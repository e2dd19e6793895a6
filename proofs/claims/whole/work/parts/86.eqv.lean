/-- the records of the class and of the model agree -/
def pq_H (T : Nat) (hh t1 t2 t3 mm n1 n2 n3 : Nat → Int32) : Prop := ∃ n : Nat, n ≤ T ∧ mm 24 = nI n ∧ hh 3 = nI n ∧ hh 4 = nI (if 100 ≤ n then 100 else n) ∧ hh 5 = nI (if n = 0 then 0 else (n - 1) % 100 + 1) ∧ ∀ i, i < 100 → t1 i = n1 i ∧ t2 i = n2 i ∧ t3 i = n3 i
theorem pq_Hc {T T1 : Nat} {hh t1 t2 t3 mm n1 n2 n3 w : Nat → Int32} (h : pq_H T hh t1 t2 t3 mm n1 n2 n3) (hT : T ≤ T1) (hw : w 24 = mm 24) : pq_H T1 hh t1 t2 t3 w n1 n2 n3 := by
  obtain ⟨n, h0, h1, h2⟩ := h
  exact ⟨n, by omega, hw.trans h1, h2⟩
theorem pq_rem100 {n : Nat} (hn : n < 2 ^ 31) : (nI n - nI n / 100 * 100).toNatClampNeg = n % 100 := by
  show (nI n - nI n / nI 100 * nI 100).toNatClampNeg = n % 100
  rw [pk_rem hn (by decide) (by decide), nI_clamp (by omega)]
theorem pq_Hadd {T : Nat} {hh t1 t2 t3 mm n1 n2 n3 u : Nat → Int32} {x y z : Int32} (h : pq_H T hh t1 t2 t3 mm n1 n2 n3) (hT : T < 1000000) (hu : u 24 = mm 24) (hx : u 21 = x) (hy : u 12 = y) (hz : u 13 = z) :
    pq_H (T + 1) (s3_add hh t1 t2 t3 x y z).1 (s3_add hh t1 t2 t3 x y z).2.1 (s3_add hh t1 t2 t3 x y z).2.2.1 (s3_add hh t1 t2 t3 x y z).2.2.2 (s7_notes u n1 n2 n3).1 (s7_notes u n1 n2 n3).2.1 (s7_notes u n1 n2 n3).2.2.1 (s7_notes u n1 n2 n3).2.2.2 := by
  obtain ⟨n, hn, h24, h3, h4, h5, hi⟩ := h
  have hp : (if n = 0 then 0 else (n - 1) % 100 + 1) ≤ 100 := by split <;> omega
  have hs : ∃ w : Nat → Int32, s3_add hh t1 t2 t3 x y z = ((upd (upd (upd w 5 (w 5 + 1)) 4 (if 100 < w 4 + 1 then 100 else w 4 + 1)) 3 (w 3 + 1)), (upd t1 (w 5).toNatClampNeg x), (upd t2 (w 5).toNatClampNeg y), (upd t3 (w 5).toNatClampNeg z)) ∧ w 5 = nI (n % 100) ∧ w 4 = hh 4 ∧ w 3 = hh 3 := by
    refine ⟨(if hh 5 < 0 then upd hh 5 0 else (if hh 5 < 100 then hh else upd hh 5 0)), ?_, ?_⟩
    · simp only [s3_add]
    · have q0 : ¬ hh 5 < 0 := by rw [h5]; exact nI_pos (by omega)
      rw [if_neg q0]
      by_cases c : hh 5 < 100
      · rw [if_pos c]
        have c1 : (if n = 0 then 0 else (n - 1) % 100 + 1) < 100 := by
          rw [h5] at c
          exact (nI_ltI (b := 100) (by omega) (by decide)).mp c
        refine ⟨?_, rfl, rfl⟩
        rw [h5]
        refine congrArg nI ?_
        by_cases z : n = 0
        · rw [z]; rfl
        · rw [if_neg z] at c1 ⊢; omega
      · rw [if_neg c]
        have c1 : ¬ (if n = 0 then 0 else (n - 1) % 100 + 1) < 100 := fun q => c (by rw [h5]; exact (nI_ltI (b := 100) (by omega) (by decide)).mpr q)
        refine ⟨?_, cw_updn _ _ (by decide), cw_updn _ _ (by decide)⟩
        have e : n % 100 = 0 := by
          by_cases z : n = 0
          · rw [z]
          · rw [if_neg z] at c1; omega
        rw [cw_upd0, e]
        rfl
  obtain ⟨w, hw, w5, w4, w3⟩ := hs
  have hr : (u 24 - u 24 / 100 * 100).toNatClampNeg = n % 100 := by rw [hu, h24]; exact pq_rem100 (by omega)
  have hcl : (nI (n % 100)).toNatClampNeg = n % 100 := nI_clamp (by omega)
  have hm : s7_notes u n1 n2 n3 = ((upd u 24 (u 24 + 1)), (upd n1 (n % 100) x), (upd n2 (n % 100) y), (upd n3 (n % 100) z)) := by
    simp only [s7_notes]
    rw [hr, hx, hy, hz]
  rw [hw, hm, w5, hcl]
  refine ⟨n + 1, by omega, ?_, ?_, ?_, ?_, ?_⟩
  · show upd u 24 (u 24 + 1) 24 = nI (n + 1)
    rw [cw_upd0, hu, h24, nI_1]
  · show upd (upd (upd w 5 (nI (n % 100) + 1)) 4 (if 100 < w 4 + 1 then 100 else w 4 + 1)) 3 (w 3 + 1) 3 = nI (n + 1)
    rw [cw_upd0, w3, h3, nI_1]
  · show upd (upd (upd w 5 (nI (n % 100) + 1)) 4 (if 100 < w 4 + 1 then 100 else w 4 + 1)) 3 (w 3 + 1) 4 = _
    rw [cw_updn _ _ (by decide), cw_upd0, w4, h4, nI_1]
    by_cases z : 100 ≤ n
    · rw [if_pos z, if_pos (show (100 : Int32) < nI (100 + 1) by decide), if_pos (by omega)]
      rfl
    · rw [if_neg z, if_neg (show ¬ (100 : Int32) < nI (n + 1) from nI_nlt (a := 100) (by omega) (by decide))]
      refine congrArg nI ?_
      split <;> omega
  · show upd (upd (upd w 5 (nI (n % 100) + 1)) 4 (if 100 < w 4 + 1 then 100 else w 4 + 1)) 3 (w 3 + 1) 5 = _
    rw [cw_updn _ _ (by decide), cw_updn _ _ (by decide), cw_upd0, nI_1, if_neg (by omega), Nat.add_sub_cancel]
  · intro i hi1
    obtain ⟨i1, i2, i3⟩ := hi i hi1
    show upd t1 (n % 100) x i = upd n1 (n % 100) x i ∧ upd t2 (n % 100) y i = upd n2 (n % 100) y i ∧ upd t3 (n % 100) z i = upd n3 (n % 100) z i
    simp only [upd, i1, i2, i3, and_self]
/-- all but the resets: the class and the model agree after at most T ticks and records -/
def pq_R (T : Nat) (b f ep eq st hh t1 t2 t3 mm n1 n2 n3 : Nat → Int32) : Prop := pq_F f mm ∧ pq_E ep eq mm ∧ pq_S st mm ∧ pq_B mm ∧ pq_N T mm ∧ (b 5 = mm 0 ∧ ∃ j : Nat, j < 64 ∧ mm 0 = nI j) ∧ (b 6 = mm 21 ∧ ∃ n : Nat, n ≤ T ∧ mm 21 = nI n) ∧ (f 9 = mm 22 ∧ f 10 = mm 23) ∧ pq_H T hh t1 t2 t3 mm n1 n2 n3
theorem pq_Nm {T T1 : Nat} {mm w : Nat → Int32} (h : pq_N T mm) (hT : T ≤ T1) (hw : ∀ k, k ≤ 20 → w k = mm k) : pq_N T1 w := by
  unfold pq_N at h ⊢
  rw [hw 12 (by decide), hw 13 (by decide), hw 14 (by decide), hw 17 (by decide), hw 19 (by decide), hw 20 (by decide), hw 6 (by decide), hw 7 (by decide), hw 9 (by decide)]
  obtain ⟨h12, h13, h14, h17, h19, h20, h6, h7, h9⟩ := h
  exact ⟨h12, h13, by omega, h17, h19, h20, h6, h7, h9⟩
section PZ
variable {b f ep eq st hh t1 t2 t3 mm n1 n2 n3 hg ta tb tc na nb nc w : Nat → Int32} {T T1 : Nat}
theorem pq_Rm (h : pq_R T b f ep eq st hh t1 t2 t3 mm n1 n2 n3) (hT : T ≤ T1) : pq_R T1 b f ep eq st hh t1 t2 t3 mm n1 n2 n3 := by
  obtain ⟨hF, hE, hS, hB, hN, h0, ⟨h6, n, hn, h21⟩, h9, hH⟩ := h
  exact ⟨hF, hE, hS, hB, pq_Nm hN hT (fun _ _ => rfl), h0, ⟨h6, n, by omega, h21⟩, h9, pq_Hc hH hT rfl⟩
theorem pq_stepR (h : pq_R T b f ep eq st hh t1 t2 t3 mm n1 n2 n3) (hT : T < 1000000) (hw : ∀ k, k ≠ 21 → k ≠ 24 → w k = s7_plays mm (mm 0) k) (hw1 : w 21 = s7_plays mm (mm 0) 21 + 1) (hH : pq_H (T + 1) hg ta tb tc w na nb nc) :
    pq_R (T + 1) (upd b 6 (b 6 + 1)) (s2_tick f ep eq st (b 5)).2.1 (s2_tick f ep eq st (b 5)).2.2.1 (s2_tick f ep eq st (b 5)).2.2.2 st hg ta tb tc
      (upd (upd w 22 (if s7_in (mm 12) 2 4 = 0 then 0 else (if w 18 = 0 then w 22 + 1 else 0))) 23 (if (if s7_in (mm 12) 2 4 = 0 then 0 else (if w 18 = 0 then w 22 + 1 else 0)) ≤ w 23 then w 23 else (if s7_in (mm 12) 2 4 = 0 then 0 else (if w 18 = 0 then w 22 + 1 else 0)))) na nb nc := by
  obtain ⟨hF, hE, hS, hB, hN, ⟨h5, j, hj, h0⟩, ⟨h6, n, hn, h21⟩, ⟨h9, h10⟩, -⟩ := h
  have ha : ∃ j : Nat, j < 64 ∧ mm 0 = nI j := ⟨j, hj, h0⟩
  obtain ⟨tF, tE, tS, tB⟩ := pq_tick hF hE hS hB ha
  have hs7 : ∃ s : Nat, s < 7 ∧ mm 12 = nI s := by
    obtain ⟨s, hs, e⟩ := pq_nI (B := 6) hN.1.1 hN.1.2
    exact ⟨s, by omega, e⟩
  obtain ⟨u9, u10⟩ := pq_tU hF hE hS hB ha h9 h10 hs7
  have tN := pq_Nt (a := mm 0) hN hB hT
  have w18 : w 18 = s7_plays mm (mm 0) 18 := hw 18 (by decide) (by decide)
  have w22 : w 22 = mm 22 := (hw 22 (by decide) (by decide)).trans (f7_plays _ _ 22 (by decide))
  have w23 : w 23 = mm 23 := (hw 23 (by decide) (by decide)).trans (f7_plays _ _ 23 (by decide))
  rw [h5]
  rw [w18, w22, w23]
  generalize hW : (if s7_in (mm 12) 2 4 = 0 then 0 else (if s7_plays mm (mm 0) 18 = 0 then mm 22 + 1 else 0)) = W at u9 u10 ⊢
  have kk : ∀ k, k ≤ 20 → upd (upd w 22 W) 23 (if W ≤ mm 23 then mm 23 else W) k = s7_plays mm (mm 0) k := fun k hk => by
    rw [cw_updn _ _ (by omega), cw_updn _ _ (by omega), hw k (by omega) (by omega)]
  refine ⟨pq_Fc tF (fun k _ _ => kk k (by omega)), pq_Ec tE (fun k _ _ => kk k (by omega)), fun k hk => (tS k hk).trans (kk (k + 1) (by omega)).symm, pq_Bc tB (fun k hk => kk k (by omega)), pq_Nm tN (Nat.le_refl _) kk, ⟨?_, j, hj, ?_⟩, ⟨?_, n + 1, by omega, ?_⟩, ⟨?_, ?_⟩, pq_Hc hH (Nat.le_refl _) ?_⟩
  · rw [cw_updn _ _ (by decide), kk 0 (by decide), f7_plays _ _ 0 (by decide), h5]
  · rw [kk 0 (by decide), f7_plays _ _ 0 (by decide), h0]
  · rw [cw_upd0, cw_updn _ _ (by decide), cw_updn _ _ (by decide), hw1, f7_plays _ _ 21 (by decide), h6]
  · rw [cw_updn _ _ (by decide), cw_updn _ _ (by decide), hw1, f7_plays _ _ 21 (by decide), h21, nI_1]
  · rw [cw_updn _ _ (by decide), cw_upd0]; exact u9
  · rw [cw_upd0]; exact u10
  · rw [cw_updn _ _ (by decide), cw_updn _ _ (by decide)]
theorem pq_sub1 (p q : Int32) : p + 1 - q = p - q + 1 := by
  rw [Int32.sub_eq_add_neg, Int32.sub_eq_add_neg, Int32.add_assoc, Int32.add_comm 1, ← Int32.add_assoc]
end PZ
section PZL
variable {b0 f0 e0 q0 h0 u1 u2 u3 m0 v1 v2 v3 st : Nat → Int32} {a1 : Int32}
theorem pq_pollL : ∀ (n9 T : Nat) (b f ep eq hh t1 t2 t3 mm n1 n2 n3 : Nat → Int32) (l2 l3 bf : Int32), T + n9 < 1000000 → cw_cnt a1.toInt l3 n9 → pq_R T b f ep eq st hh t1 t2 t3 mm n1 n2 n3 → mm 24 - bf = l2 →
    (s6_poll_L b0 f0 e0 q0 st h0 u1 u2 u3 a1 n9 b f ep eq hh t1 t2 t3 l2 l3).1 = 0 ∧
    (s6_poll_L b0 f0 e0 q0 st h0 u1 u2 u3 a1 n9 b f ep eq hh t1 t2 t3 l2 l3).2.1 = (s7_poll_L m0 v1 v2 v3 a1 n9 mm n1 n2 n3 bf l3).1 ∧
    (∀ k, 25 ≤ k → (s7_poll_L m0 v1 v2 v3 a1 n9 mm n1 n2 n3 bf l3).2.1 k = mm k) ∧
    pq_R (T + n9) (s6_poll_L b0 f0 e0 q0 st h0 u1 u2 u3 a1 n9 b f ep eq hh t1 t2 t3 l2 l3).2.2.1 (s6_poll_L b0 f0 e0 q0 st h0 u1 u2 u3 a1 n9 b f ep eq hh t1 t2 t3 l2 l3).2.2.2.1 (s6_poll_L b0 f0 e0 q0 st h0 u1 u2 u3 a1 n9 b f ep eq hh t1 t2 t3 l2 l3).2.2.2.2.1 (s6_poll_L b0 f0 e0 q0 st h0 u1 u2 u3 a1 n9 b f ep eq hh t1 t2 t3 l2 l3).2.2.2.2.2.1 st (s6_poll_L b0 f0 e0 q0 st h0 u1 u2 u3 a1 n9 b f ep eq hh t1 t2 t3 l2 l3).2.2.2.2.2.2.1 (s6_poll_L b0 f0 e0 q0 st h0 u1 u2 u3 a1 n9 b f ep eq hh t1 t2 t3 l2 l3).2.2.2.2.2.2.2.1 (s6_poll_L b0 f0 e0 q0 st h0 u1 u2 u3 a1 n9 b f ep eq hh t1 t2 t3 l2 l3).2.2.2.2.2.2.2.2.1 (s6_poll_L b0 f0 e0 q0 st h0 u1 u2 u3 a1 n9 b f ep eq hh t1 t2 t3 l2 l3).2.2.2.2.2.2.2.2.2
      (s7_poll_L m0 v1 v2 v3 a1 n9 mm n1 n2 n3 bf l3).2.1 (s7_poll_L m0 v1 v2 v3 a1 n9 mm n1 n2 n3 bf l3).2.2.1 (s7_poll_L m0 v1 v2 v3 a1 n9 mm n1 n2 n3 bf l3).2.2.2.1 (s7_poll_L m0 v1 v2 v3 a1 n9 mm n1 n2 n3 bf l3).2.2.2.2 := by
  intro n9
  induction n9 with
  | zero => intro T b f ep eq hh t1 t2 t3 mm n1 n2 n3 l2 l3 bf hT hc; exact (cw_cnt0 hc).elim
  | succ n9 ih =>
    intro T b f ep eq hh t1 t2 t3 mm n1 n2 n3 l2 l3 bf hT hc hR hl
    by_cases c : a1 ≤ l3
    · have e1 : s6_poll_L b0 f0 e0 q0 st h0 u1 u2 u3 a1 (n9 + 1) b f ep eq hh t1 t2 t3 l2 l3 = (0, l2, b, f, ep, eq, hh, t1, t2, t3) := by simp only [s6_poll_L, if_pos c]
      have e2 : s7_poll_L m0 v1 v2 v3 a1 (n9 + 1) mm n1 n2 n3 bf l3 = (mm 24 - bf, mm, n1, n2, n3) := by simp only [s7_poll_L, if_pos c]
      rw [e1, e2]
      exact ⟨rfl, hl.symm, fun _ _ => rfl, pq_Rm hR (by omega)⟩
    · have hc1 := cw_cntS hc (cw_lt1 c)
      have ha : ∃ j : Nat, j < 64 ∧ b 5 = nI j := by
        obtain ⟨-, -, -, -, -, ⟨h5, j, hj, h0⟩, -⟩ := hR
        exact ⟨j, hj, h5.trans h0⟩
      have h5 : b 5 = mm 0 := hR.2.2.2.2.2.1.1
      have hg := pq_tickG hR.1 hR.2.1 hR.2.2.1 hR.2.2.2.1 ha
      have hTk := pq_tick hR.1 hR.2.1 hR.2.2.1 hR.2.2.2.1 ha
      rw [show T + (n9 + 1) = T + 1 + n9 by omega]
      obtain ⟨v, hv⟩ : ∃ v : Nat → Int32, v = s7_plays mm (mm 0) := ⟨_, rfl⟩
      obtain ⟨w0, hw0⟩ : ∃ w0 : Nat → Int32, w0 = upd v 21 (v 21 + 1) := ⟨_, rfl⟩
      have v24 : v 24 = mm 24 := by rw [hv]; exact f7_plays _ _ 24 (by decide)
      have v21 : v 21 = mm 21 := by rw [hv]; exact f7_plays _ _ 21 (by decide)
      rw [h5] at hTk hg
      rcases hg with ⟨q1, q2⟩ | ⟨q1, q2⟩
      · rw [← hv] at q2
        rw [← h5] at q1
        have e1 : s6_poll_L b0 f0 e0 q0 st h0 u1 u2 u3 a1 (n9 + 1) b f ep eq hh t1 t2 t3 l2 l3 = s6_poll_L b0 f0 e0 q0 st h0 u1 u2 u3 a1 n9 (upd b 6 (b 6 + 1)) (s2_tick f ep eq st (b 5)).2.1 (s2_tick f ep eq st (b 5)).2.2.1 (s2_tick f ep eq st (b 5)).2.2.2 hh t1 t2 t3 l2 (l3 + 1) := by simp only [s6_poll_L, if_neg c, if_pos q1]
        have e2 : s7_poll_L m0 v1 v2 v3 a1 (n9 + 1) mm n1 n2 n3 bf l3 = s7_poll_L m0 v1 v2 v3 a1 n9 (upd (upd w0 22 (if s7_in (mm 12) 2 4 = 0 then 0 else (if w0 18 = 0 then w0 22 + 1 else 0))) 23 (if (if s7_in (mm 12) 2 4 = 0 then 0 else (if w0 18 = 0 then w0 22 + 1 else 0)) ≤ w0 23 then w0 23 else (if s7_in (mm 12) 2 4 = 0 then 0 else (if w0 18 = 0 then w0 22 + 1 else 0)))) n1 n2 n3 bf (l3 + 1) := by simp only [s7_poll_L, if_neg c, ← hv, if_pos q2, ← hw0]
        have hH : pq_H (T + 1) hh t1 t2 t3 w0 n1 n2 n3 := pq_Hc hR.2.2.2.2.2.2.2.2 (by omega) (by rw [hw0, cw_updn _ _ (by decide), v24])
        have hR1 := pq_stepR hR (by omega) (w := w0) (fun k k1 k2 => by rw [hw0, cw_updn _ _ k1, hv]) (by rw [hw0, cw_upd0, hv]) hH
        have hI := ih (T + 1) _ _ _ _ _ _ _ _ _ _ _ _ l2 (l3 + 1) bf (by omega) hc1 hR1 (by rw [cw_updn _ _ (by decide), cw_updn _ _ (by decide), hw0, cw_updn _ _ (by decide), v24]; exact hl)
        rw [e1, e2]
        refine ⟨hI.1, hI.2.1, fun k hk => (hI.2.2.1 k hk).trans ?_, hI.2.2.2⟩
        rw [cw_updn _ _ (by omega), cw_updn _ _ (by omega), hw0, cw_updn _ _ (by omega), hv]
        exact f7_plays _ _ k (Or.inr (by omega))
      · rw [← hv] at q2
        rw [← h5] at q1
        have q3 : ¬ (s2_tick f ep eq st (b 5)).1 = 0 := by rw [q1]; decide
        obtain ⟨f1, hf1⟩ : ∃ f1 : Nat → Int32, f1 = (s2_tick f ep eq st (b 5)).2.1 := ⟨_, rfl⟩
        obtain ⟨b1, hb1⟩ : ∃ b1 : Nat → Int32, b1 = upd b 6 (b 6 + 1) := ⟨_, rfl⟩
        have e1 : s6_poll_L b0 f0 e0 q0 st h0 u1 u2 u3 a1 (n9 + 1) b f ep eq hh t1 t2 t3 l2 l3 = s6_poll_L b0 f0 e0 q0 st h0 u1 u2 u3 a1 n9 b1 f1 (s2_tick f ep eq st (b 5)).2.2.1 (s2_tick f ep eq st (b 5)).2.2.2 (s6_recordChange b1 f1 hh t1 t2 t3).1 (s6_recordChange b1 f1 hh t1 t2 t3).2.1 (s6_recordChange b1 f1 hh t1 t2 t3).2.2.1 (s6_recordChange b1 f1 hh t1 t2 t3).2.2.2 (l2 + 1) (l3 + 1) := by simp only [s6_poll_L, if_neg c, if_neg q3, ← hf1, ← hb1]
        obtain ⟨w, hw⟩ : ∃ w : Nat → Int32, w = (s7_notes w0 n1 n2 n3).1 := ⟨_, rfl⟩
        have e2 : s7_poll_L m0 v1 v2 v3 a1 (n9 + 1) mm n1 n2 n3 bf l3 = s7_poll_L m0 v1 v2 v3 a1 n9 (upd (upd w 22 (if s7_in (mm 12) 2 4 = 0 then 0 else (if w 18 = 0 then w 22 + 1 else 0))) 23 (if (if s7_in (mm 12) 2 4 = 0 then 0 else (if w 18 = 0 then w 22 + 1 else 0)) ≤ w 23 then w 23 else (if s7_in (mm 12) 2 4 = 0 then 0 else (if w 18 = 0 then w 22 + 1 else 0)))) (s7_notes w0 n1 n2 n3).2.1 (s7_notes w0 n1 n2 n3).2.2.1 (s7_notes w0 n1 n2 n3).2.2.2 bf (l3 + 1) := by simp only [s7_poll_L, if_neg c, ← hv, if_neg q2, ← hw0, ← hw]
        have hw1 : w = upd w0 24 (w0 24 + 1) := hw
        have x21 : w0 21 = b1 6 := by rw [hw0, cw_upd0, v21, hb1, cw_upd0, hR.2.2.2.2.2.2.1.1]
        have x12 : w0 12 = f1 3 := by rw [hw0, cw_updn _ _ (by decide), hv, hf1, h5]; exact hTk.1.1.symm
        have x13 : w0 13 = f1 4 := by rw [hw0, cw_updn _ _ (by decide), hv, hf1, h5]; exact hTk.1.2.1.symm
        have x24 : w0 24 = mm 24 := by rw [hw0, cw_updn _ _ (by decide), v24]
        have hH : pq_H (T + 1) (s6_recordChange b1 f1 hh t1 t2 t3).1 (s6_recordChange b1 f1 hh t1 t2 t3).2.1 (s6_recordChange b1 f1 hh t1 t2 t3).2.2.1 (s6_recordChange b1 f1 hh t1 t2 t3).2.2.2 (s7_notes w0 n1 n2 n3).1 (s7_notes w0 n1 n2 n3).2.1 (s7_notes w0 n1 n2 n3).2.2.1 (s7_notes w0 n1 n2 n3).2.2.2 := pq_Hadd hR.2.2.2.2.2.2.2.2 (by omega) x24 x21 x12 x13
        rw [← hw] at hH
        have hR1 := pq_stepR hR (by omega) (w := w) (fun k k1 k2 => by rw [hw1, cw_updn _ _ k2, hw0, cw_updn _ _ k1, hv]) (by rw [hw1, cw_updn _ _ (by decide), hw0, cw_upd0, hv]) hH
        rw [← hf1, ← hb1] at hR1
        have hI := ih (T + 1) _ _ _ _ _ _ _ _ _ _ _ _ (l2 + 1) (l3 + 1) bf (by omega) hc1 hR1 (by rw [cw_updn _ _ (by decide), cw_updn _ _ (by decide), hw1, cw_upd0, x24, pq_sub1, hl])
        rw [e1, e2]
        refine ⟨hI.1, hI.2.1, fun k hk => (hI.2.2.1 k hk).trans ?_, hI.2.2.2⟩
        rw [cw_updn _ _ (by omega), cw_updn _ _ (by omega), hw1, cw_updn _ _ (by omega), hw0, cw_updn _ _ (by omega), hv]
        exact f7_plays _ _ k (Or.inr (by omega))
end PZL
