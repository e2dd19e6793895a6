section RD
variable {b f ep eq st hh t1 t2 t3 rs mm n1 n2 n3 nr : Nat → Int32} {nw nt no : Nat → Int64} {T : Nat}
theorem pl_up0 {v : Int64} : vp_updL no ((0 : Int32).toNatClampNeg) v 0 = v := by
  rw [pl_c0]
  exact if_pos rfl
theorem pq_Wm {T1 : Nat} (h : pq_W T b f ep eq st hh t1 t2 t3 rs mm n1 n2 n3 nr) (hT : T ≤ T1) : pq_W T1 b f ep eq st hh t1 t2 t3 rs mm n1 n2 n3 nr := pq_Wc h hT (fun _ _ => rfl)
theorem pl_poll (h : pq_W T b f ep eq st hh t1 t2 t3 rs mm n1 n2 n3 nr) (hT : T < 900000) (a1 : Int32) :
    (s7_poll mm n1 n2 n3 a1).2.1 34 = (sL_poll b f ep eq st hh t1 t2 t3 no a1).1 ∧ ((sL_poll b f ep eq st hh t1 t2 t3 no a1).1 = 0 → (sL_poll b f ep eq st hh t1 t2 t3 no a1).2.2.2.2.2.2.2.2.2 0 = (s7_poll mm n1 n2 n3 a1).1.toInt64) ∧ pq_W (T + 201) (sL_poll b f ep eq st hh t1 t2 t3 no a1).2.1 (sL_poll b f ep eq st hh t1 t2 t3 no a1).2.2.1 (sL_poll b f ep eq st hh t1 t2 t3 no a1).2.2.2.1 (sL_poll b f ep eq st hh t1 t2 t3 no a1).2.2.2.2.1 st (sL_poll b f ep eq st hh t1 t2 t3 no a1).2.2.2.2.2.1 (sL_poll b f ep eq st hh t1 t2 t3 no a1).2.2.2.2.2.2.1 (sL_poll b f ep eq st hh t1 t2 t3 no a1).2.2.2.2.2.2.2.1 (sL_poll b f ep eq st hh t1 t2 t3 no a1).2.2.2.2.2.2.2.2.1 rs (s7_poll mm n1 n2 n3 a1).2.1 (s7_poll mm n1 n2 n3 a1).2.2.1 (s7_poll mm n1 n2 n3 a1).2.2.2.1 (s7_poll mm n1 n2 n3 a1).2.2.2.2 nr := by
  obtain ⟨p1, p2, p3, p4⟩ := pq_poll h hT a1
  rcases p2 with c | e
  · have e1 : sL_poll b f ep eq st hh t1 t2 t3 no a1 = (0, (s6_poll b f ep eq st hh t1 t2 t3 a1).2.2.1, (s6_poll b f ep eq st hh t1 t2 t3 a1).2.2.2.1, (s6_poll b f ep eq st hh t1 t2 t3 a1).2.2.2.2.1, (s6_poll b f ep eq st hh t1 t2 t3 a1).2.2.2.2.2.1, (s6_poll b f ep eq st hh t1 t2 t3 a1).2.2.2.2.2.2.1, (s6_poll b f ep eq st hh t1 t2 t3 a1).2.2.2.2.2.2.2.1, (s6_poll b f ep eq st hh t1 t2 t3 a1).2.2.2.2.2.2.2.2.1, (s6_poll b f ep eq st hh t1 t2 t3 a1).2.2.2.2.2.2.2.2.2, vp_updL no ((0 : Int32).toNatClampNeg) ((s6_poll b f ep eq st hh t1 t2 t3 a1).2.1.toInt64)) := by simp only [sL_poll, if_pos c]
    rw [e1]
    refine ⟨p1.trans c, fun _ => ?_, p4⟩
    rw [← p3 c]
    exact pl_up0 (no := no)
  · have c : ¬ (s6_poll b f ep eq st hh t1 t2 t3 a1).1 = 0 := by rw [e]; exact (show ¬ (1 : Int32) = 0 by decide)
    have e1 : sL_poll b f ep eq st hh t1 t2 t3 no a1 = (1, b, f, ep, eq, hh, t1, t2, t3, no) := by simp only [sL_poll, if_neg c]
    rw [e] at p1 p4
    rw [e1]
    exact ⟨p1, fun q => absurd (show (1 : Int32) = 0 from q) (by decide), p4⟩
theorem pl_reset (h : pq_W T b f ep eq st hh t1 t2 t3 rs mm n1 n2 n3 nr) (hT : T < 900000) :
    (s7_reset mm n1 n2 n3 nr).2.1 34 = (sL_reset b f ep eq st hh t1 t2 t3 rs no).1 ∧ ((sL_reset b f ep eq st hh t1 t2 t3 rs no).1 = 0 → (sL_reset b f ep eq st hh t1 t2 t3 rs no).2.2.2.2.2.2.2 0 = (s7_reset mm n1 n2 n3 nr).1.toInt64) ∧ pq_W (T + 1) b (sL_reset b f ep eq st hh t1 t2 t3 rs no).2.1 ep eq st (sL_reset b f ep eq st hh t1 t2 t3 rs no).2.2.1 (sL_reset b f ep eq st hh t1 t2 t3 rs no).2.2.2.1 (sL_reset b f ep eq st hh t1 t2 t3 rs no).2.2.2.2.1 (sL_reset b f ep eq st hh t1 t2 t3 rs no).2.2.2.2.2.1 (sL_reset b f ep eq st hh t1 t2 t3 rs no).2.2.2.2.2.2.1 (s7_reset mm n1 n2 n3 nr).2.1 (s7_reset mm n1 n2 n3 nr).2.2.1 (s7_reset mm n1 n2 n3 nr).2.2.2.1 (s7_reset mm n1 n2 n3 nr).2.2.2.2.1 (s7_reset mm n1 n2 n3 nr).2.2.2.2.2 := by
  obtain ⟨p1, p2, p3, p4⟩ := pq_reset h hT
  rcases p2 with c | e
  · have e1 : sL_reset b f ep eq st hh t1 t2 t3 rs no = (0, (s6_reset b f ep eq st hh t1 t2 t3 rs).2.2.1, (s6_reset b f ep eq st hh t1 t2 t3 rs).2.2.2.1, (s6_reset b f ep eq st hh t1 t2 t3 rs).2.2.2.2.1, (s6_reset b f ep eq st hh t1 t2 t3 rs).2.2.2.2.2.1, (s6_reset b f ep eq st hh t1 t2 t3 rs).2.2.2.2.2.2.1, (s6_reset b f ep eq st hh t1 t2 t3 rs).2.2.2.2.2.2.2, vp_updL no ((0 : Int32).toNatClampNeg) ((s6_reset b f ep eq st hh t1 t2 t3 rs).2.1.toInt64)) := by simp only [sL_reset, if_pos c]
    rw [e1]
    refine ⟨p1.trans c, fun _ => ?_, p4⟩
    rw [← p3 c]
    exact pl_up0 (no := no)
  · have c : ¬ (s6_reset b f ep eq st hh t1 t2 t3 rs).1 = 0 := by rw [e]; exact (show ¬ (1 : Int32) = 0 by decide)
    have e1 : sL_reset b f ep eq st hh t1 t2 t3 rs no = (1, f, hh, t1, t2, t3, rs, no) := by simp only [sL_reset, if_neg c]
    rw [e] at p1 p4
    rw [e1]
    exact ⟨p1, fun q => absurd (show (1 : Int32) = 0 from q) (by decide), p4⟩
theorem pl_couldBe (h : pq_W T b f ep eq st hh t1 t2 t3 rs mm n1 n2 n3 nr) (hT : T < 250000) (g0 g1 g2 g3 g4 g5 g6 g7 g8 : Nat → Int32) (a1 a2 : Int32) :
    (s7_couldBe mm nw nt a1 a2).2.1 34 = (sL_couldBe b f ep eq st g0 g1 g2 g3 g4 g5 g6 g7 g8 no a1 a2).1 ∧ ((sL_couldBe b f ep eq st g0 g1 g2 g3 g4 g5 g6 g7 g8 no a1 a2).1 = 0 → (sL_couldBe b f ep eq st g0 g1 g2 g3 g4 g5 g6 g7 g8 no a1 a2).2.2.2.2.2.2.2.2.2.2 0 = (if (s7_couldBe mm nw nt a1 a2).1 = 0 then (0 : Int64) else 1)) ∧ pq_W T b f ep eq st hh t1 t2 t3 rs (s7_couldBe mm nw nt a1 a2).2.1 n1 n2 n3 nr := by
  obtain ⟨p1, p2, p3, p4⟩ := pq_couldBe (nw := nw) (nt := nt) h hT g0 g1 g2 g3 g4 g5 g6 g7 g8 a1 a2
  rcases p2 with c | e
  · have e1 : sL_couldBe b f ep eq st g0 g1 g2 g3 g4 g5 g6 g7 g8 no a1 a2 = (0, (s6_couldBe b f ep eq st g0 g1 g2 g3 g4 g5 g6 g7 g8 a1 a2).2.2.1, (s6_couldBe b f ep eq st g0 g1 g2 g3 g4 g5 g6 g7 g8 a1 a2).2.2.2.1, (s6_couldBe b f ep eq st g0 g1 g2 g3 g4 g5 g6 g7 g8 a1 a2).2.2.2.2.1, (s6_couldBe b f ep eq st g0 g1 g2 g3 g4 g5 g6 g7 g8 a1 a2).2.2.2.2.2.1, (s6_couldBe b f ep eq st g0 g1 g2 g3 g4 g5 g6 g7 g8 a1 a2).2.2.2.2.2.2.1, (s6_couldBe b f ep eq st g0 g1 g2 g3 g4 g5 g6 g7 g8 a1 a2).2.2.2.2.2.2.2.1, (s6_couldBe b f ep eq st g0 g1 g2 g3 g4 g5 g6 g7 g8 a1 a2).2.2.2.2.2.2.2.2.1, (s6_couldBe b f ep eq st g0 g1 g2 g3 g4 g5 g6 g7 g8 a1 a2).2.2.2.2.2.2.2.2.2.1, (s6_couldBe b f ep eq st g0 g1 g2 g3 g4 g5 g6 g7 g8 a1 a2).2.2.2.2.2.2.2.2.2.2, vp_updL no ((0 : Int32).toNatClampNeg) (if (s6_couldBe b f ep eq st g0 g1 g2 g3 g4 g5 g6 g7 g8 a1 a2).2.1 = 0 then 0 else 1)) := by simp only [sL_couldBe, if_pos c]
    rw [e1]
    refine ⟨p1.trans c, fun _ => ?_, p4⟩
    rw [← p3 c]
    exact pl_up0 (no := no)
  · have c : ¬ (s6_couldBe b f ep eq st g0 g1 g2 g3 g4 g5 g6 g7 g8 a1 a2).1 = 0 := by rw [e]; exact (show ¬ (1 : Int32) = 0 by decide)
    have e1 : sL_couldBe b f ep eq st g0 g1 g2 g3 g4 g5 g6 g7 g8 no a1 a2 = (1, g0, g1, g2, g3, g4, g5, g6, g7, g8, no) := by simp only [sL_couldBe, if_neg c]
    rw [e] at p1
    rw [e1]
    exact ⟨p1, fun q => absurd (show (1 : Int32) = 0 from q) (by decide), p4⟩
theorem pl_reasonsAhead (h : pq_W T b f ep eq st hh t1 t2 t3 rs mm n1 n2 n3 nr) (hT : T < 250000) (g0 g1 g2 g3 g4 g5 g6 g7 g8 : Nat → Int32) (a1 : Int32) :
    (s7_reasonsAhead mm nw nt a1).2.1 34 = (sL_reasonsAhead b f ep eq st g0 g1 g2 g3 g4 g5 g6 g7 g8 no a1).1 ∧ ((sL_reasonsAhead b f ep eq st g0 g1 g2 g3 g4 g5 g6 g7 g8 no a1).1 = 0 → (sL_reasonsAhead b f ep eq st g0 g1 g2 g3 g4 g5 g6 g7 g8 no a1).2.2.2.2.2.2.2.2.2.2 0 = (s7_reasonsAhead mm nw nt a1).1.toInt64) ∧ pq_W T b f ep eq st hh t1 t2 t3 rs (s7_reasonsAhead mm nw nt a1).2.1 n1 n2 n3 nr := by
  obtain ⟨p1, p2, p3, p4⟩ := pq_reasonsAhead (nw := nw) (nt := nt) h hT g0 g1 g2 g3 g4 g5 g6 g7 g8 a1
  rcases p2 with c | e
  · have e1 : sL_reasonsAhead b f ep eq st g0 g1 g2 g3 g4 g5 g6 g7 g8 no a1 = (0, (s6_reasonsAhead b f ep eq st g0 g1 g2 g3 g4 g5 g6 g7 g8 a1).2.2.1, (s6_reasonsAhead b f ep eq st g0 g1 g2 g3 g4 g5 g6 g7 g8 a1).2.2.2.1, (s6_reasonsAhead b f ep eq st g0 g1 g2 g3 g4 g5 g6 g7 g8 a1).2.2.2.2.1, (s6_reasonsAhead b f ep eq st g0 g1 g2 g3 g4 g5 g6 g7 g8 a1).2.2.2.2.2.1, (s6_reasonsAhead b f ep eq st g0 g1 g2 g3 g4 g5 g6 g7 g8 a1).2.2.2.2.2.2.1, (s6_reasonsAhead b f ep eq st g0 g1 g2 g3 g4 g5 g6 g7 g8 a1).2.2.2.2.2.2.2.1, (s6_reasonsAhead b f ep eq st g0 g1 g2 g3 g4 g5 g6 g7 g8 a1).2.2.2.2.2.2.2.2.1, (s6_reasonsAhead b f ep eq st g0 g1 g2 g3 g4 g5 g6 g7 g8 a1).2.2.2.2.2.2.2.2.2.1, (s6_reasonsAhead b f ep eq st g0 g1 g2 g3 g4 g5 g6 g7 g8 a1).2.2.2.2.2.2.2.2.2.2, vp_updL no ((0 : Int32).toNatClampNeg) ((s6_reasonsAhead b f ep eq st g0 g1 g2 g3 g4 g5 g6 g7 g8 a1).2.1.toInt64)) := by simp only [sL_reasonsAhead, if_pos c]
    rw [e1]
    refine ⟨p1.trans c, fun _ => ?_, p4⟩
    rw [← p3 c]
    exact pl_up0 (no := no)
  · have c : ¬ (s6_reasonsAhead b f ep eq st g0 g1 g2 g3 g4 g5 g6 g7 g8 a1).1 = 0 := by rw [e]; exact (show ¬ (1 : Int32) = 0 by decide)
    have e1 : sL_reasonsAhead b f ep eq st g0 g1 g2 g3 g4 g5 g6 g7 g8 no a1 = (1, g0, g1, g2, g3, g4, g5, g6, g7, g8, no) := by simp only [sL_reasonsAhead, if_neg c]
    rw [e] at p1
    rw [e1]
    exact ⟨p1, fun q => absurd (show (1 : Int32) = 0 from q) (by decide), p4⟩
theorem pl_kept {T : Nat} {hh t1 t2 t3 mm n1 n2 n3 : Nat → Int32} (h : pq_H T hh t1 t2 t3 mm n1 n2 n3) (hT : T < 1000000) : s7_kept mm = hh 4 := by
  obtain ⟨n, hn, h24, h3, h4, -⟩ := h
  simp only [s7_kept, h24, h4]
  by_cases c : 100 ≤ n
  · rw [if_pos c, if_pos (show (100 : Int32) ≤ nI n from nI_le (a := 100) c (by omega))]
    rfl
  · rw [if_neg c, if_neg (show ¬ (100 : Int32) ≤ nI n from nI_ge (b := 100) (by omega) (by decide))]
theorem pl_kep0 {mm : Nat → Int32} {v : Int32} : s7_kept (upd mm 34 v) = s7_kept mm := by
  simp only [s7_kept]
  rw [cw_updn _ _ (by decide)]
/-- a record that is kept stands in both rings at one place -/
theorem pl_place {T : Nat} {hh t1 t2 t3 mm n1 n2 n3 : Nat → Int32} {a : Int32} (h : pq_H T hh t1 t2 t3 mm n1 n2 n3) (hT : T < 1000000) (hk : ¬ s3_has hh a = 0) :
    ∃ j : Nat, j < 100 ∧ (∀ ra : Nat → Int32, s3_read hh ra a = ra j) ∧ ∀ v : Int32, s7_place (upd mm 34 v) a = nI j := by
  obtain ⟨n, hn, h24, h3, h4, h5, -⟩ := h
  have c0 : ¬ a < 0 := fun q => hk (by simp only [s3_has, if_pos q])
  have c1 : ¬ hh 4 ≤ a := fun q => hk (by simp only [s3_has, if_neg c0, if_pos q])
  obtain ⟨k, hk31, rfl⟩ := nI_of c0
  have c2 : k < (if 100 ≤ n then 100 else n) := by
    rw [h4] at c1
    rcases Nat.lt_or_ge k (if 100 ≤ n then 100 else n) with q | q
    · exact q
    · exact absurd (nI_le q hk31) c1
  have hk100 : k < 100 := by
    split at c2 <;> omega
  have hkn : k < n := by
    split at c2 <;> omega
  have h50 : hh 5 = nI ((n - 1) % 100 + 1) := by rw [h5, if_neg (by omega)]
  have hk9 : (nI k).toInt = k := nI_toInt hk31
  have hq9 : (nI ((n - 1) % 100)).toInt = ((n - 1) % 100 : Nat) := nI_toInt (by omega)
  have e0 : (hh 5 - 1 - nI k).toInt = ((n - 1) % 100 : Nat) - (k : Int) := by
    rw [h50, nI_pred, pq_sub (by omega) (by omega), hq9, hk9]
  have h100 : (100 : Int32).toInt = 100 := by decide
  have h00 : (0 : Int32).toInt = 0 := by decide
  have e1 : (hh 5 - 1 - nI k + 100).toInt = ((n - 1) % 100 : Nat) - (k : Int) + 100 := by
    rw [pq_add (by omega) (by rw [h100]; omega), e0, h100]
  refine ⟨(n - 1 - k) % 100, by omega, fun ra => ?_, fun v => ?_⟩
  · have hw : (if 0 ≤ hh 5 - 1 - nI k then hh 5 - 1 - nI k else hh 5 - 1 - nI k + 100) = nI ((n - 1 - k) % 100) := by
      apply Int32.toInt_inj.mp
      rw [nI_toInt (by omega)]
      by_cases d : 0 ≤ hh 5 - 1 - nI k
      · rw [if_pos d, e0]
        rw [Int32.le_iff_toInt_le, e0, h00] at d
        omega
      · rw [if_neg d, e1]
        have d1 := cw_lt1 d
        rw [e0, h00] at d1
        omega
    have q0 : ¬ nI ((n - 1 - k) % 100) < 0 := nI_pos (by omega)
    have q1 : ¬ (100 : Int32) ≤ nI ((n - 1 - k) % 100) := nI_ge (b := 100) (by omega) (by decide)
    simp only [s3_read, hw, if_neg q0, if_neg q1, nI_clamp (show (n - 1 - k) % 100 < 2 ^ 31 by omega)]
  · have v24 : upd mm 34 v 24 = nI n := (cw_updn _ _ (by decide)).trans h24
    have e2 : nI n - 1 - nI k = nI (n - 1 - k) := by
      apply Int32.toInt_inj.mp
      obtain ⟨q, rfl⟩ : ∃ q, n = q + 1 := ⟨n - 1, by omega⟩
      rw [nI_pred, Int32.toInt_sub, nI_toInt (by omega), hk9, nI_toInt (by omega), Int.bmod_def]
      split <;> omega
    simp only [s7_place, v24, e2]
    show nI (n - 1 - k) - nI (n - 1 - k) / nI 100 * nI 100 = _
    exact pk_rem (by omega) (by decide) (by decide)
theorem pl_tickOf (h : pq_W T b f ep eq st hh t1 t2 t3 rs mm n1 n2 n3 nr) (hT : T < 900000) (a1 : Int32) :
    (s7_tickOf mm n1 n2 n3 a1).2 34 = (sL_tickOf b hh t1 t2 t3 no a1).1 ∧ ((sL_tickOf b hh t1 t2 t3 no a1).1 = 0 → (sL_tickOf b hh t1 t2 t3 no a1).2 0 = (s7_tickOf mm n1 n2 n3 a1).1.toInt64) ∧ pq_W T b f ep eq st hh t1 t2 t3 rs (s7_tickOf mm n1 n2 n3 a1).2 n1 n2 n3 nr := by
  have hH : pq_H T hh t1 t2 t3 mm n1 n2 n3 := h.1.2.2.2.2.2.2.2.2
  have hkp := pl_kept hH (by omega)
  have l10 : ¬ (1 : Int32) = 0 := by decide
  have hw6 : (if a1 < 0 then (0 : Int32) else (if s7_kept mm ≤ a1 then 0 else 1)) = s3_has hh a1 := by rw [hkp]; rfl
  by_cases c : s3_has hh a1 = 0
  · have e1 : sL_tickOf b hh t1 t2 t3 no a1 = (1, no) := by simp only [sL_tickOf, s6_tickOf, if_pos c, if_neg l10]
    have e2 : s7_tickOf mm n1 n2 n3 a1 = (0, upd mm 34 1) := by simp only [s7_tickOf, s7_asks, hw6, c, if_true]
    rw [e1, e2]
    exact ⟨show upd mm 34 1 34 = 1 from cw_upd0 _ _ _, fun q => absurd (show (1 : Int32) = 0 from q) (by decide), pq_W34 h 1 (Nat.le_refl T)⟩
  · obtain ⟨j, hj, r1, r2⟩ := pl_place hH (by omega) c
    have e1 : sL_tickOf b hh t1 t2 t3 no a1 = (0, vp_updL no ((0 : Int32).toNatClampNeg) ((t1 j).toInt64)) := by simp only [sL_tickOf, s6_tickOf, if_neg c, if_true, r1]
    have e2 : s7_tickOf mm n1 n2 n3 a1 = (n1 j, upd mm 34 0) := by simp only [s7_tickOf, s7_asks, hw6, if_neg c, r2, nI_clamp (show j < 2 ^ 31 by omega)]
    rw [e1, e2]
    refine ⟨show upd mm 34 0 34 = 0 from cw_upd0 _ _ _, fun _ => ?_, pq_W34 h 0 (Nat.le_refl T)⟩
    obtain ⟨n, -, -, -, -, -, hi⟩ := hH
    show vp_updL no ((0 : Int32).toNatClampNeg) ((t1 j).toInt64) 0 = (n1 j).toInt64
    rw [pl_up0, (hi j hj).1]
theorem pl_stateOf (h : pq_W T b f ep eq st hh t1 t2 t3 rs mm n1 n2 n3 nr) (hT : T < 900000) (a1 : Int32) :
    (s7_stateOf mm n1 n2 n3 a1).2 34 = (sL_stateOf b hh t1 t2 t3 no a1).1 ∧ ((sL_stateOf b hh t1 t2 t3 no a1).1 = 0 → (sL_stateOf b hh t1 t2 t3 no a1).2 0 = (s7_stateOf mm n1 n2 n3 a1).1.toInt64) ∧ pq_W T b f ep eq st hh t1 t2 t3 rs (s7_stateOf mm n1 n2 n3 a1).2 n1 n2 n3 nr := by
  have hH : pq_H T hh t1 t2 t3 mm n1 n2 n3 := h.1.2.2.2.2.2.2.2.2
  have hkp := pl_kept hH (by omega)
  have l10 : ¬ (1 : Int32) = 0 := by decide
  have hw6 : (if a1 < 0 then (0 : Int32) else (if s7_kept mm ≤ a1 then 0 else 1)) = s3_has hh a1 := by rw [hkp]; rfl
  by_cases c : s3_has hh a1 = 0
  · have e1 : sL_stateOf b hh t1 t2 t3 no a1 = (1, no) := by simp only [sL_stateOf, s6_stateOf, if_pos c, if_neg l10]
    have e2 : s7_stateOf mm n1 n2 n3 a1 = (0, upd mm 34 1) := by simp only [s7_stateOf, s7_asks, hw6, c, if_true]
    rw [e1, e2]
    exact ⟨show upd mm 34 1 34 = 1 from cw_upd0 _ _ _, fun q => absurd (show (1 : Int32) = 0 from q) (by decide), pq_W34 h 1 (Nat.le_refl T)⟩
  · obtain ⟨j, hj, r1, r2⟩ := pl_place hH (by omega) c
    have e1 : sL_stateOf b hh t1 t2 t3 no a1 = (0, vp_updL no ((0 : Int32).toNatClampNeg) ((t2 j).toInt64)) := by simp only [sL_stateOf, s6_stateOf, if_neg c, if_true, r1]
    have e2 : s7_stateOf mm n1 n2 n3 a1 = (n2 j, upd mm 34 0) := by simp only [s7_stateOf, s7_asks, hw6, if_neg c, r2, nI_clamp (show j < 2 ^ 31 by omega)]
    rw [e1, e2]
    refine ⟨show upd mm 34 0 34 = 0 from cw_upd0 _ _ _, fun _ => ?_, pq_W34 h 0 (Nat.le_refl T)⟩
    obtain ⟨n, -, -, -, -, -, hi⟩ := hH
    show vp_updL no ((0 : Int32).toNatClampNeg) ((t2 j).toInt64) 0 = (n2 j).toInt64
    rw [pl_up0, (hi j hj).2.1]
theorem pl_reasonOf (h : pq_W T b f ep eq st hh t1 t2 t3 rs mm n1 n2 n3 nr) (hT : T < 900000) (a1 : Int32) :
    (s7_reasonOf mm n1 n2 n3 a1).2 34 = (sL_reasonOf b hh t1 t2 t3 no a1).1 ∧ ((sL_reasonOf b hh t1 t2 t3 no a1).1 = 0 → (sL_reasonOf b hh t1 t2 t3 no a1).2 0 = (s7_reasonOf mm n1 n2 n3 a1).1.toInt64) ∧ pq_W T b f ep eq st hh t1 t2 t3 rs (s7_reasonOf mm n1 n2 n3 a1).2 n1 n2 n3 nr := by
  have hH : pq_H T hh t1 t2 t3 mm n1 n2 n3 := h.1.2.2.2.2.2.2.2.2
  have hkp := pl_kept hH (by omega)
  have l10 : ¬ (1 : Int32) = 0 := by decide
  have hw6 : (if a1 < 0 then (0 : Int32) else (if s7_kept mm ≤ a1 then 0 else 1)) = s3_has hh a1 := by rw [hkp]; rfl
  by_cases c : s3_has hh a1 = 0
  · have e1 : sL_reasonOf b hh t1 t2 t3 no a1 = (1, no) := by simp only [sL_reasonOf, s6_reasonOf, if_pos c, if_neg l10]
    have e2 : s7_reasonOf mm n1 n2 n3 a1 = (0, upd mm 34 1) := by simp only [s7_reasonOf, s7_asks, hw6, c, if_true]
    rw [e1, e2]
    exact ⟨show upd mm 34 1 34 = 1 from cw_upd0 _ _ _, fun q => absurd (show (1 : Int32) = 0 from q) (by decide), pq_W34 h 1 (Nat.le_refl T)⟩
  · obtain ⟨j, hj, r1, r2⟩ := pl_place hH (by omega) c
    have e1 : sL_reasonOf b hh t1 t2 t3 no a1 = (0, vp_updL no ((0 : Int32).toNatClampNeg) ((t3 j).toInt64)) := by simp only [sL_reasonOf, s6_reasonOf, if_neg c, if_true, r1]
    have e2 : s7_reasonOf mm n1 n2 n3 a1 = (n3 j, upd mm 34 0) := by simp only [s7_reasonOf, s7_asks, hw6, if_neg c, r2, nI_clamp (show j < 2 ^ 31 by omega)]
    rw [e1, e2]
    refine ⟨show upd mm 34 0 34 = 0 from cw_upd0 _ _ _, fun _ => ?_, pq_W34 h 0 (Nat.le_refl T)⟩
    obtain ⟨n, -, -, -, -, -, hi⟩ := hH
    show vp_updL no ((0 : Int32).toNatClampNeg) ((t3 j).toInt64) 0 = (n3 j).toInt64
    rw [pl_up0, (hi j hj).2.2]
theorem pl_ticks (h : pq_W T b f ep eq st hh t1 t2 t3 rs mm n1 n2 n3 nr) : s6_ticks b = (s7_ticks mm).1 ∧ pq_W T b f ep eq st hh t1 t2 t3 rs (s7_ticks mm).2 n1 n2 n3 nr := ⟨h.1.2.2.2.2.2.2.1.1, pq_W34 h 0 (Nat.le_refl T)⟩
theorem pl_state (h : pq_W T b f ep eq st hh t1 t2 t3 rs mm n1 n2 n3 nr) : s6_state b f = (s7_state mm).1 ∧ pq_W T b f ep eq st hh t1 t2 t3 rs (s7_state mm).2 n1 n2 n3 nr := ⟨h.1.1.1, pq_W34 h 0 (Nat.le_refl T)⟩
theorem pl_reason (h : pq_W T b f ep eq st hh t1 t2 t3 rs mm n1 n2 n3 nr) : s6_reason b f = (s7_reason mm).1 ∧ pq_W T b f ep eq st hh t1 t2 t3 rs (s7_reason mm).2 n1 n2 n3 nr := ⟨h.1.1.2.1, pq_W34 h 0 (Nat.le_refl T)⟩
theorem pl_time (h : pq_W T b f ep eq st hh t1 t2 t3 rs mm n1 n2 n3 nr) : s6_time b f = (s7_time mm).1 ∧ pq_W T b f ep eq st hh t1 t2 t3 rs (s7_time mm).2 n1 n2 n3 nr := ⟨h.1.1.2.2.1, pq_W34 h 0 (Nat.le_refl T)⟩
theorem pl_air (h : pq_W T b f ep eq st hh t1 t2 t3 rs mm n1 n2 n3 nr) : s6_air b f = (s7_air mm).1 ∧ pq_W T b f ep eq st hh t1 t2 t3 rs (s7_air mm).2 n1 n2 n3 nr := ⟨h.1.1.2.2.2.1, pq_W34 h 0 (Nat.le_refl T)⟩
theorem pl_fuel (h : pq_W T b f ep eq st hh t1 t2 t3 rs mm n1 n2 n3 nr) : s6_fuel b f = (s7_fuel mm).1 ∧ pq_W T b f ep eq st hh t1 t2 t3 rs (s7_fuel mm).2 n1 n2 n3 nr := ⟨h.1.1.2.2.2.2.1, pq_W34 h 0 (Nat.le_refl T)⟩
theorem pl_purged (h : pq_W T b f ep eq st hh t1 t2 t3 rs mm n1 n2 n3 nr) : s6_purged b f = (s7_purged mm).1 ∧ pq_W T b f ep eq st hh t1 t2 t3 rs (s7_purged mm).2 n1 n2 n3 nr := ⟨h.1.1.2.2.2.2.2, pq_W34 h 0 (Nat.le_refl T)⟩
theorem pl_unlit (h : pq_W T b f ep eq st hh t1 t2 t3 rs mm n1 n2 n3 nr) : s6_unlit b f = (s7_unlit mm).1 ∧ pq_W T b f ep eq st hh t1 t2 t3 rs (s7_unlit mm).2 n1 n2 n3 nr := ⟨h.1.2.2.2.2.2.2.2.1.1, pq_W34 h 0 (Nat.le_refl T)⟩
theorem pl_longestUnlit (h : pq_W T b f ep eq st hh t1 t2 t3 rs mm n1 n2 n3 nr) : s6_longestUnlit b f = (s7_longestUnlit mm).1 ∧ pq_W T b f ep eq st hh t1 t2 t3 rs (s7_longestUnlit mm).2 n1 n2 n3 nr := ⟨h.1.2.2.2.2.2.2.2.1.2, pq_W34 h 0 (Nat.le_refl T)⟩
theorem pl_changes (h : pq_W T b f ep eq st hh t1 t2 t3 rs mm n1 n2 n3 nr) : s6_changes b hh = (s7_changes mm).1 ∧ pq_W T b f ep eq st hh t1 t2 t3 rs (s7_changes mm).2 n1 n2 n3 nr := by
  refine ⟨?_, pq_W34 h 0 (Nat.le_refl T)⟩
  obtain ⟨n, -, h24, h3, -⟩ := h.1.2.2.2.2.2.2.2.2
  exact h3.trans h24.symm
theorem pl_records (h : pq_W T b f ep eq st hh t1 t2 t3 rs mm n1 n2 n3 nr) (hT : T < 900000) : s6_records b hh = (s7_records mm).1 ∧ pq_W T b f ep eq st hh t1 t2 t3 rs (s7_records mm).2 n1 n2 n3 nr := by
  refine ⟨?_, pq_W34 h 0 (Nat.le_refl T)⟩
  have e := pl_kept h.1.2.2.2.2.2.2.2.2 (by omega)
  show hh 4 = s7_kept (upd mm 34 0)
  rw [pl_kep0, e]
theorem pl_isOpen (h : pq_W T b f ep eq st hh t1 t2 t3 rs mm n1 n2 n3 nr) (a1 : Int32) : s6_isOpen b f a1 = (s7_isOpen mm a1).1 ∧ pq_W T b f ep eq st hh t1 t2 t3 rs (s7_isOpen mm a1).2 n1 n2 n3 nr := by
  refine ⟨?_, pq_W34 h 0 (Nat.le_refl T)⟩
  have f3 : f 3 = mm 12 := h.1.1.1
  simp only [s6_isOpen, s7_isOpen, s2_isPilotOpen, s2_isMainOpen, f3]
theorem pl_sees (h : pq_W T b f ep eq st hh t1 t2 t3 rs mm n1 n2 n3 nr) (a1 : Int32) : s6_sees b f ep eq a1 = (s7_sees mm a1).1 ∧ pq_W T b f ep eq st hh t1 t2 t3 rs (s7_sees mm a1).2 n1 n2 n3 nr := by
  refine ⟨?_, pq_W34 h 0 (Nat.le_refl T)⟩
  obtain ⟨e0, e1, -⟩ := pq_eye h.1.2.1
  simp only [s6_sees, s7_sees]
  by_cases c : a1 = 0
  · rw [if_pos c, if_pos c, e0]
  · rw [if_neg c, if_neg c, e1]
theorem pl_toPilot (h : pq_W T b f ep eq st hh t1 t2 t3 rs mm n1 n2 n3 nr) (hT : T < 250000) (g0 g1 g2 : Nat → Int32) : (s6_toPilot b f ep eq st g0 g1 g2).1 = (s7_toPilot mm).1 ∧ pq_W T b f ep eq st hh t1 t2 t3 rs (s7_toPilot mm).2 n1 n2 n3 nr := pq_toPilot h (by omega)
theorem pl_ck (h : pq_W T b f ep eq st hh t1 t2 t3 rs mm n1 n2 n3 nr) : ¬ mm 8 = 0 := by
  have h8 := (pq_Bof h).2.2.2.2.2
  intro q
  rw [q] at h8
  exact absurd h8 (by decide)
theorem pl_24 (h : pq_W T b f ep eq st hh t1 t2 t3 rs mm n1 n2 n3 nr) (hT : T < 900000) : 0 ≤ (mm 24).toInt ∧ (mm 24).toInt < 900000 := by
  obtain ⟨n, hn, h24, -⟩ := h.1.2.2.2.2.2.2.2.2
  rw [h24, nI_toInt (by omega)]
  omega
theorem pl_i24 (h : pq_W T b f ep eq st hh t1 t2 t3 rs mm n1 n2 n3 nr) (hT : T < 900000) : vp_in ((mm 24) - (mm 24) / 100 * 100) 100 := by
  obtain ⟨n, hn, h24, -⟩ := h.1.2.2.2.2.2.2.2.2
  have e : nI n - nI n / nI 100 * nI 100 = nI (n % 100) := pk_rem (by omega) (by decide) (by decide)
  rw [h24]
  show vp_in (nI n - nI n / nI 100 * nI 100) 100
  rw [e]
  exact vp_in_nI (by omega) (by decide)
theorem pl_i28 (h : pq_W T b f ep eq st hh t1 t2 t3 rs mm n1 n2 n3 nr) (hT : T < 900000) : vp_in ((mm 28) - (mm 28) / 3 * 3) 3 := by
  obtain ⟨n, hn, h28, -⟩ := h.2
  have e : nI n - nI n / nI 3 * nI 3 = nI (n % 3) := pk_rem (by omega) (by decide) (by decide)
  rw [h28]
  show vp_in (nI n - nI n / nI 3 * nI 3) 3
  rw [e]
  exact vp_in_nI (by omega) (by decide)
theorem pl_ix (h : pq_W T b f ep eq st hh t1 t2 t3 rs mm n1 n2 n3 nr) (hT : T < 900000) (a1 : Int32) : ¬ (s7_asks mm (if a1 < 0 then 0 else (if (s7_kept mm) ≤ a1 then 0 else 1))).1 = 0 → vp_in (s7_place (s7_asks mm (if a1 < 0 then 0 else (if (s7_kept mm) ≤ a1 then 0 else 1))).2 a1) 100 := by
  intro hz
  have hH : pq_H T hh t1 t2 t3 mm n1 n2 n3 := h.1.2.2.2.2.2.2.2.2
  have hkp := pl_kept hH (by omega)
  have hw6 : (if a1 < 0 then (0 : Int32) else (if s7_kept mm ≤ a1 then 0 else 1)) = s3_has hh a1 := by rw [hkp]; rfl
  have hz1 : ¬ (if a1 < 0 then (0 : Int32) else (if s7_kept mm ≤ a1 then 0 else 1)) = 0 := hz
  rw [hw6] at hz1
  obtain ⟨j, hj, -, r2⟩ := pl_place hH (by omega) hz1
  show vp_in (s7_place (upd mm 34 _) a1) 100
  rw [r2]
  exact vp_in_nI hj (by decide)
theorem pl_e1 (h : pq_W T b f ep eq st hh t1 t2 t3 rs mm n1 n2 n3 nr) : ep 0 = 0 ∨ ep 0 = 1 := h.1.2.1.1
theorem pl_e2 (h : pq_W T b f ep eq st hh t1 t2 t3 rs mm n1 n2 n3 nr) : eq 0 = 0 ∨ eq 0 = 1 := h.1.2.1.2.1
/-- at the start -/
theorem pl_start : pq_W 0 (fun _ => 0) (fun _ => 0) (fun _ => 0) (fun _ => 0) (s5_init (fun _ => 0)) (fun _ => 0) (fun _ => 0) (fun _ => 0) (fun _ => 0) (s4_init (fun _ => 0)) (s7_init (fun _ => 0)) (fun _ => 0) (fun _ => 0) (fun _ => 0) (fun _ => 0) := by
  have hk : ∀ k, k = 0 ∨ 11 < k → s7_init (fun _ => 0) k = 0 := by
    intro k hk
    simp only [s7_init]
    rw [cw_updn _ _ (by omega), cw_updn _ _ (by omega), cw_updn _ _ (by omega), cw_updn _ _ (by omega), cw_updn _ _ (by omega), cw_updn _ _ (by omega), cw_updn _ _ (by omega), cw_updn _ _ (by omega), cw_updn _ _ (by omega), cw_updn _ _ (by omega), cw_updn _ _ (by omega)]
  have hS : pq_S (s5_init (fun _ => 0)) (s7_init (fun _ => 0)) := by
    have hd : ∀ k : Nat, k < 11 → s5_init (fun _ => 0) k = s7_init (fun _ => 0) (k + 1) := by decide +kernel
    exact fun k h9 => hd k (by omega)
  refine ⟨⟨⟨(hk 12 (by decide)).symm, (hk 13 (by decide)).symm, (hk 14 (by decide)).symm, (hk 15 (by decide)).symm, (hk 16 (by decide)).symm, (hk 17 (by decide)).symm⟩, ⟨Or.inl rfl, Or.inl rfl, ?_, (hk 19 (by decide)).symm, (hk 20 (by decide)).symm⟩, hS, ?_, ?_, ⟨(hk 0 (by decide)).symm, 0, by decide, hk 0 (by decide)⟩, ⟨(hk 21 (by decide)).symm, 0, Nat.le_refl 0, hk 21 (by decide)⟩, ⟨(hk 22 (by decide)).symm, (hk 23 (by decide)).symm⟩, 0, Nat.le_refl 0, hk 24 (by decide), rfl, rfl, rfl, fun i _ => ⟨rfl, rfl, rfl⟩⟩, 0, Nat.le_refl 0, hk 28 (by decide), rfl, rfl, rfl⟩
  · rw [hk 18 (by decide)]
    decide
  · unfold pq_B
    rw [hk 15 (by decide), hk 16 (by decide)]
    decide +kernel
  · unfold pq_N
    rw [hk 12 (by decide), hk 13 (by decide), hk 14 (by decide), hk 17 (by decide), hk 19 (by decide), hk 20 (by decide)]
    decide +kernel
end RD
