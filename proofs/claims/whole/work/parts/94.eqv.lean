theorem pl_c0 : (0 : Int32).toNatClampNeg = 0 := by decide
section RC
variable {b f ep eq st hh t1 t2 t3 rs mm n1 n2 n3 nr s1 m1 : Nat → Int32} {nw nt no : Nat → Int64} {T : Nat}
theorem pl_h01 {q : Int32} (hq : q = 0 ∨ q = 1) : (if q = 0 then (0 : Int32) else 1) = q := by
  rcases hq with rfl | rfl <;> decide
theorem pq_Sup {v : Int32} {k : Nat} (h : pq_S st mm) : pq_S (upd st k v) (upd mm (k + 1) v) := by
  intro i hi
  by_cases c : i = k
  · rw [c, cw_upd0, cw_upd0]
  · rw [cw_updn _ _ c, cw_updn _ _ (by omega)]
    exact h i hi
theorem pq_S34 {v : Int32} (h : pq_S st mm) : pq_S st (upd mm 34 v) := fun i hi => (h i hi).trans (cw_updn _ _ (by omega)).symm
theorem pq_Wset (h : pq_W T b f ep eq st hh t1 t2 t3 rs mm n1 n2 n3 nr) (hk : ∀ k, k = 0 ∨ (12 ≤ k ∧ k ≤ 28) → m1 k = mm k) (hS : pq_S s1 m1) (h10 : 0 ≤ (m1 10).toInt ∧ (m1 10).toInt ≤ 1000) (h11 : 0 ≤ (m1 11).toInt ∧ (m1 11).toInt ≤ 1000) (h1 : 0 ≤ (m1 1).toInt ∧ (m1 1).toInt ≤ 100) (h8 : 0 < (m1 8).toInt) (h6 : (m1 6).toInt ≤ 5) (h7 : (m1 7).toInt ≤ 5) (h9 : 1 ≤ (m1 9).toInt ∧ (m1 9).toInt ≤ 500) :
    pq_W T b f ep eq s1 hh t1 t2 t3 rs m1 n1 n2 n3 nr := by
  obtain ⟨⟨hF, hE, -, hB, hN, ⟨h5, j, hj, h0⟩, ⟨hb6, n, hn, h21⟩, ⟨hf9, hf10⟩, hH⟩, hZ⟩ := h
  refine ⟨⟨pq_Fc hF (fun k _ _ => hk k (by omega)), pq_Ec hE (fun k _ _ => hk k (by omega)), hS, ?_, ?_, ⟨by rw [hk 0 (by decide)]; exact h5, j, hj, by rw [hk 0 (by decide)]; exact h0⟩, ⟨by rw [hk 21 (by decide)]; exact hb6, n, hn, by rw [hk 21 (by decide)]; exact h21⟩, ⟨by rw [hk 22 (by decide)]; exact hf9, by rw [hk 23 (by decide)]; exact hf10⟩, pq_Hc hH (Nat.le_refl T) (hk 24 (by decide))⟩, pq_Zc hZ (Nat.le_refl T) (hk 28 (by decide))⟩
  · refine ⟨?_, ?_, h10, h11, h1, h8⟩
    · rw [hk 15 (by decide)]; exact hB.1
    · rw [hk 16 (by decide)]; exact hB.2.1
  · obtain ⟨n12, n13, n14, n17, n19, n20, -, -, -⟩ := hN
    unfold pq_N
    rw [hk 12 (by decide), hk 13 (by decide), hk 14 (by decide), hk 17 (by decide), hk 19 (by decide), hk 20 (by decide)]
    exact ⟨n12, n13, n14, n17, n19, n20, h6, h7, h9⟩
theorem pq_Bof (h : pq_W T b f ep eq st hh t1 t2 t3 rs mm n1 n2 n3 nr) : pq_B mm := h.1.2.2.2.1
theorem pq_Nof (h : pq_W T b f ep eq st hh t1 t2 t3 rs mm n1 n2 n3 nr) : pq_N T mm := h.1.2.2.2.2.1
theorem pl_sg : ∀ j : Nat, j < 64 → ∀ i : Nat, i < 6 → (s6_isOn (nI j) ((1 : Int32) <<< (nI i &&& 31)) = (if ((nI j >>> (nI i &&& 31)) &&& 1) = 1 then 1 else 0) ∧
    (nI j &&& (((1 : Int32) <<< (nI i &&& 31)) ^^^ (-1))) = nI j + (if (0 : Int32) = (if ((nI j >>> (nI i &&& 31)) &&& 1) = 1 then (1 : Int32) else 0) then 0 else (-((1 : Int32) <<< (nI i &&& 31)))) ∧
    (nI j ||| ((1 : Int32) <<< (nI i &&& 31))) = nI j + (if (1 : Int32) = (if ((nI j >>> (nI i &&& 31)) &&& 1) = 1 then (1 : Int32) else 0) then 0 else ((1 : Int32) <<< (nI i &&& 31))) ∧
    ((nI j &&& (((1 : Int32) <<< (nI i &&& 31)) ^^^ (-1))).toNatClampNeg < 64 ∧ (nI j &&& (((1 : Int32) <<< (nI i &&& 31)) ^^^ (-1))) = nI (nI j &&& (((1 : Int32) <<< (nI i &&& 31)) ^^^ (-1))).toNatClampNeg) ∧
    ((nI j ||| ((1 : Int32) <<< (nI i &&& 31))).toNatClampNeg < 64 ∧ (nI j ||| ((1 : Int32) <<< (nI i &&& 31))) = nI (nI j ||| ((1 : Int32) <<< (nI i &&& 31))).toNatClampNeg)) := by decide +kernel
theorem pl_i05 {a : Int32} (h : ¬ s7_in a 0 5 = 0) : ∃ s : Nat, s < 6 ∧ a = nI s ∧ ¬ a < 0 ∧ a < 6 := by
  obtain ⟨h1, h2⟩ := pq_inB h
  have e1 : (0 : Int32).toInt = 0 := by decide
  have e3 : (5 : Int32).toInt = 5 := by decide
  have e6 : (6 : Int32).toInt = 6 := by decide
  rw [e1] at h1
  rw [e3] at h2
  obtain ⟨j, hj, e⟩ := pq_nI (v := a) (B := 5) (by omega) (by omega)
  refine ⟨j, by omega, e, ?_, ?_⟩
  · rw [Int32.lt_iff_toInt_lt]; omega
  · rw [Int32.lt_iff_toInt_lt]; omega
theorem pl_o05 {a : Int32} (h : s7_in a 0 5 = 0) : a < 0 ∨ (¬ a < 0 ∧ ¬ a < 6) := by
  by_cases c : a < 0
  · exact Or.inl c
  · refine Or.inr ⟨c, fun q => ?_⟩
    have e5 : (5 : Int32).toInt = 5 := by decide
    have e6 : (6 : Int32).toInt = 6 := by decide
    have d : ¬ (5 : Int32) < a := by
      rw [Int32.lt_iff_toInt_lt] at q ⊢
      omega
    have e : s7_in a 0 5 = 1 := by simp only [s7_in, if_neg c, if_neg d]
    rw [e] at h
    exact absurd h (by decide)
theorem pl_Wb (h : pq_W T b f ep eq st hh t1 t2 t3 rs mm n1 n2 n3 nr) {v : Int32} (hv : ∃ j : Nat, j < 64 ∧ v = nI j) : pq_W T (upd b 5 v) f ep eq st hh t1 t2 t3 rs (upd mm 0 v) n1 n2 n3 nr := by
  obtain ⟨⟨hF, hE, hS, hB, hN, -, ⟨hb6, n, hn, h21⟩, ⟨hf9, hf10⟩, hH⟩, hZ⟩ := h
  obtain ⟨j, hj, e⟩ := hv
  refine ⟨⟨pq_Fc hF (fun k _ _ => cw_updn _ _ (by omega)), pq_Ec hE (fun k _ _ => cw_updn _ _ (by omega)), fun k hk => (hS k hk).trans (cw_updn _ _ (by omega)).symm, ?_, ?_, ⟨by rw [cw_upd0, cw_upd0], j, hj, by rw [cw_upd0]; exact e⟩, ⟨by rw [cw_updn _ _ (by decide), cw_updn _ _ (by decide)]; exact hb6, n, hn, by rw [cw_updn _ _ (by decide)]; exact h21⟩, ⟨by rw [cw_updn _ _ (by decide)]; exact hf9, by rw [cw_updn _ _ (by decide)]; exact hf10⟩, pq_Hc hH (Nat.le_refl T) (cw_updn _ _ (by decide))⟩, pq_Zc hZ (Nat.le_refl T) (cw_updn _ _ (by decide))⟩
  · unfold pq_B
    rw [cw_updn _ _ (by decide), cw_updn _ _ (by decide), cw_updn _ _ (by decide), cw_updn _ _ (by decide), cw_updn _ _ (by decide), cw_updn _ _ (by decide)]
    exact hB
  · unfold pq_N at hN ⊢
    rw [cw_updn _ _ (by decide), cw_updn _ _ (by decide), cw_updn _ _ (by decide), cw_updn _ _ (by decide), cw_updn _ _ (by decide), cw_updn _ _ (by decide), cw_updn _ _ (by decide), cw_updn _ _ (by decide), cw_updn _ _ (by decide)]
    exact hN
/-- signal -/
theorem pl_signal (h : pq_W T b f ep eq st hh t1 t2 t3 rs mm n1 n2 n3 nr) (a1 a2 : Int32) (h2 : a2 = 0 ∨ a2 = 1) :
    (s7_signal mm a1 a2).2 34 = (sL_signal b no a1 a2).1 ∧ ((sL_signal b no a1 a2).1 = 0 → (sL_signal b no a1 a2).2.2 0 = (if (s7_signal mm a1 a2).1 = 0 then (0 : Int64) else 1)) ∧ pq_W T (sL_signal b no a1 a2).2.1 f ep eq st hh t1 t2 t3 rs (s7_signal mm a1 a2).2 n1 n2 n3 nr := by
  have l10 : ¬ (1 : Int32) = 0 := by decide
  by_cases c : s7_in a1 0 5 = 0
  · have e0 : s6_signal b a1 a2 = (1, 0, b) := by
      rcases pl_o05 c with d | ⟨d, d1⟩
      · simp only [s6_signal, if_pos d]
      · simp only [s6_signal, if_neg d, if_neg d1]
    have e1 : sL_signal b no a1 a2 = (1, b, no) := by simp only [sL_signal, e0, if_neg l10]
    have e2 : s7_signal mm a1 a2 = (0, upd mm 34 1) := by simp only [s7_signal, s7_asks, c, if_true]
    rw [e1, e2]
    exact ⟨show upd mm 34 1 34 = 1 from cw_upd0 _ _ _, fun q => absurd (show (1 : Int32) = 0 from q) (by decide), pq_W34 h 1 (Nat.le_refl T)⟩
  · obtain ⟨i, hi, e, d, d1⟩ := pl_i05 c
    obtain ⟨h5, j, hj, h0⟩ := h.1.2.2.2.2.2.1
    obtain ⟨g1, g2, g3, g4, g5⟩ := pl_sg j hj i hi
    have hb5 : b 5 = nI j := h5.trans h0
    have v00 : upd mm 34 0 0 = nI j := (cw_updn _ _ (by decide)).trans h0
    have hW0 := pq_W34 h 0 (Nat.le_refl T)
    obtain ⟨x0, hx0⟩ : ∃ x0 : Nat → Int32, x0 = upd mm 34 0 := ⟨_, rfl⟩
    rw [← hx0] at v00 hW0
    have x34 : x0 34 = 0 := by rw [hx0, cw_upd0]
    rw [e] at d d1
    have c1 := c
    rw [e] at c1
    rw [e]
    have e2 : s7_signal mm (nI i) a2 = ((if ((nI j >>> (nI i &&& 31)) &&& 1) = 1 then 1 else 0), upd x0 0 (nI j + (if a2 = (if ((nI j >>> (nI i &&& 31)) &&& 1) = 1 then 1 else 0) then 0 else (if a2 = 0 then (-((1 : Int32) <<< (nI i &&& 31))) else ((1 : Int32) <<< (nI i &&& 31)))))) := by
      simp only [s7_signal, s7_asks, if_neg c1, ← hx0, v00]
    have e1 : sL_signal b no (nI i) a2 = (0, upd b 5 (if a2 = 0 then (nI j &&& (((1 : Int32) <<< (nI i &&& 31)) ^^^ (-1))) else (nI j ||| ((1 : Int32) <<< (nI i &&& 31)))), vp_updL no ((0 : Int32).toNatClampNeg) (if (if ((nI j >>> (nI i &&& 31)) &&& 1) = 1 then (1 : Int32) else 0) = 0 then 0 else 1)) := by
      simp only [sL_signal, s6_signal, if_neg d, if_pos d1, hb5, g1, if_true]
    rw [e1, e2]
    refine ⟨?_, fun _ => ?_, ?_⟩
    · exact x34
    · show vp_updL no ((0 : Int32).toNatClampNeg) _ 0 = _
      rw [pl_c0]
      exact if_pos rfl
    · rcases h2 with rfl | rfl
      · show pq_W T (upd b 5 (if (0 : Int32) = 0 then _ else _)) f ep eq st hh t1 t2 t3 rs (upd x0 0 (nI j + (if (0 : Int32) = _ then 0 else (if (0 : Int32) = 0 then _ else _)))) n1 n2 n3 nr
        rw [if_pos rfl, if_pos rfl, ← g2]
        exact pl_Wb hW0 ⟨_, g4⟩
      · show pq_W T (upd b 5 (if (1 : Int32) = 0 then _ else _)) f ep eq st hh t1 t2 t3 rs (upd x0 0 (nI j + (if (1 : Int32) = _ then 0 else (if (1 : Int32) = 0 then _ else _)))) n1 n2 n3 nr
        rw [if_neg l10, if_neg l10, ← g3]
        exact pl_Wb hW0 ⟨_, g5⟩
/-- setRate -/
theorem pl_setRate (h : pq_W T b f ep eq st hh t1 t2 t3 rs mm n1 n2 n3 nr) (a1 : Int32) :
    (s7_setRate mm a1).2 34 = (sL_setRate b st no a1).1 ∧ ((sL_setRate b st no a1).1 = 0 → (sL_setRate b st no a1).2.2 0 = (s7_setRate mm a1).1.toInt64) ∧ pq_W T b f ep eq (sL_setRate b st no a1).2.1 hh t1 t2 t3 rs (s7_setRate mm a1).2 n1 n2 n3 nr := by
  have l10 : ¬ (1 : Int32) = 0 := by decide
  by_cases c : s7_in a1 20 100 = 0
  · have e1 : sL_setRate b st no a1 = (1, st, no) := by simp only [sL_setRate, s6_setRate, if_neg (pq_ou1 c), if_neg l10]
    have e2 : s7_setRate mm a1 = (0, upd mm 34 1) := by simp only [s7_setRate, s7_asks, c, if_true]
    rw [e1, e2]
    exact ⟨show upd mm 34 1 34 = 1 from cw_upd0 _ _ _, fun q => absurd (show (1 : Int32) = 0 from q) (by decide), pq_W34 h 1 (Nat.le_refl T)⟩
  · have e1 : sL_setRate b st no a1 = (0, upd st 0 a1, vp_updL no ((0 : Int32).toNatClampNeg) ((st 0).toInt64)) := by simp only [sL_setRate, s6_setRate, if_pos (pq_ou0 c), if_true]
    have e2 : s7_setRate mm a1 = (upd mm 34 0 1, upd (upd mm 34 0) 1 a1) := by simp only [s7_setRate, s7_asks, if_neg c]
    have hs0 : st 0 = mm 1 := h.1.2.2.1 0 (by decide)
    obtain ⟨b1, b2⟩ := pq_inB c
    have e20 : (20 : Int32).toInt = 20 := by decide
    have e100 : (100 : Int32).toInt = 100 := by decide
    have hB := pq_Bof h
    have hN := pq_Nof h
    rw [e1, e2]
    refine ⟨?_, fun _ => ?_, ?_⟩
    · show upd (upd mm 34 0) 1 a1 34 = 0
      rw [cw_updn _ _ (by decide), cw_upd0]
    · show vp_updL no ((0 : Int32).toNatClampNeg) ((st 0).toInt64) 0 = (upd mm 34 0 1).toInt64
      rw [pl_c0, cw_updn _ _ (by decide), ← hs0]
      exact if_pos rfl
    · show pq_W T b f ep eq (upd st 0 a1) hh t1 t2 t3 rs (upd (upd mm 34 0) 1 a1) n1 n2 n3 nr
      refine pq_Wset h (fun k hk => ?_) (pq_Sup (k := 0) (pq_S34 h.1.2.2.1)) ?_ ?_ ?_ ?_ ?_ ?_ ?_
      · rw [cw_updn _ _ (by omega), cw_updn _ _ (by omega)]
      · rw [cw_updn _ _ (by decide), cw_updn _ _ (by decide)]; exact hB.2.2.1
      · rw [cw_updn _ _ (by decide), cw_updn _ _ (by decide)]; exact hB.2.2.2.1
      · rw [cw_upd0]; omega
      · rw [cw_updn _ _ (by decide), cw_updn _ _ (by decide)]; exact hB.2.2.2.2.2
      · rw [cw_updn _ _ (by decide), cw_updn _ _ (by decide)]; exact hN.2.2.2.2.2.2.1
      · rw [cw_updn _ _ (by decide), cw_updn _ _ (by decide)]; exact hN.2.2.2.2.2.2.2.1
      · rw [cw_updn _ _ (by decide), cw_updn _ _ (by decide)]; exact hN.2.2.2.2.2.2.2.2
/-- setTimes -/
theorem pl_setTimes (h : pq_W T b f ep eq st hh t1 t2 t3 rs mm n1 n2 n3 nr) (a1 a2 a3 a4 : Int32) :
    (s7_setTimes mm a1 a2 a3 a4) 34 = (sL_setTimes b st f a1 a2 a3 a4).1 ∧ pq_W T b f ep eq (sL_setTimes b st f a1 a2 a3 a4).2 hh t1 t2 t3 rs (s7_setTimes mm a1 a2 a3 a4) n1 n2 n3 nr := by
  have l10 : ¬ (1 : Int32) = 0 := by decide
  have l20 : ¬ (2 : Int32) = 0 := by decide
  have l21 : ¬ (2 : Int32) = 1 := by decide
  have hno : ∀ v : Int32, sL_setTimes b st f a1 a2 a3 a4 = (v, st) → s7_setTimes mm a1 a2 a3 a4 = upd mm 34 v → ((s7_setTimes mm a1 a2 a3 a4) 34 = (sL_setTimes b st f a1 a2 a3 a4).1 ∧ pq_W T b f ep eq (sL_setTimes b st f a1 a2 a3 a4).2 hh t1 t2 t3 rs (s7_setTimes mm a1 a2 a3 a4) n1 n2 n3 nr) := by
    intro v e1 e2
    rw [e1, e2]
    exact ⟨cw_upd0 _ _ _, pq_W34 h v (Nat.le_refl T)⟩
  by_cases c1 : s7_in a1 1 200 = 0
  · exact hno 1 (by simp only [sL_setTimes, s6_setTimes, if_neg (pq_ou1 c1), if_neg l10, if_true]) (by simp only [s7_setTimes, s7_asksSetting, if_pos c1, if_neg l10, if_true])
  by_cases c2 : s7_in a2 1 30 = 0
  · exact hno 1 (by simp only [sL_setTimes, s6_setTimes, if_pos (pq_ou0 c1), if_neg (pq_ou1 c2), if_neg l10, if_true]) (by simp only [s7_setTimes, s7_asksSetting, if_neg c1, if_pos c2, if_neg l10, if_true])
  by_cases c3 : s7_in a3 1 30 = 0
  · exact hno 1 (by simp only [sL_setTimes, s6_setTimes, if_pos (pq_ou0 c1), if_pos (pq_ou0 c2), if_neg (pq_ou1 c3), if_neg l10, if_true]) (by simp only [s7_setTimes, s7_asksSetting, if_neg c1, if_neg c2, if_pos c3, if_neg l10, if_true])
  by_cases c4 : s7_in a4 1 60 = 0
  · exact hno 1 (by simp only [sL_setTimes, s6_setTimes, if_pos (pq_ou0 c1), if_pos (pq_ou0 c2), if_pos (pq_ou0 c3), if_neg (pq_ou1 c4), if_neg l10, if_true]) (by simp only [s7_setTimes, s7_asksSetting, if_neg c1, if_neg c2, if_neg c3, if_pos c4, if_neg l10, if_true])
  have f3 : f 3 = mm 12 := h.1.1.1
  by_cases d : mm 12 = 0
  · have o : s6_refuseUnlessOff b f = 0 := by simp only [s6_refuseUnlessOff, f3, if_pos d]
    have e1 : sL_setTimes b st f a1 a2 a3 a4 = (0, (upd (upd (upd (upd st 1 a1) 2 a2) 3 a3) 4 a4)) := by simp only [sL_setTimes, s6_setTimes, if_pos (pq_ou0 c1), if_pos (pq_ou0 c2), if_pos (pq_ou0 c3), if_pos (pq_ou0 c4), if_pos o, if_true]
    have e2 : s7_setTimes mm a1 a2 a3 a4 = (upd (upd (upd (upd (upd mm 34 0) 2 a1) 3 a2) 4 a3) 5 a4) := by simp only [s7_setTimes, s7_asksSetting, if_neg c1, if_neg c2, if_neg c3, if_neg c4, if_neg l10, if_pos d, if_true]
    have hB := pq_Bof h
    have hN := pq_Nof h
    obtain ⟨p1, q1⟩ := pq_inB c1
    rw [show (1 : Int32).toInt = 1 by decide] at p1
    rw [show (200 : Int32).toInt = 200 by decide] at q1
    obtain ⟨p2, q2⟩ := pq_inB c2
    rw [show (1 : Int32).toInt = 1 by decide] at p2
    rw [show (30 : Int32).toInt = 30 by decide] at q2
    obtain ⟨p3, q3⟩ := pq_inB c3
    rw [show (1 : Int32).toInt = 1 by decide] at p3
    rw [show (30 : Int32).toInt = 30 by decide] at q3
    obtain ⟨p4, q4⟩ := pq_inB c4
    rw [show (1 : Int32).toInt = 1 by decide] at p4
    rw [show (60 : Int32).toInt = 60 by decide] at q4
    rw [e1, e2]
    refine ⟨?_, ?_⟩
    · show (upd (upd (upd (upd (upd mm 34 0) 2 a1) 3 a2) 4 a3) 5 a4) 34 = 0
      rw [cw_updn _ _ (by decide), cw_updn _ _ (by decide), cw_updn _ _ (by decide), cw_updn _ _ (by decide), cw_upd0]
    · refine pq_Wset h (fun k hk => ?_) (pq_Sup (k := 4) (pq_Sup (k := 3) (pq_Sup (k := 2) (pq_Sup (k := 1) (pq_S34 h.1.2.2.1))))) ?_ ?_ ?_ ?_ ?_ ?_ ?_
      · rw [cw_updn _ _ (by omega), cw_updn _ _ (by omega), cw_updn _ _ (by omega), cw_updn _ _ (by omega), cw_updn _ _ (by omega)]
      · rw [cw_updn _ _ (by decide), cw_updn _ _ (by decide), cw_updn _ _ (by decide), cw_updn _ _ (by decide), cw_updn _ _ (by decide)]; exact hB.2.2.1
      · rw [cw_updn _ _ (by decide), cw_updn _ _ (by decide), cw_updn _ _ (by decide), cw_updn _ _ (by decide), cw_updn _ _ (by decide)]; exact hB.2.2.2.1
      · rw [cw_updn _ _ (by decide), cw_updn _ _ (by decide), cw_updn _ _ (by decide), cw_updn _ _ (by decide), cw_updn _ _ (by decide)]; exact hB.2.2.2.2.1
      · rw [cw_updn _ _ (by decide), cw_updn _ _ (by decide), cw_updn _ _ (by decide), cw_updn _ _ (by decide), cw_updn _ _ (by decide)]; exact hB.2.2.2.2.2
      · rw [cw_updn _ _ (by decide), cw_updn _ _ (by decide), cw_updn _ _ (by decide), cw_updn _ _ (by decide), cw_updn _ _ (by decide)]; exact hN.2.2.2.2.2.2.1
      · rw [cw_updn _ _ (by decide), cw_updn _ _ (by decide), cw_updn _ _ (by decide), cw_updn _ _ (by decide), cw_updn _ _ (by decide)]; exact hN.2.2.2.2.2.2.2.1
      · rw [cw_updn _ _ (by decide), cw_updn _ _ (by decide), cw_updn _ _ (by decide), cw_updn _ _ (by decide), cw_updn _ _ (by decide)]; exact hN.2.2.2.2.2.2.2.2
  · have o : ¬ s6_refuseUnlessOff b f = 0 := by
      have e : s6_refuseUnlessOff b f = 1 := by simp only [s6_refuseUnlessOff, f3, if_neg d]
      rw [e]; exact l10
    exact hno 2 (by simp only [sL_setTimes, s6_setTimes, if_pos (pq_ou0 c1), if_pos (pq_ou0 c2), if_pos (pq_ou0 c3), if_pos (pq_ou0 c4), if_neg o, if_neg l20, if_neg l21]) (by simp only [s7_setTimes, s7_asksSetting, if_neg c1, if_neg c2, if_neg c3, if_neg c4, if_neg l10, if_neg d, if_neg l20, if_true])
/-- setEyes -/
theorem pl_setEyes (h : pq_W T b f ep eq st hh t1 t2 t3 rs mm n1 n2 n3 nr) (a1 a2 a3 : Int32) :
    (s7_setEyes mm a1 a2 a3) 34 = (sL_setEyes b st f a1 a2 a3).1 ∧ pq_W T b f ep eq (sL_setEyes b st f a1 a2 a3).2 hh t1 t2 t3 rs (s7_setEyes mm a1 a2 a3) n1 n2 n3 nr := by
  have l10 : ¬ (1 : Int32) = 0 := by decide
  have l20 : ¬ (2 : Int32) = 0 := by decide
  have l21 : ¬ (2 : Int32) = 1 := by decide
  have hno : ∀ v : Int32, sL_setEyes b st f a1 a2 a3 = (v, st) → s7_setEyes mm a1 a2 a3 = upd mm 34 v → ((s7_setEyes mm a1 a2 a3) 34 = (sL_setEyes b st f a1 a2 a3).1 ∧ pq_W T b f ep eq (sL_setEyes b st f a1 a2 a3).2 hh t1 t2 t3 rs (s7_setEyes mm a1 a2 a3) n1 n2 n3 nr) := by
    intro v e1 e2
    rw [e1, e2]
    exact ⟨cw_upd0 _ _ _, pq_W34 h v (Nat.le_refl T)⟩
  by_cases c1 : s7_in a1 1 5 = 0
  · exact hno 1 (by simp only [sL_setEyes, s6_setEyes, if_neg (pq_ou1 c1), if_neg l10, if_true]) (by simp only [s7_setEyes, s7_asksSetting, if_pos c1, if_neg l10, if_true])
  by_cases c2 : s7_in a2 1 5 = 0
  · exact hno 1 (by simp only [sL_setEyes, s6_setEyes, if_pos (pq_ou0 c1), if_neg (pq_ou1 c2), if_neg l10, if_true]) (by simp only [s7_setEyes, s7_asksSetting, if_neg c1, if_pos c2, if_neg l10, if_true])
  by_cases c3 : s7_in a3 5 100 = 0
  · exact hno 1 (by simp only [sL_setEyes, s6_setEyes, if_pos (pq_ou0 c1), if_pos (pq_ou0 c2), if_neg (pq_ou1 c3), if_neg l10, if_true]) (by simp only [s7_setEyes, s7_asksSetting, if_neg c1, if_neg c2, if_pos c3, if_neg l10, if_true])
  have f3 : f 3 = mm 12 := h.1.1.1
  by_cases d : mm 12 = 0
  · have o : s6_refuseUnlessOff b f = 0 := by simp only [s6_refuseUnlessOff, f3, if_pos d]
    have e1 : sL_setEyes b st f a1 a2 a3 = (0, (upd (upd (upd st 5 a1) 6 a2) 7 a3)) := by simp only [sL_setEyes, s6_setEyes, if_pos (pq_ou0 c1), if_pos (pq_ou0 c2), if_pos (pq_ou0 c3), if_pos o, if_true]
    have e2 : s7_setEyes mm a1 a2 a3 = (upd (upd (upd (upd mm 34 0) 6 a1) 7 a2) 8 a3) := by simp only [s7_setEyes, s7_asksSetting, if_neg c1, if_neg c2, if_neg c3, if_neg l10, if_pos d, if_true]
    have hB := pq_Bof h
    have hN := pq_Nof h
    obtain ⟨p1, q1⟩ := pq_inB c1
    rw [show (1 : Int32).toInt = 1 by decide] at p1
    rw [show (5 : Int32).toInt = 5 by decide] at q1
    obtain ⟨p2, q2⟩ := pq_inB c2
    rw [show (1 : Int32).toInt = 1 by decide] at p2
    rw [show (5 : Int32).toInt = 5 by decide] at q2
    obtain ⟨p3, q3⟩ := pq_inB c3
    rw [show (5 : Int32).toInt = 5 by decide] at p3
    rw [show (100 : Int32).toInt = 100 by decide] at q3
    rw [e1, e2]
    refine ⟨?_, ?_⟩
    · show (upd (upd (upd (upd mm 34 0) 6 a1) 7 a2) 8 a3) 34 = 0
      rw [cw_updn _ _ (by decide), cw_updn _ _ (by decide), cw_updn _ _ (by decide), cw_upd0]
    · refine pq_Wset h (fun k hk => ?_) (pq_Sup (k := 7) (pq_Sup (k := 6) (pq_Sup (k := 5) (pq_S34 h.1.2.2.1)))) ?_ ?_ ?_ ?_ ?_ ?_ ?_
      · rw [cw_updn _ _ (by omega), cw_updn _ _ (by omega), cw_updn _ _ (by omega), cw_updn _ _ (by omega)]
      · rw [cw_updn _ _ (by decide), cw_updn _ _ (by decide), cw_updn _ _ (by decide), cw_updn _ _ (by decide)]; exact hB.2.2.1
      · rw [cw_updn _ _ (by decide), cw_updn _ _ (by decide), cw_updn _ _ (by decide), cw_updn _ _ (by decide)]; exact hB.2.2.2.1
      · rw [cw_updn _ _ (by decide), cw_updn _ _ (by decide), cw_updn _ _ (by decide), cw_updn _ _ (by decide)]; exact hB.2.2.2.2.1
      · rw [cw_upd0]; omega
      · rw [cw_updn _ _ (by decide), cw_updn _ _ (by decide), cw_upd0]; omega
      · rw [cw_updn _ _ (by decide), cw_upd0]; omega
      · rw [cw_updn _ _ (by decide), cw_updn _ _ (by decide), cw_updn _ _ (by decide), cw_updn _ _ (by decide)]; exact hN.2.2.2.2.2.2.2.2
  · have o : ¬ s6_refuseUnlessOff b f = 0 := by
      have e : s6_refuseUnlessOff b f = 1 := by simp only [s6_refuseUnlessOff, f3, if_neg d]
      rw [e]; exact l10
    exact hno 2 (by simp only [sL_setEyes, s6_setEyes, if_pos (pq_ou0 c1), if_pos (pq_ou0 c2), if_pos (pq_ou0 c3), if_neg o, if_neg l20, if_neg l21]) (by simp only [s7_setEyes, s7_asksSetting, if_neg c1, if_neg c2, if_neg c3, if_neg l10, if_neg d, if_neg l20, if_true])
/-- setFurnace -/
theorem pl_setFurnace (h : pq_W T b f ep eq st hh t1 t2 t3 rs mm n1 n2 n3 nr) (a1 a2 a3 : Int32) :
    (s7_setFurnace mm a1 a2 a3) 34 = (sL_setFurnace b st f a1 a2 a3).1 ∧ pq_W T b f ep eq (sL_setFurnace b st f a1 a2 a3).2 hh t1 t2 t3 rs (s7_setFurnace mm a1 a2 a3) n1 n2 n3 nr := by
  have l10 : ¬ (1 : Int32) = 0 := by decide
  have l20 : ¬ (2 : Int32) = 0 := by decide
  have l21 : ¬ (2 : Int32) = 1 := by decide
  have hno : ∀ v : Int32, sL_setFurnace b st f a1 a2 a3 = (v, st) → s7_setFurnace mm a1 a2 a3 = upd mm 34 v → ((s7_setFurnace mm a1 a2 a3) 34 = (sL_setFurnace b st f a1 a2 a3).1 ∧ pq_W T b f ep eq (sL_setFurnace b st f a1 a2 a3).2 hh t1 t2 t3 rs (s7_setFurnace mm a1 a2 a3) n1 n2 n3 nr) := by
    intro v e1 e2
    rw [e1, e2]
    exact ⟨cw_upd0 _ _ _, pq_W34 h v (Nat.le_refl T)⟩
  by_cases c1 : s7_in a1 1 500 = 0
  · exact hno 1 (by simp only [sL_setFurnace, s6_setFurnace, if_neg (pq_ou1 c1), if_neg l10, if_true]) (by simp only [s7_setFurnace, s7_asksSetting, if_pos c1, if_neg l10, if_true])
  by_cases c2 : s7_in a2 1 50 = 0
  · exact hno 1 (by simp only [sL_setFurnace, s6_setFurnace, if_pos (pq_ou0 c1), if_neg (pq_ou1 c2), if_neg l10, if_true]) (by simp only [s7_setFurnace, s7_asksSetting, if_neg c1, if_pos c2, if_neg l10, if_true])
  by_cases c3 : s7_in a3 1 50 = 0
  · exact hno 1 (by simp only [sL_setFurnace, s6_setFurnace, if_pos (pq_ou0 c1), if_pos (pq_ou0 c2), if_neg (pq_ou1 c3), if_neg l10, if_true]) (by simp only [s7_setFurnace, s7_asksSetting, if_neg c1, if_neg c2, if_pos c3, if_neg l10, if_true])
  have f3 : f 3 = mm 12 := h.1.1.1
  by_cases d : mm 12 = 0
  · have o : s6_refuseUnlessOff b f = 0 := by simp only [s6_refuseUnlessOff, f3, if_pos d]
    have e1 : sL_setFurnace b st f a1 a2 a3 = (0, (upd (upd (upd st 8 a1) 9 a2) 10 a3)) := by simp only [sL_setFurnace, s6_setFurnace, if_pos (pq_ou0 c1), if_pos (pq_ou0 c2), if_pos (pq_ou0 c3), if_pos o, if_true]
    have e2 : s7_setFurnace mm a1 a2 a3 = (upd (upd (upd (upd mm 34 0) 9 a1) 10 a2) 11 a3) := by simp only [s7_setFurnace, s7_asksSetting, if_neg c1, if_neg c2, if_neg c3, if_neg l10, if_pos d, if_true]
    have hB := pq_Bof h
    have hN := pq_Nof h
    obtain ⟨p1, q1⟩ := pq_inB c1
    rw [show (1 : Int32).toInt = 1 by decide] at p1
    rw [show (500 : Int32).toInt = 500 by decide] at q1
    obtain ⟨p2, q2⟩ := pq_inB c2
    rw [show (1 : Int32).toInt = 1 by decide] at p2
    rw [show (50 : Int32).toInt = 50 by decide] at q2
    obtain ⟨p3, q3⟩ := pq_inB c3
    rw [show (1 : Int32).toInt = 1 by decide] at p3
    rw [show (50 : Int32).toInt = 50 by decide] at q3
    rw [e1, e2]
    refine ⟨?_, ?_⟩
    · show (upd (upd (upd (upd mm 34 0) 9 a1) 10 a2) 11 a3) 34 = 0
      rw [cw_updn _ _ (by decide), cw_updn _ _ (by decide), cw_updn _ _ (by decide), cw_upd0]
    · refine pq_Wset h (fun k hk => ?_) (pq_Sup (k := 10) (pq_Sup (k := 9) (pq_Sup (k := 8) (pq_S34 h.1.2.2.1)))) ?_ ?_ ?_ ?_ ?_ ?_ ?_
      · rw [cw_updn _ _ (by omega), cw_updn _ _ (by omega), cw_updn _ _ (by omega), cw_updn _ _ (by omega)]
      · rw [cw_updn _ _ (by decide), cw_upd0]; omega
      · rw [cw_upd0]; omega
      · rw [cw_updn _ _ (by decide), cw_updn _ _ (by decide), cw_updn _ _ (by decide), cw_updn _ _ (by decide)]; exact hB.2.2.2.2.1
      · rw [cw_updn _ _ (by decide), cw_updn _ _ (by decide), cw_updn _ _ (by decide), cw_updn _ _ (by decide)]; exact hB.2.2.2.2.2
      · rw [cw_updn _ _ (by decide), cw_updn _ _ (by decide), cw_updn _ _ (by decide), cw_updn _ _ (by decide)]; exact hN.2.2.2.2.2.2.1
      · rw [cw_updn _ _ (by decide), cw_updn _ _ (by decide), cw_updn _ _ (by decide), cw_updn _ _ (by decide)]; exact hN.2.2.2.2.2.2.2.1
      · rw [cw_updn _ _ (by decide), cw_updn _ _ (by decide), cw_upd0]; omega
  · have o : ¬ s6_refuseUnlessOff b f = 0 := by
      have e : s6_refuseUnlessOff b f = 1 := by simp only [s6_refuseUnlessOff, f3, if_neg d]
      rw [e]; exact l10
    exact hno 2 (by simp only [sL_setFurnace, s6_setFurnace, if_pos (pq_ou0 c1), if_pos (pq_ou0 c2), if_pos (pq_ou0 c3), if_neg o, if_neg l20, if_neg l21]) (by simp only [s7_setFurnace, s7_asksSetting, if_neg c1, if_neg c2, if_neg c3, if_neg l10, if_neg d, if_neg l20, if_true])
end RC
