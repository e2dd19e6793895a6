theorem pq_io (v lo hi : Int32) : s6_isOutside v lo hi = (if s7_in v lo hi = 0 then 1 else 0) := by
  have l10 : ¬ (1 : Int32) = 0 := by decide
  by_cases c : v < lo
  · have e1 : s6_isOutside v lo hi = 1 := by simp only [s6_isOutside, if_pos c]
    have e2 : s7_in v lo hi = 0 := by simp only [s7_in, if_pos c]
    rw [e1, if_pos e2]
  · by_cases d : v ≤ hi
    · have d1 : ¬ hi < v := by
        rw [Int32.lt_iff_toInt_lt]
        rw [Int32.le_iff_toInt_le] at d
        omega
      have e1 : s6_isOutside v lo hi = 0 := by simp only [s6_isOutside, if_neg c, if_pos d]
      have e2 : ¬ s7_in v lo hi = 0 := by
        have e3 : s7_in v lo hi = 1 := by simp only [s7_in, if_neg c, if_neg d1]
        rw [e3]; exact l10
      rw [e1, if_neg e2]
    · have d1 : hi < v := by
        rw [Int32.lt_iff_toInt_lt]
        exact cw_lt1 d
      have e1 : s6_isOutside v lo hi = 1 := by simp only [s6_isOutside, if_neg c, if_neg d]
      have e2 : s7_in v lo hi = 0 := by simp only [s7_in, if_neg c, if_pos d1]
      rw [e1, if_pos e2]
theorem pq_in01 (v lo hi : Int32) : s7_in v lo hi = 0 ∨ s7_in v lo hi = 1 := by
  simp only [s7_in]
  by_cases c : v < lo
  · rw [if_pos c]; exact Or.inl rfl
  · rw [if_neg c]
    by_cases d : hi < v
    · rw [if_pos d]; exact Or.inl rfl
    · rw [if_neg d]; exact Or.inr rfl
theorem pq_inB {v lo hi : Int32} (h : ¬ s7_in v lo hi = 0) : lo.toInt ≤ v.toInt ∧ v.toInt ≤ hi.toInt := by
  simp only [s7_in] at h
  by_cases c : v < lo
  · rw [if_pos c] at h; exact absurd rfl h
  · rw [if_neg c] at h
    by_cases d : hi < v
    · rw [if_pos d] at h; exact absurd rfl h
    · exact ⟨cw_le2 c, cw_le2 d⟩
theorem pq_ou1 {v lo hi : Int32} (h : s7_in v lo hi = 0) : ¬ s6_isOutside v lo hi = 0 := by
  rw [pq_io, if_pos h]; decide
theorem pq_ou0 {v lo hi : Int32} (h : ¬ s7_in v lo hi = 0) : s6_isOutside v lo hi = 0 := by
  rw [pq_io, if_neg h]
theorem pq_small {v : Int32} {k : Nat} (h : pq_le v (nI (2 ^ k - 1))) (hk : k < 31) : ∃ j : Nat, j < 2 ^ k ∧ v = nI j := by
  have hp : 2 ^ k < 2 ^ 31 := Nat.pow_lt_pow_right (by decide) hk
  have hp0 : 0 < 2 ^ k := Nat.pow_pos (by decide)
  have h1 : (v ||| nI (2 ^ k - 1)).toBitVec.toNat = (nI (2 ^ k - 1)).toBitVec.toNat := by rw [show v ||| nI (2 ^ k - 1) = nI (2 ^ k - 1) from h]
  have h2 : (nI (2 ^ k - 1)).toBitVec.toNat = 2 ^ k - 1 := pk_tn (by omega)
  have h3 : v.toBitVec.toNat ≤ (v ||| nI (2 ^ k - 1)).toBitVec.toNat := by
    rw [Int32.toBitVec_or, BitVec.toNat_or]
    exact Nat.left_le_or
  refine ⟨v.toBitVec.toNat, by omega, Int32.toBitVec_inj.mp ?_⟩
  apply BitVec.eq_of_toNat_eq
  rw [pk_tn (by omega)]
theorem pq_b1 : ∀ r : Nat, r < 128 → nI r >>> ((8 : Int32) &&& 31) = 0 := by decide +kernel
theorem pq_b2 : ∀ r : Nat, r < 512 → (nI r <<< 8) >>> ((8 : Int32) &&& 31) = nI r := by decide +kernel
theorem pq_b3 : ∀ r : Nat, r < 512 → ∀ s : Nat, s < 7 → (nI r <<< 8) &&& ((1 : Int32) <<< (nI s &&& 31)) = 0 := by decide +kernel
theorem pq_b4 : ∀ r : Nat, r < 128 → ∀ s : Nat, s < 7 → s6_isOn (nI r) ((1 : Int32) <<< (nI s &&& 31)) = s7_has (nI r) (nI s) := by decide +kernel
theorem pq_b5 : ∀ r : Nat, r < 512 → (nI r <<< 8) ||| 64 = 64 → nI r = 0 := by decide +kernel
theorem pq_b6 : ∀ r : Nat, r < 9 → ∀ s : Nat, s < 7 → s6_isOn (((1 : Int32) <<< ((6 : Int32) &&& 31)) ||| ((1 : Int32) <<< ((8 + nI r) &&& 31))) ((1 : Int32) <<< (nI s &&& 31)) = s7_has 64 (nI s) := by decide +kernel
theorem pq_ior {u v w : Int32} (h : v &&& w = 0) : s6_isOn (u ||| v) w = s6_isOn u w := by
  have e : (u ||| v) &&& w = u &&& w := by
    apply Int32.toBitVec_inj.mp
    have h1 : v.toBitVec &&& w.toBitVec = 0#32 := congrArg Int32.toBitVec h
    rw [Int32.toBitVec_and, Int32.toBitVec_or, BitVec.and_or_distrib_right, h1, BitVec.or_zero, Int32.toBitVec_and]
  simp only [s6_isOn, e]
section RB
variable {b f ep eq st hh t1 t2 t3 rs mm n1 n2 n3 nr x0 : Nat → Int32} {nw nt : Nat → Int64} {T : Nat}
theorem pq_Yof (h : pq_W T b f ep eq st hh t1 t2 t3 rs mm n1 n2 n3 nr) : pq_Y f ep eq st mm := ⟨h.1.1, h.1.2.1, h.1.2.2.1, h.1.2.2.2.1⟩
/-- what both walks find, side by side -/
theorem pq_both (h : pq_W T b f ep eq st hh t1 t2 t3 rs mm n1 n2 n3 nr) (hT : T < 250000) {far : Nat} (hf1 : 1 ≤ far) (hf3 : far ≤ 3) (g0 g1 g2 g3 g4 g5 g6 g7 g8 : Nat → Int32) :
    ∃ r p : Nat, r < 128 ∧ p < 512 ∧ (s7_walks mm nw nt (nI far)).1 = nI r ∧ (s7_walks mm nw nt (nI far)).2.1 33 = nI p ∧
      ((¬ mm 12 = 6 ∧ (s6_walk3 f ep eq st g0 g1 g2 g3 g4 g5 g6 g7 g8 (nI far)).1 = nI r ||| (nI p <<< 8)) ∨
       (mm 12 = 6 ∧ r = 64 ∧ p = 0 ∧ ∃ q : Nat, q < 9 ∧ (s6_walk3 f ep eq st g0 g1 g2 g3 g4 g5 g6 g7 g8 (nI far)).1 = ((1 : Int32) <<< ((6 : Int32) &&& 31)) ||| ((1 : Int32) <<< ((8 + nI q) &&& 31)))) := by
  have hQ := pq_Qof h
  obtain ⟨⟨z, hV, hz⟩, hL⟩ := pq_walks (nw := nw) (nt := nt) hT hf1 hf3 hQ
  have hc := pq_W3 far hf3 f ep eq mm st g0 g1 g2 g3 g4 g5 g6 g7 g8 (pq_Yof h)
  have hz33 : (s7_walks mm nw nt (nI far)).2.1 33 = z 33 := by rw [hz, pq_ukF _ _ 33 (by decide)]
  obtain ⟨r, hr, er⟩ := pq_small (k := 7) hV.2.1 (by decide)
  obtain ⟨p, hp, ep9⟩ := pq_small (k := 9) hV.2.2 (by decide)
  have hp33 := hz33.trans ep9
  refine ⟨r, p, hr, hp, er, hp33, ?_⟩
  have hv : pq_v (s7_walks mm nw nt (nI far)).1 (s7_walks mm nw nt (nI far)).2.1 = nI r ||| (nI p <<< 8) := by
    unfold pq_v
    rw [er, hp33]
  rw [hv] at hL
  by_cases c : mm 12 = 6
  · refine Or.inr ⟨c, ?_⟩
    have hN : 0 ≤ (mm 13).toInt ∧ (mm 13).toInt ≤ 8 := h.1.2.2.2.2.1.2.1
    obtain ⟨q, hq, e13⟩ := pq_nI (B := 8) hN.1 hN.2
    have h64 : ∀ u, pq_T far mm u ↔ pq_le 64 u := by
      intro u
      obtain ⟨d, rfl⟩ : ∃ d, far = d + 1 := ⟨far - 1, by omega⟩
      constructor
      · intro g
        have g1 := (pq_TS.mp g 0 (by decide)).1
        obtain ⟨q12, q13⟩ := pq_p13 mm (nI 0) c
        rw [q12, c, pq_fm6] at g1
        exact g1
      · intro g s q9
        rw [pq_SmL _ _ _ c q9]
        exact g
    have hall : nI r ||| (nI p <<< 8) = 64 := pq_leA ((hL 64).mpr ((h64 64).mpr pq_leR)) ((h64 _).mp ((hL _).mp pq_leR))
    have hpz : nI p = 0 := by
      refine pq_b5 p hp ?_
      rw [← hall, Int32.or_comm (nI r), ← Int32.or_assoc, Int32.or_self]
    have hp0 : p = 0 := (nI_eq (b := 0) (by omega) (by decide)).mp hpz
    have hr64 : r = 64 := by
      rw [hpz] at hall
      have e0 : (0 : Int32) <<< 8 = 0 := by decide
      rw [e0, Int32.or_zero] at hall
      exact (nI_eq (b := 64) (by omega) (by decide)).mp hall
    refine ⟨hr64, hp0, q, by omega, ?_⟩
    have hone : ∀ u, (∀ s, pq_Sc far mm s → pq_le s u) ↔ pq_le (pq_fc (mm 12) (mm 13)) u := by
      intro u
      obtain ⟨d, rfl⟩ : ∃ d, far = d + 1 := ⟨far - 1, by omega⟩
      constructor
      · intro g
        have g1 := g _ ⟨0, by decide, Or.inl rfl⟩
        obtain ⟨q12, q13⟩ := pq_p13 mm (nI 0) c
        rw [q12, q13, ← c] at g1
        exact g1
      · intro g s q9
        rw [pq_ScL _ _ _ c q9]
        exact g
    have e : (s6_walk3 f ep eq st g0 g1 g2 g3 g4 g5 g6 g7 g8 (nI far)).1 = pq_fc (mm 12) (mm 13) := pq_leA ((hc _).mpr ((hone _).mpr pq_leR)) ((hone _).mp ((hc _).mp pq_leR))
    rw [e, c, e13]
    simp only [pq_fc, if_true]
  · refine Or.inl ⟨c, ?_⟩
    have hSS : ∀ u, pq_T far mm u ↔ ∀ s, pq_Sc far mm s → pq_le s u := fun u => pq_SS far T mm (by omega) hQ c
    exact pq_leA ((hc _).mpr ((hSS _).mp ((hL _).mp pq_leR))) ((hL _).mpr ((hSS _).mpr ((hc _).mp pq_leR)))
theorem pq_wback (h : pq_W T b f ep eq st hh t1 t2 t3 rs mm n1 n2 n3 nr) (hT : T < 250000) {far : Nat} (hf1 : 1 ≤ far) (hf3 : far ≤ 3) : pq_W T b f ep eq st hh t1 t2 t3 rs (s7_walks mm nw nt (nI far)).2.1 n1 n2 n3 nr ∧ (s7_walks mm nw nt (nI far)).2.1 34 = mm 34 := by
  obtain ⟨⟨z, hV, hz⟩, -⟩ := pq_walks (nw := nw) (nt := nt) hT hf1 hf3 (pq_Qof h)
  rw [hz]
  exact ⟨pq_back h (by omega) (fun _ _ => rfl) (fun k hk hk2 => hV.1 k (by omega)), (pq_ukF _ _ 34 (by decide)).trans (hV.1 34 (by decide))⟩
theorem pq_i13 {a : Int32} (h : ¬ s7_in a 1 3 = 0) : ∃ far : Nat, 1 ≤ far ∧ far ≤ 3 ∧ a = nI far := by
  obtain ⟨h1, h2⟩ := pq_inB h
  have e1 : (1 : Int32).toInt = 1 := by decide
  have e3 : (3 : Int32).toInt = 3 := by decide
  rw [e1] at h1
  rw [e3] at h2
  obtain ⟨j, hj, e⟩ := pq_nI (v := a) (B := 3) (by omega) (by omega)
  refine ⟨j, ?_, hj, e⟩
  rw [e, nI_toInt (by omega)] at h1
  omega
theorem pq_i06 {a : Int32} (h : ¬ s7_in a 0 6 = 0) : ∃ s : Nat, s < 7 ∧ a = nI s := by
  obtain ⟨h1, h2⟩ := pq_inB h
  have e1 : (0 : Int32).toInt = 0 := by decide
  have e3 : (6 : Int32).toInt = 6 := by decide
  rw [e1] at h1
  rw [e3] at h2
  obtain ⟨j, hj, e⟩ := pq_nI (v := a) (B := 6) (by omega) (by omega)
  exact ⟨j, by omega, e⟩
/-- couldBe -/
theorem pq_couldBe (h : pq_W T b f ep eq st hh t1 t2 t3 rs mm n1 n2 n3 nr) (hT : T < 250000) (g0 g1 g2 g3 g4 g5 g6 g7 g8 : Nat → Int32) (a1 a2 : Int32) :
    (s7_couldBe mm nw nt a1 a2).2.1 34 = (s6_couldBe b f ep eq st g0 g1 g2 g3 g4 g5 g6 g7 g8 a1 a2).1 ∧ ((s6_couldBe b f ep eq st g0 g1 g2 g3 g4 g5 g6 g7 g8 a1 a2).1 = 0 ∨ s6_couldBe b f ep eq st g0 g1 g2 g3 g4 g5 g6 g7 g8 a1 a2 = (1, 0, g0, g1, g2, g3, g4, g5, g6, g7, g8)) ∧
    ((s6_couldBe b f ep eq st g0 g1 g2 g3 g4 g5 g6 g7 g8 a1 a2).1 = 0 → (s6_couldBe b f ep eq st g0 g1 g2 g3 g4 g5 g6 g7 g8 a1 a2).2.1 = (s7_couldBe mm nw nt a1 a2).1) ∧
    pq_W T b f ep eq st hh t1 t2 t3 rs (s7_couldBe mm nw nt a1 a2).2.1 n1 n2 n3 nr := by
  have l10 : ¬ (1 : Int32) = 0 := by decide
  have hno : (s6_couldBe b f ep eq st g0 g1 g2 g3 g4 g5 g6 g7 g8 a1 a2) = (1, 0, g0, g1, g2, g3, g4, g5, g6, g7, g8) → s7_couldBe mm nw nt a1 a2 = (0, upd mm 34 1, nw, nt) →
      (s7_couldBe mm nw nt a1 a2).2.1 34 = (s6_couldBe b f ep eq st g0 g1 g2 g3 g4 g5 g6 g7 g8 a1 a2).1 ∧ ((s6_couldBe b f ep eq st g0 g1 g2 g3 g4 g5 g6 g7 g8 a1 a2).1 = 0 ∨ s6_couldBe b f ep eq st g0 g1 g2 g3 g4 g5 g6 g7 g8 a1 a2 = (1, 0, g0, g1, g2, g3, g4, g5, g6, g7, g8)) ∧
      ((s6_couldBe b f ep eq st g0 g1 g2 g3 g4 g5 g6 g7 g8 a1 a2).1 = 0 → (s6_couldBe b f ep eq st g0 g1 g2 g3 g4 g5 g6 g7 g8 a1 a2).2.1 = (s7_couldBe mm nw nt a1 a2).1) ∧
      pq_W T b f ep eq st hh t1 t2 t3 rs (s7_couldBe mm nw nt a1 a2).2.1 n1 n2 n3 nr := by
    intro e1 e2
    rw [e1, e2]
    exact ⟨show upd mm 34 1 34 = 1 from cw_upd0 _ _ _, Or.inr rfl, fun q => absurd (show (1 : Int32) = 0 from q) (by decide), pq_W34 h 1 (Nat.le_refl T)⟩
  by_cases c1 : s7_in a1 0 6 = 0
  · exact hno (by simp only [s6_couldBe, if_neg (pq_ou1 c1)]) (by simp only [s7_couldBe, s7_asks, if_pos c1, if_true])
  by_cases c2 : s7_in a2 1 3 = 0
  · exact hno (by simp only [s6_couldBe, if_pos (pq_ou0 c1), if_neg (pq_ou1 c2)]) (by simp only [s7_couldBe, s7_asks, if_neg c1, if_pos c2, if_true])
  obtain ⟨s, hs, rfl⟩ := pq_i06 c1
  obtain ⟨far, hf1, hf3, rfl⟩ := pq_i13 c2
  obtain ⟨v0, hv0⟩ : ∃ v0 : Nat → Int32, v0 = upd mm 34 0 := ⟨_, rfl⟩
  have hW := pq_W34 h 0 (Nat.le_refl T)
  rw [← hv0] at hW
  obtain ⟨hB1, hB2⟩ := pq_wback (nw := nw) (nt := nt) hW hT hf1 hf3
  obtain ⟨r, p, hr, hp, er, ep9, hor⟩ := pq_both (nw := nw) (nt := nt) hW hT hf1 hf3 g0 g1 g2 g3 g4 g5 g6 g7 g8
  have e1 : (s6_couldBe b f ep eq st g0 g1 g2 g3 g4 g5 g6 g7 g8 (nI s) (nI far)).1 = 0 ∧ (s6_couldBe b f ep eq st g0 g1 g2 g3 g4 g5 g6 g7 g8 (nI s) (nI far)).2.1 = s6_isOn (s6_walk3 f ep eq st g0 g1 g2 g3 g4 g5 g6 g7 g8 (nI far)).1 ((1 : Int32) <<< (nI s &&& 31)) := by
    simp only [s6_couldBe, if_pos (pq_ou0 c1), if_pos (pq_ou0 c2), and_self]
  have e2 : s7_couldBe mm nw nt (nI s) (nI far) = ((if s7_has (s7_walks v0 nw nt (nI far)).1 (nI s) = 0 then 0 else 1), (s7_walks v0 nw nt (nI far)).2.1, (s7_walks v0 nw nt (nI far)).2.2.1, (s7_walks v0 nw nt (nI far)).2.2.2) := by
    simp only [s7_couldBe, s7_asks, if_neg c1, if_neg c2, if_neg l10, ← hv0]
  rw [e2, e1.1, e1.2]
  refine ⟨?_, Or.inl rfl, fun _ => ?_, hB1⟩
  · show (s7_walks v0 nw nt (nI far)).2.1 34 = 0
    rw [hB2, hv0, cw_upd0]
  · show s6_isOn (s6_walk3 f ep eq st g0 g1 g2 g3 g4 g5 g6 g7 g8 (nI far)).1 ((1 : Int32) <<< (nI s &&& 31)) = (if s7_has (s7_walks v0 nw nt (nI far)).1 (nI s) = 0 then 0 else 1)
    have h01 : ∀ q : Int32, (q = 0 ∨ q = 1) → (if q = 0 then (0 : Int32) else 1) = q := by
      intro q hq
      rcases hq with rfl | rfl <;> decide
    rw [h01 _ (z7_has _ _), er]
    rcases hor with ⟨-, e⟩ | ⟨-, r64, -, q, hq, e⟩
    · rw [e, pq_ior (pq_b3 p hp s hs)]
      exact pq_b4 r hr s hs
    · rw [e, r64]
      exact pq_b6 q hq s hs
/-- reasonsAhead -/
theorem pq_reasonsAhead (h : pq_W T b f ep eq st hh t1 t2 t3 rs mm n1 n2 n3 nr) (hT : T < 250000) (g0 g1 g2 g3 g4 g5 g6 g7 g8 : Nat → Int32) (a1 : Int32) :
    (s7_reasonsAhead mm nw nt a1).2.1 34 = (s6_reasonsAhead b f ep eq st g0 g1 g2 g3 g4 g5 g6 g7 g8 a1).1 ∧ ((s6_reasonsAhead b f ep eq st g0 g1 g2 g3 g4 g5 g6 g7 g8 a1).1 = 0 ∨ s6_reasonsAhead b f ep eq st g0 g1 g2 g3 g4 g5 g6 g7 g8 a1 = (1, 0, g0, g1, g2, g3, g4, g5, g6, g7, g8)) ∧
    ((s6_reasonsAhead b f ep eq st g0 g1 g2 g3 g4 g5 g6 g7 g8 a1).1 = 0 → (s6_reasonsAhead b f ep eq st g0 g1 g2 g3 g4 g5 g6 g7 g8 a1).2.1 = (s7_reasonsAhead mm nw nt a1).1) ∧
    pq_W T b f ep eq st hh t1 t2 t3 rs (s7_reasonsAhead mm nw nt a1).2.1 n1 n2 n3 nr := by
  by_cases c2 : s7_in a1 1 3 = 0
  · have e1 : (s6_reasonsAhead b f ep eq st g0 g1 g2 g3 g4 g5 g6 g7 g8 a1) = (1, 0, g0, g1, g2, g3, g4, g5, g6, g7, g8) := by simp only [s6_reasonsAhead, if_neg (pq_ou1 c2)]
    have e2 : s7_reasonsAhead mm nw nt a1 = (0, upd mm 34 1, nw, nt) := by simp only [s7_reasonsAhead, s7_asks, c2, if_true]
    rw [e1, e2]
    exact ⟨show upd mm 34 1 34 = 1 from cw_upd0 _ _ _, Or.inr rfl, fun q => absurd (show (1 : Int32) = 0 from q) (by decide), pq_W34 h 1 (Nat.le_refl T)⟩
  obtain ⟨far, hf1, hf3, rfl⟩ := pq_i13 c2
  obtain ⟨v0, hv0⟩ : ∃ v0 : Nat → Int32, v0 = upd mm 34 0 := ⟨_, rfl⟩
  have hW := pq_W34 h 0 (Nat.le_refl T)
  rw [← hv0] at hW
  obtain ⟨hB1, hB2⟩ := pq_wback (nw := nw) (nt := nt) hW hT hf1 hf3
  obtain ⟨r, p, hr, hp, er, ep9, hor⟩ := pq_both (nw := nw) (nt := nt) hW hT hf1 hf3 g0 g1 g2 g3 g4 g5 g6 g7 g8
  have e2 : s7_reasonsAhead mm nw nt (nI far) = ((s7_walks v0 nw nt (nI far)).2.1 33, (s7_walks v0 nw nt (nI far)).2.1, (s7_walks v0 nw nt (nI far)).2.2.1, (s7_walks v0 nw nt (nI far)).2.2.2) := by
    simp only [s7_reasonsAhead, s7_asks, if_neg c2, ← hv0]
  have e34 : (s7_walks v0 nw nt (nI far)).2.1 34 = 0 := by rw [hB2, hv0, cw_upd0]
  rw [e2]
  rcases hor with ⟨c, e⟩ | ⟨c, r64, p0, q, hq, e⟩
  · have o : s2_isLockedOut f = 0 := (pq_lkO hW.1.1).mpr c
    have e1 : (s6_reasonsAhead b f ep eq st g0 g1 g2 g3 g4 g5 g6 g7 g8 (nI far)).1 = 0 ∧ (s6_reasonsAhead b f ep eq st g0 g1 g2 g3 g4 g5 g6 g7 g8 (nI far)).2.1 = (s6_walk3 f ep eq st g0 g1 g2 g3 g4 g5 g6 g7 g8 (nI far)).1 >>> ((8 : Int32) &&& 31) := by
      simp only [s6_reasonsAhead, if_pos (pq_ou0 c2), if_pos o, and_self]
    rw [e1.1, e1.2]
    refine ⟨e34, Or.inl rfl, fun _ => ?_, hB1⟩
    show (s6_walk3 f ep eq st g0 g1 g2 g3 g4 g5 g6 g7 g8 (nI far)).1 >>> ((8 : Int32) &&& 31) = (s7_walks v0 nw nt (nI far)).2.1 33
    rw [e, ep9, Int32.shiftRight_or, pq_b1 r hr, pq_b2 p hp, Int32.zero_or]
  · have o : ¬ s2_isLockedOut f = 0 := fun q => (pq_lkO hW.1.1).mp q c
    have e1 : (s6_reasonsAhead b f ep eq st g0 g1 g2 g3 g4 g5 g6 g7 g8 (nI far)).1 = 0 ∧ (s6_reasonsAhead b f ep eq st g0 g1 g2 g3 g4 g5 g6 g7 g8 (nI far)).2.1 = 0 := by
      simp only [s6_reasonsAhead, if_pos (pq_ou0 c2), if_neg o, and_self]
    rw [e1.1, e1.2]
    refine ⟨e34, Or.inl rfl, fun _ => ?_, hB1⟩
    show 0 = (s7_walks v0 nw nt (nI far)).2.1 33
    rw [ep9, p0]
    rfl
end RB
