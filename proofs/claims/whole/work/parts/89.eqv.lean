theorem pq_p12 (n : Nat → Int32) (a : Int32) : ∃ m3 : Nat → Int32, s7_plays n a = s7_decides m3 a ∧ m3 12 = n 12 := by
  obtain ⟨m1, m2, e1, e2, e3⟩ := pq_playE n a
  refine ⟨_, e3, ?_⟩
  rw [cw_updn _ _ (by decide), wq_goesF _ _ (by decide) (by decide), e2, cw_updn _ _ (by decide), wq_looksF _ _ _ _ _ (by decide), e1, cw_updn _ _ (by decide), wq_looksF _ _ _ _ _ (by decide)]
theorem pq_b12 (m : Nat → Int32) (u v : Int32) : s7_begins m u v 12 = u := by simp [s7_begins, upd]
theorem pq_ukF (n : Nat → Int32) (r : Int64) (k : Nat) (h : k < 12 ∨ 20 < k) : s7_unpacks n r k = n k := by
  simp only [s7_unpacks]
  rw [cw_updn _ _ (by omega), cw_updn _ _ (by omega), cw_updn _ _ (by omega), cw_updn _ _ (by omega), cw_updn _ _ (by omega), cw_updn _ _ (by omega), cw_updn _ _ (by omega), cw_updn _ _ (by omega), cw_updn _ _ (by omega)]
def pq_n34 (m : Nat → Int32) : Prop := ¬ m 12 = 3 ∧ ¬ m 12 = 4
def pq_46 (m : Nat → Int32) : Prop := m 12 = 4 ∨ m 12 = 6
section QC
variable {m n : Nat → Int32} {a u v y : Int32}
theorem pq_n34b (h : ¬ u = 3 ∧ ¬ u = 4) : pq_n34 (s7_begins m u v) := by
  unfold pq_n34
  rw [pq_b12]
  exact h
theorem pq_n34u (h : pq_n34 m) : pq_n34 (upd m 17 v) := by
  unfold pq_n34
  rw [cw_updn _ _ (by decide)]
  exact h
theorem pq_n34pu (h : pq_n34 m) : pq_n34 (s7_purges m a y) := by
  simp only [s7_purges]
  generalize (if s7_has a 1 = 0 then (0 : Int32) else (if m 15 < 70 then 0 else m 17 + m 15)) = v
  repeat' (first | split | exact pq_n34b (by decide) | exact pq_n34u h)
theorem pq_nA (c2 : ¬ m 12 = 2) (c3 : ¬ m 12 = 3) (c4 : ¬ m 12 = 4) : pq_n34 (s7_decides m a) := by
  have h : pq_n34 m := ⟨c3, c4⟩
  simp only [s7_decides, if_neg c2, if_neg c3, if_neg c4]
  repeat' (first | split | exact pq_n34b (by decide) | exact pq_n34pu h | exact h)
theorem pq_46b : pq_46 (s7_begins m 6 v) := Or.inr (pq_b12 _ _ _)
theorem pq_n46 (h : pq_46 m) (h0 : s7_has a 0 = 1) : pq_46 (s7_decides m a) := by
  rcases h with c | c
  · obtain ⟨l10, -, -, -, -, -, l40, l41, l42, l43, -⟩ := pq_lit
    have hv : pq_46 (s7_lacks m a).2 := by
      simp only [s7_lacks]
      repeat' (first | split | exact pq_46b | exact Or.inl c)
    simp only [s7_decides, s7_runs, c, h0, l10, l40, l41, l42, l43, if_true, if_false]
    repeat' (first | split | exact pq_46b | exact hv)
  · have k0 : ¬ m 12 = 0 := by rw [c]; decide
    have k1 : ¬ m 12 = 1 := by rw [c]; decide
    have k2 : ¬ m 12 = 2 := by rw [c]; decide
    have k3 : ¬ m 12 = 3 := by rw [c]; decide
    have k4 : ¬ m 12 = 4 := by rw [c]; decide
    have k5 : ¬ m 12 = 5 := by rw [c]; decide
    simp only [s7_decides, if_neg k0, if_neg k1, if_neg k2, if_neg k3, if_neg k4, if_neg k5]
    exact Or.inr c
theorem pq_p46 (h : pq_46 n) (h0 : s7_has a 0 = 1) : pq_46 (s7_plays n a) := by
  obtain ⟨m3, e, e12⟩ := pq_p12 n a
  rw [e]
  refine pq_n46 ?_ h0
  unfold pq_46
  rw [e12]
  exact h
theorem pq_pA (c2 : ¬ n 12 = 2) (c3 : ¬ n 12 = 3) (c4 : ¬ n 12 = 4) : pq_n34 (s7_plays n a) := by
  obtain ⟨m3, e, e12⟩ := pq_p12 n a
  rw [e]
  exact pq_nA (by rw [e12]; exact c2) (by rw [e12]; exact c3) (by rw [e12]; exact c4)
theorem pq_told (h : ∃ j : Nat, j < 64 ∧ y = nI j) : s7_has ((y &&& 32) ||| 7) 0 = 1 ∧ s7_has ((y &&& 32) ||| 7) 0 = s7_has 7 0 ∧ s7_has ((y &&& 32) ||| 7) 1 = s7_has 7 1 ∧ s7_has ((y &&& 32) ||| 7) 2 = s7_has 7 2 ∧ s7_has ((y &&& 32) ||| 7) 3 = s7_has 7 3 ∧ s7_has ((y &&& 32) ||| 7) 4 = s7_has 7 4 := by
  have hh : ∀ j : Nat, j < 64 → (s7_has ((nI j &&& 32) ||| 7) 0 = 1 ∧ s7_has ((nI j &&& 32) ||| 7) 0 = s7_has 7 0 ∧ s7_has ((nI j &&& 32) ||| 7) 1 = s7_has 7 1 ∧ s7_has ((nI j &&& 32) ||| 7) 2 = s7_has 7 2 ∧ s7_has ((nI j &&& 32) ||| 7) 3 = s7_has 7 3 ∧ s7_has ((nI j &&& 32) ||| 7) 4 = s7_has 7 4) := by decide +kernel
  obtain ⟨j, hj, rfl⟩ := h
  exact hh j hj
theorem pq_p7 (e0 : s7_has a 0 = s7_has 7 0) (e1 : s7_has a 1 = s7_has 7 1) (e2 : s7_has a 2 = s7_has 7 2) (e3 : s7_has a 3 = s7_has 7 3) (e4 : s7_has a 4 = s7_has 7 4) (c4 : ¬ n 12 = 4) : s7_plays n a = s7_plays n 7 := by
  refine wq_playsA n e3 e4 (fun n1 q12 _ _ => ?_)
  have c : ¬ n1 12 = 4 := by rw [q12]; exact c4
  simp only [s7_decides, s7_purges, s7_lights, s7_lacks, if_neg c, e0, e1, e2]
end QC
section QD
variable {b f0 e0 q0 st g0 g1 g2 m0 : Nat → Int32} {r4 : Int64}
theorem pq_ge300 {i : Nat} (h : i < 300) : ¬ (300 : Int32) ≤ nI i := nI_ge (b := 300) h (by decide)
theorem pq_gt300 {i : Nat} (h : i < 300) : ¬ (300 : Int32) < nI (i + 1) := nI_nlt (a := 300) (by omega) (by decide)
theorem pq_i300 : (300 : Int32) ≤ nI 300 ∧ (300 : Int32) < nI (300 + 1) := by decide +kernel
theorem pq_tpA : ∀ (n9 i : Nat) (n f ep eq : Nat → Int32), i + n9 = 301 → pq_F f n → pq_E ep eq n → pq_S st n → pq_B n → (∃ j : Nat, j < 64 ∧ n 0 = nI j) → ¬ n 12 = 2 → ¬ n 12 = 3 → ¬ n 12 = 4 →
    (s6_toPilot_L b f0 e0 q0 st g0 g1 g2 n9 f ep eq (nI (i + 1))).1 = (s7_toPilot_L m0 n9 n r4 (nI i)).1 := by
  intro n9
  induction n9 with
  | zero => intro i n f ep eq hi hF hE hS hB hs c2 c3 c4; rfl
  | succ n9 ih =>
    intro i n f ep eq hi hF hE hS hB hs c2 c3 c4
    have l0 : (if (0 : Int32) = 0 then (-1 : Int32) else nI i) = -1 := if_pos rfl
    by_cases h3 : i = 300
    · have d1 := pq_i300
      rw [← h3] at d1
      have d2 : (300 : Int32) ≤ nI i := by rw [h3]; exact pq_i300.1
      have d3 : (300 : Int32) < nI (i + 1) := by rw [h3]; exact pq_i300.2
      simp only [s6_toPilot_L, s7_toPilot_L, if_pos d3, if_neg c2, if_pos d2, if_true]
    · have d2 := pq_ge300 (show i < 300 by omega)
      have d3 := pq_gt300 (show i < 300 by omega)
      obtain ⟨t0, t1, t2, t3, t4, t5⟩ := pq_told hs
      have hp : s7_plays n ((n 0 &&& 32) ||| 7) = s7_plays n 7 := pq_p7 t1 t2 t3 t4 t5 c4
      obtain ⟨tF, tE, tS, tB⟩ := pq_tick hF hE hS hB (a := 7) ⟨7, by decide, rfl⟩
      have hA := pq_pA (a := 7) c2 c3 c4
      obtain ⟨x1, hx1⟩ : ∃ x1 : Nat → Int32, x1 = s7_plays n 7 := ⟨_, rfl⟩
      rw [← hx1] at tF tE tS tB hA hp
      have e2 : s7_toPilot_L m0 (n9 + 1) n r4 (nI i) = s7_toPilot_L m0 n9 x1 r4 (nI (i + 1)) := by simp only [s7_toPilot_L, if_neg c2, if_neg d2, hp, nI_1]
      rw [e2]
      have f3 : (s2_tick f ep eq st 7).2.1 3 = x1 12 := tF.1
      by_cases d : x1 12 = 2
      · have o1 : ¬ s2_isPilotOpen (s2_tick f ep eq st 7).2.1 = 0 := by
          simp only [s2_isPilotOpen, f3, if_pos d]
          decide
        have e1 : s6_toPilot_L b f0 e0 q0 st g0 g1 g2 (n9 + 1) f ep eq (nI (i + 1)) = (nI (i + 1), (s2_tick f ep eq st 7).2.1, (s2_tick f ep eq st 7).2.2.1, (s2_tick f ep eq st 7).2.2.2) := by simp only [s6_toPilot_L, if_neg d3, if_neg o1]
        rw [e1]
        have hn : ∃ q, n9 = q + 1 := ⟨n9 - 1, by omega⟩
        obtain ⟨q, rfl⟩ := hn
        have l1 : (if (1 : Int32) = 0 then (-1 : Int32) else nI (i + 1)) = nI (i + 1) := if_neg (by decide)
        simp only [s7_toPilot_L, if_pos d, l1]
      · have o1 : s2_isPilotOpen (s2_tick f ep eq st 7).2.1 = 0 := by
          simp only [s2_isPilotOpen, f3, if_neg d, if_neg hA.1]
        have e1 : s6_toPilot_L b f0 e0 q0 st g0 g1 g2 (n9 + 1) f ep eq (nI (i + 1)) = s6_toPilot_L b f0 e0 q0 st g0 g1 g2 n9 (s2_tick f ep eq st 7).2.1 (s2_tick f ep eq st 7).2.2.1 (s2_tick f ep eq st 7).2.2.2 (nI (i + 1 + 1)) := by simp only [s6_toPilot_L, if_neg d3, if_pos o1, nI_1]
        rw [e1]
        refine ih (i + 1) x1 _ _ _ (by omega) tF tE tS tB ?_ d hA.1 hA.2
        obtain ⟨j, hj, h0⟩ := hs
        exact ⟨j, hj, by rw [hx1, f7_plays _ _ 0 (by decide)]; exact h0⟩
theorem pq_tpB1 : ∀ (n9 i : Nat) (n f ep eq : Nat → Int32), i ≤ 300 → i + n9 = 301 → pq_F f n → pq_E ep eq n → pq_S st n → pq_B n → pq_46 n →
    (s6_toPilot_L b f0 e0 q0 st g0 g1 g2 n9 f ep eq (nI (i + 1))).1 = -1 := by
  intro n9
  induction n9 with
  | zero => intro i n f ep eq hi0 hi; omega
  | succ n9 ih =>
    intro i n f ep eq hi0 hi hF hE hS hB h46
    by_cases h3 : i = 300
    · have d3 : (300 : Int32) < nI (i + 1) := by rw [h3]; exact pq_i300.2
      simp only [s6_toPilot_L, if_pos d3]
    · have d3 := pq_gt300 (show i < 300 by omega)
      obtain ⟨tF, tE, tS, tB⟩ := pq_tick hF hE hS hB (a := 7) ⟨7, by decide, rfl⟩
      have h1 := pq_p46 h46 (a := 7) (by decide)
      have f3 : (s2_tick f ep eq st 7).2.1 3 = s7_plays n 7 12 := tF.1
      have o1 : s2_isPilotOpen (s2_tick f ep eq st 7).2.1 = 0 := by
        have d4 : ¬ s7_plays n 7 12 = 2 := by rcases h1 with q | q <;> rw [q] <;> decide
        have d5 : ¬ s7_plays n 7 12 = 3 := by rcases h1 with q | q <;> rw [q] <;> decide
        simp only [s2_isPilotOpen, f3, if_neg d4, if_neg d5]
      have e1 : s6_toPilot_L b f0 e0 q0 st g0 g1 g2 (n9 + 1) f ep eq (nI (i + 1)) = s6_toPilot_L b f0 e0 q0 st g0 g1 g2 n9 (s2_tick f ep eq st 7).2.1 (s2_tick f ep eq st 7).2.2.1 (s2_tick f ep eq st 7).2.2.2 (nI (i + 1 + 1)) := by simp only [s6_toPilot_L, if_neg d3, if_pos o1, nI_1]
      rw [e1]
      exact ih (i + 1) _ _ _ _ (by omega) (by omega) tF tE tS tB h1
theorem pq_tpB2 : ∀ (n9 i : Nat) (n : Nat → Int32), i ≤ 300 → i + n9 = 301 → (∃ j : Nat, j < 64 ∧ n 0 = nI j) → pq_46 n → (s7_toPilot_L m0 n9 n r4 (nI i)).1 = -1 := by
  intro n9
  induction n9 with
  | zero => intro i n hi0 hi; omega
  | succ n9 ih =>
    intro i n hi0 hi hs h46
    have c2 : ¬ n 12 = 2 := by rcases h46 with q | q <;> rw [q] <;> decide
    have l0 : (if (0 : Int32) = 0 then (-1 : Int32) else nI i) = -1 := if_pos rfl
    by_cases h3 : i = 300
    · have d2 : (300 : Int32) ≤ nI i := by rw [h3]; exact pq_i300.1
      simp only [s7_toPilot_L, if_neg c2, if_pos d2, if_true]
    · have d2 := pq_ge300 (show i < 300 by omega)
      have e2 : s7_toPilot_L m0 (n9 + 1) n r4 (nI i) = s7_toPilot_L m0 n9 (s7_plays n ((n 0 &&& 32) ||| 7)) r4 (nI (i + 1)) := by simp only [s7_toPilot_L, if_neg c2, if_neg d2, nI_1]
      rw [e2]
      refine ih (i + 1) _ (by omega) (by omega) ?_ (pq_p46 h46 (pq_told hs).1)
      obtain ⟨j, hj, h0⟩ := hs
      exact ⟨j, hj, by rw [f7_plays _ _ 0 (by decide)]; exact h0⟩
theorem pq_tpU : ∀ (n9 i : Nat) (n : Nat → Int32), i ≤ 300 → i + n9 = 301 → ∃ z : Nat → Int32, (∀ k, k < 12 ∨ 20 < k → z k = n k) ∧ (s7_toPilot_L m0 n9 n r4 (nI i)).2 = s7_unpacks z r4 := by
  intro n9
  induction n9 with
  | zero => intro i n hi0 hi; omega
  | succ n9 ih =>
    intro i n hi0 hi
    by_cases c2 : n 12 = 2
    · exact ⟨n, fun _ _ => rfl, by simp only [s7_toPilot_L, if_pos c2]⟩
    · by_cases h3 : i = 300
      · have d2 : (300 : Int32) ≤ nI i := by rw [h3]; exact pq_i300.1
        exact ⟨n, fun _ _ => rfl, by simp only [s7_toPilot_L, if_neg c2, if_pos d2]⟩
      · have d2 := pq_ge300 (show i < 300 by omega)
        have e2 : s7_toPilot_L m0 (n9 + 1) n r4 (nI i) = s7_toPilot_L m0 n9 (s7_plays n ((n 0 &&& 32) ||| 7)) r4 (nI (i + 1)) := by simp only [s7_toPilot_L, if_neg c2, if_neg d2, nI_1]
        obtain ⟨z, hz, e⟩ := ih (i + 1) (s7_plays n ((n 0 &&& 32) ||| 7)) (by omega) (by omega)
        exact ⟨z, fun k hk => (hz k hk).trans (f7_plays _ _ k hk), by rw [e2]; exact e⟩
end QD
section QE
variable {b f ep eq st hh t1 t2 t3 rs mm n1 n2 n3 nr g gp gq : Nat → Int32} {T : Nat}
theorem pq_cpF (hF : pq_F f mm) : pq_F (s2_copyFrom g gp gq f ep eq).1 mm := by
  obtain ⟨h3, h4, h5, h6, h7, h8⟩ := hF
  simp [pq_F, s2_copyFrom, upd, h3, h4, h5, h6, h7, h8]
theorem pq_cpE (hE : pq_E ep eq mm) : pq_E (s2_copyFrom g gp gq f ep eq).2.1 (s2_copyFrom g gp gq f ep eq).2.2 mm := by
  obtain ⟨hp, hq, h18, h19, h20⟩ := hE
  have c0 : (s2_copyFrom g gp gq f ep eq).2.1 0 = ep 0 := zc1 _ _ _ _ _ _
  have d0 : (s2_copyFrom g gp gq f ep eq).2.2 0 = eq 0 := zc2 _ _ _ _ _ _
  have c1 : (s2_copyFrom g gp gq f ep eq).2.1 1 = ep 1 := by simp [s2_copyFrom, s1_copyFrom, upd]
  have d1 : (s2_copyFrom g gp gq f ep eq).2.2 1 = eq 1 := by simp [s2_copyFrom, s1_copyFrom, upd]
  unfold pq_E
  rw [c0, d0, c1, d1]
  exact ⟨hp, hq, h18, h19, h20⟩
theorem pq_Qof (h : pq_W T b f ep eq st hh t1 t2 t3 rs mm n1 n2 n3 nr) : pq_Q T st mm := ⟨f, ep, eq, h.1.1, h.1.2.1, h.1.2.2.1, h.1.2.2.2.1, h.1.2.2.2.2.1⟩
/-- after a way back by what was packed all is as it was -/
theorem pq_back (h : pq_W T b f ep eq st hh t1 t2 t3 rs mm n1 n2 n3 nr) (hT : T < 262144) {z x : Nat → Int32} (hx : ∀ k, k ≤ 28 → x k = mm k) (hz : ∀ k, (k < 12 ∨ 20 < k) → k ≤ 28 → z k = mm k) : pq_W T b f ep eq st hh t1 t2 t3 rs (s7_unpacks z (s7_packs x)) n1 n2 n3 nr := by
  refine pq_Wc h (Nat.le_refl T) (fun k hk => ?_)
  by_cases c : k ≤ 20
  · have hQ : pq_Q T st x := pq_Qc (pq_Qof h) (Nat.le_refl T) (fun k hk => hx k (by omega))
    exact (pq_rt hQ hT (fun k hk => (hz k (Or.inl hk) (by omega)).trans (hx k (by omega)).symm) k c).trans (hx k hk)
  · exact (pq_ukF _ _ k (by omega)).trans (hz k (by omega) hk)
theorem pq_toPilot (h : pq_W T b f ep eq st hh t1 t2 t3 rs mm n1 n2 n3 nr) (hT : T < 262144) :
    (s6_toPilot b f ep eq st g gp gq).1 = (s7_toPilot mm).1 ∧ pq_W T b f ep eq st hh t1 t2 t3 rs (s7_toPilot mm).2 n1 n2 n3 nr := by
  have hW := pq_W34 h 0 (Nat.le_refl T)
  obtain ⟨hF, hE, hS, hB, hN, ⟨h5, j, hj, h0⟩, -⟩ := h.1
  have f3 : f 3 = mm 12 := hF.1
  by_cases c2 : mm 12 = 2
  · have o1 : ¬ s2_isPilotOpen f = 0 := by
      simp only [s2_isPilotOpen, f3, if_pos c2]
      decide
    have e1 : s6_toPilot b f ep eq st g gp gq = (0, g, gp, gq) := by simp only [s6_toPilot, if_neg o1]
    have e2 : s7_toPilot mm = (0, upd mm 34 0) := by simp only [s7_toPilot, if_pos c2]
    rw [e1, e2]
    exact ⟨rfl, hW⟩
  by_cases c3 : mm 12 = 3
  · have o1 : ¬ s2_isPilotOpen f = 0 := by
      simp only [s2_isPilotOpen, f3, if_neg c2, if_pos c3]
      decide
    have e1 : s6_toPilot b f ep eq st g gp gq = (0, g, gp, gq) := by simp only [s6_toPilot, if_neg o1]
    have e2 : s7_toPilot mm = (0, upd mm 34 0) := by simp only [s7_toPilot, if_neg c2, if_pos c3]
    rw [e1, e2]
    exact ⟨rfl, hW⟩
  have o1 : s2_isPilotOpen f = 0 := by simp only [s2_isPilotOpen, f3, if_neg c2, if_neg c3]
  obtain ⟨x0, hx0⟩ : ∃ x0 : Nat → Int32, x0 = upd mm 34 0 := ⟨_, rfl⟩
  have e1 : s6_toPilot b f ep eq st g gp gq = s6_toPilot_L b f ep eq st g gp gq 301 (s2_copyFrom g gp gq f ep eq).1 (s2_copyFrom g gp gq f ep eq).2.1 (s2_copyFrom g gp gq f ep eq).2.2 (nI (0 + 1)) := by
    simp only [s6_toPilot, if_pos o1]
    rfl
  have e2 : s7_toPilot mm = s7_toPilot_L mm 301 x0 (s7_packs x0) (nI 0) := by
    simp only [s7_toPilot, if_neg c2, if_neg c3, ← hx0]
    rfl
  rw [← hx0] at hW
  have x12 : x0 12 = mm 12 := by rw [hx0]; exact cw_updn _ _ (by decide)
  have x00 : x0 0 = mm 0 := by rw [hx0]; exact cw_updn _ _ (by decide)
  have hs : ∃ j : Nat, j < 64 ∧ x0 0 = nI j := ⟨j, hj, x00.trans h0⟩
  obtain ⟨gF, gE, gS, gB, -⟩ := hW.1
  rw [e1, e2]
  refine ⟨?_, ?_⟩
  · by_cases c4 : mm 12 = 4
    · have h46 : pq_46 x0 := Or.inl (x12.trans c4)
      rw [pq_tpB1 301 0 x0 _ _ _ (by decide) (by decide) (pq_cpF gF) (pq_cpE gE) gS gB h46, pq_tpB2 301 0 x0 (by decide) (by decide) hs h46]
    · exact pq_tpA 301 0 x0 _ _ _ (by decide) (pq_cpF gF) (pq_cpE gE) gS gB hs (by rw [x12]; exact c2) (by rw [x12]; exact c3) (by rw [x12]; exact c4)
  · obtain ⟨z, hz, e⟩ := pq_tpU (m0 := mm) (r4 := s7_packs x0) 301 0 x0 (by decide) (by decide)
    rw [e]
    have hx : ∀ k, k ≤ 28 → x0 k = mm k := fun k hk => by rw [hx0]; exact cw_updn _ _ (by omega)
    exact pq_back h hT hx (fun k hk hk2 => (hz k hk).trans (hx k hk2))
end QE
