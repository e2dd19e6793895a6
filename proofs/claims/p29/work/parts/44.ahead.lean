/-! PURE: what a walk of one tick finds is found by one of two; what 'ahead' asks -/
def td_le (v u : Int32) : Prop := v ||| u = u
theorem td_leO {v w u : Int32} (h : td_le v u) (g : td_le w u) : td_le (v ||| w) u := by
  unfold td_le at h g ⊢
  rw [Int32.or_assoc, g, h]
theorem td_le0 {u : Int32} : td_le 0 u := Int32.zero_or
theorem td_leR {u : Int32} : td_le u u := Int32.or_self
theorem td_leT {u v w : Int32} (h : td_le v u) (g : td_le u w) : td_le v w := by
  unfold td_le at h g ⊢
  rw [← g, ← Int32.or_assoc, h]
theorem td_leL {v w : Int32} : td_le v (v ||| w) := by
  unfold td_le
  rw [← Int32.or_assoc, Int32.or_self]
theorem td_leM {v w : Int32} : td_le w (v ||| w) := by
  unfold td_le
  rw [Int32.or_comm v w, ← Int32.or_assoc, Int32.or_self]
theorem td_le2 {v w x y : Int32} (h : td_le v x) (g : td_le w y) : td_le (v ||| w) (x ||| y) := td_leO (td_leT h td_leL) (td_leT g td_leM)
theorem td_and {v u : Int32} (h : td_le v u) : v &&& u = v := by
  unfold td_le at h
  rw [← Int32.toBitVec_inj] at h ⊢
  rw [Int32.toBitVec_or] at h
  rw [Int32.toBitVec_and]
  apply BitVec.eq_of_getLsbD_eq
  intro i hi
  have h1 : (v.toBitVec ||| u.toBitVec).getLsbD i = u.toBitVec.getLsbD i := by rw [h]
  rw [BitVec.getLsbD_or] at h1
  rw [BitVec.getLsbD_and]
  revert h1
  cases v.toBitVec.getLsbD i <;> cases u.toBitVec.getLsbD i <;> simp
theorem td_sh {v u : Int32} (h : td_le v u) : td_le (v >>> (8 &&& 31)) (u >>> (8 &&& 31)) := by
  unfold td_le at h ⊢
  rw [← Int32.toBitVec_inj, Int32.toBitVec_or, Int32.toBitVec_shiftRight, Int32.toBitVec_shiftRight]
  rw [BitVec.sshiftRight', BitVec.sshiftRight', ← BitVec.sshiftRight_or_distrib, ← Int32.toBitVec_or, h]
theorem td_or (a b : Nat) : nI a ||| nI b = nI (a ||| b) := by
  apply Int32.toBitVec_inj.1
  show BitVec.ofNat 32 a ||| BitVec.ofNat 32 b = BitVec.ofNat 32 (a ||| b)
  apply BitVec.eq_of_getLsbD_eq
  intro i hi
  simp [BitVec.getLsbD_ofNat, Nat.testBit_or, hi]
def td_bit (k : Int32) : Int32 := (1 : Int32) <<< (k &&& 31)
section TD
variable {b f ep eq st g : Nat → Int32}
theorem td_w20 : s6_walk2 f ep eq st (1 - 1) = 0 := by
  have e : ¬ (0 : Int32) < 1 - 1 := by decide
  simp only [s6_walk2, if_neg e]
theorem td_M : ∀ (n9 : Nat) (x y i j : Int32), td_le x y → td_le (s6_walk3_L f ep eq st 1 n9 x i j) (s6_walk3_L f ep eq st 2 n9 y i j) := by
  intro n9
  induction n9 with
  | zero => intro x y i j h; exact td_le0
  | succ n9 ih =>
    intro x y i j h
    simp only [s6_walk3_L]
    by_cases c : 63 < j
    · rw [if_pos c, if_pos c]; exact h
    · rw [if_neg c, if_neg c]
      apply ih
      by_cases d : (j &&& (i ^^^ (-1))) = 0
      · rw [if_pos d, if_pos d]
        by_cases k : s2_isLockedOut (s2_tick f ep eq st j).2.1 = 0
        · rw [if_pos k, if_pos k, td_w20]
          exact td_le2 (td_le2 h td_leR) td_le0
        · rw [if_neg k, if_neg k]
          exact td_le2 h td_leR
      · rw [if_neg d, if_neg d]; exact h
/-- nothing that was found is lost -/
theorem td_S : ∀ (n9 j : Nat) (x i : Int32), j + n9 = 65 → 1 ≤ n9 → td_le x (s6_walk3_L f ep eq st 1 n9 x i (nI j)) := by
  intro n9
  induction n9 with
  | zero => intro j x i _ h; omega
  | succ n9 ih =>
    intro j x i h1 h2
    simp only [s6_walk3_L]
    by_cases c : j = 64
    · rw [c, if_pos (show (63 : Int32) < nI 64 by decide)]; exact td_leR
    · rw [if_neg (show ¬ (63 : Int32) < nI j from nI_nlt (a := 63) (by omega) (by decide)), nI_1]
      refine td_leT ?_ (ih (j + 1) _ i (by omega) (by omega))
      split
      · split
        · exact td_leT td_leL td_leL
        · exact td_leL
      · exact td_leR
theorem td_S1 (n9 : Nat) (hn : n9 = 64) (i : Int32) : td_le (s6_foundAt (s2_tick f ep eq st 0).2.1) (s6_walk3_L f ep eq st 1 (n9 + 1) 0 i (nI 0)) := by
  simp only [s6_walk3_L]
  rw [if_neg (show ¬ (63 : Int32) < nI 0 by decide), nI_1]
  refine td_leT ?_ (td_S n9 1 _ _ (by omega) (by omega))
  rw [if_pos (show (nI 0 &&& (i ^^^ (-1))) = 0 from Int32.zero_and)]
  split
  · exact td_leT td_leM td_leL
  · exact td_leM
theorem td_S0 : td_le (s6_foundAt (s2_tick f ep eq st 0).2.1) (s6_walk3 f ep eq st 1) := by
  have e : s6_walk3 f ep eq st 1 = s6_walk3_L f ep eq st 1 (64 + 1) 0 (s6_tellingSignals (f 3)) (nI 0) := by
    simp only [s6_walk3, if_pos (show (0 : Int32) < 1 by decide)]
    rfl
  rw [e]
  exact td_S1 64 rfl _
theorem td_12 : td_le (s6_walk3 f ep eq st 1) (s6_walk3 f ep eq st 2) := by
  simp only [s6_walk3, if_pos (show (0 : Int32) < 1 by decide), if_pos (show (0 : Int32) < 2 by decide)]
  exact td_M 65 0 0 _ 0 td_leR
/-- what a walk of one tick finds, as a number -/
def td_P (v : Int32) : Prop := ∃ w : Nat, w < 2 ^ 17 ∧ w &&& 256 = 0 ∧ v = nI w
theorem td_P0 : td_P 0 := ⟨0, by decide, by decide, rfl⟩
theorem td_PO {v u : Int32} (h : td_P v) (g : td_P u) : td_P (v ||| u) := by
  obtain ⟨w, h1, h2, rfl⟩ := h
  obtain ⟨x, g1, g2, rfl⟩ := g
  exact ⟨w ||| x, Nat.or_lt_two_pow h1 g1, by rw [Nat.and_or_distrib_right, h2, g2]; rfl, td_or w x⟩
theorem td_nI {v : Int32} {B : Nat} (h0 : 0 ≤ v.toInt) (h1 : v.toInt ≤ B) : ∃ j : Nat, j ≤ B ∧ v = nI j := by
  have hn : ¬ v < 0 := by
    intro h
    rw [Int32.lt_iff_toInt_lt] at h
    have h9 : (0 : Int32).toInt = 0 := by decide
    omega
  obtain ⟨j, hj, rfl⟩ := nI_of hn
  rw [nI_toInt hj] at h1
  exact ⟨j, by omega, rfl⟩
theorem td_fs : ∀ s : Nat, s < 7 → ((1 : Int32) <<< (nI s &&& 31)) = nI (2 ^ s) ∧ 2 ^ s < 2 ^ 17 ∧ 2 ^ s &&& 256 = 0 := by decide +kernel
theorem td_fv : ∀ v : Nat, v < 9 → 1 ≤ v → ((1 : Int32) <<< ((8 + nI v) &&& 31)) = nI (2 ^ (8 + v)) ∧ 2 ^ (8 + v) < 2 ^ 17 ∧ 2 ^ (8 + v) &&& 256 = 0 := by decide +kernel
theorem td_found (h : ta_F g) : td_P (s6_foundAt g) := by
  obtain ⟨s, hs, es⟩ := td_nI (B := 6) h.1.1 h.1.2
  obtain ⟨a1, a2, a3⟩ := td_fs s (by omega)
  have el : s2_isLockedOut g = (if g 3 = 6 then 1 else 0) := rfl
  simp only [s6_foundAt]
  by_cases c : g 3 = 6
  · have e1 : ¬ s2_isLockedOut g = 0 := by rw [el, if_pos c]; decide
    have hv := h.2.1 c
    obtain ⟨v, hv8, ev⟩ := td_nI (B := 8) (by omega) hv.2
    have hv1 : 1 ≤ v := by
      have h9 := hv.1
      rw [ev, nI_toInt (by omega)] at h9
      omega
    obtain ⟨b1, b2, b3⟩ := td_fv v (by omega) hv1
    rw [if_neg e1, es, ev, a1, b1]
    exact td_PO ⟨_, a2, a3, rfl⟩ ⟨_, b2, b3, rfl⟩
  · have e1 : s2_isLockedOut g = 0 := by rw [el, if_neg c]
    rw [if_pos e1, es, a1]
    exact ⟨_, a2, a3, rfl⟩
theorem td_PW (hF : ta_F f) (hS : ta_S st) : ∀ (n9 : Nat) (x i j : Int32), td_P x → td_P (s6_walk3_L f ep eq st 1 n9 x i j) := by
  intro n9
  induction n9 with
  | zero => intro x i j h; exact td_P0
  | succ n9 ih =>
    intro x i j h
    have hf := td_found (ta_tick (ep := ep) (eq := eq) (a := j) hF hS).1
    simp only [s6_walk3_L]
    by_cases c : 63 < j
    · rw [if_pos c]; exact h
    · rw [if_neg c]
      apply ih
      by_cases d : (j &&& (i ^^^ (-1))) = 0
      · rw [if_pos d]
        by_cases k : s2_isLockedOut (s2_tick f ep eq st j).2.1 = 0
        · rw [if_pos k, td_w20]
          exact td_PO (td_PO h hf) td_P0
        · rw [if_neg k]
          exact td_PO h hf
      · rw [if_neg d]; exact h
theorem td_PW1 (hF : ta_F f) (hS : ta_S st) : td_P (s6_walk3 f ep eq st 1) := by
  simp only [s6_walk3, if_pos (show (0 : Int32) < 1 by decide)]
  exact td_PW hF hS 65 0 _ 0 td_P0
/-- the state behind a tick without signals is found -/
theorem td_st (hF : ta_F f) (hS : ta_S st) : ∃ s : Nat, s < 7 ∧ td_le (td_bit (nI s)) (s6_walk3 f ep eq st 1) := by
  have h := (ta_tick (ep := ep) (eq := eq) (a := 0) hF hS).1
  obtain ⟨s, hs, es⟩ := td_nI (B := 6) h.1.1 h.1.2
  refine ⟨s, by omega, td_leT ?_ td_S0⟩
  simp only [s6_foundAt, td_bit, es]
  split
  · exact td_leR
  · exact td_leL
end TD
/-! the seven states -/
def td_w (W k : Int32) : Int32 := if s6_isOn W (td_bit k) = 0 then 0 else td_bit k
theorem td_on {W V k : Int32} (h : td_le W V) (g : s6_isOn V k = 0) : s6_isOn W k = 0 := by
  have h1 := td_and h
  simp only [s6_isOn] at g ⊢
  by_cases c : V &&& k = 0
  · have e : W &&& k = 0 := by rw [← h1, Int32.and_assoc, c]; exact Int32.and_zero
    rw [if_pos e]
  · rw [if_neg c] at g
    exact absurd g ta_n10
theorem td_wle {W V k : Int32} (h : td_le W V) : td_le (td_w W k) (td_w V k) := by
  unfold td_w
  by_cases c : s6_isOn W (td_bit k) = 0
  · rw [if_pos c]; exact td_le0
  · rw [if_neg c, if_neg (fun q => c (td_on h q))]
    exact td_leR
def td_all (W : Int32) : Int32 := (((((((0 ||| td_w W 0) ||| td_w W 1) ||| td_w W 2) ||| td_w W 3) ||| td_w W 4) ||| td_w W 5) ||| td_w W 6)
theorem td_allle {W V : Int32} (h : td_le W V) : td_le (td_all W) (td_all V) := td_le2 (td_le2 (td_le2 (td_le2 (td_le2 (td_le2 (td_le2 td_leR (td_wle h)) (td_wle h)) (td_wle h)) (td_wle h)) (td_wle h)) (td_wle h)) (td_wle h)
def td_Q (v : Int32) : Prop := ∃ w : Nat, w < 2 ^ 7 ∧ v = nI w
theorem td_QO {v u : Int32} (h : td_Q v) (g : td_Q u) : td_Q (v ||| u) := by
  obtain ⟨w, h1, rfl⟩ := h
  obtain ⟨x, g1, rfl⟩ := g
  exact ⟨w ||| x, Nat.or_lt_two_pow h1 g1, td_or w x⟩
theorem td_Qw {W : Int32} {k : Nat} (hk : k < 7) : td_Q (td_w W (nI k)) := by
  have hh : ∀ k : Nat, k < 7 → td_bit (nI k) = nI (2 ^ k) ∧ 2 ^ k < 2 ^ 7 := by decide +kernel
  unfold td_w
  split
  · exact ⟨0, by decide, rfl⟩
  · exact ⟨2 ^ k, (hh k hk).2, (hh k hk).1⟩
theorem td_Qall {W : Int32} : td_Q (td_all W) := td_QO (td_QO (td_QO (td_QO (td_QO (td_QO (td_QO ⟨0, by decide, rfl⟩ (td_Qw (k := 0) (by decide))) (td_Qw (k := 1) (by decide))) (td_Qw (k := 2) (by decide))) (td_Qw (k := 3) (by decide))) (td_Qw (k := 4) (by decide))) (td_Qw (k := 5) (by decide))) (td_Qw (k := 6) (by decide))
theorem td_wbit {W k : Int32} (h : td_le (td_bit k) W) (hb : ¬ td_bit k = 0) : td_w W k = td_bit k := by
  have h1 := td_and h
  unfold td_w
  have e : ¬ s6_isOn W (td_bit k) = 0 := by
    simp only [s6_isOn]
    rw [Int32.and_comm, h1, if_neg hb]
    decide
  rw [if_neg e]
theorem td_pos {W : Int32} {s : Nat} (hs : s < 7) (h : td_le (td_bit (nI s)) W) : ¬ td_all W ≤ 0 := by
  have hb : ∀ s : Nat, s < 7 → ¬ td_bit (nI s) = 0 := by decide +kernel
  have hw := td_wbit h (hb s hs)
  have hle : td_le (td_bit (nI s)) (td_all W) := by
    unfold td_all
    match s, hs with
    | 0, _ => rw [← hw]; exact td_leT td_leM (td_leT td_leL (td_leT td_leL (td_leT td_leL (td_leT td_leL (td_leT td_leL td_leL)))))
    | 1, _ => rw [← hw]; exact td_leT td_leM (td_leT td_leL (td_leT td_leL (td_leT td_leL (td_leT td_leL td_leL))))
    | 2, _ => rw [← hw]; exact td_leT td_leM (td_leT td_leL (td_leT td_leL (td_leT td_leL td_leL)))
    | 3, _ => rw [← hw]; exact td_leT td_leM (td_leT td_leL (td_leT td_leL td_leL))
    | 4, _ => rw [← hw]; exact td_leT td_leM (td_leT td_leL td_leL)
    | 5, _ => rw [← hw]; exact td_leT td_leM td_leL
    | 6, _ => rw [← hw]; exact td_leM
    | n + 7, h => omega
  obtain ⟨w, hw1, ew⟩ := td_Qall (W := W)
  rw [ew] at hle ⊢
  refine nI_nle ?_ (by omega)
  rcases Nat.eq_zero_or_pos w with z | z
  · rw [z] at hle
    unfold td_le at hle
    have e : td_bit (nI s) = 0 := by
      have e2 : td_bit (nI s) ||| nI 0 = td_bit (nI s) := Int32.or_zero
      rw [← e2, hle]
      rfl
    exact absurd e (hb s hs)
  · exact z
/-- the reasons, one tick ahead -/
theorem td_why {v : Int32} (h : td_P v) : ((v >>> (8 &&& 31)) - (v >>> (8 &&& 31)) / 2 * 2) = 0 ∧ ¬ (512 : Int32) ≤ v >>> (8 &&& 31) := by
  obtain ⟨w, h1, h2, rfl⟩ := h
  have e : nI w >>> ((8 : Int32) &&& 31) = nI (w / 2 ^ 8) := pk_shrN (by omega) _ 8 (by decide)
  have hd : w / 2 ^ 8 < 512 := by omega
  rw [e]
  constructor
  · show nI (w / 2 ^ 8) - nI (w / 2 ^ 8) / nI 2 * nI 2 = nI 0
    rw [pk_rem (by omega) (by decide) (by decide)]
    refine congrArg nI ?_
    have h3 : (w &&& 2 ^ 8).testBit 8 = false := by
      have h4 : w &&& 2 ^ 8 = 0 := h2
      rw [h4]
      exact Nat.zero_testBit 8
    rw [Nat.testBit_and, Nat.testBit_two_pow_self, Bool.and_true, Nat.testBit_eq_decide_div_mod_eq] at h3
    have h5 : ¬ w / 2 ^ 8 % 2 = 1 := of_decide_eq_false h3
    omega
  · exact nI_ge (b := 512) hd (by decide)
section TE
variable {b f ep eq st hh t1 t2 t3 : Nat → Int32}
theorem td_cw (k n : Int32) : (if s6_couldBeN b f ep eq st k n = 0 then (0 : Int32) else (1 : Int32) <<< (k &&& 31)) = td_w (s6_walk3 f ep eq st n) k := rfl
theorem td_o : sL_asks6 b 7 1 = (-102) ∧ sL_asks6 b 0 0 = (-102) ∧ sL_asks7 b 4 0 = (-102) ∧ sL_asks7 b 0 0 = (-102) := by
  refine ⟨?_, ?_, ?_, ?_⟩ <;> rfl
theorem td_ahead {T : Nat} (h : ta_J T b st f ep eq hh t1 t2 t3) : sL_ahead b st f ep eq hh t1 t2 t3 = 1 := by
  obtain ⟨-, -, hF, hS, -⟩ := h
  obtain ⟨o1, o2, o3, o4⟩ := td_o (b := b)
  obtain ⟨s, hs, hb⟩ := td_st (ep := ep) (eq := eq) hF hS
  have h12 := td_12 (f := f) (ep := ep) (eq := eq) (st := st)
  have hp := td_pos hs hb
  have ha := td_and (td_allle h12)
  have hP := td_PW1 (ep := ep) (eq := eq) hF hS
  have hr : (s6_reasonsAheadN b f ep eq st 1 &&& s6_reasonsAheadN b f ep eq st 2) = s6_reasonsAheadN b f ep eq st 1 ∧ (s6_reasonsAheadN b f ep eq st 1 - s6_reasonsAheadN b f ep eq st 1 / 2 * 2) = 0 ∧ ¬ (512 : Int32) ≤ s6_reasonsAheadN b f ep eq st 1 := by
    simp only [s6_reasonsAheadN]
    by_cases c : s2_isLockedOut f = 0
    · rw [if_pos c, if_pos c]
      exact ⟨td_and (td_sh h12), td_why hP⟩
    · rw [if_neg c, if_neg c]
      decide
  unfold td_all at hp ha
  simp only [← td_cw (b := b)] at hp ha
  simp only [sL_ahead]
  rw [if_neg hp, if_pos ha, if_pos hr.1, if_pos hr.2.1, if_neg hr.2.2]
  simp only [o1, o2, o3, o4, ta_n10, if_true, if_false]
end TE
