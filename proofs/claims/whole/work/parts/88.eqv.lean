theorem wb_tb (n : Nat) : (lN n).toBitVec = BitVec.ofNat 64 n := rfl
theorem wb_inj {a b : Int64} (h : a.toBitVec = b.toBitVec) : a = b := Int64.toBitVec_inj.mp h
theorem wb_sm : ∀ k, k < 64 → (BitVec.ofNat 64 k).smod 64 = BitVec.ofNat 64 k := by decide +kernel
theorem wb_lt2 {a b : Nat} (h : a < b) : 2 ^ a < 2 ^ b := Nat.pow_lt_pow_right (by decide) h
theorem wb_and {a b : Nat} (ha : a < 2 ^ 64) (hb : b < 2 ^ 64) : lN a &&& lN b = lN (a &&& b) := by
  apply wb_inj
  rw [Int64.toBitVec_and, wb_tb, wb_tb, wb_tb]
  apply BitVec.eq_of_toNat_eq
  rw [BitVec.toNat_and, BitVec.toNat_ofNat, BitVec.toNat_ofNat, BitVec.toNat_ofNat, Nat.mod_eq_of_lt ha, Nat.mod_eq_of_lt hb, Nat.mod_eq_of_lt (Nat.and_lt_two_pow _ hb)]
theorem pr_mask {n p : Nat} (k : Nat) (hp : 2 ^ k = p) (hn : n < 2 ^ 64) (hk : k < 64) : lN n &&& lN (p - 1) = lN (n % p) := by
  subst hp
  rw [wb_and hn (by have := wb_lt2 hk; omega), Nat.and_two_pow_sub_one_eq_mod]
theorem pr_shl (n p : Nat) (k : Nat) (hp : 2 ^ k = p) (hk : k < 64) : lN n <<< lN k = lN (n * p) := by
  subst hp
  apply wb_inj
  rw [Int64.toBitVec_shiftLeft, wb_tb, wb_tb, wb_tb, wb_sm k hk]
  apply BitVec.eq_of_toNat_eq
  rw [BitVec.shiftLeft_eq', BitVec.toNat_shiftLeft, BitVec.toNat_ofNat, BitVec.toNat_ofNat, BitVec.toNat_ofNat, Nat.mod_eq_of_lt (show k < 2 ^ 64 by omega), Nat.shiftLeft_eq, Nat.mul_mod, Nat.mod_mod, ← Nat.mul_mod]
theorem pr_sm : ∀ k, k < 64 → ((lN k).toBitVec.smod 64).toNat = k := by decide +kernel
theorem pr_sh1 (a : Int64) (k : Nat) (hk : k < 64) : (a >>> lN k).toInt = a.toInt >>> k := by
  show (a.toBitVec.sshiftRight ((lN k).toBitVec.smod 64).toNat).toInt = _
  rw [pr_sm k hk, BitVec.toInt_sshiftRight]
  rfl
theorem pr_shr {n p : Nat} (k : Nat) (hp : 2 ^ k = p) (h : n < 2 ^ 63) (hk : k < 64) : lN n >>> lN k = lN (n / p) := by
  subst hp
  apply Int64.toInt_inj.mp
  have h2 : n / 2 ^ k ≤ n := Nat.div_le_self _ _
  have e1 : (lN n).toInt = n := lg_ofNat_toInt (by omega)
  have e2 : (lN (n / 2 ^ k)).toInt = (n / 2 ^ k : Nat) := lg_ofNat_toInt (by omega)
  rw [pr_sh1 _ k hk, e1, e2, Int.shiftRight_eq_div_pow]
  rfl
theorem pr_dm {lo m hi P W N : Nat} (hN : N = lo + P * (m + W * hi)) (h1 : lo < P) (h2 : m < W) : N / P % W = m := by
  rw [hN, Nat.add_mul_div_left _ _ (by omega), Nat.div_eq_of_lt h1, Nat.zero_add, Nat.add_mul_mod_self_left, Nat.mod_eq_of_lt h2]
theorem pr_dm0 {m hi W N : Nat} (hN : N = m + W * hi) (h2 : m < W) : N % W = m := by
  rw [hN, Nat.add_mul_mod_self_left, Nat.mod_eq_of_lt h2]
theorem pr_lit : (((3 : Int32).toInt64 &&& 63) = lN 3) ∧ (((7 : Int32).toInt64 &&& 63) = lN 7) ∧ (((25 : Int32).toInt64 &&& 63) = lN 25) ∧ (((32 : Int32).toInt64 &&& 63) = lN 32) ∧ (((39 : Int32).toInt64 &&& 63) = lN 39) ∧ (((51 : Int32).toInt64 &&& 63) = lN 51) ∧ (((53 : Int32).toInt64 &&& 63) = lN 53) ∧ (((56 : Int32).toInt64 &&& 63) = lN 56) ∧ ((7 : Int64) = lN (8 - 1)) ∧ ((15 : Int64) = lN (16 - 1)) ∧ ((262143 : Int64) = lN (262144 - 1)) ∧ ((127 : Int64) = lN (128 - 1)) ∧ ((4095 : Int64) = lN (4096 - 1)) ∧ ((3 : Int64) = lN (4 - 1)) := by decide +kernel
section PK
variable {mm n0 : Nat → Int32} {j12 j13 j14 j15 j16 j17 j18 j19 j20 : Nat}
theorem pr_pk (h12 : mm 12 = nI j12) (h13 : mm 13 = nI j13) (h14 : mm 14 = nI j14) (h15 : mm 15 = nI j15) (h16 : mm 16 = nI j16) (h17 : mm 17 = nI j17) (h18 : mm 18 = nI j18) (h19 : mm 19 = nI j19) (h20 : mm 20 = nI j20) (b12 : j12 < 8) (b13 : j13 < 16) (b14 : j14 < 262144) (b15 : j15 < 128) (b16 : j16 < 128) (b17 : j17 < 4096) (b18 : j18 < 4) (b19 : j19 < 8) (b20 : j20 < 8) : s7_packs mm = lN (j12 + j13 * 8 + j14 * 128 + j15 * 33554432 + j16 * 4294967296 + j17 * 549755813888 + j18 * 2251799813685248 + j19 * 9007199254740992 + j20 * 72057594037927936) := by
  obtain ⟨e3, e7, e25, e32, e39, e51, e53, e56, -⟩ := pr_lit
  simp only [s7_packs, h12, h13, h14, h15, h16, h17, h18, h19, h20, e3, e7, e25, e32, e39, e51, e53, e56]
  rw [nI_l (n := j12) (by omega), nI_l (n := j13) (by omega), nI_l (n := j14) (by omega), nI_l (n := j15) (by omega), nI_l (n := j16) (by omega), nI_l (n := j17) (by omega), nI_l (n := j18) (by omega), nI_l (n := j19) (by omega), nI_l (n := j20) (by omega), pr_shl _ 8 3 (by decide) (by decide), pr_shl _ 128 7 (by decide) (by decide), pr_shl _ 33554432 25 (by decide) (by decide), pr_shl _ 4294967296 32 (by decide) (by decide), pr_shl _ 549755813888 39 (by decide) (by decide), pr_shl _ 2251799813685248 51 (by decide) (by decide), pr_shl _ 9007199254740992 53 (by decide) (by decide), pr_shl _ 72057594037927936 56 (by decide) (by decide), lN_add, lN_add, lN_add, lN_add, lN_add, lN_add, lN_add, lN_add]
theorem pr_up (hn : ∀ k, k < 12 → n0 k = mm k) (h12 : mm 12 = nI j12) (h13 : mm 13 = nI j13) (h14 : mm 14 = nI j14) (h15 : mm 15 = nI j15) (h16 : mm 16 = nI j16) (h17 : mm 17 = nI j17) (h18 : mm 18 = nI j18) (h19 : mm 19 = nI j19) (h20 : mm 20 = nI j20) (b12 : j12 < 8) (b13 : j13 < 16) (b14 : j14 < 262144) (b15 : j15 < 128) (b16 : j16 < 128) (b17 : j17 < 4096) (b18 : j18 < 4) (b19 : j19 < 8) (b20 : j20 < 8) (k : Nat) (hk : k ≤ 20) : s7_unpacks n0 (s7_packs mm) k = mm k := by
  rw [pr_pk h12 h13 h14 h15 h16 h17 h18 h19 h20 b12 b13 b14 b15 b16 b17 b18 b19 b20]
  obtain ⟨N, hN⟩ : ∃ N : Nat, N = j12 + j13 * 8 + j14 * 128 + j15 * 33554432 + j16 * 4294967296 + j17 * 549755813888 + j18 * 2251799813685248 + j19 * 9007199254740992 + j20 * 72057594037927936 := ⟨_, rfl⟩
  rw [← hN]
  have hb : N < 2 ^ 63 := by omega
  obtain ⟨e3, e7, e25, e32, e39, e51, e53, e56, m3, m4, m18, m7, m12, m2⟩ := pr_lit
  have u12 : s7_unpacks n0 (lN N) 12 = mm 12 := by
    simp only [s7_unpacks]
    rw [cw_updn _ _ (by decide), cw_updn _ _ (by decide), cw_updn _ _ (by decide), cw_updn _ _ (by decide), cw_updn _ _ (by decide), cw_updn _ _ (by decide), cw_updn _ _ (by decide), cw_updn _ _ (by decide), cw_upd0, m3, pr_mask (p := 8) 3 (by decide) (by omega) (by decide), lN_i, h12, pr_dm0 (m := j12) (hi := j13 + j14 * 16 + j15 * 4194304 + j16 * 536870912 + j17 * 68719476736 + j18 * 281474976710656 + j19 * 1125899906842624 + j20 * 9007199254740992) (by rw [hN]; omega) b12]
  have u13 : s7_unpacks n0 (lN N) 13 = mm 13 := by
    simp only [s7_unpacks]
    rw [cw_updn _ _ (by decide), cw_updn _ _ (by decide), cw_updn _ _ (by decide), cw_updn _ _ (by decide), cw_updn _ _ (by decide), cw_updn _ _ (by decide), cw_updn _ _ (by decide), cw_upd0, e3, pr_shr (p := 8) 3 (by decide) hb (by decide), m4, pr_mask (p := 16) 4 (by decide) (by omega) (by decide), lN_i, h13, pr_dm (lo := j12) (m := j13) (hi := j14 + j15 * 262144 + j16 * 33554432 + j17 * 4294967296 + j18 * 17592186044416 + j19 * 70368744177664 + j20 * 562949953421312) (by rw [hN]; omega) (by omega) b13]
  have u14 : s7_unpacks n0 (lN N) 14 = mm 14 := by
    simp only [s7_unpacks]
    rw [cw_updn _ _ (by decide), cw_updn _ _ (by decide), cw_updn _ _ (by decide), cw_updn _ _ (by decide), cw_updn _ _ (by decide), cw_updn _ _ (by decide), cw_upd0, e7, pr_shr (p := 128) 7 (by decide) hb (by decide), m18, pr_mask (p := 262144) 18 (by decide) (by omega) (by decide), lN_i, h14, pr_dm (lo := j12 + j13 * 8) (m := j14) (hi := j15 + j16 * 128 + j17 * 16384 + j18 * 67108864 + j19 * 268435456 + j20 * 2147483648) (by rw [hN]; omega) (by omega) b14]
  have u15 : s7_unpacks n0 (lN N) 15 = mm 15 := by
    simp only [s7_unpacks]
    rw [cw_updn _ _ (by decide), cw_updn _ _ (by decide), cw_updn _ _ (by decide), cw_updn _ _ (by decide), cw_updn _ _ (by decide), cw_upd0, e25, pr_shr (p := 33554432) 25 (by decide) hb (by decide), m7, pr_mask (p := 128) 7 (by decide) (by omega) (by decide), lN_i, h15, pr_dm (lo := j12 + j13 * 8 + j14 * 128) (m := j15) (hi := j16 + j17 * 128 + j18 * 524288 + j19 * 2097152 + j20 * 16777216) (by rw [hN]; omega) (by omega) b15]
  have u16 : s7_unpacks n0 (lN N) 16 = mm 16 := by
    simp only [s7_unpacks]
    rw [cw_updn _ _ (by decide), cw_updn _ _ (by decide), cw_updn _ _ (by decide), cw_updn _ _ (by decide), cw_upd0, e32, pr_shr (p := 4294967296) 32 (by decide) hb (by decide), m7, pr_mask (p := 128) 7 (by decide) (by omega) (by decide), lN_i, h16, pr_dm (lo := j12 + j13 * 8 + j14 * 128 + j15 * 33554432) (m := j16) (hi := j17 + j18 * 4096 + j19 * 16384 + j20 * 131072) (by rw [hN]; omega) (by omega) b16]
  have u17 : s7_unpacks n0 (lN N) 17 = mm 17 := by
    simp only [s7_unpacks]
    rw [cw_updn _ _ (by decide), cw_updn _ _ (by decide), cw_updn _ _ (by decide), cw_upd0, e39, pr_shr (p := 549755813888) 39 (by decide) hb (by decide), m12, pr_mask (p := 4096) 12 (by decide) (by omega) (by decide), lN_i, h17, pr_dm (lo := j12 + j13 * 8 + j14 * 128 + j15 * 33554432 + j16 * 4294967296) (m := j17) (hi := j18 + j19 * 4 + j20 * 32) (by rw [hN]; omega) (by omega) b17]
  have u18 : s7_unpacks n0 (lN N) 18 = mm 18 := by
    simp only [s7_unpacks]
    rw [cw_updn _ _ (by decide), cw_updn _ _ (by decide), cw_upd0, e51, pr_shr (p := 2251799813685248) 51 (by decide) hb (by decide), m2, pr_mask (p := 4) 2 (by decide) (by omega) (by decide), lN_i, h18, pr_dm (lo := j12 + j13 * 8 + j14 * 128 + j15 * 33554432 + j16 * 4294967296 + j17 * 549755813888) (m := j18) (hi := j19 + j20 * 8) (by rw [hN]; omega) (by omega) b18]
  have u19 : s7_unpacks n0 (lN N) 19 = mm 19 := by
    simp only [s7_unpacks]
    rw [cw_updn _ _ (by decide), cw_upd0, e53, pr_shr (p := 9007199254740992) 53 (by decide) hb (by decide), m3, pr_mask (p := 8) 3 (by decide) (by omega) (by decide), lN_i, h19, pr_dm (lo := j12 + j13 * 8 + j14 * 128 + j15 * 33554432 + j16 * 4294967296 + j17 * 549755813888 + j18 * 2251799813685248) (m := j19) (hi := j20) (by rw [hN]; omega) (by omega) b19]
  have u20 : s7_unpacks n0 (lN N) 20 = mm 20 := by
    simp only [s7_unpacks]
    rw [cw_upd0, e56, pr_shr (p := 72057594037927936) 56 (by decide) hb (by decide), m3, pr_mask (p := 8) 3 (by decide) (by omega) (by decide), lN_i, h20, pr_dm (lo := j12 + j13 * 8 + j14 * 128 + j15 * 33554432 + j16 * 4294967296 + j17 * 549755813888 + j18 * 2251799813685248 + j19 * 9007199254740992) (m := j20) (hi := 0) (by rw [hN]; omega) (by omega) b20]
  by_cases g : k < 12
  · simp only [s7_unpacks]
    rw [cw_updn _ _ (by omega), cw_updn _ _ (by omega), cw_updn _ _ (by omega), cw_updn _ _ (by omega), cw_updn _ _ (by omega), cw_updn _ _ (by omega), cw_updn _ _ (by omega), cw_updn _ _ (by omega), cw_updn _ _ (by omega)]
    exact hn k g
  · have hc : k = 12 ∨ k = 13 ∨ k = 14 ∨ k = 15 ∨ k = 16 ∨ k = 17 ∨ k = 18 ∨ k = 19 ∨ k = 20 := by omega
    rcases hc with rfl | rfl | rfl | rfl | rfl | rfl | rfl | rfl | rfl
    · exact u12
    · exact u13
    · exact u14
    · exact u15
    · exact u16
    · exact u17
    · exact u18
    · exact u19
    · exact u20
end PK
/-- a state of the model that the class could be in, with times up to T -/
def pq_Q (T : Nat) (st y : Nat → Int32) : Prop := ∃ f ep eq : Nat → Int32, pq_F f y ∧ pq_E ep eq y ∧ pq_S st y ∧ pq_B y ∧ pq_N T y
theorem pq_Qt {T : Nat} {st y : Nat → Int32} {a : Int32} (h : pq_Q T st y) (hT : T < 1000000) (ha : ∃ j : Nat, j < 64 ∧ a = nI j) : pq_Q (T + 1) st (s7_plays y a) := by
  obtain ⟨f, ep, eq, hF, hE, hS, hB, hN⟩ := h
  obtain ⟨tF, tE, tS, tB⟩ := pq_tick hF hE hS hB ha
  exact ⟨_, _, _, tF, tE, tS, tB, pq_Nt hN hB hT⟩
theorem pq_Qc {T T1 : Nat} {st y z : Nat → Int32} (h : pq_Q T st y) (hT : T ≤ T1) (hz : ∀ k, k ≤ 20 → z k = y k) : pq_Q T1 st z := by
  obtain ⟨f, ep, eq, hF, hE, hS, hB, hN⟩ := h
  exact ⟨f, ep, eq, pq_Fc hF (fun k _ hk => hz k (by omega)), pq_Ec hE (fun k _ hk => hz k (by omega)), fun k hk => (hS k hk).trans (hz (k + 1) (by omega)).symm, pq_Bc hB (fun k hk => hz k (by omega)), pq_Nm hN hT hz⟩
/-- what was packed is unpacked again -/
theorem pq_rt {T : Nat} {st y n0 : Nat → Int32} (h : pq_Q T st y) (hT : T < 262144) (hn : ∀ k, k < 12 → n0 k = y k) (k : Nat) (hk : k ≤ 20) : s7_unpacks n0 (s7_packs y) k = y k := by
  obtain ⟨f, ep, eq, -, hE, -, hB, hN⟩ := h
  obtain ⟨j12, b12, h12⟩ := pq_nI (B := 6) hN.1.1 hN.1.2
  obtain ⟨j13, b13, h13⟩ := pq_nI (B := 8) hN.2.1.1 hN.2.1.2
  obtain ⟨j14, b14, h14⟩ := pq_nI (B := T) hN.2.2.1.1 hN.2.2.1.2
  obtain ⟨j17, b17, h17⟩ := pq_nI (B := 1999) hN.2.2.2.1.1 hN.2.2.2.1.2
  obtain ⟨j19, b19, h19⟩ := pq_nI (B := 4) hN.2.2.2.2.1.1 hN.2.2.2.2.1.2
  obtain ⟨j20, b20, h20⟩ := pq_nI (B := 4) hN.2.2.2.2.2.1.1 hN.2.2.2.2.2.1.2
  obtain ⟨j15, b15, h15⟩ := pq_nI (B := 100) hB.1.1 hB.1.2
  obtain ⟨j16, b16, h16⟩ := pq_nI (B := 100) hB.2.1.1 hB.2.1.2
  have h18 : ∃ j : Nat, j < 4 ∧ y 18 = nI j := by
    obtain ⟨hp, hq, e, -⟩ := hE
    rcases hp with hp | hp <;> rcases hq with hq | hq <;> rw [e, hp, hq]
    · exact ⟨0, by decide, by decide⟩
    · exact ⟨2, by decide, by decide⟩
    · exact ⟨1, by decide, by decide⟩
    · exact ⟨3, by decide, by decide⟩
  obtain ⟨j18, b18, h18⟩ := h18
  exact pr_up hn h12 h13 h14 h15 h16 h17 h18 h19 h20 (by omega) (by omega) (by omega) (by omega) (by omega) (by omega) (by omega) (by omega) (by omega) k hk
