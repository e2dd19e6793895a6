/-! the law's cell -/
def sL_cell (L : Nat) (sc : Nat → Int32) (a : Int32) : Int32 := (let w : Int32 := (if Int32.ofNat L ≤ a then 26021 * (a + 20) else sc a.toNatClampNeg); ((w ^^^ ish w 14) * 1291169091) + 53 * a)
theorem la_in {L : Nat} (hL : L < 1000) {a : Int32} (h0 : 0 ≤ a.toInt) (h : ¬ Int32.ofNat L ≤ a) : vp_in a L := by
  rw [vp_in_iff]
  have h1 := cw_lt1 h
  have h2 : (Int32.ofNat L).toInt = L := nI_toInt (n := L) (by omega)
  omega
set_option maxHeartbeats 4000000 in
set_option maxRecDepth 100000 in
theorem kL_cell (l : Launch) (bs L : Nat) (sc : Nat → Int32) (hL : L < 1000) (a : Int32) (h0 : 0 ≤ a.toInt) : cl_M l yL_cell wsL_cell (cw_rm 0) bs L sc [.ref bs, .int a] (sL_cell L sc a) := by
  refine cl_of (cc := cL_cell) (maxL := 3) (ret := (some .int)) (by decide) rfl (Nat.le_of_ble_eq_true rfl) rfl rfl ?_
  intro p e s m args below meth c A ls Q hx hb hml hts hown hX hbl hbA hl hret
  have hS : va_S A s.heap s.heap [] := va_S.rf
  have hl : lv_has ls 3 [(0, .ref bs), (1, .int a)] := hl
  have lk7 := hts (.constant RL 7 1291169091) (by decide +kernel)
  have J1 : ∀ w : Int32, w = (if Int32.ofNat L ≤ a then 26021 * (a + 20) else sc a.toNatClampNeg) → W p l e (cw_rm 0) s m args below meth c s.heap [] 0 0 Q (F0 m 20 ls [.int w]) := by
    intro w hw
    refine lv_istore_n (lv' := [(2, .int w), (0, .ref bs), (1, .int a)]) hx hb dL_cell_20 rfl hl (by decide) rfl (fun ls hl => ?_)
    refine lv_iload_n hx hb dL_cell_21 rfl (lv_at hl 0 rfl) ?_
    refine lv_iload_n hx hb dL_cell_22 rfl (lv_at hl 0 rfl) ?_
    refine lv_bipush (v := 14) hx hb dL_cell_23 (by decide) ?_
    refine lv_iushr (v := (ish w 14)) hx hb dL_cell_25 rfl ?_
    refine lv_ixor hx hb dL_cell_26 ?_
    refine lv_ldc hx hb hown lk7 dL_cell_27 ?_
    refine lv_imul hx hb dL_cell_29 ?_
    refine lv_bipush (v := 53) hx hb dL_cell_30 (by decide) ?_
    refine lv_iload_n hx hb dL_cell_32 rfl (lv_at hl 2 rfl) ?_
    refine lv_imul hx hb dL_cell_33 ?_
    refine lv_iadd hx hb dL_cell_34 ?_
    have hsp : sL_cell L sc a = (((w ^^^ ish w 14) * 1291169091) + 53 * a) := by simp only [sL_cell, ← hw]
    rw [hsp] at hret
    exact hret 35 _ dL_cell_35
  refine lv_iload_n hx hb dL_cell_0 rfl (lv_at hl 1 rfl) ?_
  refine lv_aload_n hx hb dL_cell_1 rfl (lv_at hl 0 rfl) ?_
  refine va_slen hx hb hX hbl hbA hS dL_cell_2 ?_
  refine lv_icmp_ge (tgt := 12) hx hb dL_cell_3 (by decide) (fun z1 => ?_) (fun z1 => ?_)
  · refine lv_sipush (v := 26021) hx hb dL_cell_12 (by decide) ?_
    refine lv_iload_n hx hb dL_cell_15 rfl (lv_at hl 1 rfl) ?_
    refine lv_bipush (v := 20) hx hb dL_cell_16 (by decide) ?_
    refine lv_iadd hx hb dL_cell_18 ?_
    refine lv_imul hx hb dL_cell_19 ?_
    exact J1 _ (by rw [if_pos z1])
  · refine lv_aload_n hx hb dL_cell_6 rfl (lv_at hl 0 rfl) ?_
    refine lv_iload_n hx hb dL_cell_7 rfl (lv_at hl 1 rfl) ?_
    refine va_sld hx hb hX hbl hbA hS (la_in hL h0 z1) dL_cell_8 ?_
    refine lv_goto (tgt := 20) hx hb dL_cell_9 (by decide) ?_
    exact J1 _ (by rw [if_neg z1])
