set_option maxHeartbeats 4000000 in
set_option maxRecDepth 100000 in
/-- the law, from its entry -/
theorem whole_start {p : Program} {e : Env} {s : State} {m : MethodId} {below : List Frame} {meth : Method} {c : Code} (l : Launch) (hflags : l.flags = flags0) {bs L : Nat} {xs : Nat → Int32} (hL : L ≤ 2560) (C0 : lw_At p s m meth c bs L xs) : W p l e room_1 s m #[Value.ref bs] below meth c s.heap [] 0 0 (lw_Z below #[Value.ref bs] s) (entryFrame m ([Value.ref bs] : List Value).toArray 7) := by
  obtain ⟨D, cI, cJ, I0⟩ := wl_facts l hflags C0
  obtain ⟨-, -, hr, -, -, -, -, -, hlocks, -⟩ := C0
  obtain ⟨hx, hb, hml, hts, hown, hX, hbl, hbA, hK, hN, hStr, hZ, hA, hlt⟩ := id I0
  have hS : va_S (fun q : Nat => s.heap.size ≤ q) s.heap s.heap [] := va_S.rf
  have hP : va_P D vwCl [] s.heap := fun k q h => by simp at h
  have hD : va_D (fun q : Nat => s.heap.size ≤ q) [] := ⟨fun i j p q h => by simp at h, fun k q h => by simp at h⟩
  have hl := lv_entry ([.ref bs]) (n := 7) (Nat.le_of_ble_eq_true rfl)
  rw [lg_entry_eq]
  generalize (lg_sl ([.ref bs]) ++ List.replicate (7 - (lg_sl ([.ref bs])).length) Slot.unset).toArray = ls at hl ⊢
  have hl : lv_has ls 7 [(0, .ref bs)] := hl
  have lin6 := hts (.instantiable RX6 7) (by decide +kernel)
  have liRX6 := hts (.initialized RX6) (by decide +kernel)
  have lcl8 := hts (.classLink RL 8 RX6) (by decide +kernel)
  have limX6_init := hts (.instanceMethod yX6_init) (by decide +kernel)
  have lmk57 := hts (.methodLink RL 57 yX6_init) (by decide +kernel)
  have lin7 := hts (.instantiable RX7 35) (by decide +kernel)
  have liRX7 := hts (.initialized RX7) (by decide +kernel)
  have lcl58 := hts (.classLink RL 58 RX7) (by decide +kernel)
  have limX7_init := hts (.instanceMethod yX7_init) (by decide +kernel)
  have lmk60 := hts (.methodLink RL 60 yX7_init) (by decide +kernel)
  have lalong := hts (.arrayClass .long) (by decide +kernel)
  refine va_new (ci := 6) (fs := [.null, .null, .null, .null, .null, .int 0, .int 0]) (C := RX6) (T := TX6) (N := 7) hx hb hts inlX6 tyX6 tyX6_ok hown lcl8 lin6 liRX6 hK hP hD hS hA rfl (fun j hj => by rcases (show j = 0 ∨ j = 1 ∨ j = 2 ∨ j = 3 ∨ j = 4 ∨ j = 5 ∨ j = 6 by omega) with rfl | rfl | rfl | rfl | rfl | rfl | rfl <;> rfl) (Nat.le_of_ble_eq_true rfl) (Nat.le_of_ble_eq_true rfl) dL_law_0 (fun q1 H hP hD hS => ?_)
  have hP : va_P D vwCl [(q1, c6 .null .null .null .null .null (fun _ => 0))] H := hP
  have hD : va_D (fun q : Nat => s.heap.size ≤ q) [(q1, c6 .null .null .null .null .null (fun _ => 0))] := hD
  refine lv_dup hx hb dL_law_3 rfl ?_
  refine cw_cIv (As := []) (rest := [.ref q1]) (wc := [(q1, c6 .null .null .null .null .null (fun _ => 0))]) (wr := []) ⟨hx, hb, hml, hown, hts⟩ (k6_init l D cI cJ q1 (fun _ => 0)) (cwI 0 hts gL_law_X6_init rfl rfl rfl liRX6 lmk57 limX6_init rfl (by decide +kernel) ⟨Nat.le_of_ble_eq_true rfl, Nat.le_of_ble_eq_true rfl⟩) hK hN hP hD hS hA [0] [] rfl rfl (by decide) (by decide) (by decide) rfl hl.1 rfl (Nat.le_of_ble_eq_true rfl) dL_law_4 ⟨Nat.le_of_ble_eq_true rfl, Nat.le_of_ble_eq_true rfl⟩ (fun u23 H locs hw hP hD hS => ?_)
  obtain ⟨q2, q3, q4, q5, q6, q7, q8, q9, q10, q11, q12, q13, q14, q15, q16, q17, q18, q19, q20, q21, q22⟩ := u23
  have hP : va_P D vwCl [(q1, c6 (.ref q2) (.ref q3) (.ref q6) (.ref q10) (.ref q19) (fun _ => 0)), (q2, c5 (s5_init (fun _ => 0))), (q3, c2 (.ref q2) (.ref q4) (.ref q5) (fun _ => 0)), (q4, c1 (fun _ => 0)), (q5, c1 (fun _ => 0)), (q6, c3 (.ref q7) (.ref q8) (.ref q9) (fun _ => 0)), (q7, .inl (cI, 100, .inl (fun _ => 0))), (q8, .inl (cI, 100, .inl (fun _ => 0))), (q9, .inl (cI, 100, .inl (fun _ => 0))), (q10, c4 (s4_init (fun _ => 0))), (q11, c0 (.ref q12) .null), (q12, c2 (.ref q2) (.ref q13) (.ref q14) (fun _ => 0)), (q13, c1 (fun _ => 0)), (q14, c1 (fun _ => 0)), (q15, c0 (.ref q16) (.ref q11)), (q16, c2 (.ref q2) (.ref q17) (.ref q18) (fun _ => 0)), (q17, c1 (fun _ => 0)), (q18, c1 (fun _ => 0)), (q19, c0 (.ref q20) (.ref q15)), (q20, c2 (.ref q2) (.ref q21) (.ref q22) (fun _ => 0)), (q21, c1 (fun _ => 0)), (q22, c1 (fun _ => 0))] H := hP
  have hD : va_D (fun q : Nat => s.heap.size ≤ q) [(q1, c6 (.ref q2) (.ref q3) (.ref q6) (.ref q10) (.ref q19) (fun _ => 0)), (q2, c5 (s5_init (fun _ => 0))), (q3, c2 (.ref q2) (.ref q4) (.ref q5) (fun _ => 0)), (q4, c1 (fun _ => 0)), (q5, c1 (fun _ => 0)), (q6, c3 (.ref q7) (.ref q8) (.ref q9) (fun _ => 0)), (q7, .inl (cI, 100, .inl (fun _ => 0))), (q8, .inl (cI, 100, .inl (fun _ => 0))), (q9, .inl (cI, 100, .inl (fun _ => 0))), (q10, c4 (s4_init (fun _ => 0))), (q11, c0 (.ref q12) .null), (q12, c2 (.ref q2) (.ref q13) (.ref q14) (fun _ => 0)), (q13, c1 (fun _ => 0)), (q14, c1 (fun _ => 0)), (q15, c0 (.ref q16) (.ref q11)), (q16, c2 (.ref q2) (.ref q17) (.ref q18) (fun _ => 0)), (q17, c1 (fun _ => 0)), (q18, c1 (fun _ => 0)), (q19, c0 (.ref q20) (.ref q15)), (q20, c2 (.ref q2) (.ref q21) (.ref q22) (fun _ => 0)), (q21, c1 (fun _ => 0)), (q22, c1 (fun _ => 0))] := hD
  refine lv_astore_n (lv' := [(1, .ref q1), (0, .ref bs)]) hx hb dL_law_7 rfl hl (by decide) rfl (fun ls hl => ?_)
  refine va_new (ci := 7) (fs := [.int 0, .int 0, .int 0, .int 0, .int 0, .int 0, .int 0, .int 0, .int 0, .int 0, .int 0, .int 0, .int 0, .int 0, .int 0, .int 0, .int 0, .int 0, .int 0, .int 0, .int 0, .int 0, .int 0, .int 0, .int 0, .null, .null, .null, .int 0, .null, .null, .null, .int 0, .int 0, .int 0]) (C := RX7) (T := TX7) (N := 35) hx hb hts inlX7 tyX7 tyX7_ok hown lcl58 lin7 liRX7 hK hP hD hS hA rfl (fun j hj => by rcases (show j = 0 ∨ j = 1 ∨ j = 2 ∨ j = 3 ∨ j = 4 ∨ j = 5 ∨ j = 6 ∨ j = 7 ∨ j = 8 ∨ j = 9 ∨ j = 10 ∨ j = 11 ∨ j = 12 ∨ j = 13 ∨ j = 14 ∨ j = 15 ∨ j = 16 ∨ j = 17 ∨ j = 18 ∨ j = 19 ∨ j = 20 ∨ j = 21 ∨ j = 22 ∨ j = 23 ∨ j = 24 ∨ j = 25 ∨ j = 26 ∨ j = 27 ∨ j = 28 ∨ j = 29 ∨ j = 30 ∨ j = 31 ∨ j = 32 ∨ j = 33 ∨ j = 34 by omega) with rfl | rfl | rfl | rfl | rfl | rfl | rfl | rfl | rfl | rfl | rfl | rfl | rfl | rfl | rfl | rfl | rfl | rfl | rfl | rfl | rfl | rfl | rfl | rfl | rfl | rfl | rfl | rfl | rfl | rfl | rfl | rfl | rfl | rfl | rfl <;> rfl) (Nat.le_of_ble_eq_true rfl) (Nat.le_of_ble_eq_true rfl) dL_law_8 (fun q25 H hP hD hS => ?_)
  have hP : va_P D vwCl [(q1, c6 (.ref q2) (.ref q3) (.ref q6) (.ref q10) (.ref q19) (fun _ => 0)), (q2, c5 (s5_init (fun _ => 0))), (q3, c2 (.ref q2) (.ref q4) (.ref q5) (fun _ => 0)), (q4, c1 (fun _ => 0)), (q5, c1 (fun _ => 0)), (q6, c3 (.ref q7) (.ref q8) (.ref q9) (fun _ => 0)), (q7, .inl (cI, 100, .inl (fun _ => 0))), (q8, .inl (cI, 100, .inl (fun _ => 0))), (q9, .inl (cI, 100, .inl (fun _ => 0))), (q10, c4 (s4_init (fun _ => 0))), (q11, c0 (.ref q12) .null), (q12, c2 (.ref q2) (.ref q13) (.ref q14) (fun _ => 0)), (q13, c1 (fun _ => 0)), (q14, c1 (fun _ => 0)), (q15, c0 (.ref q16) (.ref q11)), (q16, c2 (.ref q2) (.ref q17) (.ref q18) (fun _ => 0)), (q17, c1 (fun _ => 0)), (q18, c1 (fun _ => 0)), (q19, c0 (.ref q20) (.ref q15)), (q20, c2 (.ref q2) (.ref q21) (.ref q22) (fun _ => 0)), (q21, c1 (fun _ => 0)), (q22, c1 (fun _ => 0)), (q25, c7 .null .null .null .null .null .null (fun _ => 0))] H := hP
  have hD : va_D (fun q : Nat => s.heap.size ≤ q) [(q1, c6 (.ref q2) (.ref q3) (.ref q6) (.ref q10) (.ref q19) (fun _ => 0)), (q2, c5 (s5_init (fun _ => 0))), (q3, c2 (.ref q2) (.ref q4) (.ref q5) (fun _ => 0)), (q4, c1 (fun _ => 0)), (q5, c1 (fun _ => 0)), (q6, c3 (.ref q7) (.ref q8) (.ref q9) (fun _ => 0)), (q7, .inl (cI, 100, .inl (fun _ => 0))), (q8, .inl (cI, 100, .inl (fun _ => 0))), (q9, .inl (cI, 100, .inl (fun _ => 0))), (q10, c4 (s4_init (fun _ => 0))), (q11, c0 (.ref q12) .null), (q12, c2 (.ref q2) (.ref q13) (.ref q14) (fun _ => 0)), (q13, c1 (fun _ => 0)), (q14, c1 (fun _ => 0)), (q15, c0 (.ref q16) (.ref q11)), (q16, c2 (.ref q2) (.ref q17) (.ref q18) (fun _ => 0)), (q17, c1 (fun _ => 0)), (q18, c1 (fun _ => 0)), (q19, c0 (.ref q20) (.ref q15)), (q20, c2 (.ref q2) (.ref q21) (.ref q22) (fun _ => 0)), (q21, c1 (fun _ => 0)), (q22, c1 (fun _ => 0)), (q25, c7 .null .null .null .null .null .null (fun _ => 0))] := hD
  refine lv_dup hx hb dL_law_11 rfl ?_
  refine cw_cIv (As := []) (rest := [.ref q25]) (wc := [(q25, c7 .null .null .null .null .null .null (fun _ => 0))]) (wr := [(q1, c6 (.ref q2) (.ref q3) (.ref q6) (.ref q10) (.ref q19) (fun _ => 0)), (q2, c5 (s5_init (fun _ => 0))), (q3, c2 (.ref q2) (.ref q4) (.ref q5) (fun _ => 0)), (q4, c1 (fun _ => 0)), (q5, c1 (fun _ => 0)), (q6, c3 (.ref q7) (.ref q8) (.ref q9) (fun _ => 0)), (q7, .inl (cI, 100, .inl (fun _ => 0))), (q8, .inl (cI, 100, .inl (fun _ => 0))), (q9, .inl (cI, 100, .inl (fun _ => 0))), (q10, c4 (s4_init (fun _ => 0))), (q11, c0 (.ref q12) .null), (q12, c2 (.ref q2) (.ref q13) (.ref q14) (fun _ => 0)), (q13, c1 (fun _ => 0)), (q14, c1 (fun _ => 0)), (q15, c0 (.ref q16) (.ref q11)), (q16, c2 (.ref q2) (.ref q17) (.ref q18) (fun _ => 0)), (q17, c1 (fun _ => 0)), (q18, c1 (fun _ => 0)), (q19, c0 (.ref q20) (.ref q15)), (q20, c2 (.ref q2) (.ref q21) (.ref q22) (fun _ => 0)), (q21, c1 (fun _ => 0)), (q22, c1 (fun _ => 0))]) ⟨hx, hb, hml, hown, hts⟩ (k7_init l D cI cJ q25 (fun _ => 0)) (cwI 0 hts gL_law_X7_init rfl rfl rfl liRX7 lmk60 limX7_init rfl (by decide +kernel) ⟨Nat.le_of_ble_eq_true rfl, Nat.le_of_ble_eq_true rfl⟩) hK hN hP hD hS hA [22] [0, 1, 2, 3, 4, 5, 6, 7, 8, 9, 10, 11, 12, 13, 14, 15, 16, 17, 18, 19, 20, 21] rfl rfl (by decide) (by decide) (by decide) rfl hl.1 rfl (Nat.le_of_ble_eq_true rfl) dL_law_12 ⟨Nat.le_of_ble_eq_true rfl, Nat.le_of_ble_eq_true rfl⟩ (fun u32 H locs hw hP hD hS => ?_)
  obtain ⟨q26, q27, q28, q29, q30, q31⟩ := u32
  obtain ⟨v34, hv34⟩ : ∃ z : Nat → Int32, z = (s7_init (fun _ => 0)) := ⟨_, rfl⟩
  have hP : va_P D vwCl [(q1, c6 (.ref q2) (.ref q3) (.ref q6) (.ref q10) (.ref q19) (fun _ => 0)), (q2, c5 (s5_init (fun _ => 0))), (q3, c2 (.ref q2) (.ref q4) (.ref q5) (fun _ => 0)), (q4, c1 (fun _ => 0)), (q5, c1 (fun _ => 0)), (q6, c3 (.ref q7) (.ref q8) (.ref q9) (fun _ => 0)), (q7, .inl (cI, 100, .inl (fun _ => 0))), (q8, .inl (cI, 100, .inl (fun _ => 0))), (q9, .inl (cI, 100, .inl (fun _ => 0))), (q10, c4 (s4_init (fun _ => 0))), (q11, c0 (.ref q12) .null), (q12, c2 (.ref q2) (.ref q13) (.ref q14) (fun _ => 0)), (q13, c1 (fun _ => 0)), (q14, c1 (fun _ => 0)), (q15, c0 (.ref q16) (.ref q11)), (q16, c2 (.ref q2) (.ref q17) (.ref q18) (fun _ => 0)), (q17, c1 (fun _ => 0)), (q18, c1 (fun _ => 0)), (q19, c0 (.ref q20) (.ref q15)), (q20, c2 (.ref q2) (.ref q21) (.ref q22) (fun _ => 0)), (q21, c1 (fun _ => 0)), (q22, c1 (fun _ => 0)), (q25, c7 (.ref q26) (.ref q27) (.ref q28) (.ref q29) (.ref q30) (.ref q31) v34), (q26, .inl (cI, 100, .inl (fun _ => 0))), (q27, .inl (cI, 100, .inl (fun _ => 0))), (q28, .inl (cI, 100, .inl (fun _ => 0))), (q29, .inl (cI, 3, .inl (fun _ => 0))), (q30, .inl (cJ, 512, .inr (.inl (fun _ => 0)))), (q31, .inl (cJ, 512, .inr (.inl (fun _ => 0))))] H := by rw [hv34]; exact hP
  have hD : va_D (fun q : Nat => s.heap.size ≤ q) [(q1, c6 (.ref q2) (.ref q3) (.ref q6) (.ref q10) (.ref q19) (fun _ => 0)), (q2, c5 (s5_init (fun _ => 0))), (q3, c2 (.ref q2) (.ref q4) (.ref q5) (fun _ => 0)), (q4, c1 (fun _ => 0)), (q5, c1 (fun _ => 0)), (q6, c3 (.ref q7) (.ref q8) (.ref q9) (fun _ => 0)), (q7, .inl (cI, 100, .inl (fun _ => 0))), (q8, .inl (cI, 100, .inl (fun _ => 0))), (q9, .inl (cI, 100, .inl (fun _ => 0))), (q10, c4 (s4_init (fun _ => 0))), (q11, c0 (.ref q12) .null), (q12, c2 (.ref q2) (.ref q13) (.ref q14) (fun _ => 0)), (q13, c1 (fun _ => 0)), (q14, c1 (fun _ => 0)), (q15, c0 (.ref q16) (.ref q11)), (q16, c2 (.ref q2) (.ref q17) (.ref q18) (fun _ => 0)), (q17, c1 (fun _ => 0)), (q18, c1 (fun _ => 0)), (q19, c0 (.ref q20) (.ref q15)), (q20, c2 (.ref q2) (.ref q21) (.ref q22) (fun _ => 0)), (q21, c1 (fun _ => 0)), (q22, c1 (fun _ => 0)), (q25, c7 (.ref q26) (.ref q27) (.ref q28) (.ref q29) (.ref q30) (.ref q31) v34), (q26, .inl (cI, 100, .inl (fun _ => 0))), (q27, .inl (cI, 100, .inl (fun _ => 0))), (q28, .inl (cI, 100, .inl (fun _ => 0))), (q29, .inl (cI, 3, .inl (fun _ => 0))), (q30, .inl (cJ, 512, .inr (.inl (fun _ => 0)))), (q31, .inl (cJ, 512, .inr (.inl (fun _ => 0))))] := by rw [hv34]; exact hD
  refine lv_astore_n (lv' := [(2, .ref q25), (1, .ref q1), (0, .ref bs)]) hx hb dL_law_15 rfl hl (by decide) rfl (fun ls hl => ?_)
  refine lv_iconst (v := 1) hx hb dL_law_16 (by decide) ?_
  refine cw_newaJ hx hb lalong hK hP hD hS hA (N := 1) (by decide) (by decide) (by decide) (Nat.le_of_ble_eq_true rfl) (Nat.le_of_ble_eq_true rfl) dL_law_17 (fun q35 H hP hD hS => ?_)
  have hP : va_P D vwCl [(q1, c6 (.ref q2) (.ref q3) (.ref q6) (.ref q10) (.ref q19) (fun _ => 0)), (q2, c5 (s5_init (fun _ => 0))), (q3, c2 (.ref q2) (.ref q4) (.ref q5) (fun _ => 0)), (q4, c1 (fun _ => 0)), (q5, c1 (fun _ => 0)), (q6, c3 (.ref q7) (.ref q8) (.ref q9) (fun _ => 0)), (q7, .inl (cI, 100, .inl (fun _ => 0))), (q8, .inl (cI, 100, .inl (fun _ => 0))), (q9, .inl (cI, 100, .inl (fun _ => 0))), (q10, c4 (s4_init (fun _ => 0))), (q11, c0 (.ref q12) .null), (q12, c2 (.ref q2) (.ref q13) (.ref q14) (fun _ => 0)), (q13, c1 (fun _ => 0)), (q14, c1 (fun _ => 0)), (q15, c0 (.ref q16) (.ref q11)), (q16, c2 (.ref q2) (.ref q17) (.ref q18) (fun _ => 0)), (q17, c1 (fun _ => 0)), (q18, c1 (fun _ => 0)), (q19, c0 (.ref q20) (.ref q15)), (q20, c2 (.ref q2) (.ref q21) (.ref q22) (fun _ => 0)), (q21, c1 (fun _ => 0)), (q22, c1 (fun _ => 0)), (q25, c7 (.ref q26) (.ref q27) (.ref q28) (.ref q29) (.ref q30) (.ref q31) v34), (q26, .inl (cI, 100, .inl (fun _ => 0))), (q27, .inl (cI, 100, .inl (fun _ => 0))), (q28, .inl (cI, 100, .inl (fun _ => 0))), (q29, .inl (cI, 3, .inl (fun _ => 0))), (q30, .inl (cJ, 512, .inr (.inl (fun _ => 0)))), (q31, .inl (cJ, 512, .inr (.inl (fun _ => 0)))), (q35, .inl (cJ, 1, .inr (.inl (fun _ => 0))))] H := hP
  have hD : va_D (fun q : Nat => s.heap.size ≤ q) [(q1, c6 (.ref q2) (.ref q3) (.ref q6) (.ref q10) (.ref q19) (fun _ => 0)), (q2, c5 (s5_init (fun _ => 0))), (q3, c2 (.ref q2) (.ref q4) (.ref q5) (fun _ => 0)), (q4, c1 (fun _ => 0)), (q5, c1 (fun _ => 0)), (q6, c3 (.ref q7) (.ref q8) (.ref q9) (fun _ => 0)), (q7, .inl (cI, 100, .inl (fun _ => 0))), (q8, .inl (cI, 100, .inl (fun _ => 0))), (q9, .inl (cI, 100, .inl (fun _ => 0))), (q10, c4 (s4_init (fun _ => 0))), (q11, c0 (.ref q12) .null), (q12, c2 (.ref q2) (.ref q13) (.ref q14) (fun _ => 0)), (q13, c1 (fun _ => 0)), (q14, c1 (fun _ => 0)), (q15, c0 (.ref q16) (.ref q11)), (q16, c2 (.ref q2) (.ref q17) (.ref q18) (fun _ => 0)), (q17, c1 (fun _ => 0)), (q18, c1 (fun _ => 0)), (q19, c0 (.ref q20) (.ref q15)), (q20, c2 (.ref q2) (.ref q21) (.ref q22) (fun _ => 0)), (q21, c1 (fun _ => 0)), (q22, c1 (fun _ => 0)), (q25, c7 (.ref q26) (.ref q27) (.ref q28) (.ref q29) (.ref q30) (.ref q31) v34), (q26, .inl (cI, 100, .inl (fun _ => 0))), (q27, .inl (cI, 100, .inl (fun _ => 0))), (q28, .inl (cI, 100, .inl (fun _ => 0))), (q29, .inl (cI, 3, .inl (fun _ => 0))), (q30, .inl (cJ, 512, .inr (.inl (fun _ => 0)))), (q31, .inl (cJ, 512, .inr (.inl (fun _ => 0)))), (q35, .inl (cJ, 1, .inr (.inl (fun _ => 0))))] := hD
  refine lv_astore_n (lv' := [(3, .ref q35), (2, .ref q25), (1, .ref q1), (0, .ref bs)]) hx hb dL_law_19 rfl hl (by decide) rfl (fun ls hl => ?_)
  refine lv_iconst (v := 0) hx hb dL_law_20 (by decide) ?_
  refine lv_istore (lv' := [(4, .int 0), (3, .ref q35), (2, .ref q25), (1, .ref q1), (0, .ref bs)]) hx hb dL_law_21 hl (by decide) rfl (fun ls hl => ?_)
  refine W.widen (k := 40) (n := 2000) (by omega) (by omega) ?_
  exact wl_loop I0 (fun _ h => h) hr hlocks hL 512 0 0 40 2000 (by omega) (by omega) (by omega) (by omega) (by omega) (fun _ => 0) (fun _ => 0) (fun _ => 0) (fun _ => 0) (s5_init (fun _ => 0)) (fun _ => 0) (fun _ => 0) (fun _ => 0) (fun _ => 0) (s4_init (fun _ => 0)) (fun _ => 0) (fun _ => 0) (fun _ => 0) (fun _ => 0) (fun _ => 0) (fun _ => 0) (fun _ => 0) (fun _ => 0) (fun _ => 0) v34 (fun _ => 0) (fun _ => 0) (fun _ => 0) (fun _ => 0) (fun _ => 0) (fun _ => 0) (fun _ => 0) (by simp only [hv34]; exact pl_start) H locs (hP.sub [0, 1, 2, 3, 4, 5, 6, 7, 8, 9, 18, 19, 20, 21, 14, 15, 16, 17, 10, 11, 12, 13, 22, 23, 24, 25, 26, 27, 28, 29] rfl) (hD.sub [0, 1, 2, 3, 4, 5, 6, 7, 8, 9, 18, 19, 20, 21, 14, 15, 16, 17, 10, 11, 12, 13, 22, 23, 24, 25, 26, 27, 28, 29] (by decide) rfl) hS ls (lv_sub hl [4, 3, 2, 1, 0] rfl)
set_option maxHeartbeats 4000000 in
theorem lw_walk (l : Launch) (hflags : l.flags = flags0) (b : Addr) (xs : List Int32) : MetFree l x (headSpec (Jvm.Cond.code x code maxLocals ret :: tables_1) room_1) (lw_P b xs) (fun _ _ _ _ _ => True) lw_Q := by
  refine MetFree.of_bodyS (code := code) (maxLocals := maxLocals) (ret := ret) (by decide) ?_ ?_
  · intro args s m h hn
    obtain ⟨meth, c, h1, h2, h3, h4, h5, h6, -, -⟩ := Cond.code_spec hn (atoms_spec (ws := Jvm.Cond.code x code maxLocals ret :: tables_1) h _ List.mem_cons_self)
    exact ⟨meth, c, h1, h2, h3, h4, h5, h6⟩
  · intro p e s m args below meth c s₁ B hml0 hP _
    obtain ⟨rfl, hx, hbd, hgv⟩ := hP
    obtain ⟨scr, harrAt, hlist, hof, hsmall⟩ := hx
    obtain ⟨hcb, hkn, -, -⟩ := State.arrayAt?_spec harrAt
    have hown : s.vm.findClass R_law = some m.cls := findClass_of_methodNamed B.named
    have hts0 : ∀ c ∈ (Jvm.Cond.code x code maxLocals ret :: tables_1), c.before #[Value.ref b] s = true := atoms_spec (ws := Jvm.Cond.code x code maxLocals ret :: tables_1) B.pre
    have hts : ∀ w ∈ lw_tbl, w.before #[Value.ref b] s = true := k2_hts_sels lw_privs (fun w hw => hts0 w (List.mem_cons_of_mem _ hw)) lw_privs_ok
    have hml : c.maxLocals = 7 := B.maxLocals_eq (hts0 _ List.mem_cons_self)
    have X₀ : Stand p l e room_1 s m #[Value.ref b] below meth c s₁ [] 0 0 := Stand.of_body B
    have hh0 : s₁.heap = s.heap := by rw [B.state]; rfl
    have hsz : scr.slots.size = xs.length := by rw [← Array.length_toList, hlist, List.length_map]
    have hval : ∀ j : Nat, j < xs.length → scr.slots[j]? = some (.int (xs.getD j 0)) := fun j hj => by
      rw [← Array.getElem?_toList, hlist]
      simp [hj]
    have hbl : b < s.heap.size := (Array.getElem?_eq_some_iff.mp hcb).1
    have hX : va_X b xs.length (fun j => xs.getD j 0) s s.heap := ⟨scr, hcb, hof, hkn, hsz, hval⟩
    have K : W p l e room_1 s m #[Value.ref b] below meth c s₁.heap [] 0 0 (lw_Z below #[Value.ref b] s) (entryFrame m ([Value.ref b] : List Value).toArray 7) := by
      rw [hh0]
      exact whole_start l hflags hbd ⟨B.exec, B.bytes, B.returns, hml, hown, hts, hX, hbl, B.notSynchronized, hgv⟩
    obtain ⟨t, a1, o, b1, b2, b3⟩ := K s₁ rfl X₀
    exact ⟨t, o, a1, b1, b2, b3⟩
theorem lw_pre_spec {args : Array Value} {s : State} (h : (Jvm.Cond.and given_1 narrow_1).before args s = true) (hr : rest_1_c.before args s = true) : ∃ (b : Addr) (xs : List Int32), lw_P b xs args s := by
  have hs := flat_of_before _ h
  have hq := flat_of_before _ hr
  have hc : (Cond.count 1).before args s = true := hs _ (by decide +kernel)
  have harr : (Cond.arrayOf (.arg 0) .int).before args s = true := hs _ (by decide +kernel)
  have hle : (Cond.le (.length (.arg 0)) (.int 2560)).before args s = true := hs _ (by decide +kernel)
  have hlen : (Cond.isInt (.length (.arg 0))).before args s = true := hq _ (by decide +kernel)
  have hall : (Cond.all (.arg 0) (.isInt (.elem (.arg 0) (.index 0)))).before args s = true := hq _ (by decide +kernel)
  obtain ⟨b, xs, hb, hx⟩ := State.ints_of_pre rfl harr hlen hall
  have hsm : xs.length < 2 ^ 31 := hx.choose_spec.2.2.2
  have hev : (Term.length (.arg 0)).eval args s none [] s = some (.int xs.length.toInt32) := hx.length_eval hb
  have hv := Cond.le_ints hev (show (Term.int 2560).eval args s none [] s = some (.int 2560) from rfl)
  have hd : xs.length.toInt32 ≤ 2560 := by
    simpa [Cond.before, Cond.holds, hv] using hle
  have hN : xs.length ≤ 2560 := (Int32.ofNat_le_ofNat hsm (by decide)).mp (show Int32.ofNat xs.length ≤ Int32.ofNat 2560 from hd)
  exact ⟨b, xs, Cond.one_arg hc (show args[0]? = some (.ref b) from hb), hx, hN, h⟩
theorem lw_comes (l : Launch) (hflags : l.flags = flags0) : Comes l x (Jvm.Cond.code x code maxLocals ret :: tables_1) room_1 (fun tb e args s => Calls_1 tb e args s ∧ rest_1 tb e args s ∧ Pre_1 tb e args s)
    (fun _ _ args s o t => lw_Q args s o t) := by
  intro p e ha hc hk s m args below hf hfit hheap happ hpre
  obtain ⟨b, xs, hP⟩ := lw_pre_spec hpre.2.2 hpre.2.1
  obtain ⟨k, o, h1, h2, h3, hQ⟩ := lw_walk l hflags b xs p e ha hc hk s m args below hf ((Spec.applies_iff_loose hf).mp happ).1 hP trivial
  exact ⟨k, o, h1, h2, h3, hQ⟩
theorem lw_frame {s t : State} {o : Outcome} {args : Array Value} (h : Framed s o t [] 601024 7293034) :
    Framed s o t (fieldLocs frame_1_writes args s ++ arrayLocs frame_1_arrays args s ++ staticLocs frame_1_statics s) 601024 7293034 := h
theorem lw_limb (L : Cond) (hL : ∀ (args : Array Value) (s t : State), L.after args s (.returned (some (.int 1))) t = true) :
    ArmFor flags0 classFile x code maxLocals ret World_1 tables_1 room_1 Calls_1 rest_1 Pre_1
      (fun tb e a s o t => postC L tb e a s o t ∧ Framed s o t (fieldLocs frame_1_writes a s ++ arrayLocs frame_1_arrays a s ++ staticLocs frame_1_statics s) 601024 7293034) := by
  intro l hflags _ _ p e ha hc hk s m args below hf hfit hheap happ hpre
  obtain ⟨k, o, h1, h2, h3, rfl, hF⟩ := lw_comes l hflags p e ha hc hk s m args below hf hfit hheap happ hpre
  exact ⟨k, _, h1, h2, h3, hL args s _, lw_frame hF⟩
theorem i_vc : Claimed_1_1 ∧ Claimed_1_2 := ⟨lw_limb limb_1_1 (fun args s t => by simp [limb_1_1, Cond.after, Cond.holds, Cond.value]), lw_limb limb_1_2 (fun args s t => Cond.after_iff.mpr (by
  first | (rw [show limb_1_2 = Cond.eq .result (.int 1) from rfl, Cond.eq_ints (x := 1) (y := 1) rfl rfl]; simp; done) | (simp [limb_1_2, Cond.value, Term.eval]; done)))⟩

