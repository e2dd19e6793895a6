theorem wl_str {args : Array Value} {s : State} {own tx : String} {k : Nat} (h : (Cond.stringRef own k tx).before args s = true) : ∃ sa : Nat, vk_R own k tx sa s := by
  have hcur : ∃ cur, s.vm.findClass own = some cur := by
    have h1 := h
    simp only [Cond.before, Cond.holds, Cond.value] at h1
    cases hc : s.vm.findClass own with
    | none => simp [hc] at h1
    | some cur => exact ⟨cur, rfl⟩
  obtain ⟨cur, hcur⟩ := hcur
  obtain ⟨k9, cf, i, a, -, -, -, -, -, hev⟩ := Cond.stringRef_spec hcur h
  exact ⟨a, vk_R.of (A := args) h hev⟩
theorem wl_nest : ∀ w ∈ cw_nest, w ∈ lw_tbl := by decide +kernel
theorem wl_strs : ∀ q ∈ cw_str, Cond.stringRef q.1 q.2.1 q.2.2 ∈ lw_tbl := by decide +kernel
set_option maxHeartbeats 4000000 in
theorem wl_facts {p : Program} {s : State} {m : MethodId} {meth : Method} {c : Code} (l : Launch) (hflags : l.flags = flags0) {b L : Nat} {xs : Nat → Int32} (hL : L ≤ 260) (C0 : lw_At p s m meth c b L xs) : ∃ (D : va_G) (cI cJ : ClassId), wl_In p l s m c b L xs D cI cJ (fun q : Nat => s.heap.size ≤ q) := by
  obtain ⟨hx, hb, hr, hml, hown, hts, hX, hbl, hlocks, hgv⟩ := C0
  have hts2 : ∀ w ∈ wsL_law, w.before #[Value.ref b] s = true := fun w hw => hts w (wsL_law_in w hw)
  have hfl := flat_of_before _ hgv
  obtain ⟨c0, iS0, hKn0⟩ := u_known (C := RX0) (T := TX0) (N := 2) (n := 2) hts2 inlX0 (hts (.instantiable RX0 2) (by decide +kernel))
  obtain ⟨c1, iS1, hKn1⟩ := u_known (C := RX1) (T := TX1) (N := 2) (n := 2) hts2 inlX1 (hts (.instantiable RX1 2) (by decide +kernel))
  obtain ⟨c2, iS2, hKn2⟩ := u_known (C := RX2) (T := TX2) (N := 11) (n := 11) hts2 inlX2 (hts (.instantiable RX2 11) (by decide +kernel))
  obtain ⟨c3, iS3, hKn3⟩ := u_known (C := RX3) (T := TX3) (N := 6) (n := 6) hts2 inlX3 (hts (.instantiable RX3 6) (by decide +kernel))
  obtain ⟨c4, iS4, hKn4⟩ := u_known (C := RX4) (T := TX4) (N := 3) (n := 3) hts2 inlX4 (hts (.instantiable RX4 3) (by decide +kernel))
  obtain ⟨c5, iS5, hKn5⟩ := u_known (C := RX5) (T := TX5) (N := 11) (n := 11) hts2 inlX5 (hts (.instantiable RX5 11) (by decide +kernel))
  obtain ⟨c6, iS6, hKn6⟩ := u_known (C := RX6) (T := TX6) (N := 7) (n := 7) hts2 inlX6 (hts (.instantiable RX6 7) (by decide +kernel))
  obtain ⟨dC, dI, hKc⟩ : ∃ (dC : Nat → ClassId) (dI : Nat → Nat → Nat), ∀ (k : Nat) (q : vw_C), vwCl[k]? = some q → u_Kn s q.1 q.2.1 q.2.2 (dC k) (dI k) := by
    refine ⟨fun k => if k = 0 then c0 else if k = 1 then c1 else if k = 2 then c2 else if k = 3 then c3 else if k = 4 then c4 else if k = 5 then c5 else c6, fun k => if k = 0 then iS0 else if k = 1 then iS1 else if k = 2 then iS2 else if k = 3 then iS3 else if k = 4 then iS4 else if k = 5 then iS5 else iS6, ?_⟩
    intro k q hq
    match k, hq with
    | 0, hq => cases hq; exact hKn0
    | 1, hq => cases hq; exact hKn1
    | 2, hq => cases hq; exact hKn2
    | 3, hq => cases hq; exact hKn3
    | 4, hq => cases hq; exact hKn4
    | 5, hq => cases hq; exact hKn5
    | 6, hq => cases hq; exact hKn6
    | k + 7, hq => simp [vwCl] at hq
  obtain ⟨cI, kI, compI, f1, f2, f3⟩ := Cond.arrayClass_spec (hts (.arrayClass .int) (by decide +kernel))
  have hI : ArrOfT s cI .int := fun n z => ⟨(fun k h => by cases h), kI, f2, compI, f3⟩
  have hK : va_K (dC, dI) vwCl [(cI, .int)] s := by
    refine ⟨hKc, fun k q h => ?_⟩
    match k, h with
    | 0, h => cases h; exact ⟨hI, f1⟩
    | k + 1, h => simp at h
  have hN : cw_N s := fun w hw => va_Nw.of (cw_isN_tab (cw_nest_ok w hw)) (hts w (wl_nest w hw))
  have hStr : cw_Str s := ⟨fun q hq => wl_str (hts _ (wl_strs q hq)), va_Nc.of (hfl (.not (.castable "java/lang/IllegalStateException" "java/lang/IllegalArgumentException")) (by decide +kernel)), va_Nc.of (hfl (.not (.castable "java/lang/IllegalArgumentException" "java/lang/IndexOutOfBoundsException")) (by decide +kernel)), va_Nc.of (hfl (.not (.castable "java/lang/IllegalStateException" "java/lang/IndexOutOfBoundsException")) (by decide +kernel))⟩
  have hnA : ∀ a : Nat, a < s.heap.size → ¬ (fun q : Nat => s.heap.size ≤ q) a := fun a h => Nat.not_le.mpr h
  have hini := hts (.initialized Bundle.tN) (by decide +kernel)
  have hZ : cw_Z (fun q : Nat => s.heap.size ≤ q) s s.heap := ⟨vx_Zqof (hts (.laysStatic Bundle.tN "UNASSIGNED_STACK" Bundle.steD) (by decide +kernel)) hini (hfl (.isRef (.static Bundle.tN "UNASSIGNED_STACK" Bundle.steD)) (by decide +kernel)) hnA, vx_Zqof (hts (.laysStatic Bundle.tN "SUPPRESSED_SENTINEL" Bundle.listD) (by decide +kernel)) hini (hfl (.isRef (.static Bundle.tN "SUPPRESSED_SENTINEL" Bundle.listD)) (by decide +kernel)) hnA⟩
  have hlt : l.stackTraces = false := by
    unfold Launch.stackTraces
    rw [hflags]
    decide +kernel
  exact ⟨(dC, dI), cI, cI, hx, hb, hml, hts2, hown, hX, hbl, Nat.not_le.mpr hbl, hK, hN, hStr, hZ, fun _ h => h, hlt, by omega⟩
section WLL
variable {p : Program} {l : Launch} {e : Env} {s : State} {m : MethodId} {below : List Frame} {meth : Method} {c : Code} {A : Nat → Prop} {D : va_G} {cI cJ : ClassId} {bs L : Nat} {sc : Nat → Int32} {xb xs xf xp xq xh ja jb jc xr ya yf yp yq za zf zp zq ta tf tp tq ub us uf up uq uh ka kb kc ur va vf vp vq wa wf wp wq sa sf sp sq : Nat}
theorem wl_2k : ∀ k : Nat, k < 70 → 0 ≤ (2 * nI k).toInt ∧ 0 ≤ ((2 * nI k) + 1).toInt := by decide +kernel
set_option maxHeartbeats 4000000 in
set_option maxRecDepth 100000 in
theorem wl_loop (I0 : wl_In p l s m c bs L sc D cI cJ A) (hr : meth.sig.returnType = ret) (hlocks : meth.locks = false) (hAge : ∀ q : Nat, A q → s.heap.size ≤ q) : ∀ (n k T ck sk : Nat), k + n = 70 → T ≤ 41 * k → ck ≤ 60 + 13 * k → sk ≤ 2000 + 78 * k → wl_G p l e s m below meth c A (lw_Z below #[Value.ref bs] s) D cI cJ bs xb xs xf xp xq xh ja jb jc xr ya yf yp yq za zf zp zq ta tf tp tq ub us uf up uq uh ka kb kc ur va vf vp vq wa wf wp wq sa sf sp sq [(0, .ref bs), (1, .ref xb), (2, .ref ub), (3, .int 1), (4, .int (nI k))] [] T ck sk 74 := by
  intro n
  induction n with
  | zero =>
    intro k T ck sk h1 h2 h3 h4
    have hk : k = 70 := by omega
    exact wl_bE I0 (by omega) (by omega) (by omega) (by rw [hk]; decide) hr hlocks hAge
  | succ n ih =>
    intro k T ck sk h1 h2 h3 h4
    obtain ⟨i1, i2⟩ := wl_2k k (by omega)
    refine wl_b1 I0 (by omega) (by omega) (by omega) (nI_ge (b := 70) (by omega) (by decide)) i1 i2 (wl_b2 I0 (by omega) (by omega) (by omega) ?_)
    obtain ⟨hx, hb, -⟩ := id I0
    intro b st f ep eq hh t1 t2 t3 rs g gp gq gz gzp gzq gt gtp gtq dh dhp dhq dhz dhzp dhzq dht dhtp dhtq hJ H locs hP hD hS ls hl
    refine lv_iinc (v := (nI k + 1)) (lv' := [(4, .int (nI k + 1)), (0, .ref bs), (1, .ref xb), (2, .ref ub), (3, .int 1)]) hx hb dL_law_240 hl (k := 4) rfl rfl (by decide) rfl (fun ls hl => ?_)
    refine lv_goto (tgt := 74) hx hb dL_law_243 (by decide) ?_
    rw [nI_1] at hl
    exact ih (k + 1) (T + 40 + 1) (ck + 4 + 9) (sk + 24 + 54) (by omega) (by omega) (by omega) (by omega) b st f ep eq hh t1 t2 t3 rs g gp gq gz gzp gzq gt gtp gtq dh dhp dhq dhz dhzp dhzq dht dhtp dhtq hJ H locs hP hD hS ls (lv_sub hl [1, 2, 3, 4, 0] rfl)
end WLL
