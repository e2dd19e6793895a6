/-! THE CLAIM OUT OF ONE WALK OF THE LAW'S BODY. Your part is whole_start (and what it stands on); all else here is the same for every law, but numbers. -/
def R_law : String := "BurnerlineLaw"
def lw_P (b : Addr) (xs : List Int32) (args : Array Value) (s : State) : Prop := args = #[.ref b] ∧ s.IntsAt b xs ∧ xs.length ≤ 2560 ∧ (Jvm.Cond.and given_1 narrow_1).before args s = true
def lw_Q (_ : Array Value) (s : State) (o : Outcome) (t : State) : Prop := o = .returned (some (.int 1)) ∧ Framed s o t [] 601024 7293034
def lw_Z (below : List Frame) (a : Array Value) (s : State) : State → Prop := fun t => ∃ o, t.status = .running ∧ Ended t below o ∧ lw_Q a s o t
/-- the law's own end, with 1 on the stack, nothing written that was there before, its room as the claim has it -/
theorem lw_ret {p : Program} {l : Launch} {e : Env} {s : State} {m : MethodId} {below : List Frame} {meth : Method} {c : Code} {b : Nat} (hx : p.tables.exec = Jvm.exec) (hb : c.code = code) (hr : meth.sig.returnType = ret) (hlocks : meth.locks = false) {pc : Nat} {H : Heap} {ls : Array Slot} (hdg : decode code pc = .ok (.ireturn, 1)) : W p l e room_1 s m #[Value.ref b] below meth c H [] 601024 7293034 (lw_Z below #[Value.ref b] s) (F0 m pc ls [.int 1]) := by
  intro T hT X
  obtain ⟨fs, hret, hrun, hended, hW, hframe⟩ := X.leave (v := some (.int 1)) (hlocks := hlocks) (fun h => by rw [hr] at h; cases h)
  have hmeth' : T.vm.method? m = some meth := X.method'
  refine ⟨T.setFrames fs, ?_, .returned (some (.int 1)), hrun, hended, rfl, ⟨_, rfl⟩, hW, hframe⟩
  jvm_step X.here [X.here.top, hx, hb, hdg, hmeth', hr, ret, narrow_b1]
  (try refine ⟨rfl, ?_⟩); (try refine ⟨rfl, ?_⟩)
  first | (intro acts; rw [hret _ acts rfl rfl rfl]) | rw [hret _ _ rfl rfl rfl]
  exact Steps.refl _
/-- what holds at the law's entry: the machine, the code, the tables' words (any of lw_tbl by 'hts w (by decide +kernel)'), the script of L ints xs at the cell b, what the Statement gives of the start (any of its parts by flat_of_before) -/
def lw_At (p : Program) (s : State) (m : MethodId) (meth : Method) (c : Code) (b L : Nat) (xs : Nat → Int32) : Prop :=
  p.tables.exec = Jvm.exec ∧ c.code = code ∧ meth.sig.returnType = ret ∧ c.maxLocals = 7 ∧ s.vm.findClass R_law = some m.cls ∧ (∀ w ∈ lw_tbl, w.before #[Value.ref b] s = true) ∧ va_X b L xs s s.heap ∧ b < s.heap.size ∧ meth.locks = false ∧ (Jvm.Cond.and given_1 narrow_1).before #[Value.ref b] s = true
theorem wl_str {args : Array Value} {s : State} {own tx : String} {k : Nat} (h : (Cond.stringRef own k tx).before args s = true) : ∃ sa : Nat, vk_R own k tx sa s := by
  have hcur : ∃ cur, s.vm.findClass own = some cur := by
    have h1 := h
    simp only [Cond.before, Cond.holds, Cond.value] at h1
    cases hc : s.vm.findClass own with
    | none => simp [hc] at h1
    | some cur => exact ⟨cur, rfl⟩
  obtain ⟨cur, hcur⟩ := hcur
  obtain ⟨k9, cf, i, a, -, -, -, -, -, hev⟩ := Cond.stringRef_spec hcur h
  exact ⟨a, vk_R.of (A := args) h hev⟩
theorem wl_nest : ∀ w ∈ cw_nest, w ∈ lw_tbl := by decide +kernel
theorem wl_strs : ∀ q ∈ cw_str, Cond.stringRef q.1 q.2.1 q.2.2 ∈ lw_tbl := by decide +kernel
set_option maxHeartbeats 4000000 in
theorem wl_facts {p : Program} {s : State} {m : MethodId} {meth : Method} {c : Code} (l : Launch) (hflags : l.flags = flags0) {b L : Nat} {xs : Nat → Int32} (C0 : lw_At p s m meth c b L xs) : ∃ (D : va_G) (cI cJ : ClassId), wl_In p l s m c b L xs D cI cJ (fun q : Nat => s.heap.size ≤ q) := by
  obtain ⟨hx, hb, hr, hml, hown, hts, hX, hbl, hlocks, hgv⟩ := C0
  have hts2 : ∀ w ∈ wsL_law, w.before #[Value.ref b] s = true := fun w hw => hts w (wsL_law_in w hw)
  have hfl := flat_of_before _ hgv
  obtain ⟨c0, iS0, hKn0⟩ := u_known (C := RX0) (T := TX0) (N := 2) (n := 2) hts2 inlX0 (hts (.instantiable RX0 2) (by decide +kernel))
  obtain ⟨c1, iS1, hKn1⟩ := u_known (C := RX1) (T := TX1) (N := 2) (n := 2) hts2 inlX1 (hts (.instantiable RX1 2) (by decide +kernel))
  obtain ⟨c2, iS2, hKn2⟩ := u_known (C := RX2) (T := TX2) (N := 11) (n := 11) hts2 inlX2 (hts (.instantiable RX2 11) (by decide +kernel))
  obtain ⟨c3, iS3, hKn3⟩ := u_known (C := RX3) (T := TX3) (N := 6) (n := 6) hts2 inlX3 (hts (.instantiable RX3 6) (by decide +kernel))
  obtain ⟨c4, iS4, hKn4⟩ := u_known (C := RX4) (T := TX4) (N := 3) (n := 3) hts2 inlX4 (hts (.instantiable RX4 3) (by decide +kernel))
  obtain ⟨c5, iS5, hKn5⟩ := u_known (C := RX5) (T := TX5) (N := 11) (n := 11) hts2 inlX5 (hts (.instantiable RX5 11) (by decide +kernel))
  obtain ⟨c6, iS6, hKn6⟩ := u_known (C := RX6) (T := TX6) (N := 7) (n := 7) hts2 inlX6 (hts (.instantiable RX6 7) (by decide +kernel))
  obtain ⟨c7, iS7, hKn7⟩ := u_known (C := RX7) (T := TX7) (N := 35) (n := 35) hts2 inlX7 (hts (.instantiable RX7 35) (by decide +kernel))
  obtain ⟨dC, dI, hKc⟩ : ∃ (dC : Nat → ClassId) (dI : Nat → Nat → Nat), ∀ (k : Nat) (q : vw_C), vwCl[k]? = some q → u_Kn s q.1 q.2.1 q.2.2 (dC k) (dI k) := by
    refine ⟨fun k => if k = 0 then c0 else if k = 1 then c1 else if k = 2 then c2 else if k = 3 then c3 else if k = 4 then c4 else if k = 5 then c5 else if k = 6 then c6 else c7, fun k => if k = 0 then iS0 else if k = 1 then iS1 else if k = 2 then iS2 else if k = 3 then iS3 else if k = 4 then iS4 else if k = 5 then iS5 else if k = 6 then iS6 else iS7, ?_⟩
    intro k q hq
    match k, hq with
    | 0, hq => cases hq; exact hKn0
    | 1, hq => cases hq; exact hKn1
    | 2, hq => cases hq; exact hKn2
    | 3, hq => cases hq; exact hKn3
    | 4, hq => cases hq; exact hKn4
    | 5, hq => cases hq; exact hKn5
    | 6, hq => cases hq; exact hKn6
    | 7, hq => cases hq; exact hKn7
    | k + 8, hq => simp [vwCl] at hq
  obtain ⟨cI, kI, compI, f1, f2, f3⟩ := Cond.arrayClass_spec (hts (.arrayClass .int) (by decide +kernel))
  obtain ⟨cJ, kJ, compJ, g1, g2, g3⟩ := Cond.arrayClass_spec (hts (.arrayClass .long) (by decide +kernel))
  have hI : ArrOfT s cI .int := fun n z => ⟨(fun k h => by cases h), kI, f2, compI, f3⟩
  have hJ : ArrOfT s cJ .long := fun n z => ⟨(fun k h => by cases h), kJ, g2, compJ, g3⟩
  have hK : va_K (dC, dI) vwCl [(cI, .int), (cJ, .long)] s := by
    refine ⟨hKc, fun k q h => ?_⟩
    match k, h with
    | 0, h => cases h; exact ⟨hI, f1⟩
    | 1, h => cases h; exact ⟨hJ, g1⟩
    | k + 2, h => simp at h
  have hN : cw_N s := fun w hw => va_Nw.of (cw_isN_tab (cw_nest_ok w hw)) (hts w (wl_nest w hw))
  have hStr : cw_Str s := ⟨fun q hq => wl_str (hts _ (wl_strs q hq)), va_Nc.of (hfl (.not (.castable "java/lang/IllegalStateException" "java/lang/IllegalArgumentException")) (by decide +kernel))⟩
  have hnA : ∀ a : Nat, a < s.heap.size → ¬ (fun q : Nat => s.heap.size ≤ q) a := fun a h => Nat.not_le.mpr h
  have hini := hts (.initialized Bundle.tN) (by decide +kernel)
  have hZ : cw_Z (fun q : Nat => s.heap.size ≤ q) s s.heap := ⟨vx_Zqof (hts (.laysStatic Bundle.tN "UNASSIGNED_STACK" Bundle.steD) (by decide +kernel)) hini (hfl (.isRef (.static Bundle.tN "UNASSIGNED_STACK" Bundle.steD)) (by decide +kernel)) hnA, vx_Zqof (hts (.laysStatic Bundle.tN "SUPPRESSED_SENTINEL" Bundle.listD) (by decide +kernel)) hini (hfl (.isRef (.static Bundle.tN "SUPPRESSED_SENTINEL" Bundle.listD)) (by decide +kernel)) hnA⟩
  have hlt : l.stackTraces = false := by
    unfold Launch.stackTraces
    rw [hflags]
    decide +kernel
  exact ⟨(dC, dI), cI, cJ, hx, hb, hml, hts2, hown, hX, hbl, Nat.not_le.mpr hbl, hK, hN, hStr, hZ, fun _ h => h, hlt⟩
section WLL
variable {p : Program} {l : Launch} {e : Env} {s : State} {m : MethodId} {below : List Frame} {meth : Method} {c : Code} {A : Nat → Prop} {D : va_G} {cI cJ : ClassId} {bs L : Nat} {sc : Nat → Int32} {xb xs xf xp xq xh ja jb jc xr ya yf yp yq za zf zp zq ta tf tp tq xm ka kb kc kr jw jt xo : Nat}
set_option maxHeartbeats 4000000 in
set_option maxRecDepth 100000 in
theorem wl_loop (I0 : wl_In p l s m c bs L sc D cI cJ A) (hAge : ∀ q : Nat, A q → s.heap.size ≤ q) (hr : meth.sig.returnType = ret) (hlocks : meth.locks = false) (hL : L ≤ 2560) :
    ∀ (n k T ck sk : Nat), L < 5 * k + 5 * n + 5 → k ≤ 512 → T ≤ 201 * k → ck ≤ 40 + k → sk ≤ 2000 + 6 * k → wl_G p l e s m below meth c A (lw_Z below #[Value.ref bs] s) D cI cJ bs xb xs xf xp xq xh ja jb jc xr ya yf yp yq za zf zp zq ta tf tp tq xm ka kb kc kr jw jt xo (nI (5 * k)) T ck sk 23 := by
  obtain ⟨hx, hb, hml, hts, hown, hX, hbl, hbA, hK, hN, hStr, hZ, hA, hlt⟩ := id I0
  have h5 : (5 : Int32).toInt = 5 := by decide
  have hLi : (Int32.ofNat L).toInt = L := nI_toInt (n := L) (by omega)
  have hL5 : (Int32.ofNat L - 5).toInt = (L : Int) - 5 := by rw [pq_sub (by omega) (by omega), hLi, h5]
  intro n
  induction n with
  | zero =>
    intro k T ck sk h1 h2 h3 h4 h6 b f ep eq st hh t1 t2 t3 rs g0 g1 g2 g3 g4 g5 g6 g7 g8 mm n1 n2 n3 nr nw nt no hW H locs hP hD hS ls hl
    refine lv_iload hx hb dL_law_23 (lv_at hl 4 rfl) ?_
    refine lv_aload_n hx hb dL_law_25 rfl (lv_at hl 0 rfl) ?_
    refine va_slen hx hb hX hbl hbA hS dL_law_26 ?_
    refine lv_iconst (v := 5) hx hb dL_law_27 (by decide) ?_
    refine lv_isub hx hb dL_law_28 ?_
    have hki : (nI (5 * k)).toInt = (5 * k : Nat) := nI_toInt (by omega)
    refine lv_icmp_gt (tgt := 1138) hx hb dL_law_29 (by decide) (fun z1 => ?_) (fun z1 => ?_)
    · refine lv_iconst (v := 1) hx hb dL_law_1138 (by decide) ?_
      refine va_forget (fun q hq => hAge _ (hS.2.2 q hq)) ?_
      refine W.widen (k := 601024) (n := 7293034) (by omega) (by omega) ?_
      exact lw_ret hx hb hr hlocks dL_law_1139
    · exfalso
      have z2 := cw_le2 z1
      rw [hL5, hki] at z2
      omega
  | succ n ih =>
    intro k T ck sk h1 h2 h3 h4 h6 b f ep eq st hh t1 t2 t3 rs g0 g1 g2 g3 g4 g5 g6 g7 g8 mm n1 n2 n3 nr nw nt no hW H locs hP hD hS ls hl
    refine lv_iload hx hb dL_law_23 (lv_at hl 4 rfl) ?_
    refine lv_aload_n hx hb dL_law_25 rfl (lv_at hl 0 rfl) ?_
    refine va_slen hx hb hX hbl hbA hS dL_law_26 ?_
    refine lv_iconst (v := 5) hx hb dL_law_27 (by decide) ?_
    refine lv_isub hx hb dL_law_28 ?_
    have hki : (nI (5 * k)).toInt = (5 * k : Nat) := nI_toInt (by omega)
    refine lv_icmp_gt (tgt := 1138) hx hb dL_law_29 (by decide) (fun z1 => ?_) (fun z1 => ?_)
    · refine lv_iconst (v := 1) hx hb dL_law_1138 (by decide) ?_
      refine va_forget (fun q hq => hAge _ (hS.2.2 q hq)) ?_
      refine W.widen (k := 601024) (n := 7293034) (by omega) (by omega) ?_
      exact lw_ret hx hb hr hlocks dL_law_1139
    · have z2 := cw_le2 z1
      rw [hL5, hki] at z2
      have hk5 : 5 * k + 5 ≤ L := by omega
      have hi0 : vp_in (nI (5 * k)) L := vp_in_nI (by omega) (by omega)
      have hi1 : vp_in (nI (5 * k) + 1) L := by
        rw [nI_1]
        exact vp_in_nI (by omega) (by omega)
      have hi2 : vp_in (nI (5 * k) + 2) L := by
        show vp_in (nI (5 * k) + nI 2) L
        rw [nI_add]
        exact vp_in_nI (by omega) (by omega)
      have hi3 : vp_in (nI (5 * k) + 3) L := by
        show vp_in (nI (5 * k) + nI 3) L
        rw [nI_add]
        exact vp_in_nI (by omega) (by omega)
      have hi4 : vp_in (nI (5 * k) + 4) L := by
        show vp_in (nI (5 * k) + nI 4) L
        rw [nI_add]
        exact vp_in_nI (by omega) (by omega)
      have hn : wl_G p l e s m below meth c A (lw_Z below #[Value.ref bs] s) D cI cJ bs xb xs xf xp xq xh ja jb jc xr ya yf yp yq za zf zp zq ta tf tp tq xm ka kb kc kr jw jt xo (nI (5 * k)) (T + 201) (ck + 1) (sk + 6) 1132 := by
        intro b f ep eq st hh t1 t2 t3 rs g0 g1 g2 g3 g4 g5 g6 g7 g8 mm n1 n2 n3 nr nw nt no hW H locs hP hD hS ls hl
        obtain ⟨x4, ex4⟩ : ∃ y : Int32, y = nI (5 * k) + 5 := ⟨_, rfl⟩
        refine lv_iinc (v := x4) (lv' := [(4, .int x4), (0, .ref bs), (1, .ref xb), (2, .ref xm), (3, .ref xo)]) hx hb dL_law_1132 hl (k := 4) rfl (by rw [ex4]; rfl) (by decide) rfl (fun ls hl => ?_)
        refine lv_goto (tgt := 23) hx hb dL_law_1135 (by decide) ?_
        have e4 : x4 = nI (5 * (k + 1)) := by
          rw [ex4]
          show nI (5 * k) + nI 5 = _
          rw [nI_add]
          exact congrArg nI (by omega)
        rw [e4] at hl
        exact ih (k + 1) (T + 201) (ck + 1) (sk + 6) (by omega) (by omega) (by omega) (by omega) (by omega) b f ep eq st hh t1 t2 t3 rs g0 g1 g2 g3 g4 g5 g6 g7 g8 mm n1 n2 n3 nr nw nt no hW H locs hP hD hS ls (lv_sub hl [1, 2, 3, 4, 0] rfl)
      refine lv_aload_n hx hb dL_law_32 rfl (lv_at hl 0 rfl) ?_
      refine lv_iload hx hb dL_law_33 (lv_at hl 4 rfl) ?_
      refine va_sld hx hb hX hbl hbA hS hi0 dL_law_35 ?_
      refine lv_bipush (v := 31) hx hb dL_law_36 (by decide) ?_
      refine lv_iand hx hb dL_law_38 ?_
      refine lv_topi (fun x9 ex9 => ?_)
      by_cases y0 : x9 = 0
      · refine lv_tableIn (off := 117) (tgt := 156) hx hb dL_law_39 (by rw [y0]; decide) (by rw [y0]; decide) (by rw [y0]; rfl) (by decide) ?_
        exact wl_b0 I0 (by omega) (by omega) (by omega) hi1 hi2 hi3 hi4 hn b f ep eq st hh t1 t2 t3 rs g0 g1 g2 g3 g4 g5 g6 g7 g8 mm n1 n2 n3 nr nw nt no hW H locs hP hD hS ls hl
      by_cases y1 : x9 = 1
      · refine lv_tableIn (off := 208) (tgt := 247) hx hb dL_law_39 (by rw [y1]; decide) (by rw [y1]; decide) (by rw [y1]; rfl) (by decide) ?_
        exact wl_b1 I0 (by omega) (by omega) (by omega) hi1 hi2 hi3 hi4 hn b f ep eq st hh t1 t2 t3 rs g0 g1 g2 g3 g4 g5 g6 g7 g8 mm n1 n2 n3 nr nw nt no hW H locs hP hD hS ls hl
      by_cases y2 : x9 = 2
      · refine lv_tableIn (off := 264) (tgt := 303) hx hb dL_law_39 (by rw [y2]; decide) (by rw [y2]; decide) (by rw [y2]; rfl) (by decide) ?_
        exact wl_b2 I0 (by omega) (by omega) (by omega) hi1 hi2 hi3 hi4 hn b f ep eq st hh t1 t2 t3 rs g0 g1 g2 g3 g4 g5 g6 g7 g8 mm n1 n2 n3 nr nw nt no hW H locs hP hD hS ls hl
      by_cases y3 : x9 = 3
      · refine lv_tableIn (off := 336) (tgt := 375) hx hb dL_law_39 (by rw [y3]; decide) (by rw [y3]; decide) (by rw [y3]; rfl) (by decide) ?_
        exact wl_b3 I0 (by omega) (by omega) (by omega) hi1 hi2 hi3 hi4 hn b f ep eq st hh t1 t2 t3 rs g0 g1 g2 g3 g4 g5 g6 g7 g8 mm n1 n2 n3 nr nw nt no hW H locs hP hD hS ls hl
      by_cases y4 : x9 = 4
      · refine lv_tableIn (off := 396) (tgt := 435) hx hb dL_law_39 (by rw [y4]; decide) (by rw [y4]; decide) (by rw [y4]; rfl) (by decide) ?_
        exact wl_b4 I0 (by omega) (by omega) (by omega) hi1 hi2 hi3 hi4 hn b f ep eq st hh t1 t2 t3 rs g0 g1 g2 g3 g4 g5 g6 g7 g8 mm n1 n2 n3 nr nw nt no hW H locs hP hD hS ls hl
      by_cases y5 : x9 = 5
      · refine lv_tableIn (off := 456) (tgt := 495) hx hb dL_law_39 (by rw [y5]; decide) (by rw [y5]; decide) (by rw [y5]; rfl) (by decide) ?_
        exact wl_b5 I0 (by omega) (by omega) (by omega) hi1 hi2 hi3 hi4 hn b f ep eq st hh t1 t2 t3 rs g0 g1 g2 g3 g4 g5 g6 g7 g8 mm n1 n2 n3 nr nw nt no hW H locs hP hD hS ls hl
      by_cases y6 : x9 = 6
      · refine lv_tableIn (off := 512) (tgt := 551) hx hb dL_law_39 (by rw [y6]; decide) (by rw [y6]; decide) (by rw [y6]; rfl) (by decide) ?_
        exact wl_b6 I0 (by omega) (by omega) (by omega) hi1 hi2 hi3 hi4 hn b f ep eq st hh t1 t2 t3 rs g0 g1 g2 g3 g4 g5 g6 g7 g8 mm n1 n2 n3 nr nw nt no hW H locs hP hD hS ls hl
      by_cases y7 : x9 = 7
      · refine lv_tableIn (off := 556) (tgt := 595) hx hb dL_law_39 (by rw [y7]; decide) (by rw [y7]; decide) (by rw [y7]; rfl) (by decide) ?_
        exact wl_b7 I0 (by omega) (by omega) (by omega) hi1 hi2 hi3 hi4 hn b f ep eq st hh t1 t2 t3 rs g0 g1 g2 g3 g4 g5 g6 g7 g8 mm n1 n2 n3 nr nw nt no hW H locs hP hD hS ls hl
      by_cases y8 : x9 = 8
      · refine lv_tableIn (off := 569) (tgt := 608) hx hb dL_law_39 (by rw [y8]; decide) (by rw [y8]; decide) (by rw [y8]; rfl) (by decide) ?_
        exact wl_b8 I0 (by omega) (by omega) (by omega) hi1 hi2 hi3 hi4 hn b f ep eq st hh t1 t2 t3 rs g0 g1 g2 g3 g4 g5 g6 g7 g8 mm n1 n2 n3 nr nw nt no hW H locs hP hD hS ls hl
      by_cases y9 : x9 = 9
      · refine lv_tableIn (off := 582) (tgt := 621) hx hb dL_law_39 (by rw [y9]; decide) (by rw [y9]; decide) (by rw [y9]; rfl) (by decide) ?_
        exact wl_b9 I0 (by omega) (by omega) (by omega) hi1 hi2 hi3 hi4 hn b f ep eq st hh t1 t2 t3 rs g0 g1 g2 g3 g4 g5 g6 g7 g8 mm n1 n2 n3 nr nw nt no hW H locs hP hD hS ls hl
      by_cases y10 : x9 = 10
      · refine lv_tableIn (off := 595) (tgt := 634) hx hb dL_law_39 (by rw [y10]; decide) (by rw [y10]; decide) (by rw [y10]; rfl) (by decide) ?_
        exact wl_b10 I0 (by omega) (by omega) (by omega) hi1 hi2 hi3 hi4 hn b f ep eq st hh t1 t2 t3 rs g0 g1 g2 g3 g4 g5 g6 g7 g8 mm n1 n2 n3 nr nw nt no hW H locs hP hD hS ls hl
      by_cases y11 : x9 = 11
      · refine lv_tableIn (off := 608) (tgt := 647) hx hb dL_law_39 (by rw [y11]; decide) (by rw [y11]; decide) (by rw [y11]; rfl) (by decide) ?_
        exact wl_b11 I0 (by omega) (by omega) (by omega) hi1 hi2 hi3 hi4 hn b f ep eq st hh t1 t2 t3 rs g0 g1 g2 g3 g4 g5 g6 g7 g8 mm n1 n2 n3 nr nw nt no hW H locs hP hD hS ls hl
      by_cases y12 : x9 = 12
      · refine lv_tableIn (off := 649) (tgt := 688) hx hb dL_law_39 (by rw [y12]; decide) (by rw [y12]; decide) (by rw [y12]; rfl) (by decide) ?_
        exact wl_b12 I0 (by omega) (by omega) (by omega) hi1 hi2 hi3 hi4 hn b f ep eq st hh t1 t2 t3 rs g0 g1 g2 g3 g4 g5 g6 g7 g8 mm n1 n2 n3 nr nw nt no hW H locs hP hD hS ls hl
      by_cases y13 : x9 = 13
      · refine lv_tableIn (off := 690) (tgt := 729) hx hb dL_law_39 (by rw [y13]; decide) (by rw [y13]; decide) (by rw [y13]; rfl) (by decide) ?_
        exact wl_b13 I0 (by omega) (by omega) (by omega) hi1 hi2 hi3 hi4 hn b f ep eq st hh t1 t2 t3 rs g0 g1 g2 g3 g4 g5 g6 g7 g8 mm n1 n2 n3 nr nw nt no hW H locs hP hD hS ls hl
      by_cases y14 : x9 = 14
      · refine lv_tableIn (off := 703) (tgt := 742) hx hb dL_law_39 (by rw [y14]; decide) (by rw [y14]; decide) (by rw [y14]; rfl) (by decide) ?_
        exact wl_b14 I0 (by omega) (by omega) (by omega) hi1 hi2 hi3 hi4 hn b f ep eq st hh t1 t2 t3 rs g0 g1 g2 g3 g4 g5 g6 g7 g8 mm n1 n2 n3 nr nw nt no hW H locs hP hD hS ls hl
      by_cases y15 : x9 = 15
      · refine lv_tableIn (off := 716) (tgt := 755) hx hb dL_law_39 (by rw [y15]; decide) (by rw [y15]; decide) (by rw [y15]; rfl) (by decide) ?_
        exact wl_b15 I0 (by omega) (by omega) (by omega) hi1 hi2 hi3 hi4 hn b f ep eq st hh t1 t2 t3 rs g0 g1 g2 g3 g4 g5 g6 g7 g8 mm n1 n2 n3 nr nw nt no hW H locs hP hD hS ls hl
      by_cases y16 : x9 = 16
      · refine lv_tableIn (off := 729) (tgt := 768) hx hb dL_law_39 (by rw [y16]; decide) (by rw [y16]; decide) (by rw [y16]; rfl) (by decide) ?_
        exact wl_b16 I0 (by omega) (by omega) (by omega) hi1 hi2 hi3 hi4 hn b f ep eq st hh t1 t2 t3 rs g0 g1 g2 g3 g4 g5 g6 g7 g8 mm n1 n2 n3 nr nw nt no hW H locs hP hD hS ls hl
      by_cases y17 : x9 = 17
      · refine lv_tableIn (off := 742) (tgt := 781) hx hb dL_law_39 (by rw [y17]; decide) (by rw [y17]; decide) (by rw [y17]; rfl) (by decide) ?_
        exact wl_b17 I0 (by omega) (by omega) (by omega) hi1 hi2 hi3 hi4 hn b f ep eq st hh t1 t2 t3 rs g0 g1 g2 g3 g4 g5 g6 g7 g8 mm n1 n2 n3 nr nw nt no hW H locs hP hD hS ls hl
      by_cases y18 : x9 = 18
      · refine lv_tableIn (off := 755) (tgt := 794) hx hb dL_law_39 (by rw [y18]; decide) (by rw [y18]; decide) (by rw [y18]; rfl) (by decide) ?_
        exact wl_b18 I0 (by omega) (by omega) (by omega) hi1 hi2 hi3 hi4 hn b f ep eq st hh t1 t2 t3 rs g0 g1 g2 g3 g4 g5 g6 g7 g8 mm n1 n2 n3 nr nw nt no hW H locs hP hD hS ls hl
      by_cases y19 : x9 = 19
      · refine lv_tableIn (off := 768) (tgt := 807) hx hb dL_law_39 (by rw [y19]; decide) (by rw [y19]; decide) (by rw [y19]; rfl) (by decide) ?_
        exact wl_b19 I0 (by omega) (by omega) (by omega) hi1 hi2 hi3 hi4 hn b f ep eq st hh t1 t2 t3 rs g0 g1 g2 g3 g4 g5 g6 g7 g8 mm n1 n2 n3 nr nw nt no hW H locs hP hD hS ls hl
      by_cases y20 : x9 = 20
      · refine lv_tableIn (off := 781) (tgt := 820) hx hb dL_law_39 (by rw [y20]; decide) (by rw [y20]; decide) (by rw [y20]; rfl) (by decide) ?_
        exact wl_b20 I0 (by omega) (by omega) (by omega) hi1 hi2 hi3 hi4 hn b f ep eq st hh t1 t2 t3 rs g0 g1 g2 g3 g4 g5 g6 g7 g8 mm n1 n2 n3 nr nw nt no hW H locs hP hD hS ls hl
      by_cases y21 : x9 = 21
      · refine lv_tableIn (off := 837) (tgt := 876) hx hb dL_law_39 (by rw [y21]; decide) (by rw [y21]; decide) (by rw [y21]; rfl) (by decide) ?_
        exact wl_b21 I0 (by omega) (by omega) (by omega) hi1 hi2 hi3 hi4 hn b f ep eq st hh t1 t2 t3 rs g0 g1 g2 g3 g4 g5 g6 g7 g8 mm n1 n2 n3 nr nw nt no hW H locs hP hD hS ls hl
      by_cases y22 : x9 = 22
      · refine lv_tableIn (off := 893) (tgt := 932) hx hb dL_law_39 (by rw [y22]; decide) (by rw [y22]; decide) (by rw [y22]; rfl) (by decide) ?_
        exact wl_b22 I0 (by omega) (by omega) (by omega) hi1 hi2 hi3 hi4 hn b f ep eq st hh t1 t2 t3 rs g0 g1 g2 g3 g4 g5 g6 g7 g8 mm n1 n2 n3 nr nw nt no hW H locs hP hD hS ls hl
      by_cases y23 : x9 = 23
      · refine lv_tableIn (off := 949) (tgt := 988) hx hb dL_law_39 (by rw [y23]; decide) (by rw [y23]; decide) (by rw [y23]; rfl) (by decide) ?_
        exact wl_b23 I0 (by omega) (by omega) (by omega) hi1 hi2 hi3 hi4 hn b f ep eq st hh t1 t2 t3 rs g0 g1 g2 g3 g4 g5 g6 g7 g8 mm n1 n2 n3 nr nw nt no hW H locs hP hD hS ls hl
      by_cases y24 : x9 = 24
      · refine lv_tableIn (off := 1024) (tgt := 1063) hx hb dL_law_39 (by rw [y24]; decide) (by rw [y24]; decide) (by rw [y24]; rfl) (by decide) ?_
        exact wl_b24 I0 (by omega) (by omega) (by omega) hi1 hi2 hi3 hi4 hn b f ep eq st hh t1 t2 t3 rs g0 g1 g2 g3 g4 g5 g6 g7 g8 mm n1 n2 n3 nr nw nt no hW H locs hP hD hS ls hl
      by_cases y25 : x9 = 25
      · refine lv_tableIn (off := 1080) (tgt := 1119) hx hb dL_law_39 (by rw [y25]; decide) (by rw [y25]; decide) (by rw [y25]; rfl) (by decide) ?_
        exact wl_b25 I0 (by omega) (by omega) (by omega) hi1 hi2 hi3 hi4 hn b f ep eq st hh t1 t2 t3 rs g0 g1 g2 g3 g4 g5 g6 g7 g8 mm n1 n2 n3 nr nw nt no hW H locs hP hD hS ls hl
      refine lv_tableOut (tgt := 1132) hx hb dL_law_39 (by have w0 := lv_neT y0 (a := 0) (by decide); have w1 := lv_neT y1 (a := 1) (by decide); have w2 := lv_neT y2 (a := 2) (by decide); have w3 := lv_neT y3 (a := 3) (by decide); have w4 := lv_neT y4 (a := 4) (by decide); have w5 := lv_neT y5 (a := 5) (by decide); have w6 := lv_neT y6 (a := 6) (by decide); have w7 := lv_neT y7 (a := 7) (by decide); have w8 := lv_neT y8 (a := 8) (by decide); have w9 := lv_neT y9 (a := 9) (by decide); have w10 := lv_neT y10 (a := 10) (by decide); have w11 := lv_neT y11 (a := 11) (by decide); have w12 := lv_neT y12 (a := 12) (by decide); have w13 := lv_neT y13 (a := 13) (by decide); have w14 := lv_neT y14 (a := 14) (by decide); have w15 := lv_neT y15 (a := 15) (by decide); have w16 := lv_neT y16 (a := 16) (by decide); have w17 := lv_neT y17 (a := 17) (by decide); have w18 := lv_neT y18 (a := 18) (by decide); have w19 := lv_neT y19 (a := 19) (by decide); have w20 := lv_neT y20 (a := 20) (by decide); have w21 := lv_neT y21 (a := 21) (by decide); have w22 := lv_neT y22 (a := 22) (by decide); have w23 := lv_neT y23 (a := 23) (by decide); have w24 := lv_neT y24 (a := 24) (by decide); have w25 := lv_neT y25 (a := 25) (by decide); omega) (by decide) ?_
      refine W.widen (k := ck + 1) (n := sk + 6) (by omega) (by omega) ?_
      exact hn b f ep eq st hh t1 t2 t3 rs g0 g1 g2 g3 g4 g5 g6 g7 g8 mm n1 n2 n3 nr nw nt no (pq_Wm hW (by omega)) H locs hP hD hS ls hl
end WLL
