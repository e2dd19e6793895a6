/-! METHODS THAT MAY THROW: their contracts, ends and calls (launches without stack traces) -/
def cw_str : List (String × Nat × String) := [("Burnerline", 50, "no such signal"), ("Burnerline", 69, "rate is out of range"), ("Burnerline", 75, "a time is out of range"), ("Burnerline", 230, "the sequencer is not off"), ("Burnerline", 92, "a setting of the eyes is out of range"), ("Burnerline", 103, "a setting of the furnace is out of range"), ("Burnerline", 114, "ticks is out of range"), ("Burnerline", 135, "it is not locked out, or there is a flame"), ("Burnerline", 145, "it is too soon for a reset"), ("Burnerline", 203, "no such record is kept"), ("Burnerline", 219, "state or ticks is out of range")]
def cw_Str (U : State) : Prop := (∀ q ∈ cw_str, ∃ sa : Nat, vk_R q.1 q.2.1 q.2.2 sa U) ∧ va_Nc "java/lang/IllegalStateException" "java/lang/IllegalArgumentException" U ∧ va_Nc "java/lang/IllegalArgumentException" "java/lang/IndexOutOfBoundsException" U ∧ va_Nc "java/lang/IllegalStateException" "java/lang/IndexOutOfBoundsException" U
theorem cw_Str.same {u U : State} (h : U.vm = u.vm) (hZ : cw_Str u) : cw_Str U := ⟨fun q hq => by
  obtain ⟨sa, hsa⟩ := hZ.1 q hq
  exact ⟨sa, vk_R.same h hsa⟩, va_Nc.moved (u := u) (U := U) (by rw [h]; exact Vm.Alike.refl _) hZ.2.1, va_Nc.moved (u := u) (U := U) (by rw [h]; exact Vm.Alike.refl _) hZ.2.2.1, va_Nc.moved (u := u) (U := U) (by rw [h]; exact Vm.Alike.refl _) hZ.2.2.2⟩
theorem cw_Str.warm {s U : State} (hW : s.WarmedH U.vm) (hZ : cw_Str s) : cw_Str U := ⟨fun q hq => by
  obtain ⟨sa, hsa⟩ := hZ.1 q hq
  exact ⟨sa, vk_R.warm hW hsa⟩, va_Nc.moved hW.alike hZ.2.1, va_Nc.moved hW.alike hZ.2.2.1, va_Nc.moved hW.alike hZ.2.2.2⟩
def cw_Z (A : Nat → Prop) (U : State) (H : Heap) : Prop := vx_Zq Bundle.tN "UNASSIGNED_STACK" Bundle.steD A U H ∧ vx_Zq Bundle.tN "SUPPRESSED_SENTINEL" Bundle.listD A U H
theorem cw_Z.moved {A : Nat → Prop} {u U : State} {H : Heap} (hvm : u.vm.Alike U.vm) (h : cw_Z A u H) : cw_Z A U H := ⟨vx_Zq.moved hvm h.1, vx_Zq.moved hvm h.2⟩
theorem cw_Z.kept {A : Nat → Prop} {U : State} {H H1 : Heap} (h : cw_Z A U H) (hq : ∀ a : Nat, a < H.size → ¬ A a → H1[a]? = H[a]?) : cw_Z A U H1 := ⟨vx_Zq.kept h.1 hq, vx_Zq.kept h.2 hq⟩
theorem cw_Z.narrow {A B : Nat → Prop} {U : State} {H : Heap} (h : cw_Z A U H) (hAB : ∀ q, B q → A q) : cw_Z B U H := ⟨vx_Zq.narrow h.1 hAB, vx_Zq.narrow h.2 hAB⟩
def cw_BX (D : va_G) (T : List (ClassId × FieldType)) (sz : Nat) (ws : va_W) (U : State) : Prop := cw_B D T sz ws U ∧ cw_Z (va_A ws sz) U U.heap ∧ cw_Str U
theorem cw_blindX (D : va_G) (T : List (ClassId × FieldType)) (sz : Nat) (ws : va_W) (av : List Value) : FrameBlind (va_Pc av (cw_BX D T sz ws)) := by
  intro a U g mk q
  obtain ⟨q0, ⟨q1, qP, qK, qD, qN⟩, qZ, qS⟩ := q
  exact ⟨q0, ⟨q1, qP, va_K.moved (u := U) (U := U.calling g mk a) (Vm.Alike.refl U.vm) qK, qD, cw_N.same (u := U) (U := U.calling g mk a) rfl qN⟩, cw_Z.moved (u := U) (U := U.calling g mk a) (Vm.Alike.refl U.vm) qZ, cw_Str.same (u := U) (U := U.calling g mk a) rfl qS⟩
theorem cw_preX {D : va_G} {T : List (ClassId × FieldType)} {wc : va_W} {s : State} {H : Heap} {locs : List Loc} {A : Nat → Prop} {av : List Value} (hK : va_K D vwCl T s) (hN : cw_N s) (hP : va_P D vwCl wc H) (hD : va_D A wc) (hS : va_S A s.heap H locs) (hZ : cw_Z A s s.heap) (hStr : cw_Str s) (hF : ∀ q, va_A wc H.size q → A q) :
    ∀ U : State, U.heap = H → s.WarmedH U.vm → va_Pc av (cw_BX D T H.size wc) av.toArray U := fun U hU hW =>
  ⟨rfl, ⟨by rw [hU], by rw [hU]; exact hP, va_K.moved hW.alike hK, hD.weaken (fun _ _ _ _ => trivial), hN.warm hW⟩, by rw [hU]; exact ((hZ.kept (fun a h1 h2 => hS.2.1 a h1 h2)).narrow hF).moved hW.alike, hStr.warm hW⟩
def cw_XX (D : va_G) (A : Nat → Prop) (ws : va_W) (xp : String → Prop) : String → State → State → Prop := vx_X (fun _ : Unit => True) (fun E _ t => xp E ∧ cw_E D A ws t) A
def cw_ot (cls : String) : List Cond := [.castable cls cls, .declares ⟨"java/lang/RuntimeException", "<init>", "(Ljava/lang/String;)V"⟩, .declares ⟨"java/lang/Exception", "<init>", "(Ljava/lang/String;)V"⟩, .declares ⟨"java/lang/Throwable", "<init>", "(Ljava/lang/String;)V"⟩]
def cw_nm : List String := ["java/lang/RuntimeException", "java/lang/Exception"]
def cw_Xi (l : Launch) (y : MethodName) (wy : List Cond) (rm : Room) (D : va_G) (T : List (ClassId × FieldType)) (av : List Value) (ws : va_W) (mc ms : Nat) {S : Type} (post : Int32 → S → Prop) (w1 : S → va_W) (xp : String → Prop) : Prop :=
  ∀ sz : Nat, vx_Met l y wy rm (va_Pc av (cw_BX D T sz ws)) (va_Qi post (fun u => cw_E D (va_A ws sz) (w1 u)) (va_A ws sz)) (cw_XX D (va_A ws sz) ws xp) mc ms (va_A ws sz)
theorem cw_ofXi {l : Launch} {y : MethodName} {wy ws' : List Cond} {rm : Room} {D : va_G} {T : List (ClassId × FieldType)} {av : List Value} {wd : va_W} {mc ms : Nat} {S : Type} {w1 : S → va_W} {cc : ByteArray} {maxL : Nat} {ret : Option FieldType} {post : Int32 → S → Prop} {xp : String → Prop} (hy : plainName y.cls = true) (hw : wy = Cond.code y cc maxL ret :: ws') (hle : (lg_sl av).length ≤ maxL)
    (hret : ret = some (ret.getD .int)) (body : ∀ (p : Program) (e : Env) (s : State) (m : MethodId) (args : Array Value) (below : List Frame) (meth : Method) (c : Code) (A : Nat → Prop) (ls : Array Slot) (Q : State → Prop), cw_In p s m args meth c A ls y wy D T av wd cc maxL ret →
      cw_Ri p l e rm s m args below meth c Q D A cc ret mc ms post w1 → (∀ x ∈ c.exceptionTable.toList, False) → cw_Z A s s.heap → cw_Str s → Q = vx_MQ below (va_Qi post (fun u => cw_E D A (w1 u)) A) (cw_XX D A wd xp) args s mc ms A → W p l e rm s m args below meth c s.heap [] 0 0 Q (F0 m 0 ls [])) : cw_Xi l y wy rm D T av wd mc ms post w1 xp := by
  intro sz
  refine vx_ofW (cc := cc) (maxL := maxL) (ret := ret) hy hw ?_
  intro p e s m args below meth c s₁ B hml htab hv
  obtain ⟨rfl, ⟨hsz, hP, hK, hD0, hN⟩, hZ, hStr⟩ := hv
  subst hsz
  rw [lg_entry_eq]
  refine body p e s m av.toArray below meth c (va_A wd s.heap.size) _ _ ⟨B.exec, B.bytes, B.returns, hml, atoms_spec (ws := wy) B.pre, findClass_of_methodNamed B.named, B.notSynchronized, (name_of_methodNamed B.named B.method).1, hP, hK, hD0.self (sz := s.heap.size), hN, fun q h => Or.inr h, lv_entry av hle⟩ ?_ htab hZ hStr rfl
  intro H locs cells slots pc ls v wx hP hD hS hdg hn hu hc hs
  obtain ⟨u, hp, hu⟩ := hu
  have hlocks := B.notSynchronized
  refine vx_ret ?_
  refine W.widen hc hs ?_
  exact W.zret (v := v) (ty := ret.getD .int) B.exec B.bytes (B.returns.trans hret) hn (fun t ht hW => ⟨⟨v, u, rfl, hp, by show cw_E D _ (w1 u) t; rw [hu]; exact ⟨by rw [ht]; exact hP, hD⟩⟩, hS.F ht⟩) hS.2.2 hdg hlocks
def cw_Xv (l : Launch) (y : MethodName) (wy : List Cond) (rm : Room) (D : va_G) (T : List (ClassId × FieldType)) (av : List Value) (ws : va_W) (mc ms : Nat) {S : Type} (post : S → Prop) (w1 : S → va_W) (xp : String → Prop) : Prop :=
  ∀ sz : Nat, vx_Met l y wy rm (va_Pc av (cw_BX D T sz ws)) (va_Qv post (fun u => cw_E D (va_A ws sz) (w1 u)) (va_A ws sz)) (cw_XX D (va_A ws sz) ws xp) mc ms (va_A ws sz)
theorem cw_ofXv {l : Launch} {y : MethodName} {wy ws' : List Cond} {rm : Room} {D : va_G} {T : List (ClassId × FieldType)} {av : List Value} {wd : va_W} {mc ms : Nat} {S : Type} {w1 : S → va_W} {cc : ByteArray} {maxL : Nat} {ret : Option FieldType} {post : S → Prop} {xp : String → Prop} (hy : plainName y.cls = true) (hw : wy = Cond.code y cc maxL ret :: ws') (hle : (lg_sl av).length ≤ maxL)
    (hret : ret = none) (body : ∀ (p : Program) (e : Env) (s : State) (m : MethodId) (args : Array Value) (below : List Frame) (meth : Method) (c : Code) (A : Nat → Prop) (ls : Array Slot) (Q : State → Prop), cw_In p s m args meth c A ls y wy D T av wd cc maxL ret →
      cw_Rv p l e rm s m args below meth c Q D A cc ret mc ms post w1 → (∀ x ∈ c.exceptionTable.toList, False) → cw_Z A s s.heap → cw_Str s → Q = vx_MQ below (va_Qv post (fun u => cw_E D A (w1 u)) A) (cw_XX D A wd xp) args s mc ms A → W p l e rm s m args below meth c s.heap [] 0 0 Q (F0 m 0 ls [])) : cw_Xv l y wy rm D T av wd mc ms post w1 xp := by
  intro sz
  refine vx_ofW (cc := cc) (maxL := maxL) (ret := ret) hy hw ?_
  intro p e s m args below meth c s₁ B hml htab hv
  obtain ⟨rfl, ⟨hsz, hP, hK, hD0, hN⟩, hZ, hStr⟩ := hv
  subst hsz
  rw [lg_entry_eq]
  refine body p e s m av.toArray below meth c (va_A wd s.heap.size) _ _ ⟨B.exec, B.bytes, B.returns, hml, atoms_spec (ws := wy) B.pre, findClass_of_methodNamed B.named, B.notSynchronized, (name_of_methodNamed B.named B.method).1, hP, hK, hD0.self (sz := s.heap.size), hN, fun q h => Or.inr h, lv_entry av hle⟩ ?_ htab hZ hStr rfl
  intro H locs cells slots pc ls wx hP hD hS hdg hu hc hs
  obtain ⟨u, hp, hu⟩ := hu
  have hlocks := B.notSynchronized
  refine vx_ret ?_
  refine W.widen hc hs ?_
  exact W.vret B.exec B.bytes (B.returns.trans hret) (fun t ht hW => ⟨⟨u, rfl, hp, by show cw_E D _ (w1 u) t; rw [hu]; exact ⟨by rw [ht]; exact hP, hD⟩⟩, hS.F ht⟩) hS.2.2 hdg hlocks
section CWT
variable {p : Program} {l : Launch} {e : Env} {R : Room} {s : State} {m : MethodId} {args : Array Value} {below : List Frame} {meth : Method} {c : Code} {H : Heap} {locs : List Loc} {cells slots : Nat} {Q : State → Prop}
variable {cc : ByteArray} {D : va_G} {A : Nat → Prop} {ws wd : va_W} {mc ms pc : Nat} {ls : Array Slot} {rest : List Value} {xp : String → Prop} {Qc : Array Value → State → Outcome → State → Prop}
/-- what a method says where it throws, its world as it was -/
theorem cw_xx {E : String} (hS : va_S A s.heap H locs) (hP : va_P D vwCl wd H) (hD : va_D A wd) (hxp : xp E) {t : State} (hz : H.size ≤ t.heap.size) (hk : ∀ q : Nat, q < H.size → t.heap[q]? = H[q]?) : cw_XX D A wd xp E s t :=
  ⟨(), trivial, ⟨hxp, hP.kept (fun k q hq => hk q.1 (vx_lt hP hq)), hD⟩, Nat.le_trans hS.1 hz, fun q h1 h2 => by rw [hk q (Nat.lt_of_lt_of_le h1 hS.1)]; exact hS.2.1 q h1 h2⟩
/-- 'throw new E("text")' in a method whose world is as it was -/
theorem cw_thr {own cls text : String} {ik is ic nL : Nat} (hQ : Q = vx_MQ below Qc (cw_XX D A wd xp) args s mc ms A) (hx : p.tables.exec = Jvm.exec) (hb : c.code = cc) (hlt : l.stackTraces = false) (hown : s.vm.findClass own = some m.cls) (hml : c.maxLocals = nL) (hlz : ls.size = nL) (htab : ∀ x ∈ c.exceptionTable.toList, False) (hlocks : meth.locks = false)
    (hcls : Bundle.fit cls = true) (hk : (Cond.classLink own ik cls).before args s = true) (hini : (Cond.initialized cls).before args s = true) (hStr : cw_Str s) (hstr : (own, is, text) ∈ cw_str) (hg : ∀ w ∈ (vx_atS own ic cls cw_nm).filter goodWord, w.before args s = true)
    (hn : ∀ w ∈ (vx_atS own ic cls cw_nm).filter (fun w => !goodWord w), w ∈ cw_ot cls) (hN : cw_N s) (hot : ∀ w ∈ cw_ot cls, w ∈ cw_nest) (hgood : ∀ w ∈ Cond.classLink own ik cls :: Cond.initialized cls :: vx_atS own ic cls cw_nm, vx_ot w = true)
    (hZ : cw_Z A s s.heap) (hS : va_S A s.heap H locs) (hP : va_P D vwCl ws H) (hD : va_D A ws) (is0 : List Nat) (h1 : is0.map (fun i => ws[i]?) = wd.map some) (hnd : va_nd is0 = true)
    (d0 : decode cc pc = .ok (.new ik, 3)) (d3 : decode cc (pc + 3) = .ok (.dup, 1)) (d4 : decode cc (pc + 4) = .ok (.ldc is, 2)) (d6 : decode cc (pc + 6) = .ok (.invokespecial ic, 3)) (d9 : decode cc (pc + 9) = .ok (.athrow, 1))
    (hRf : 5 < R.frames) (hRl : (rest.map fun v => v.category).sum + 82 ≤ R.locals) (hRc : cells + 1 ≤ R.cells) (hRs : slots + 6 ≤ R.slots) (hc : cells + 1 ≤ mc) (hs : slots + 6 ≤ ms) (hxp : xp cls) :
    W p l e R s m args below meth c H locs cells slots Q (F0 m pc ls rest) := by
  subst hQ
  obtain ⟨sa, hsa⟩ := hStr.1 _ hstr
  have hP9 := hP.sub is0 (cw_fm h1)
  have hD9 := hD.sub is0 hnd h1
  exact vx_throwS (names := cw_nm) hx hb hlt hown hcls (by decide) hk hini hsa (vx_hat hg hn (fun w h => hN.use (hot w h))) hgood hZ.1 hZ.2 hS (hlz.trans hml.symm) d0 d3 d4 d6 d9 (fun x h => (htab x h).elim) hRf hRl hRc hRs hlocks (fun t _ hz hk => cw_xx hS hP9 hD9 hxp hz hk) hS.2.2 hc hs
end CWT
section CWXC
variable {p : Program} {l : Launch} {e : Env} {R : Room} {s : State} {m : MethodId} {args : Array Value} {below : List Frame} {meth : Method} {c : Code} {H : Heap} {locs : List Loc} {cells slots : Nat} {Q : State → Prop}
variable {cc : ByteArray} {D : va_G} {T : List (ClassId × FieldType)} {A : Nat → Prop} {ws wc wr : va_W} {mc ms pc nL : Nat} {ls : Array Slot} {S : Type} {w1 : S → va_W} {st0 rest : List Value}
variable {y : MethodName} {bytes : ByteArray} {maxL n index : Nat} {wy : List Cond} {rm : Room} {Ts : List Cond} {own C : String} {b : Nat} {As : List Value} {xp : String → Prop}
theorem cw_cVXi {post : Int32 → S → Prop} (F : CallFix p m c cc nL s args Ts own) (hM : cw_Xi l y wy rm D T (.ref b :: As) wc mc ms post w1 xp) {ret : Option FieldType} (cw : CallW R s args own C index y bytes maxL ret wy rm mc ms n)
    (hK : va_K D vwCl T s) (hN : cw_N s) (hP : va_P D vwCl ws H) (hD : va_D A ws) (hS : va_S A s.heap H locs) (hA : ∀ q : Nat, s.heap.size ≤ q → A q) (hZ : cw_Z A s s.heap) (hStr : cw_Str s) (isC isR : List Nat) (hC : isC.map (fun i => ws[i]?) = wc.map some) (hR : isR.map (fun i => ws[i]?) = wr.map some) (hnC : va_nd isC = true) (hnR : va_nd isR = true) (hdis : ∀ i ∈ isR, i ∉ isC)
    (q0 : Nat) {ci : Nat} {fs : List Value} {q : vw_C} (hc : vwCl[ci]? = some q) (he : wc[q0]? = some (b, .inr (ci, fs))) (hq : q.1 = C) (hn : As.length = n) (hl : ls.size = nL) (hst : st0 = As.reverse ++ .ref b :: rest) (hW : (rest.map fun v => v.category).sum ≤ 8) (hdg : decode cc pc = .ok (.invokevirtual index, 3)) (hf : cells + mc ≤ R.cells ∧ slots + ms ≤ R.slots)
    (kx : ∀ (E : String) (ce : Cell) (q9 : Addr) (H : Heap) (locs : List Loc), xp E → va_P D vwCl (wr ++ wc) H → va_D A (wr ++ wc) → va_S A s.heap H locs → H[q9]? = some ce → ce.vm = .none → s.vm.findClass E = some ce.cls → vx_W p l e R s m args below meth c H locs (cells + mc) (slots + ms) Q (F0 m pc ls rest) q9)
    (kk : ∀ (r : Int32) (u : S) (H : Heap) (locs : List Loc), post r u → va_P D vwCl (wr ++ w1 u) H → va_D A (wr ++ w1 u) → va_S A s.heap H locs → W p l e R s m args below meth c H locs (cells + mc) (slots + ms) Q (F0 m (pc + 3) ls (.int r :: rest))) :
    W p l e R s m args below meth c H locs cells slots Q (F0 m pc ls st0) := by
  have hPc := hP.sub isC (cw_fm hC)
  have hDc := hD.sub isC hnC hC
  have hFc := va_free (wc := wc) hD hS hA isC hC
  subst hq
  have hr := vx_runV (p := p) (e := e) (below := below) (meth := meth) (H := H) (locs := locs) (g := F0 m pc ls st0) (rest := rest) F (hM H.size) cw ⟨cw_blindX D T H.size wc _, va_recv hK hPc hc he, cw_preX hK hN hPc hDc hS hZ hStr hFc⟩ rfl hn hl hst (lv_room hW) hdg hf
  refine vx_calli hr hS (fun q _ h => hFc q h) hFc (fun q _ h => hFc q h) (fun E ce q9 u t H1 locs1 ht hvm _ hB hz1 hk1 hS1 hce hcv hcl => ?_) (fun r u t H1 locs1 ht hvm hw hB hz1 hk1 hS1 => ?_)
  · obtain ⟨a, b⟩ := cw_next (S := Unit) (w1 := fun _ => wc) (u := ()) hP hD hS hA isC isR hC hR hnR hdis ht hB.2 hk1
    exact kx E ce q9 H1 locs1 hB.1 a b hS1 hce hcv hcl
  · obtain ⟨a, b⟩ := cw_next hP hD hS hA isC isR hC hR hnR hdis ht hB hk1
    exact kk r u H1 locs1 hw a b hS1
theorem cw_cVXv {post : S → Prop} (F : CallFix p m c cc nL s args Ts own) (hM : cw_Xv l y wy rm D T (.ref b :: As) wc mc ms post w1 xp) {ret : Option FieldType} (cw : CallW R s args own C index y bytes maxL ret wy rm mc ms n)
    (hK : va_K D vwCl T s) (hN : cw_N s) (hP : va_P D vwCl ws H) (hD : va_D A ws) (hS : va_S A s.heap H locs) (hA : ∀ q : Nat, s.heap.size ≤ q → A q) (hZ : cw_Z A s s.heap) (hStr : cw_Str s) (isC isR : List Nat) (hC : isC.map (fun i => ws[i]?) = wc.map some) (hR : isR.map (fun i => ws[i]?) = wr.map some) (hnC : va_nd isC = true) (hnR : va_nd isR = true) (hdis : ∀ i ∈ isR, i ∉ isC)
    (q0 : Nat) {ci : Nat} {fs : List Value} {q : vw_C} (hc : vwCl[ci]? = some q) (he : wc[q0]? = some (b, .inr (ci, fs))) (hq : q.1 = C) (hn : As.length = n) (hl : ls.size = nL) (hst : st0 = As.reverse ++ .ref b :: rest) (hW : (rest.map fun v => v.category).sum ≤ 8) (hdg : decode cc pc = .ok (.invokevirtual index, 3)) (hf : cells + mc ≤ R.cells ∧ slots + ms ≤ R.slots)
    (kx : ∀ (E : String) (ce : Cell) (q9 : Addr) (H : Heap) (locs : List Loc), xp E → va_P D vwCl (wr ++ wc) H → va_D A (wr ++ wc) → va_S A s.heap H locs → H[q9]? = some ce → ce.vm = .none → s.vm.findClass E = some ce.cls → vx_W p l e R s m args below meth c H locs (cells + mc) (slots + ms) Q (F0 m pc ls rest) q9)
    (kk : ∀ (u : S) (H : Heap) (locs : List Loc), post u → va_P D vwCl (wr ++ w1 u) H → va_D A (wr ++ w1 u) → va_S A s.heap H locs → W p l e R s m args below meth c H locs (cells + mc) (slots + ms) Q (F0 m (pc + 3) ls rest)) :
    W p l e R s m args below meth c H locs cells slots Q (F0 m pc ls st0) := by
  have hPc := hP.sub isC (cw_fm hC)
  have hDc := hD.sub isC hnC hC
  have hFc := va_free (wc := wc) hD hS hA isC hC
  subst hq
  have hr := vx_runV (p := p) (e := e) (below := below) (meth := meth) (H := H) (locs := locs) (g := F0 m pc ls st0) (rest := rest) F (hM H.size) cw ⟨cw_blindX D T H.size wc _, va_recv hK hPc hc he, cw_preX hK hN hPc hDc hS hZ hStr hFc⟩ rfl hn hl hst (lv_room hW) hdg hf
  refine vx_callv hr hS (fun q _ h => hFc q h) hFc (fun q _ h => hFc q h) (fun E ce q9 u t H1 locs1 ht hvm _ hB hz1 hk1 hS1 hce hcv hcl => ?_) (fun u t H1 locs1 ht hvm hw hB hz1 hk1 hS1 => ?_)
  · obtain ⟨a, b⟩ := cw_next (S := Unit) (w1 := fun _ => wc) (u := ()) hP hD hS hA isC isR hC hR hnR hdis ht hB.2 hk1
    exact kx E ce q9 H1 locs1 hB.1 a b hS1 hce hcv hcl
  · obtain ⟨a, b⟩ := cw_next hP hD hS hA isC isR hC hR hnR hdis ht hB hk1
    exact kk u H1 locs1 hw a b hS1
theorem cw_out {E : String} {ce : Cell} {q : Addr} {wd : va_W} {Qc : Array Value → State → Outcome → State → Prop} (hQ : Q = vx_MQ below Qc (cw_XX D A wd xp) args s mc ms A) (htab : ∀ x ∈ c.exceptionTable.toList, False) (hlocks : meth.locks = false) (hS : va_S A s.heap H locs) (hP : va_P D vwCl ws H) (hD : va_D A ws) (is0 : List Nat) (h1 : is0.map (fun i => ws[i]?) = wd.map some) (hnd : va_nd is0 = true)
    (hce : H[q]? = some ce) (hcv : ce.vm = .none) (hcl : s.vm.findClass E = some ce.cls) (hxp : xp E) (hc : cells ≤ mc) (hs : slots ≤ ms) : vx_W p l e R s m args below meth c H locs cells slots Q (F0 m pc ls rest) q := by
  subst hQ
  have hP9 := hP.sub is0 (cw_fm h1)
  have hD9 := hD.sub is0 hnd h1
  exact vx_out (fun x h => (htab x h).elim) hlocks hce hcv hcl (fun t ht _ => cw_xx hS hP9 hD9 hxp (by rw [ht]; exact Nat.le_refl _) (fun q _ => by rw [ht])) hS.2.2 hc hs
end CWXC
/-! METHODS WITH A TABLE OF THEIR OWN, THAT CATCH WHAT THEIR CALLEE THROWS -/
def cw_Wi (l : Launch) (y : MethodName) (wy : List Cond) (rm : Room) (D : va_G) (T : List (ClassId × FieldType)) (av : List Value) (ws : va_W) (mc ms : Nat) {S : Type} (post : Int32 → S → Prop) (w1 : S → va_W) : Prop :=
  ∀ sz : Nat, Met l y wy rm (va_Pc av (cw_BX D T sz ws)) (va_Qi post (fun u => cw_E D (va_A ws sz) (w1 u)) (va_A ws sz)) mc ms (va_A ws sz)
theorem cw_ofWi {l : Launch} {y : MethodName} {wy ws' : List Cond} {rm : Room} {D : va_G} {T : List (ClassId × FieldType)} {av : List Value} {wd : va_W} {mc ms : Nat} {S : Type} {w1 : S → va_W} {cc : ByteArray} {maxL : Nat} {ret : Option FieldType} {hh : List (Nat × Nat × Nat × Nat)} {post : Int32 → S → Prop} (hy : plainName y.cls = true) (hw : wy = Cond.codeWith y cc maxL ret hh :: ws') (hle : (lg_sl av).length ≤ maxL)
    (hret : ret = some (ret.getD .int)) (body : ∀ (p : Program) (e : Env) (s : State) (m : MethodId) (args : Array Value) (below : List Frame) (meth : Method) (c : Code) (A : Nat → Prop) (ls : Array Slot) (Q : State → Prop), cw_In p s m args meth c A ls y wy D T av wd cc maxL ret →
      cw_Ri p l e rm s m args below meth c Q D A cc ret mc ms post w1 → c.exceptionTable.toList = tableOf hh → cw_Z A s s.heap → cw_Str s → W p l e rm s m args below meth c s.heap [] 0 0 Q (F0 m 0 ls [])) : cw_Wi l y wy rm D T av wd mc ms post w1 := by
  intro sz
  refine va_MetW (cc := cc) (maxL := maxL) (ret := ret) (hh := hh) hy hw ?_
  intro p e s m args below meth c s₁ B hml hv
  obtain ⟨rfl, ⟨hsz, hP, hK, hD0, hN⟩, hZ, hStr⟩ := hv
  subst hsz
  rw [lg_entry_eq]
  have hts := atoms_spec (ws := wy) B.pre
  have htab := vx_table (x := y) B (hts (Cond.codeWith y cc maxL ret hh) (by rw [hw]; exact List.mem_cons_self))
  refine body p e s m av.toArray below meth c (va_A wd s.heap.size) _ _ ⟨B.exec, B.bytes, B.returns, hml, hts, findClass_of_methodNamed B.named, B.notSynchronized, (name_of_methodNamed B.named B.method).1, hP, hK, hD0.self (sz := s.heap.size), hN, fun q h => Or.inr h, lv_entry av hle⟩ ?_ htab hZ hStr
  intro H locs cells slots pc ls v wx hP hD hS hdg hn hu hc hs
  obtain ⟨u, hp, hu⟩ := hu
  have hlocks := B.notSynchronized
  refine W.widen hc hs ?_
  exact W.zret (v := v) (ty := ret.getD .int) B.exec B.bytes (B.returns.trans hret) hn (fun t ht hW => ⟨⟨v, u, rfl, hp, by show cw_E D _ (w1 u) t; rw [hu]; exact ⟨by rw [ht]; exact hP, hD⟩⟩, hS.F ht⟩) hS.2.2 hdg hlocks
section CWSW
variable {p : Program} {l : Launch} {e : Env} {R : Room} {s : State} {m : MethodId} {args : Array Value} {below : List Frame} {meth : Method} {c : Code} {H : Heap} {locs : List Loc} {cells slots : Nat} {Q : State → Prop}
variable {cc : ByteArray} {D : va_G} {T : List (ClassId × FieldType)} {A : Nat → Prop} {ws wc wr : va_W} {mc ms pc nL : Nat} {ls : Array Slot} {S : Type} {w1 : S → va_W} {st0 rest : List Value}
variable {y : MethodName} {bytes : ByteArray} {maxL n index : Nat} {wy : List Cond} {rm : Room} {Ts : List Cond} {own : String} {As : List Value}
theorem cw_cSWi {post : Int32 → S → Prop} {ret : Option FieldType} {hh : List (Nat × Nat × Nat × Nat)} (F : CallFix p m c cc nL s args Ts own) (hM : cw_Wi l y wy rm D T As wc mc ms post w1) (cw : vx_CSW R s args own index y bytes maxL ret hh wy rm mc ms n)
    (hK : va_K D vwCl T s) (hN : cw_N s) (hP : va_P D vwCl ws H) (hD : va_D A ws) (hS : va_S A s.heap H locs) (hA : ∀ q : Nat, s.heap.size ≤ q → A q) (hZ : cw_Z A s s.heap) (hStr : cw_Str s) (isC isR : List Nat) (hC : isC.map (fun i => ws[i]?) = wc.map some) (hR : isR.map (fun i => ws[i]?) = wr.map some) (hnC : va_nd isC = true) (hnR : va_nd isR = true) (hdis : ∀ i ∈ isR, i ∉ isC)
    (hn : As.length = n) (hl : ls.size = nL) (hst : st0 = As.reverse ++ rest) (hW : (rest.map fun v => v.category).sum ≤ 8) (hdg : decode cc pc = .ok (.invokestatic index, 3)) (hf : cells + mc ≤ R.cells ∧ slots + ms ≤ R.slots)
    (kk : ∀ (r : Int32) (u : S) (H : Heap) (locs : List Loc), post r u → va_P D vwCl (wr ++ w1 u) H → va_D A (wr ++ w1 u) → va_S A s.heap H locs → W p l e R s m args below meth c H locs (cells + mc) (slots + ms) Q (F0 m (pc + 3) ls (.int r :: rest))) :
    W p l e R s m args below meth c H locs cells slots Q (F0 m pc ls st0) := by
  have hPc := hP.sub isC (cw_fm hC)
  have hDc := hD.sub isC hnC hC
  have hFc := va_free (wc := wc) hD hS hA isC hC
  have hr := vx_runSW (p := p) (e := e) (below := below) (meth := meth) (H := H) (locs := locs) (g := F0 m pc ls st0) (rest := rest) F (hM H.size) cw ⟨cw_blindX D T H.size wc _, cw_preX hK hN hPc hDc hS hZ hStr hFc⟩ rfl hn hl hst (lv_room hW) hdg hf
  exact cw_ki (av := As) hr hP hD hS hA isC isR hC hR hnR hdis kk
end CWSW
