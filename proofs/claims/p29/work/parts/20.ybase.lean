/-! METHODS THAT THROW NOTHING THEMSELVES, BUT CALL WHAT CATCHES: their start has what throws want -/
def ish (x y : Int32) : Int32 := (x.toUInt32 >>> (y.toUInt32 &&& Int32.toUInt32 31)).toInt32
theorem cw_ofYi {l : Launch} {y : MethodName} {wy ws' : List Cond} {rm : Room} {D : va_G} {T : List (ClassId × FieldType)} {av : List Value} {wd : va_W} {mc ms : Nat} {S : Type} {w1 : S → va_W} {cc : ByteArray} {maxL : Nat} {ret : Option FieldType} {post : Int32 → S → Prop} (hy : plainName y.cls = true) (hw : wy = Cond.code y cc maxL ret :: ws') (hle : (lg_sl av).length ≤ maxL)
    (hret : ret = some (ret.getD .int)) (body : ∀ (p : Program) (e : Env) (s : State) (m : MethodId) (args : Array Value) (below : List Frame) (meth : Method) (c : Code) (A : Nat → Prop) (ls : Array Slot) (Q : State → Prop), cw_In p s m args meth c A ls y wy D T av wd cc maxL ret →
      cw_Ri p l e rm s m args below meth c Q D A cc ret mc ms post w1 → cw_Z A s s.heap → cw_Str s → W p l e rm s m args below meth c s.heap [] 0 0 Q (F0 m 0 ls [])) : cw_Wi l y wy rm D T av wd mc ms post w1 := by
  intro sz
  refine Met.ofW (cc := cc) (maxL := maxL) (ret := ret) hy hw ?_
  intro p e s m args below meth c s₁ B hml hv
  obtain ⟨rfl, ⟨hsz, hP, hK, hD0, hN⟩, hZ, hStr⟩ := hv
  subst hsz
  rw [lg_entry_eq]
  have hts := atoms_spec (ws := wy) B.pre
  refine body p e s m av.toArray below meth c (va_A wd s.heap.size) _ _ ⟨B.exec, B.bytes, B.returns, hml, hts, findClass_of_methodNamed B.named, B.notSynchronized, (name_of_methodNamed B.named B.method).1, hP, hK, hD0.self (sz := s.heap.size), hN, fun q h => Or.inr h, lv_entry av hle⟩ ?_ hZ hStr
  intro H locs cells slots pc ls v wx hP hD hS hdg hn hu hc hs
  obtain ⟨u, hp, hu⟩ := hu
  have hlocks := B.notSynchronized
  refine W.widen hc hs ?_
  exact W.zret (v := v) (ty := ret.getD .int) B.exec B.bytes (B.returns.trans hret) hn (fun t ht hW => ⟨⟨v, u, rfl, hp, by show cw_E D _ (w1 u) t; rw [hu]; exact ⟨by rw [ht]; exact hP, hD⟩⟩, hS.F ht⟩) hS.2.2 hdg hlocks
section CWSY
variable {p : Program} {l : Launch} {e : Env} {R : Room} {s : State} {m : MethodId} {args : Array Value} {below : List Frame} {meth : Method} {c : Code} {H : Heap} {locs : List Loc} {cells slots : Nat} {Q : State → Prop}
variable {cc : ByteArray} {D : va_G} {T : List (ClassId × FieldType)} {A : Nat → Prop} {ws wc wr : va_W} {mc ms pc nL : Nat} {ls : Array Slot} {S : Type} {w1 : S → va_W} {st0 rest : List Value}
variable {y : MethodName} {bytes : ByteArray} {maxL n index : Nat} {wy : List Cond} {rm : Room} {Ts : List Cond} {own : String} {As : List Value} {xp : String → Prop}
theorem cw_cSYi {post : Int32 → S → Prop} {ret : Option FieldType} (F : CallFix p m c cc nL s args Ts own) (hM : cw_Wi l y wy rm D T As wc mc ms post w1) (cw : CallB R s args own index y bytes maxL ret wy rm mc ms n ∧ (Cond.static y).before args s = true)
    (hK : va_K D vwCl T s) (hN : cw_N s) (hP : va_P D vwCl ws H) (hD : va_D A ws) (hS : va_S A s.heap H locs) (hA : ∀ q : Nat, s.heap.size ≤ q → A q) (hZ : cw_Z A s s.heap) (hStr : cw_Str s) (isC isR : List Nat) (hC : isC.map (fun i => ws[i]?) = wc.map some) (hR : isR.map (fun i => ws[i]?) = wr.map some) (hnC : va_nd isC = true) (hnR : va_nd isR = true) (hdis : ∀ i ∈ isR, i ∉ isC)
    (hn : As.length = n) (hl : ls.size = nL) (hst : st0 = As.reverse ++ rest) (hW : (rest.map fun v => v.category).sum ≤ 8) (hdg : decode cc pc = .ok (.invokestatic index, 3)) (hf : cells + mc ≤ R.cells ∧ slots + ms ≤ R.slots)
    (kk : ∀ (r : Int32) (u : S) (H : Heap) (locs : List Loc), post r u → va_P D vwCl (wr ++ w1 u) H → va_D A (wr ++ w1 u) → va_S A s.heap H locs → W p l e R s m args below meth c H locs (cells + mc) (slots + ms) Q (F0 m (pc + 3) ls (.int r :: rest))) :
    W p l e R s m args below meth c H locs cells slots Q (F0 m pc ls st0) := by
  have hPc := hP.sub isC (cw_fm hC)
  have hDc := hD.sub isC hnC hC
  have hFc := va_free (wc := wc) hD hS hA isC hC
  have hr := va_runS (p := p) (e := e) (below := below) (meth := meth) (H := H) (locs := locs) (g := F0 m pc ls st0) (rest := rest) F (hM H.size) cw ⟨cw_blindX D T H.size wc _, cw_preX hK hN hPc hDc hS hZ hStr hFc⟩ rfl hn hl hst (lv_room hW) hdg hf
  exact cw_ki (av := As) hr hP hD hS hA isC isR hC hR hnR hdis kk
theorem cw_cSXi {post : Int32 → S → Prop} (F : CallFix p m c cc nL s args Ts own) (hM : cw_Xi l y wy rm D T As wc mc ms post w1 xp) {ret : Option FieldType} (cw : CallB R s args own index y bytes maxL ret wy rm mc ms n ∧ (Cond.static y).before args s = true)
    (hK : va_K D vwCl T s) (hN : cw_N s) (hP : va_P D vwCl ws H) (hD : va_D A ws) (hS : va_S A s.heap H locs) (hA : ∀ q : Nat, s.heap.size ≤ q → A q) (hZ : cw_Z A s s.heap) (hStr : cw_Str s) (isC isR : List Nat) (hC : isC.map (fun i => ws[i]?) = wc.map some) (hR : isR.map (fun i => ws[i]?) = wr.map some) (hnC : va_nd isC = true) (hnR : va_nd isR = true) (hdis : ∀ i ∈ isR, i ∉ isC)
    (hn : As.length = n) (hl : ls.size = nL) (hst : st0 = As.reverse ++ rest) (hW : (rest.map fun v => v.category).sum ≤ 8) (hdg : decode cc pc = .ok (.invokestatic index, 3)) (hf : cells + mc ≤ R.cells ∧ slots + ms ≤ R.slots)
    (kx : ∀ (E : String) (ce : Cell) (q9 : Addr) (H : Heap) (locs : List Loc), xp E → va_P D vwCl (wr ++ wc) H → va_D A (wr ++ wc) → va_S A s.heap H locs → H[q9]? = some ce → ce.vm = .none → s.vm.findClass E = some ce.cls → vx_W p l e R s m args below meth c H locs (cells + mc) (slots + ms) Q (F0 m pc ls rest) q9)
    (kk : ∀ (r : Int32) (u : S) (H : Heap) (locs : List Loc), post r u → va_P D vwCl (wr ++ w1 u) H → va_D A (wr ++ w1 u) → va_S A s.heap H locs → W p l e R s m args below meth c H locs (cells + mc) (slots + ms) Q (F0 m (pc + 3) ls (.int r :: rest))) :
    W p l e R s m args below meth c H locs cells slots Q (F0 m pc ls st0) := by
  have hPc := hP.sub isC (cw_fm hC)
  have hDc := hD.sub isC hnC hC
  have hFc := va_free (wc := wc) hD hS hA isC hC
  have hr := vx_runS (p := p) (e := e) (below := below) (meth := meth) (H := H) (locs := locs) (g := F0 m pc ls st0) (rest := rest) F (hM H.size) cw ⟨cw_blindX D T H.size wc _, cw_preX hK hN hPc hDc hS hZ hStr hFc⟩ rfl hn hl hst (lv_room hW) hdg hf
  refine vx_calli hr hS (fun q _ h => hFc q h) hFc (fun q _ h => hFc q h) (fun E ce q9 u t H1 locs1 ht hvm _ hB hz1 hk1 hS1 hce hcv hcl => ?_) (fun r u t H1 locs1 ht hvm hw hB hz1 hk1 hS1 => ?_)
  · obtain ⟨a, b⟩ := cw_next (S := Unit) (w1 := fun _ => wc) (u := ()) hP hD hS hA isC isR hC hR hnR hdis ht hB.2 hk1
    exact kx E ce q9 H1 locs1 hB.1 a b hS1 hce hcv hcl
  · obtain ⟨a, b⟩ := cw_next hP hD hS hA isC isR hC hR hnR hdis ht hB hk1
    exact kk r u H1 locs1 hw a b hS1
end CWSY
/-! THE LAW'S CELL: it reads the script, and changes nothing -/
def cl_B (b L : Nat) (sc : Nat → Int32) (sz : Nat) (U : State) : Prop := U.heap.size = sz ∧ va_X b L sc U U.heap ∧ b < sz
theorem cl_blind (b L : Nat) (sc : Nat → Int32) (sz : Nat) (av : List Value) : FrameBlind (va_Pc av (cl_B b L sc sz)) := by
  intro a U g mk q
  obtain ⟨q0, q1, qX, qb⟩ := q
  exact ⟨q0, q1, va_X.moved (u := U) (U := U.calling g mk a) (Vm.Alike.refl U.vm) qX, qb⟩
def cl_M (l : Launch) (y : MethodName) (wy : List Cond) (rm : Room) (b L : Nat) (sc : Nat → Int32) (av : List Value) (v : Int32) : Prop :=
  ∀ sz : Nat, Met l y wy rm (va_Pc av (cl_B b L sc sz)) (va_Qi (fun r (_ : Unit) => r = v) (fun _ _ => True) (fun q : Nat => sz ≤ q)) 0 0 (fun q : Nat => sz ≤ q)
theorem cl_of {l : Launch} {y : MethodName} {wy ws' : List Cond} {rm : Room} {b L : Nat} {sc : Nat → Int32} {av : List Value} {v : Int32} {cc : ByteArray} {maxL : Nat} {ret : Option FieldType} (hy : plainName y.cls = true) (hw : wy = Cond.code y cc maxL ret :: ws') (hle : (lg_sl av).length ≤ maxL) (hret : ret = some (ret.getD .int)) (hnar : narrow (ret.getD .int) (.int v) = .int v)
    (body : ∀ (p : Program) (e : Env) (s : State) (m : MethodId) (args : Array Value) (below : List Frame) (meth : Method) (c : Code) (A : Nat → Prop) (ls : Array Slot) (Q : State → Prop), p.tables.exec = Jvm.exec → c.code = cc → c.maxLocals = maxL → (∀ w ∈ wy, w.before args s = true) → s.vm.findClass y.cls = some m.cls → va_X b L sc s s.heap → b < s.heap.size → ¬ A b → lv_has ls maxL (lv_args 0 av) →
      (∀ (pc : Nat) (ls : Array Slot), decode cc pc = .ok (.ireturn, 1) → W p l e rm s m args below meth c s.heap [] 0 0 Q (F0 m pc ls [.int v])) → W p l e rm s m args below meth c s.heap [] 0 0 Q (F0 m 0 ls [])) : cl_M l y wy rm b L sc av v := by
  intro sz
  refine Met.ofW (cc := cc) (maxL := maxL) (ret := ret) hy hw ?_
  intro p e s m args below meth c s₁ B hml hv
  obtain ⟨rfl, hsz, hX, hb⟩ := hv
  subst hsz
  rw [lg_entry_eq]
  have hlocks := B.notSynchronized
  refine body p e s m av.toArray below meth c (fun q : Nat => s.heap.size ≤ q) _ _ B.exec B.bytes hml (atoms_spec (ws := wy) B.pre) (findClass_of_methodNamed B.named) hX hb (Nat.not_le.mpr hb) (lv_entry av hle) ?_
  intro pc ls hdg
  exact W.zret (v := v) (ty := ret.getD .int) B.exec B.bytes (B.returns.trans hret) hnar (fun t ht hW => ⟨⟨v, (), rfl, rfl, trivial⟩, va_S.F (A := fun q : Nat => s.heap.size ≤ q) (locs := []) va_S.rf ht⟩) (fun q h => by cases h) hdg hlocks
theorem cl_call {p : Program} {l : Launch} {e : Env} {R : Room} {s : State} {m : MethodId} {args : Array Value} {below : List Frame} {meth : Method} {c : Code} {H : Heap} {locs : List Loc} {cells slots : Nat} {Q : State → Prop} {cc : ByteArray} {D : va_G} {A : Nat → Prop} {ws : va_W} {pc nL : Nat} {ls : Array Slot} {st0 rest : List Value} {y : MethodName} {bytes : ByteArray} {maxL n index : Nat} {wy : List Cond} {rm : Room} {Ts : List Cond} {own : String} {As : List Value} {v : Int32} {bs L : Nat} {sc : Nat → Int32}
    (F : CallFix p m c cc nL s args Ts own) (hM : cl_M l y wy rm bs L sc As v) {ret : Option FieldType} (cw : CallB R s args own index y bytes maxL ret wy rm 0 0 n ∧ (Cond.static y).before args s = true) (hX : va_X bs L sc s s.heap) (hbl : bs < s.heap.size) (hbA : ¬ A bs)
    (hP : va_P D vwCl ws H) (hD : va_D A ws) (hS : va_S A s.heap H locs) (hA : ∀ q : Nat, s.heap.size ≤ q → A q) (hn : As.length = n) (hl : ls.size = nL) (hst : st0 = As.reverse ++ rest) (hW : (rest.map fun v => v.category).sum ≤ 8) (hdg : decode cc pc = .ok (.invokestatic index, 3)) (hf : cells + 0 ≤ R.cells ∧ slots + 0 ≤ R.slots)
    (kk : ∀ (r : Int32) (H : Heap) (locs : List Loc), r = v → va_P D vwCl ws H → va_D A ws → va_S A s.heap H locs → W p l e R s m args below meth c H locs cells slots Q (F0 m (pc + 3) ls (.int r :: rest))) :
    W p l e R s m args below meth c H locs cells slots Q (F0 m pc ls st0) := by
  have hr := va_runS (p := p) (e := e) (below := below) (meth := meth) (H := H) (locs := locs) (g := F0 m pc ls st0) (rest := rest) F (hM H.size) cw
    ⟨cl_blind bs L sc H.size _, fun U hU hW => ⟨rfl, by rw [hU], by rw [hU]; exact (hX.kept (hS.2.1 bs hbl hbA)).moved hW.alike, Nat.lt_of_lt_of_le hbl hS.1⟩⟩ rfl hn hl hst (lv_room hW) hdg hf
  have hg : ∀ q : Nat, H.size ≤ q → A q := fun q h => hA q (Nat.le_trans hS.1 h)
  refine va_calli hr hS (fun q _ h => hg q h) hg (fun r u t H1 locs1 ht hvm hw hB hz1 hk1 hS1 => ?_)
  exact kk r H1 locs1 hw (hP.kept (fun k q hq => hk1 q.1 (vx_lt hP hq) (Nat.not_le.mpr (vx_lt hP hq)))) hD hS1
