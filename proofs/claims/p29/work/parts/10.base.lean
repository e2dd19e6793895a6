/-! GENERAL ROWS OF THIS PROOF: worlds, contracts, calls, ends -/
/-- the words of private members across the nest; carried by every contract's start -/
def cw_isN : Cond → Bool
  | .fieldLinkNest _ _ _ _ _ _ => true
  | .methodLinkNest _ _ _ _ => true
  | .castable _ _ => true
  | .declares _ => true
  | _ => false
theorem cw_isN_tab {w : Cond} (h : cw_isN w = true) : w.onTables = true := by
  cases w <;> first | rfl | cases h
theorem cw_warmD {y : MethodName} {s U : State} (hW : s.WarmedH U.vm) (hZ : va_Nw (.declares y) s) : va_Nw (.declares y) U := va_tabs rfl (rfl : (s.setVm U.vm).vm = U.vm) (by rw [Cond.declares_setVm hW.alike]; exact hZ)
theorem cw_isN_warm {w : Cond} (h : cw_isN w = true) {s U : State} (hW : s.WarmedH U.vm) (hZ : va_Nw w s) : va_Nw w U := by
  cases w <;> first | exact va_Nw.warmF hW hZ | exact va_Nw.warmM hW hZ | exact va_Nw.warmC hW hZ | exact cw_warmD hW hZ | cases h
def cw_nest : List Cond := [.declares ⟨"java/lang/RuntimeException", "<init>", "(Ljava/lang/String;)V"⟩, .declares ⟨"java/lang/Exception", "<init>", "(Ljava/lang/String;)V"⟩, .declares ⟨"java/lang/Throwable", "<init>", "(Ljava/lang/String;)V"⟩, .castable "java/lang/IllegalArgumentException" "java/lang/IllegalArgumentException", .castable "java/lang/IllegalStateException" "java/lang/IllegalStateException", .castable "java/lang/IndexOutOfBoundsException" "java/lang/IndexOutOfBoundsException", .fieldLinkNest "Burnerline" 72 "Burnerline$Settings" "rate" "I" "Burnerline", .fieldLinkNest "Burnerline$Furnace" 112 "Burnerline$Settings" "rate" "I" "Burnerline", .fieldLinkNest "Burnerline" 80 "Burnerline$Settings" "longestPurge" "I" "Burnerline", .fieldLinkNest "Burnerline$Furnace" 151 "Burnerline$Settings" "longestPurge" "I" "Burnerline", .fieldLinkNest "Burnerline" 83 "Burnerline$Settings" "longestPilot" "I" "Burnerline", .fieldLinkNest "Burnerline$Furnace" 160 "Burnerline$Settings" "longestPilot" "I" "Burnerline", .fieldLinkNest "Burnerline" 86 "Burnerline$Settings" "longestMain" "I" "Burnerline", .fieldLinkNest "Burnerline$Furnace" 163 "Burnerline$Settings" "longestMain" "I" "Burnerline", .fieldLinkNest "Burnerline" 89 "Burnerline$Settings" "afterPurge" "I" "Burnerline", .fieldLinkNest "Burnerline$Furnace" 172 "Burnerline$Settings" "afterPurge" "I" "Burnerline", .fieldLinkNest "Burnerline" 94 "Burnerline$Settings" "ticksToLight" "I" "Burnerline", .fieldLinkNest "Burnerline$Furnace" 84 "Burnerline$Settings" "ticksToLight" "I" "Burnerline", .fieldLinkNest "Burnerline" 97 "Burnerline$Settings" "ticksToNone" "I" "Burnerline", .fieldLinkNest "Burnerline$Furnace" 89 "Burnerline$Settings" "ticksToNone" "I" "Burnerline", .fieldLinkNest "Burnerline" 100 "Burnerline$Settings" "ticksToCheck" "I" "Burnerline", .fieldLinkNest "Burnerline$Furnace" 169 "Burnerline$Settings" "ticksToCheck" "I" "Burnerline", .fieldLinkNest "Burnerline" 105 "Burnerline$Settings" "volume" "I" "Burnerline", .fieldLinkNest "Burnerline$Furnace" 148 "Burnerline$Settings" "volume" "I" "Burnerline", .fieldLinkNest "Burnerline" 108 "Burnerline$Settings" "airStep" "I" "Burnerline", .fieldLinkNest "Burnerline$Furnace" 102 "Burnerline$Settings" "airStep" "I" "Burnerline", .fieldLinkNest "Burnerline" 111 "Burnerline$Settings" "fuelStep" "I" "Burnerline", .fieldLinkNest "Burnerline$Furnace" 109 "Burnerline$Settings" "fuelStep" "I" "Burnerline", .fieldLinkNest "Burnerline$Furnace" 54 "Burnerline$Eye" "seesFlame" "Z" "Burnerline", .fieldLinkNest "Burnerline" 170 "Burnerline$Eye" "seesFlame" "Z" "Burnerline", .fieldLinkNest "Burnerline" 176 "Burnerline$Furnace" "pilotEye" "LBurnerline$Eye;" "Burnerline", .fieldLinkNest "Burnerline" 166 "Burnerline$Furnace" "mainEye" "LBurnerline$Eye;" "Burnerline", .fieldLinkNest "Burnerline" 154 "Burnerline$Furnace" "state" "I" "Burnerline", .fieldLinkNest "Burnerline" 157 "Burnerline$Furnace" "reason" "I" "Burnerline", .fieldLinkNest "Burnerline" 138 "Burnerline$Furnace" "time" "I" "Burnerline", .fieldLinkNest "Burnerline" 179 "Burnerline$Furnace" "air" "I" "Burnerline", .fieldLinkNest "Burnerline" 182 "Burnerline$Furnace" "fuel" "I" "Burnerline", .fieldLinkNest "Burnerline" 185 "Burnerline$Furnace" "purged" "I" "Burnerline", .fieldLinkNest "Burnerline" 188 "Burnerline$Furnace" "unlit" "I" "Burnerline", .fieldLinkNest "Burnerline" 191 "Burnerline$Furnace" "longestUnlit" "I" "Burnerline", .fieldLinkNest "Burnerline" 205 "Burnerline$History" "tickRow" "[I" "Burnerline", .fieldLinkNest "Burnerline" 213 "Burnerline$History" "stateRow" "[I" "Burnerline", .fieldLinkNest "Burnerline" 216 "Burnerline$History" "reasonRow" "[I" "Burnerline", .fieldLinkNest "Burnerline" 194 "Burnerline$History" "added" "I" "Burnerline", .fieldLinkNest "Burnerline" 197 "Burnerline$History" "kept" "I" "Burnerline", .fieldLinkNest "Burnerline" 225 "Burnerline$Ahead" "furnace" "LBurnerline$Furnace;" "Burnerline", .fieldLinkNest "Burnerline" 242 "Burnerline$Ahead" "next" "LBurnerline$Ahead;" "Burnerline", .methodLinkNest "Burnerline" 11 ⟨"Burnerline$Settings", "<init>", "()V"⟩ "Burnerline", .methodLinkNest "Burnerline$Furnace" 11 ⟨"Burnerline$Eye", "<init>", "()V"⟩ "Burnerline", .methodLinkNest "Burnerline" 27 ⟨"Burnerline$History", "<init>", "()V"⟩ "Burnerline", .methodLinkNest "Burnerline" 34 ⟨"Burnerline$Resets", "<init>", "()V"⟩ "Burnerline", .methodLinkNest "Burnerline$Furnace" 65 ⟨"Burnerline", "isOn", "(II)Z"⟩ "Burnerline"]
def cw_N (U : State) : Prop := ∀ w ∈ cw_nest, va_Nw w U
theorem cw_nest_ok : ∀ w ∈ cw_nest, cw_isN w = true := by decide +kernel
theorem cw_N.same {u U : State} (h : u.vm = U.vm) (hZ : cw_N u) : cw_N U := fun w hw => va_Nw.same (cw_isN_tab (cw_nest_ok w hw)) h (hZ w hw)
theorem cw_N.warm {s U : State} (hW : s.WarmedH U.vm) (hZ : cw_N s) : cw_N U := fun w hw => cw_isN_warm (cw_nest_ok w hw) hW (hZ w hw)
theorem cw_N.use {U : State} {args : Array Value} (hZ : cw_N U) {w : Cond} (hw : w ∈ cw_nest) : w.before args U = true := va_Nw.use (cw_isN_tab (cw_nest_ok w hw)) (hZ w hw)
/-- a contract's start: the world's cells, apart; the tables; the nest words -/
def cw_B (D : va_G) (T : List (ClassId × FieldType)) (sz : Nat) (ws : va_W) (U : State) : Prop :=
  U.heap.size = sz ∧ va_P D vwCl ws U.heap ∧ va_K D vwCl T U ∧ va_D (fun _ => True) ws ∧ cw_N U
def cw_E (D : va_G) (A : Nat → Prop) (ws : va_W) (t : State) : Prop := va_P D vwCl ws t.heap ∧ va_D A ws
theorem cw_blind (D : va_G) (T : List (ClassId × FieldType)) (sz : Nat) (ws : va_W) (av : List Value) : FrameBlind (va_Pc av (cw_B D T sz ws)) := by
  intro a U g mk q
  obtain ⟨q0, q1, qP, qK, qD, qN⟩ := q
  exact ⟨q0, q1, qP, va_K.moved (u := U) (U := U.calling g mk a) (Vm.Alike.refl U.vm) qK, qD, cw_N.same (u := U) (U := U.calling g mk a) rfl qN⟩
theorem cw_pre {D : va_G} {T : List (ClassId × FieldType)} {ws wc : va_W} {s : State} {H : Heap} {A : Nat → Prop} {av : List Value} (hK : va_K D vwCl T s) (hN : cw_N s) (hP : va_P D vwCl wc H) (hD : va_D A wc) :
    ∀ U : State, U.heap = H → s.WarmedH U.vm → va_Pc av (cw_B D T H.size wc) av.toArray U := fun U hU hW =>
  ⟨rfl, by rw [hU], by rw [hU]; exact hP, va_K.moved hW.alike hK, hD.weaken (fun _ _ _ _ => trivial), hN.warm hW⟩
theorem cw_fm {α : Type} {is : List Nat} {ws wc : List α} (h : is.map (fun i => ws[i]?) = wc.map some) : is.filterMap (fun i => ws[i]?) = wc := by
  induction is generalizing wc with
  | nil => cases wc with
    | nil => rfl
    | cons a l => simp at h
  | cons i is ih =>
    cases wc with
    | nil => simp at h
    | cons a l =>
      simp only [List.map_cons, List.cons.injEq] at h
      rw [List.filterMap_cons, h.1]
      simp only
      rw [ih h.2]
def cw_Mi (l : Launch) (y : MethodName) (wy : List Cond) (rm : Room) (D : va_G) (T : List (ClassId × FieldType)) (av : List Value) (ws : va_W) (mc ms : Nat) {S : Type} (post : Int32 → S → Prop) (w1 : S → va_W) : Prop :=
  ∀ sz : Nat, Met l y wy rm (va_Pc av (cw_B D T sz ws)) (va_Qi post (fun u => cw_E D (va_A ws sz) (w1 u)) (va_A ws sz)) mc ms (va_A ws sz)
def cw_Ml (l : Launch) (y : MethodName) (wy : List Cond) (rm : Room) (D : va_G) (T : List (ClassId × FieldType)) (av : List Value) (ws : va_W) (mc ms : Nat) {S : Type} (post : Int64 → S → Prop) (w1 : S → va_W) : Prop :=
  ∀ sz : Nat, Met l y wy rm (va_Pc av (cw_B D T sz ws)) (va_Ql post (fun u => cw_E D (va_A ws sz) (w1 u)) (va_A ws sz)) mc ms (va_A ws sz)
def cw_Mv (l : Launch) (y : MethodName) (wy : List Cond) (rm : Room) (D : va_G) (T : List (ClassId × FieldType)) (av : List Value) (ws : va_W) (mc ms : Nat) {S : Type} (post : S → Prop) (w1 : S → va_W) : Prop :=
  ∀ sz : Nat, Met l y wy rm (va_Pc av (cw_B D T sz ws)) (va_Qv post (fun u => cw_E D (va_A ws sz) (w1 u)) (va_A ws sz)) mc ms (va_A ws sz)
section CWO
variable {l : Launch} {y : MethodName} {wy ws' : List Cond} {rm : Room} {D : va_G} {T : List (ClassId × FieldType)} {av : List Value} {wd : va_W} {mc ms : Nat} {S : Type} {w1 : S → va_W} {cc : ByteArray} {maxL : Nat} {ret : Option FieldType}
/-- what a body knows at its entry -/
def cw_In (p : Program) (s : State) (m : MethodId) (args : Array Value) (meth : Method) (c : Code) (A : Nat → Prop) (ls : Array Slot) (y : MethodName) (wy : List Cond) (D : va_G) (T : List (ClassId × FieldType)) (av : List Value) (wd : va_W) (cc : ByteArray) (maxL : Nat) (ret : Option FieldType) : Prop :=
  p.tables.exec = Jvm.exec ∧ c.code = cc ∧ meth.sig.returnType = ret ∧ c.maxLocals = maxL ∧ (∀ w ∈ wy, w.before args s = true) ∧ s.vm.findClass y.cls = some m.cls ∧ meth.locks = false ∧ meth.name = y.name ∧
  va_P D vwCl wd s.heap ∧ va_K D vwCl T s ∧ va_D A wd ∧ cw_N s ∧ (∀ q : Nat, s.heap.size ≤ q → A q) ∧ lv_has ls maxL (lv_args 0 av)
theorem cw_of {Qs : (Nat → Prop) → Array Value → State → Outcome → State → Prop} (hy : plainName y.cls = true) (hw : wy = Cond.code y cc maxL ret :: ws') (hle : (lg_sl av).length ≤ maxL)
    (body : ∀ (p : Program) (e : Env) (s : State) (m : MethodId) (below : List Frame) (meth : Method) (c : Code) (A : Nat → Prop) (ls : Array Slot), cw_In p s m av.toArray meth c A ls y wy D T av wd cc maxL ret →
      W p l e rm s m av.toArray below meth c s.heap [] 0 0 (MQ below (Qs A) av.toArray s mc ms A) (F0 m 0 ls [])) (sz : Nat) :
    Met l y wy rm (va_Pc av (cw_B D T sz wd)) (Qs (va_A wd sz)) mc ms (va_A wd sz) := by
  refine Met.ofW (cc := cc) (maxL := maxL) (ret := ret) hy hw ?_
  intro p e s m args below meth c s₁ B hml hv
  obtain ⟨rfl, hsz, hP, hK, hD0, hN⟩ := hv
  subst hsz
  rw [lg_entry_eq]
  exact body p e s m below meth c (va_A wd s.heap.size) _ ⟨B.exec, B.bytes, B.returns, hml, atoms_spec (ws := wy) B.pre, findClass_of_methodNamed B.named, B.notSynchronized, (name_of_methodNamed B.named B.method).1, hP, hK, hD0.self (sz := s.heap.size), hN, fun q h => Or.inr h, lv_entry av hle⟩
end CWO
def cw_rm (n : Nat) : Room := { frames := n, cells := 0, slots := 0, locals := 40 * n }
/-- what a body may use at its return (i) -/
def cw_Ri (p : Program) (l : Launch) (e : Env) (R : Room) (s : State) (m : MethodId) (args : Array Value) (below : List Frame) (meth : Method) (c : Code) (Q : State → Prop) (D : va_G) (A : Nat → Prop) (cc : ByteArray) (ret : Option FieldType) (mc ms : Nat) {S : Type} (post : Int32 → S → Prop) (w1 : S → va_W) : Prop :=
  ∀ (H : Heap) (locs : List Loc) (cells slots pc : Nat) (ls : Array Slot) (v : Int32) (wx : va_W), va_P D vwCl wx H → va_D A wx → va_S A s.heap H locs → decode cc pc = .ok (.ireturn, 1) → narrow (ret.getD .int) (.int v) = .int v → (∃ u : S, post v u ∧ w1 u = wx) → cells ≤ mc → slots ≤ ms → W p l e R s m args below meth c H locs cells slots Q (F0 m pc ls [.int v])
theorem cw_ofi {l : Launch} {y : MethodName} {wy ws' : List Cond} {rm : Room} {D : va_G} {T : List (ClassId × FieldType)} {av : List Value} {wd : va_W} {mc ms : Nat} {S : Type} {w1 : S → va_W} {cc : ByteArray} {maxL : Nat} {ret : Option FieldType} {post : Int32 → S → Prop} (hy : plainName y.cls = true) (hw : wy = Cond.code y cc maxL ret :: ws') (hle : (lg_sl av).length ≤ maxL)
    (hret : ret = some (ret.getD .int)) (body : ∀ (p : Program) (e : Env) (s : State) (m : MethodId) (args : Array Value) (below : List Frame) (meth : Method) (c : Code) (A : Nat → Prop) (ls : Array Slot) (Q : State → Prop), cw_In p s m args meth c A ls y wy D T av wd cc maxL ret →
      cw_Ri p l e rm s m args below meth c Q D A cc ret mc ms post w1 → W p l e rm s m args below meth c s.heap [] 0 0 Q (F0 m 0 ls [])) : cw_Mi l y wy rm D T av wd mc ms post w1 := by
  intro sz
  refine cw_of (Qs := fun A => va_Qi post (fun u => cw_E D A (w1 u)) A) hy hw hle (fun p e s m below meth c A ls h => body p e s m av.toArray below meth c A ls _ h ?_) sz
  obtain ⟨hx, hb, hr, hml, hts, hown, hlocks, hin, hP0, hK, hD0, hN, hA, hl⟩ := h
  intro H locs cells slots pc ls v wx hP hD hS hdg hn hu hc hs
  obtain ⟨u, hp, hu⟩ := hu
  refine W.widen hc hs ?_
  exact W.zret (v := v) (ty := ret.getD .int) hx hb (hr.trans hret) hn (fun t ht hW => ⟨⟨v, u, rfl, hp, by show cw_E D A (w1 u) t; rw [hu]; exact ⟨by rw [ht]; exact hP, hD⟩⟩, hS.F ht⟩) hS.2.2 hdg hlocks

/-- what a body may use at its return (l) -/
def cw_Rl (p : Program) (l : Launch) (e : Env) (R : Room) (s : State) (m : MethodId) (args : Array Value) (below : List Frame) (meth : Method) (c : Code) (Q : State → Prop) (D : va_G) (A : Nat → Prop) (cc : ByteArray) (ret : Option FieldType) (mc ms : Nat) {S : Type} (post : Int64 → S → Prop) (w1 : S → va_W) : Prop :=
  ∀ (H : Heap) (locs : List Loc) (cells slots pc : Nat) (ls : Array Slot) (v : Int64) (wx : va_W), va_P D vwCl wx H → va_D A wx → va_S A s.heap H locs → decode cc pc = .ok (.lreturn, 1) → (∃ u : S, post v u ∧ w1 u = wx) → cells ≤ mc → slots ≤ ms → W p l e R s m args below meth c H locs cells slots Q (F0 m pc ls [.long v])
theorem cw_ofl {l : Launch} {y : MethodName} {wy ws' : List Cond} {rm : Room} {D : va_G} {T : List (ClassId × FieldType)} {av : List Value} {wd : va_W} {mc ms : Nat} {S : Type} {w1 : S → va_W} {cc : ByteArray} {maxL : Nat} {ret : Option FieldType} {post : Int64 → S → Prop} (hy : plainName y.cls = true) (hw : wy = Cond.code y cc maxL ret :: ws') (hle : (lg_sl av).length ≤ maxL)
    (hret : ret = some .long) (body : ∀ (p : Program) (e : Env) (s : State) (m : MethodId) (args : Array Value) (below : List Frame) (meth : Method) (c : Code) (A : Nat → Prop) (ls : Array Slot) (Q : State → Prop), cw_In p s m args meth c A ls y wy D T av wd cc maxL ret →
      cw_Rl p l e rm s m args below meth c Q D A cc ret mc ms post w1 → W p l e rm s m args below meth c s.heap [] 0 0 Q (F0 m 0 ls [])) : cw_Ml l y wy rm D T av wd mc ms post w1 := by
  intro sz
  refine cw_of (Qs := fun A => va_Ql post (fun u => cw_E D A (w1 u)) A) hy hw hle (fun p e s m below meth c A ls h => body p e s m av.toArray below meth c A ls _ h ?_) sz
  obtain ⟨hx, hb, hr, hml, hts, hown, hlocks, hin, hP0, hK, hD0, hN, hA, hl⟩ := h
  intro H locs cells slots pc ls v wx hP hD hS hdg hu hc hs
  obtain ⟨u, hp, hu⟩ := hu
  refine W.widen hc hs ?_
  exact W.lret (v := v) hx hb (hr.trans hret) (fun t ht hW => ⟨⟨v, u, rfl, hp, by show cw_E D A (w1 u) t; rw [hu]; exact ⟨by rw [ht]; exact hP, hD⟩⟩, hS.F ht⟩) hS.2.2 hdg hlocks

/-- what a body may use at its return (v) -/
def cw_Rv (p : Program) (l : Launch) (e : Env) (R : Room) (s : State) (m : MethodId) (args : Array Value) (below : List Frame) (meth : Method) (c : Code) (Q : State → Prop) (D : va_G) (A : Nat → Prop) (cc : ByteArray) (ret : Option FieldType) (mc ms : Nat) {S : Type} (post : S → Prop) (w1 : S → va_W) : Prop :=
  ∀ (H : Heap) (locs : List Loc) (cells slots pc : Nat) (ls : Array Slot) (wx : va_W), va_P D vwCl wx H → va_D A wx → va_S A s.heap H locs → decode cc pc = .ok (.return_, 1) → (∃ u : S, post u ∧ w1 u = wx) → cells ≤ mc → slots ≤ ms → W p l e R s m args below meth c H locs cells slots Q (F0 m pc ls [])
theorem cw_ofv {l : Launch} {y : MethodName} {wy ws' : List Cond} {rm : Room} {D : va_G} {T : List (ClassId × FieldType)} {av : List Value} {wd : va_W} {mc ms : Nat} {S : Type} {w1 : S → va_W} {cc : ByteArray} {maxL : Nat} {ret : Option FieldType} {post : S → Prop} (hy : plainName y.cls = true) (hw : wy = Cond.code y cc maxL ret :: ws') (hle : (lg_sl av).length ≤ maxL)
    (hret : ret = none) (body : ∀ (p : Program) (e : Env) (s : State) (m : MethodId) (args : Array Value) (below : List Frame) (meth : Method) (c : Code) (A : Nat → Prop) (ls : Array Slot) (Q : State → Prop), cw_In p s m args meth c A ls y wy D T av wd cc maxL ret →
      cw_Rv p l e rm s m args below meth c Q D A cc ret mc ms post w1 → W p l e rm s m args below meth c s.heap [] 0 0 Q (F0 m 0 ls [])) : cw_Mv l y wy rm D T av wd mc ms post w1 := by
  intro sz
  refine cw_of (Qs := fun A => va_Qv post (fun u => cw_E D A (w1 u)) A) hy hw hle (fun p e s m below meth c A ls h => body p e s m av.toArray below meth c A ls _ h ?_) sz
  obtain ⟨hx, hb, hr, hml, hts, hown, hlocks, hin, hP0, hK, hD0, hN, hA, hl⟩ := h
  intro H locs cells slots pc ls wx hP hD hS hdg hu hc hs
  obtain ⟨u, hp, hu⟩ := hu
  refine W.widen hc hs ?_
  exact W.vret hx hb (hr.trans hret) (fun t ht hW => ⟨⟨u, rfl, hp, by show cw_E D A (w1 u) t; rw [hu]; exact ⟨by rw [ht]; exact hP, hD⟩⟩, hS.F ht⟩) hS.2.2 hdg hlocks
theorem cw_b01 {x : Int32} (h : x = 0 ∨ x = 1) : narrow .boolean (.int x) = .int x := by
  rcases h with rfl | rfl <;> rfl
theorem cw_f01 {x : Int32} (h : x = 0 ∨ x = 1) : fits .boolean (.int x) = true := by
  rcases h with rfl | rfl <;> rfl
section CWC
variable {p : Program} {l : Launch} {e : Env} {R : Room} {s : State} {m : MethodId} {args : Array Value} {below : List Frame} {meth : Method} {c : Code} {H : Heap} {locs : List Loc} {cells slots : Nat} {Q : State → Prop}
variable {cc : ByteArray} {D : va_G} {T : List (ClassId × FieldType)} {A : Nat → Prop} {ws wc wr : va_W} {mc ms pc nL : Nat} {ls : Array Slot} {S : Type} {w1 : S → va_W} {st0 rest : List Value}
variable {y : MethodName} {bytes : ByteArray} {maxL n index : Nat} {wy : List Cond} {rm : Room} {Ts : List Cond} {own C host : String} {b : Nat} {As av : List Value}
/-- what the caller hands over and keeps -/
theorem cw_next {Hx : Heap} {u : S} {t : State} (hP : va_P D vwCl ws H) (hD : va_D A ws) (hS : va_S A s.heap H locs) (hA : ∀ q : Nat, s.heap.size ≤ q → A q) (isC isR : List Nat) (hC : isC.map (fun i => ws[i]?) = wc.map some) (hR : isR.map (fun i => ws[i]?) = wr.map some) (hnR : va_nd isR = true) (hdis : ∀ i ∈ isR, i ∉ isC)
    (ht : t.heap = Hx) (hB : cw_E D (va_A wc H.size) (w1 u) t) (hk1 : ∀ q : Nat, q < H.size → ¬ va_A wc H.size q → Hx[q]? = H[q]?) : va_P D vwCl (wr ++ w1 u) Hx ∧ va_D A (wr ++ w1 u) := by
  obtain ⟨hP1, hD1⟩ := hB
  rw [ht] at hP1
  exact va_join hP hD isC isR hC hR hnR hdis hk1 (va_free hD hS hA isC hC) hP1 hD1
/-- a call's end, for an int -/
theorem cw_ki {post : Int32 → S → Prop} (hr : va_Run p l e R s m args below meth c H locs cells slots mc ms (F0 m pc ls st0) rest (va_Qi post (fun u => cw_E D (va_A wc H.size) (w1 u)) (va_A wc H.size) av.toArray) (va_A wc H.size))
    (hP : va_P D vwCl ws H) (hD : va_D A ws) (hS : va_S A s.heap H locs) (hA : ∀ q : Nat, s.heap.size ≤ q → A q) (isC isR : List Nat) (hC : isC.map (fun i => ws[i]?) = wc.map some) (hR : isR.map (fun i => ws[i]?) = wr.map some) (hnR : va_nd isR = true) (hdis : ∀ i ∈ isR, i ∉ isC)
    (kk : ∀ (r : Int32) (u : S) (H : Heap) (locs : List Loc), post r u → va_P D vwCl (wr ++ w1 u) H → va_D A (wr ++ w1 u) → va_S A s.heap H locs → W p l e R s m args below meth c H locs (cells + mc) (slots + ms) Q (F0 m (pc + 3) ls (.int r :: rest))) :
    W p l e R s m args below meth c H locs cells slots Q (F0 m pc ls st0) := by
  have hFc := va_free (wc := wc) hD hS hA isC hC
  refine va_calli hr hS (fun q _ h => hFc q h) hFc (fun r u t H1 locs1 ht hvm hw hB hz1 hk1 hS1 => ?_)
  obtain ⟨a, b⟩ := cw_next hP hD hS hA isC isR hC hR hnR hdis ht hB hk1
  exact kk r u H1 locs1 hw a b hS1
theorem cw_kl {post : Int64 → S → Prop} (hr : va_Run p l e R s m args below meth c H locs cells slots mc ms (F0 m pc ls st0) rest (va_Ql post (fun u => cw_E D (va_A wc H.size) (w1 u)) (va_A wc H.size) av.toArray) (va_A wc H.size))
    (hP : va_P D vwCl ws H) (hD : va_D A ws) (hS : va_S A s.heap H locs) (hA : ∀ q : Nat, s.heap.size ≤ q → A q) (isC isR : List Nat) (hC : isC.map (fun i => ws[i]?) = wc.map some) (hR : isR.map (fun i => ws[i]?) = wr.map some) (hnR : va_nd isR = true) (hdis : ∀ i ∈ isR, i ∉ isC)
    (kk : ∀ (r : Int64) (u : S) (H : Heap) (locs : List Loc), post r u → va_P D vwCl (wr ++ w1 u) H → va_D A (wr ++ w1 u) → va_S A s.heap H locs → W p l e R s m args below meth c H locs (cells + mc) (slots + ms) Q (F0 m (pc + 3) ls (.long r :: rest))) :
    W p l e R s m args below meth c H locs cells slots Q (F0 m pc ls st0) := by
  have hFc := va_free (wc := wc) hD hS hA isC hC
  refine va_calll hr hS (fun q _ h => hFc q h) hFc (fun r u t H1 locs1 ht hvm hw hB hz1 hk1 hS1 => ?_)
  obtain ⟨a, b⟩ := cw_next hP hD hS hA isC isR hC hR hnR hdis ht hB hk1
  exact kk r u H1 locs1 hw a b hS1
theorem cw_kv {post : S → Prop} (hr : va_Run p l e R s m args below meth c H locs cells slots mc ms (F0 m pc ls st0) rest (va_Qv post (fun u => cw_E D (va_A wc H.size) (w1 u)) (va_A wc H.size) av.toArray) (va_A wc H.size))
    (hP : va_P D vwCl ws H) (hD : va_D A ws) (hS : va_S A s.heap H locs) (hA : ∀ q : Nat, s.heap.size ≤ q → A q) (isC isR : List Nat) (hC : isC.map (fun i => ws[i]?) = wc.map some) (hR : isR.map (fun i => ws[i]?) = wr.map some) (hnR : va_nd isR = true) (hdis : ∀ i ∈ isR, i ∉ isC)
    (kk : ∀ (u : S) (H : Heap) (locs : List Loc), post u → va_P D vwCl (wr ++ w1 u) H → va_D A (wr ++ w1 u) → va_S A s.heap H locs → W p l e R s m args below meth c H locs (cells + mc) (slots + ms) Q (F0 m (pc + 3) ls rest)) :
    W p l e R s m args below meth c H locs cells slots Q (F0 m pc ls st0) := by
  have hFc := va_free (wc := wc) hD hS hA isC hC
  refine va_callv hr hS (fun q _ h => hFc q h) hFc (fun u t H1 locs1 ht hvm hw hB hz1 hk1 hS1 => ?_)
  obtain ⟨a, b⟩ := cw_next hP hD hS hA isC isR hC hR hnR hdis ht hB hk1
  exact kk u H1 locs1 hw a b hS1
/-- the run of a call, by how it is called -/
theorem cw_rV {Qc : Array Value → State → Outcome → State → Prop} (F : CallFix p m c cc nL s args Ts own) (hM : Met l y wy rm (va_Pc (.ref b :: As) (cw_B D T H.size wc)) Qc mc ms (va_A wc H.size)) {ret : Option FieldType} (cw : CallW R s args own C index y bytes maxL ret wy rm mc ms n)
    (hK : va_K D vwCl T s) (hN : cw_N s) (hP : va_P D vwCl ws H) (hD : va_D A ws) (isC : List Nat) (hC : isC.map (fun i => ws[i]?) = wc.map some) (hnC : va_nd isC = true) (q0 : Nat) {ci : Nat} {fs : List Value} {q : vw_C} (hc : vwCl[ci]? = some q) (he : wc[q0]? = some (b, .inr (ci, fs))) (hq : q.1 = C)
    (hn : As.length = n) (hl : ls.size = nL) (hst : st0 = As.reverse ++ .ref b :: rest) (hW : (rest.map fun v => v.category).sum ≤ 8) (hdg : decode cc pc = .ok (.invokevirtual index, 3)) (hf : cells + mc ≤ R.cells ∧ slots + ms ≤ R.slots) :
    va_Run p l e R s m args below meth c H locs cells slots mc ms (F0 m pc ls st0) rest (Qc (Value.ref b :: As).toArray) (va_A wc H.size) := by
  have hPc := hP.sub isC (cw_fm hC)
  have hDc := hD.sub isC hnC hC
  subst hq
  exact va_runV F hM cw ⟨cw_blind D T H.size wc _, va_recv hK hPc hc he, cw_pre (ws := ws) hK hN hPc hDc⟩ rfl hn hl hst (lv_room hW) hdg hf
theorem cw_rS {Qc : Array Value → State → Outcome → State → Prop} (F : CallFix p m c cc nL s args Ts own) (hM : Met l y wy rm (va_Pc As (cw_B D T H.size wc)) Qc mc ms (va_A wc H.size)) {ret : Option FieldType} (cw : CallB R s args own index y bytes maxL ret wy rm mc ms n ∧ (Cond.static y).before args s = true)
    (hK : va_K D vwCl T s) (hN : cw_N s) (hP : va_P D vwCl ws H) (hD : va_D A ws) (isC : List Nat) (hC : isC.map (fun i => ws[i]?) = wc.map some) (hnC : va_nd isC = true)
    (hn : As.length = n) (hl : ls.size = nL) (hst : st0 = As.reverse ++ rest) (hW : (rest.map fun v => v.category).sum ≤ 8) (hdg : decode cc pc = .ok (.invokestatic index, 3)) (hf : cells + mc ≤ R.cells ∧ slots + ms ≤ R.slots) :
    va_Run p l e R s m args below meth c H locs cells slots mc ms (F0 m pc ls st0) rest (Qc As.toArray) (va_A wc H.size) := by
  have hPc := hP.sub isC (cw_fm hC)
  have hDc := hD.sub isC hnC hC
  exact va_runS F hM cw ⟨cw_blind D T H.size wc _, cw_pre (ws := ws) hK hN hPc hDc⟩ rfl hn hl hst (lv_room hW) hdg hf
theorem cw_rSN {Qc : Array Value → State → Outcome → State → Prop} (F : CallFix p m c cc nL s args Ts own) (hM : Met l y wy rm (va_Pc As (cw_B D T H.size wc)) Qc mc ms (va_A wc H.size)) {ret : Option FieldType} (cw : va_CN R s args own index y host bytes maxL ret wy rm mc ms n) (hst8 : (Cond.static y).before args s = true)
    (hK : va_K D vwCl T s) (hN : cw_N s) (hP : va_P D vwCl ws H) (hD : va_D A ws) (isC : List Nat) (hC : isC.map (fun i => ws[i]?) = wc.map some) (hnC : va_nd isC = true)
    (hn : As.length = n) (hl : ls.size = nL) (hst : st0 = As.reverse ++ rest) (hW : (rest.map fun v => v.category).sum ≤ 8) (hdg : decode cc pc = .ok (.invokestatic index, 3)) (hf : cells + mc ≤ R.cells ∧ slots + ms ≤ R.slots) :
    va_Run p l e R s m args below meth c H locs cells slots mc ms (F0 m pc ls st0) rest (Qc As.toArray) (va_A wc H.size) := by
  have hPc := hP.sub isC (cw_fm hC)
  have hDc := hD.sub isC hnC hC
  exact va_runSN F hM ⟨cw, hst8, trivial⟩ ⟨cw_blind D T H.size wc _, cw_pre (ws := ws) hK hN hPc hDc⟩ rfl hn hl hst (lv_room hW) hdg hf
theorem cw_rI {Qc : Array Value → State → Outcome → State → Prop} (F : CallFix p m c cc nL s args Ts own) (hM : Met l y wy rm (va_Pc (.ref b :: As) (cw_B D T H.size wc)) Qc mc ms (va_A wc H.size)) (cw : CallB R s args own index y bytes maxL none wy rm mc ms n ∧ y.name = "<init>" ∧ (Cond.instanceMethod y).before args s = true)
    (hK : va_K D vwCl T s) (hN : cw_N s) (hP : va_P D vwCl ws H) (hD : va_D A ws) (isC : List Nat) (hC : isC.map (fun i => ws[i]?) = wc.map some) (hnC : va_nd isC = true)
    (hn : As.length = n) (hl : ls.size = nL) (hst : st0 = As.reverse ++ .ref b :: rest) (hW : (rest.map fun v => v.category).sum ≤ 8) (hdg : decode cc pc = .ok (.invokespecial index, 3)) (hf : cells + mc ≤ R.cells ∧ slots + ms ≤ R.slots) :
    va_Run p l e R s m args below meth c H locs cells slots mc ms (F0 m pc ls st0) rest (Qc (Value.ref b :: As).toArray) (va_A wc H.size) := by
  have hPc := hP.sub isC (cw_fm hC)
  have hDc := hD.sub isC hnC hC
  exact va_runI F hM cw ⟨cw_blind D T H.size wc _, cw_pre (ws := ws) hK hN hPc hDc⟩ rfl hn hl hst (lv_room hW) hdg hf
theorem cw_rIN {Qc : Array Value → State → Outcome → State → Prop} (F : CallFix p m c cc nL s args Ts own) (hM : Met l y wy rm (va_Pc (.ref b :: As) (cw_B D T H.size wc)) Qc mc ms (va_A wc H.size)) (cw : va_CN R s args own index y host bytes maxL none wy rm mc ms n) (hy1 : y.name = "<init>") (hin : (Cond.instanceMethod y).before args s = true)
    (hK : va_K D vwCl T s) (hN : cw_N s) (hP : va_P D vwCl ws H) (hD : va_D A ws) (isC : List Nat) (hC : isC.map (fun i => ws[i]?) = wc.map some) (hnC : va_nd isC = true)
    (hn : As.length = n) (hl : ls.size = nL) (hst : st0 = As.reverse ++ .ref b :: rest) (hW : (rest.map fun v => v.category).sum ≤ 8) (hdg : decode cc pc = .ok (.invokespecial index, 3)) (hf : cells + mc ≤ R.cells ∧ slots + ms ≤ R.slots) :
    va_Run p l e R s m args below meth c H locs cells slots mc ms (F0 m pc ls st0) rest (Qc (Value.ref b :: As).toArray) (va_A wc H.size) := by
  have hPc := hP.sub isC (cw_fm hC)
  have hDc := hD.sub isC hnC hC
  exact va_runIN F hM ⟨cw, hy1, hin⟩ ⟨cw_blind D T H.size wc _, cw_pre (ws := ws) hK hN hPc hDc⟩ rfl hn hl hst (lv_room hW) hdg hf
theorem cw_cVi {post : Int32 → S → Prop} (F : CallFix p m c cc nL s args Ts own) (hM : cw_Mi l y wy rm D T (.ref b :: As) wc mc ms post w1) {ret : Option FieldType} (cw : CallW R s args own C index y bytes maxL ret wy rm mc ms n)
    (hK : va_K D vwCl T s) (hN : cw_N s) (hP : va_P D vwCl ws H) (hD : va_D A ws) (hS : va_S A s.heap H locs) (hA : ∀ q : Nat, s.heap.size ≤ q → A q) (isC isR : List Nat) (hC : isC.map (fun i => ws[i]?) = wc.map some) (hR : isR.map (fun i => ws[i]?) = wr.map some) (hnC : va_nd isC = true) (hnR : va_nd isR = true) (hdis : ∀ i ∈ isR, i ∉ isC) (q0 : Nat) {ci : Nat} {fs : List Value} {q : vw_C} (hc : vwCl[ci]? = some q) (he : wc[q0]? = some (b, .inr (ci, fs))) (hq : q.1 = C) (hn : As.length = n) (hl : ls.size = nL) (hst : st0 = As.reverse ++ .ref b :: rest) (hW : (rest.map fun v => v.category).sum ≤ 8) (hdg : decode cc pc = .ok (.invokevirtual index, 3)) (hf : cells + mc ≤ R.cells ∧ slots + ms ≤ R.slots)
    (kk : ∀ (r : Int32) (u : S) (H : Heap) (locs : List Loc), post r u → va_P D vwCl (wr ++ w1 u) H → va_D A (wr ++ w1 u) → va_S A s.heap H locs → W p l e R s m args below meth c H locs (cells + mc) (slots + ms) Q (F0 m (pc + 3) ls (.int r :: rest))) :
    W p l e R s m args below meth c H locs cells slots Q (F0 m pc ls st0) :=
  cw_ki (av := (.ref b :: As)) (cw_rV F (hM H.size) cw hK hN hP hD isC hC hnC q0 hc he hq hn hl hst hW hdg hf) hP hD hS hA isC isR hC hR hnR hdis kk

theorem cw_cVl {post : Int64 → S → Prop} (F : CallFix p m c cc nL s args Ts own) (hM : cw_Ml l y wy rm D T (.ref b :: As) wc mc ms post w1) {ret : Option FieldType} (cw : CallW R s args own C index y bytes maxL ret wy rm mc ms n)
    (hK : va_K D vwCl T s) (hN : cw_N s) (hP : va_P D vwCl ws H) (hD : va_D A ws) (hS : va_S A s.heap H locs) (hA : ∀ q : Nat, s.heap.size ≤ q → A q) (isC isR : List Nat) (hC : isC.map (fun i => ws[i]?) = wc.map some) (hR : isR.map (fun i => ws[i]?) = wr.map some) (hnC : va_nd isC = true) (hnR : va_nd isR = true) (hdis : ∀ i ∈ isR, i ∉ isC) (q0 : Nat) {ci : Nat} {fs : List Value} {q : vw_C} (hc : vwCl[ci]? = some q) (he : wc[q0]? = some (b, .inr (ci, fs))) (hq : q.1 = C) (hn : As.length = n) (hl : ls.size = nL) (hst : st0 = As.reverse ++ .ref b :: rest) (hW : (rest.map fun v => v.category).sum ≤ 8) (hdg : decode cc pc = .ok (.invokevirtual index, 3)) (hf : cells + mc ≤ R.cells ∧ slots + ms ≤ R.slots)
    (kk : ∀ (r : Int64) (u : S) (H : Heap) (locs : List Loc), post r u → va_P D vwCl (wr ++ w1 u) H → va_D A (wr ++ w1 u) → va_S A s.heap H locs → W p l e R s m args below meth c H locs (cells + mc) (slots + ms) Q (F0 m (pc + 3) ls (.long r :: rest))) :
    W p l e R s m args below meth c H locs cells slots Q (F0 m pc ls st0) :=
  cw_kl (av := (.ref b :: As)) (cw_rV F (hM H.size) cw hK hN hP hD isC hC hnC q0 hc he hq hn hl hst hW hdg hf) hP hD hS hA isC isR hC hR hnR hdis kk

theorem cw_cVv {post : S → Prop} (F : CallFix p m c cc nL s args Ts own) (hM : cw_Mv l y wy rm D T (.ref b :: As) wc mc ms post w1) {ret : Option FieldType} (cw : CallW R s args own C index y bytes maxL ret wy rm mc ms n)
    (hK : va_K D vwCl T s) (hN : cw_N s) (hP : va_P D vwCl ws H) (hD : va_D A ws) (hS : va_S A s.heap H locs) (hA : ∀ q : Nat, s.heap.size ≤ q → A q) (isC isR : List Nat) (hC : isC.map (fun i => ws[i]?) = wc.map some) (hR : isR.map (fun i => ws[i]?) = wr.map some) (hnC : va_nd isC = true) (hnR : va_nd isR = true) (hdis : ∀ i ∈ isR, i ∉ isC) (q0 : Nat) {ci : Nat} {fs : List Value} {q : vw_C} (hc : vwCl[ci]? = some q) (he : wc[q0]? = some (b, .inr (ci, fs))) (hq : q.1 = C) (hn : As.length = n) (hl : ls.size = nL) (hst : st0 = As.reverse ++ .ref b :: rest) (hW : (rest.map fun v => v.category).sum ≤ 8) (hdg : decode cc pc = .ok (.invokevirtual index, 3)) (hf : cells + mc ≤ R.cells ∧ slots + ms ≤ R.slots)
    (kk : ∀ (u : S) (H : Heap) (locs : List Loc), post u → va_P D vwCl (wr ++ w1 u) H → va_D A (wr ++ w1 u) → va_S A s.heap H locs → W p l e R s m args below meth c H locs (cells + mc) (slots + ms) Q (F0 m (pc + 3) ls rest)) :
    W p l e R s m args below meth c H locs cells slots Q (F0 m pc ls st0) :=
  cw_kv (av := (.ref b :: As)) (cw_rV F (hM H.size) cw hK hN hP hD isC hC hnC q0 hc he hq hn hl hst hW hdg hf) hP hD hS hA isC isR hC hR hnR hdis kk

theorem cw_cSi {post : Int32 → S → Prop} (F : CallFix p m c cc nL s args Ts own) (hM : cw_Mi l y wy rm D T As wc mc ms post w1) {ret : Option FieldType} (cw : CallB R s args own index y bytes maxL ret wy rm mc ms n ∧ (Cond.static y).before args s = true)
    (hK : va_K D vwCl T s) (hN : cw_N s) (hP : va_P D vwCl ws H) (hD : va_D A ws) (hS : va_S A s.heap H locs) (hA : ∀ q : Nat, s.heap.size ≤ q → A q) (isC isR : List Nat) (hC : isC.map (fun i => ws[i]?) = wc.map some) (hR : isR.map (fun i => ws[i]?) = wr.map some) (hnC : va_nd isC = true) (hnR : va_nd isR = true) (hdis : ∀ i ∈ isR, i ∉ isC) (hn : As.length = n) (hl : ls.size = nL) (hst : st0 = As.reverse ++ rest) (hW : (rest.map fun v => v.category).sum ≤ 8) (hdg : decode cc pc = .ok (.invokestatic index, 3)) (hf : cells + mc ≤ R.cells ∧ slots + ms ≤ R.slots)
    (kk : ∀ (r : Int32) (u : S) (H : Heap) (locs : List Loc), post r u → va_P D vwCl (wr ++ w1 u) H → va_D A (wr ++ w1 u) → va_S A s.heap H locs → W p l e R s m args below meth c H locs (cells + mc) (slots + ms) Q (F0 m (pc + 3) ls (.int r :: rest))) :
    W p l e R s m args below meth c H locs cells slots Q (F0 m pc ls st0) :=
  cw_ki (av := As) (cw_rS F (hM H.size) cw hK hN hP hD isC hC hnC hn hl hst hW hdg hf) hP hD hS hA isC isR hC hR hnR hdis kk

theorem cw_cSl {post : Int64 → S → Prop} (F : CallFix p m c cc nL s args Ts own) (hM : cw_Ml l y wy rm D T As wc mc ms post w1) {ret : Option FieldType} (cw : CallB R s args own index y bytes maxL ret wy rm mc ms n ∧ (Cond.static y).before args s = true)
    (hK : va_K D vwCl T s) (hN : cw_N s) (hP : va_P D vwCl ws H) (hD : va_D A ws) (hS : va_S A s.heap H locs) (hA : ∀ q : Nat, s.heap.size ≤ q → A q) (isC isR : List Nat) (hC : isC.map (fun i => ws[i]?) = wc.map some) (hR : isR.map (fun i => ws[i]?) = wr.map some) (hnC : va_nd isC = true) (hnR : va_nd isR = true) (hdis : ∀ i ∈ isR, i ∉ isC) (hn : As.length = n) (hl : ls.size = nL) (hst : st0 = As.reverse ++ rest) (hW : (rest.map fun v => v.category).sum ≤ 8) (hdg : decode cc pc = .ok (.invokestatic index, 3)) (hf : cells + mc ≤ R.cells ∧ slots + ms ≤ R.slots)
    (kk : ∀ (r : Int64) (u : S) (H : Heap) (locs : List Loc), post r u → va_P D vwCl (wr ++ w1 u) H → va_D A (wr ++ w1 u) → va_S A s.heap H locs → W p l e R s m args below meth c H locs (cells + mc) (slots + ms) Q (F0 m (pc + 3) ls (.long r :: rest))) :
    W p l e R s m args below meth c H locs cells slots Q (F0 m pc ls st0) :=
  cw_kl (av := As) (cw_rS F (hM H.size) cw hK hN hP hD isC hC hnC hn hl hst hW hdg hf) hP hD hS hA isC isR hC hR hnR hdis kk

theorem cw_cSv {post : S → Prop} (F : CallFix p m c cc nL s args Ts own) (hM : cw_Mv l y wy rm D T As wc mc ms post w1) {ret : Option FieldType} (cw : CallB R s args own index y bytes maxL ret wy rm mc ms n ∧ (Cond.static y).before args s = true)
    (hK : va_K D vwCl T s) (hN : cw_N s) (hP : va_P D vwCl ws H) (hD : va_D A ws) (hS : va_S A s.heap H locs) (hA : ∀ q : Nat, s.heap.size ≤ q → A q) (isC isR : List Nat) (hC : isC.map (fun i => ws[i]?) = wc.map some) (hR : isR.map (fun i => ws[i]?) = wr.map some) (hnC : va_nd isC = true) (hnR : va_nd isR = true) (hdis : ∀ i ∈ isR, i ∉ isC) (hn : As.length = n) (hl : ls.size = nL) (hst : st0 = As.reverse ++ rest) (hW : (rest.map fun v => v.category).sum ≤ 8) (hdg : decode cc pc = .ok (.invokestatic index, 3)) (hf : cells + mc ≤ R.cells ∧ slots + ms ≤ R.slots)
    (kk : ∀ (u : S) (H : Heap) (locs : List Loc), post u → va_P D vwCl (wr ++ w1 u) H → va_D A (wr ++ w1 u) → va_S A s.heap H locs → W p l e R s m args below meth c H locs (cells + mc) (slots + ms) Q (F0 m (pc + 3) ls rest)) :
    W p l e R s m args below meth c H locs cells slots Q (F0 m pc ls st0) :=
  cw_kv (av := As) (cw_rS F (hM H.size) cw hK hN hP hD isC hC hnC hn hl hst hW hdg hf) hP hD hS hA isC isR hC hR hnR hdis kk

theorem cw_cSNi {post : Int32 → S → Prop} (F : CallFix p m c cc nL s args Ts own) (hM : cw_Mi l y wy rm D T As wc mc ms post w1) {ret : Option FieldType} (cw : va_CN R s args own index y host bytes maxL ret wy rm mc ms n) (hst8 : (Cond.static y).before args s = true)
    (hK : va_K D vwCl T s) (hN : cw_N s) (hP : va_P D vwCl ws H) (hD : va_D A ws) (hS : va_S A s.heap H locs) (hA : ∀ q : Nat, s.heap.size ≤ q → A q) (isC isR : List Nat) (hC : isC.map (fun i => ws[i]?) = wc.map some) (hR : isR.map (fun i => ws[i]?) = wr.map some) (hnC : va_nd isC = true) (hnR : va_nd isR = true) (hdis : ∀ i ∈ isR, i ∉ isC) (hn : As.length = n) (hl : ls.size = nL) (hst : st0 = As.reverse ++ rest) (hW : (rest.map fun v => v.category).sum ≤ 8) (hdg : decode cc pc = .ok (.invokestatic index, 3)) (hf : cells + mc ≤ R.cells ∧ slots + ms ≤ R.slots)
    (kk : ∀ (r : Int32) (u : S) (H : Heap) (locs : List Loc), post r u → va_P D vwCl (wr ++ w1 u) H → va_D A (wr ++ w1 u) → va_S A s.heap H locs → W p l e R s m args below meth c H locs (cells + mc) (slots + ms) Q (F0 m (pc + 3) ls (.int r :: rest))) :
    W p l e R s m args below meth c H locs cells slots Q (F0 m pc ls st0) :=
  cw_ki (av := As) (cw_rSN F (hM H.size) cw hst8 hK hN hP hD isC hC hnC hn hl hst hW hdg hf) hP hD hS hA isC isR hC hR hnR hdis kk

theorem cw_cSNl {post : Int64 → S → Prop} (F : CallFix p m c cc nL s args Ts own) (hM : cw_Ml l y wy rm D T As wc mc ms post w1) {ret : Option FieldType} (cw : va_CN R s args own index y host bytes maxL ret wy rm mc ms n) (hst8 : (Cond.static y).before args s = true)
    (hK : va_K D vwCl T s) (hN : cw_N s) (hP : va_P D vwCl ws H) (hD : va_D A ws) (hS : va_S A s.heap H locs) (hA : ∀ q : Nat, s.heap.size ≤ q → A q) (isC isR : List Nat) (hC : isC.map (fun i => ws[i]?) = wc.map some) (hR : isR.map (fun i => ws[i]?) = wr.map some) (hnC : va_nd isC = true) (hnR : va_nd isR = true) (hdis : ∀ i ∈ isR, i ∉ isC) (hn : As.length = n) (hl : ls.size = nL) (hst : st0 = As.reverse ++ rest) (hW : (rest.map fun v => v.category).sum ≤ 8) (hdg : decode cc pc = .ok (.invokestatic index, 3)) (hf : cells + mc ≤ R.cells ∧ slots + ms ≤ R.slots)
    (kk : ∀ (r : Int64) (u : S) (H : Heap) (locs : List Loc), post r u → va_P D vwCl (wr ++ w1 u) H → va_D A (wr ++ w1 u) → va_S A s.heap H locs → W p l e R s m args below meth c H locs (cells + mc) (slots + ms) Q (F0 m (pc + 3) ls (.long r :: rest))) :
    W p l e R s m args below meth c H locs cells slots Q (F0 m pc ls st0) :=
  cw_kl (av := As) (cw_rSN F (hM H.size) cw hst8 hK hN hP hD isC hC hnC hn hl hst hW hdg hf) hP hD hS hA isC isR hC hR hnR hdis kk

theorem cw_cSNv {post : S → Prop} (F : CallFix p m c cc nL s args Ts own) (hM : cw_Mv l y wy rm D T As wc mc ms post w1) {ret : Option FieldType} (cw : va_CN R s args own index y host bytes maxL ret wy rm mc ms n) (hst8 : (Cond.static y).before args s = true)
    (hK : va_K D vwCl T s) (hN : cw_N s) (hP : va_P D vwCl ws H) (hD : va_D A ws) (hS : va_S A s.heap H locs) (hA : ∀ q : Nat, s.heap.size ≤ q → A q) (isC isR : List Nat) (hC : isC.map (fun i => ws[i]?) = wc.map some) (hR : isR.map (fun i => ws[i]?) = wr.map some) (hnC : va_nd isC = true) (hnR : va_nd isR = true) (hdis : ∀ i ∈ isR, i ∉ isC) (hn : As.length = n) (hl : ls.size = nL) (hst : st0 = As.reverse ++ rest) (hW : (rest.map fun v => v.category).sum ≤ 8) (hdg : decode cc pc = .ok (.invokestatic index, 3)) (hf : cells + mc ≤ R.cells ∧ slots + ms ≤ R.slots)
    (kk : ∀ (u : S) (H : Heap) (locs : List Loc), post u → va_P D vwCl (wr ++ w1 u) H → va_D A (wr ++ w1 u) → va_S A s.heap H locs → W p l e R s m args below meth c H locs (cells + mc) (slots + ms) Q (F0 m (pc + 3) ls rest)) :
    W p l e R s m args below meth c H locs cells slots Q (F0 m pc ls st0) :=
  cw_kv (av := As) (cw_rSN F (hM H.size) cw hst8 hK hN hP hD isC hC hnC hn hl hst hW hdg hf) hP hD hS hA isC isR hC hR hnR hdis kk

theorem cw_cIv {post : S → Prop} (F : CallFix p m c cc nL s args Ts own) (hM : cw_Mv l y wy rm D T (.ref b :: As) wc mc ms post w1) (cw : CallB R s args own index y bytes maxL none wy rm mc ms n ∧ y.name = "<init>" ∧ (Cond.instanceMethod y).before args s = true)
    (hK : va_K D vwCl T s) (hN : cw_N s) (hP : va_P D vwCl ws H) (hD : va_D A ws) (hS : va_S A s.heap H locs) (hA : ∀ q : Nat, s.heap.size ≤ q → A q) (isC isR : List Nat) (hC : isC.map (fun i => ws[i]?) = wc.map some) (hR : isR.map (fun i => ws[i]?) = wr.map some) (hnC : va_nd isC = true) (hnR : va_nd isR = true) (hdis : ∀ i ∈ isR, i ∉ isC) (hn : As.length = n) (hl : ls.size = nL) (hst : st0 = As.reverse ++ .ref b :: rest) (hW : (rest.map fun v => v.category).sum ≤ 8) (hdg : decode cc pc = .ok (.invokespecial index, 3)) (hf : cells + mc ≤ R.cells ∧ slots + ms ≤ R.slots)
    (kk : ∀ (u : S) (H : Heap) (locs : List Loc), post u → va_P D vwCl (wr ++ w1 u) H → va_D A (wr ++ w1 u) → va_S A s.heap H locs → W p l e R s m args below meth c H locs (cells + mc) (slots + ms) Q (F0 m (pc + 3) ls rest)) :
    W p l e R s m args below meth c H locs cells slots Q (F0 m pc ls st0) :=
  cw_kv (av := (.ref b :: As)) (cw_rI F (hM H.size) cw hK hN hP hD isC hC hnC hn hl hst hW hdg hf) hP hD hS hA isC isR hC hR hnR hdis kk

theorem cw_cINv {post : S → Prop} (F : CallFix p m c cc nL s args Ts own) (hM : cw_Mv l y wy rm D T (.ref b :: As) wc mc ms post w1) (cw : va_CN R s args own index y host bytes maxL none wy rm mc ms n) (hy1 : y.name = "<init>") (hin8 : (Cond.instanceMethod y).before args s = true)
    (hK : va_K D vwCl T s) (hN : cw_N s) (hP : va_P D vwCl ws H) (hD : va_D A ws) (hS : va_S A s.heap H locs) (hA : ∀ q : Nat, s.heap.size ≤ q → A q) (isC isR : List Nat) (hC : isC.map (fun i => ws[i]?) = wc.map some) (hR : isR.map (fun i => ws[i]?) = wr.map some) (hnC : va_nd isC = true) (hnR : va_nd isR = true) (hdis : ∀ i ∈ isR, i ∉ isC) (hn : As.length = n) (hl : ls.size = nL) (hst : st0 = As.reverse ++ .ref b :: rest) (hW : (rest.map fun v => v.category).sum ≤ 8) (hdg : decode cc pc = .ok (.invokespecial index, 3)) (hf : cells + mc ≤ R.cells ∧ slots + ms ≤ R.slots)
    (kk : ∀ (u : S) (H : Heap) (locs : List Loc), post u → va_P D vwCl (wr ++ w1 u) H → va_D A (wr ++ w1 u) → va_S A s.heap H locs → W p l e R s m args below meth c H locs (cells + mc) (slots + ms) Q (F0 m (pc + 3) ls rest)) :
    W p l e R s m args below meth c H locs cells slots Q (F0 m pc ls st0) :=
  cw_kv (av := (.ref b :: As)) (cw_rIN F (hM H.size) cw hy1 hin8 hK hN hP hD isC hC hnC hn hl hst hW hdg hf) hP hD hS hA isC isR hC hR hnR hdis kk
end CWC

abbrev c0 (v0 : Value) (v1 : Value) : va_E := .inr (0, [v0, v1])
abbrev c1 (f : Nat → Int32) : va_E := .inr (1, [.int (f 0), .int (f 1)])
abbrev c2 (v0 : Value) (v1 : Value) (v2 : Value) (f : Nat → Int32) : va_E := .inr (2, [v0, v1, v2, .int (f 3), .int (f 4), .int (f 5), .int (f 6), .int (f 7), .int (f 8), .int (f 9), .int (f 10)])
abbrev c3 (v0 : Value) (v1 : Value) (v2 : Value) (f : Nat → Int32) : va_E := .inr (3, [v0, v1, v2, .int (f 3), .int (f 4), .int (f 5)])
abbrev c4 (f : Nat → Int32) : va_E := .inr (4, [.int (f 0), .int (f 1), .int (f 2)])
abbrev c5 (f : Nat → Int32) : va_E := .inr (5, [.int (f 0), .int (f 1), .int (f 2), .int (f 3), .int (f 4), .int (f 5), .int (f 6), .int (f 7), .int (f 8), .int (f 9), .int (f 10)])
abbrev c6 (v0 : Value) (v1 : Value) (v2 : Value) (v3 : Value) (v4 : Value) (f : Nat → Int32) : va_E := .inr (6, [v0, v1, v2, v3, v4, .int (f 5), .int (f 6)])
theorem cs1_0  (f : Nat → Int32) (x : Int32) : ([.int (f 0), .int (f 1)] : List Value).set 0 (.int x) = [.int (upd f 0 x 0), .int (upd f 0 x 1)] := rfl
theorem cs1_1  (f : Nat → Int32) (x : Int32) : ([.int (f 0), .int (f 1)] : List Value).set 1 (.int x) = [.int (upd f 1 x 0), .int (upd f 1 x 1)] := rfl
theorem cs2_3 (v0 : Value) (v1 : Value) (v2 : Value) (f : Nat → Int32) (x : Int32) : ([v0, v1, v2, .int (f 3), .int (f 4), .int (f 5), .int (f 6), .int (f 7), .int (f 8), .int (f 9), .int (f 10)] : List Value).set 3 (.int x) = [v0, v1, v2, .int (upd f 3 x 3), .int (upd f 3 x 4), .int (upd f 3 x 5), .int (upd f 3 x 6), .int (upd f 3 x 7), .int (upd f 3 x 8), .int (upd f 3 x 9), .int (upd f 3 x 10)] := rfl
theorem cs2_4 (v0 : Value) (v1 : Value) (v2 : Value) (f : Nat → Int32) (x : Int32) : ([v0, v1, v2, .int (f 3), .int (f 4), .int (f 5), .int (f 6), .int (f 7), .int (f 8), .int (f 9), .int (f 10)] : List Value).set 4 (.int x) = [v0, v1, v2, .int (upd f 4 x 3), .int (upd f 4 x 4), .int (upd f 4 x 5), .int (upd f 4 x 6), .int (upd f 4 x 7), .int (upd f 4 x 8), .int (upd f 4 x 9), .int (upd f 4 x 10)] := rfl
theorem cs2_5 (v0 : Value) (v1 : Value) (v2 : Value) (f : Nat → Int32) (x : Int32) : ([v0, v1, v2, .int (f 3), .int (f 4), .int (f 5), .int (f 6), .int (f 7), .int (f 8), .int (f 9), .int (f 10)] : List Value).set 5 (.int x) = [v0, v1, v2, .int (upd f 5 x 3), .int (upd f 5 x 4), .int (upd f 5 x 5), .int (upd f 5 x 6), .int (upd f 5 x 7), .int (upd f 5 x 8), .int (upd f 5 x 9), .int (upd f 5 x 10)] := rfl
theorem cs2_6 (v0 : Value) (v1 : Value) (v2 : Value) (f : Nat → Int32) (x : Int32) : ([v0, v1, v2, .int (f 3), .int (f 4), .int (f 5), .int (f 6), .int (f 7), .int (f 8), .int (f 9), .int (f 10)] : List Value).set 6 (.int x) = [v0, v1, v2, .int (upd f 6 x 3), .int (upd f 6 x 4), .int (upd f 6 x 5), .int (upd f 6 x 6), .int (upd f 6 x 7), .int (upd f 6 x 8), .int (upd f 6 x 9), .int (upd f 6 x 10)] := rfl
theorem cs2_7 (v0 : Value) (v1 : Value) (v2 : Value) (f : Nat → Int32) (x : Int32) : ([v0, v1, v2, .int (f 3), .int (f 4), .int (f 5), .int (f 6), .int (f 7), .int (f 8), .int (f 9), .int (f 10)] : List Value).set 7 (.int x) = [v0, v1, v2, .int (upd f 7 x 3), .int (upd f 7 x 4), .int (upd f 7 x 5), .int (upd f 7 x 6), .int (upd f 7 x 7), .int (upd f 7 x 8), .int (upd f 7 x 9), .int (upd f 7 x 10)] := rfl
theorem cs2_8 (v0 : Value) (v1 : Value) (v2 : Value) (f : Nat → Int32) (x : Int32) : ([v0, v1, v2, .int (f 3), .int (f 4), .int (f 5), .int (f 6), .int (f 7), .int (f 8), .int (f 9), .int (f 10)] : List Value).set 8 (.int x) = [v0, v1, v2, .int (upd f 8 x 3), .int (upd f 8 x 4), .int (upd f 8 x 5), .int (upd f 8 x 6), .int (upd f 8 x 7), .int (upd f 8 x 8), .int (upd f 8 x 9), .int (upd f 8 x 10)] := rfl
theorem cs2_9 (v0 : Value) (v1 : Value) (v2 : Value) (f : Nat → Int32) (x : Int32) : ([v0, v1, v2, .int (f 3), .int (f 4), .int (f 5), .int (f 6), .int (f 7), .int (f 8), .int (f 9), .int (f 10)] : List Value).set 9 (.int x) = [v0, v1, v2, .int (upd f 9 x 3), .int (upd f 9 x 4), .int (upd f 9 x 5), .int (upd f 9 x 6), .int (upd f 9 x 7), .int (upd f 9 x 8), .int (upd f 9 x 9), .int (upd f 9 x 10)] := rfl
theorem cs2_10 (v0 : Value) (v1 : Value) (v2 : Value) (f : Nat → Int32) (x : Int32) : ([v0, v1, v2, .int (f 3), .int (f 4), .int (f 5), .int (f 6), .int (f 7), .int (f 8), .int (f 9), .int (f 10)] : List Value).set 10 (.int x) = [v0, v1, v2, .int (upd f 10 x 3), .int (upd f 10 x 4), .int (upd f 10 x 5), .int (upd f 10 x 6), .int (upd f 10 x 7), .int (upd f 10 x 8), .int (upd f 10 x 9), .int (upd f 10 x 10)] := rfl
theorem cs3_3 (v0 : Value) (v1 : Value) (v2 : Value) (f : Nat → Int32) (x : Int32) : ([v0, v1, v2, .int (f 3), .int (f 4), .int (f 5)] : List Value).set 3 (.int x) = [v0, v1, v2, .int (upd f 3 x 3), .int (upd f 3 x 4), .int (upd f 3 x 5)] := rfl
theorem cs3_4 (v0 : Value) (v1 : Value) (v2 : Value) (f : Nat → Int32) (x : Int32) : ([v0, v1, v2, .int (f 3), .int (f 4), .int (f 5)] : List Value).set 4 (.int x) = [v0, v1, v2, .int (upd f 4 x 3), .int (upd f 4 x 4), .int (upd f 4 x 5)] := rfl
theorem cs3_5 (v0 : Value) (v1 : Value) (v2 : Value) (f : Nat → Int32) (x : Int32) : ([v0, v1, v2, .int (f 3), .int (f 4), .int (f 5)] : List Value).set 5 (.int x) = [v0, v1, v2, .int (upd f 5 x 3), .int (upd f 5 x 4), .int (upd f 5 x 5)] := rfl
theorem cs4_0  (f : Nat → Int32) (x : Int32) : ([.int (f 0), .int (f 1), .int (f 2)] : List Value).set 0 (.int x) = [.int (upd f 0 x 0), .int (upd f 0 x 1), .int (upd f 0 x 2)] := rfl
theorem cs4_1  (f : Nat → Int32) (x : Int32) : ([.int (f 0), .int (f 1), .int (f 2)] : List Value).set 1 (.int x) = [.int (upd f 1 x 0), .int (upd f 1 x 1), .int (upd f 1 x 2)] := rfl
theorem cs4_2  (f : Nat → Int32) (x : Int32) : ([.int (f 0), .int (f 1), .int (f 2)] : List Value).set 2 (.int x) = [.int (upd f 2 x 0), .int (upd f 2 x 1), .int (upd f 2 x 2)] := rfl
theorem cs5_0  (f : Nat → Int32) (x : Int32) : ([.int (f 0), .int (f 1), .int (f 2), .int (f 3), .int (f 4), .int (f 5), .int (f 6), .int (f 7), .int (f 8), .int (f 9), .int (f 10)] : List Value).set 0 (.int x) = [.int (upd f 0 x 0), .int (upd f 0 x 1), .int (upd f 0 x 2), .int (upd f 0 x 3), .int (upd f 0 x 4), .int (upd f 0 x 5), .int (upd f 0 x 6), .int (upd f 0 x 7), .int (upd f 0 x 8), .int (upd f 0 x 9), .int (upd f 0 x 10)] := rfl
theorem cs5_1  (f : Nat → Int32) (x : Int32) : ([.int (f 0), .int (f 1), .int (f 2), .int (f 3), .int (f 4), .int (f 5), .int (f 6), .int (f 7), .int (f 8), .int (f 9), .int (f 10)] : List Value).set 1 (.int x) = [.int (upd f 1 x 0), .int (upd f 1 x 1), .int (upd f 1 x 2), .int (upd f 1 x 3), .int (upd f 1 x 4), .int (upd f 1 x 5), .int (upd f 1 x 6), .int (upd f 1 x 7), .int (upd f 1 x 8), .int (upd f 1 x 9), .int (upd f 1 x 10)] := rfl
theorem cs5_2  (f : Nat → Int32) (x : Int32) : ([.int (f 0), .int (f 1), .int (f 2), .int (f 3), .int (f 4), .int (f 5), .int (f 6), .int (f 7), .int (f 8), .int (f 9), .int (f 10)] : List Value).set 2 (.int x) = [.int (upd f 2 x 0), .int (upd f 2 x 1), .int (upd f 2 x 2), .int (upd f 2 x 3), .int (upd f 2 x 4), .int (upd f 2 x 5), .int (upd f 2 x 6), .int (upd f 2 x 7), .int (upd f 2 x 8), .int (upd f 2 x 9), .int (upd f 2 x 10)] := rfl
theorem cs5_3  (f : Nat → Int32) (x : Int32) : ([.int (f 0), .int (f 1), .int (f 2), .int (f 3), .int (f 4), .int (f 5), .int (f 6), .int (f 7), .int (f 8), .int (f 9), .int (f 10)] : List Value).set 3 (.int x) = [.int (upd f 3 x 0), .int (upd f 3 x 1), .int (upd f 3 x 2), .int (upd f 3 x 3), .int (upd f 3 x 4), .int (upd f 3 x 5), .int (upd f 3 x 6), .int (upd f 3 x 7), .int (upd f 3 x 8), .int (upd f 3 x 9), .int (upd f 3 x 10)] := rfl
theorem cs5_4  (f : Nat → Int32) (x : Int32) : ([.int (f 0), .int (f 1), .int (f 2), .int (f 3), .int (f 4), .int (f 5), .int (f 6), .int (f 7), .int (f 8), .int (f 9), .int (f 10)] : List Value).set 4 (.int x) = [.int (upd f 4 x 0), .int (upd f 4 x 1), .int (upd f 4 x 2), .int (upd f 4 x 3), .int (upd f 4 x 4), .int (upd f 4 x 5), .int (upd f 4 x 6), .int (upd f 4 x 7), .int (upd f 4 x 8), .int (upd f 4 x 9), .int (upd f 4 x 10)] := rfl
theorem cs5_5  (f : Nat → Int32) (x : Int32) : ([.int (f 0), .int (f 1), .int (f 2), .int (f 3), .int (f 4), .int (f 5), .int (f 6), .int (f 7), .int (f 8), .int (f 9), .int (f 10)] : List Value).set 5 (.int x) = [.int (upd f 5 x 0), .int (upd f 5 x 1), .int (upd f 5 x 2), .int (upd f 5 x 3), .int (upd f 5 x 4), .int (upd f 5 x 5), .int (upd f 5 x 6), .int (upd f 5 x 7), .int (upd f 5 x 8), .int (upd f 5 x 9), .int (upd f 5 x 10)] := rfl
theorem cs5_6  (f : Nat → Int32) (x : Int32) : ([.int (f 0), .int (f 1), .int (f 2), .int (f 3), .int (f 4), .int (f 5), .int (f 6), .int (f 7), .int (f 8), .int (f 9), .int (f 10)] : List Value).set 6 (.int x) = [.int (upd f 6 x 0), .int (upd f 6 x 1), .int (upd f 6 x 2), .int (upd f 6 x 3), .int (upd f 6 x 4), .int (upd f 6 x 5), .int (upd f 6 x 6), .int (upd f 6 x 7), .int (upd f 6 x 8), .int (upd f 6 x 9), .int (upd f 6 x 10)] := rfl
theorem cs5_7  (f : Nat → Int32) (x : Int32) : ([.int (f 0), .int (f 1), .int (f 2), .int (f 3), .int (f 4), .int (f 5), .int (f 6), .int (f 7), .int (f 8), .int (f 9), .int (f 10)] : List Value).set 7 (.int x) = [.int (upd f 7 x 0), .int (upd f 7 x 1), .int (upd f 7 x 2), .int (upd f 7 x 3), .int (upd f 7 x 4), .int (upd f 7 x 5), .int (upd f 7 x 6), .int (upd f 7 x 7), .int (upd f 7 x 8), .int (upd f 7 x 9), .int (upd f 7 x 10)] := rfl
theorem cs5_8  (f : Nat → Int32) (x : Int32) : ([.int (f 0), .int (f 1), .int (f 2), .int (f 3), .int (f 4), .int (f 5), .int (f 6), .int (f 7), .int (f 8), .int (f 9), .int (f 10)] : List Value).set 8 (.int x) = [.int (upd f 8 x 0), .int (upd f 8 x 1), .int (upd f 8 x 2), .int (upd f 8 x 3), .int (upd f 8 x 4), .int (upd f 8 x 5), .int (upd f 8 x 6), .int (upd f 8 x 7), .int (upd f 8 x 8), .int (upd f 8 x 9), .int (upd f 8 x 10)] := rfl
theorem cs5_9  (f : Nat → Int32) (x : Int32) : ([.int (f 0), .int (f 1), .int (f 2), .int (f 3), .int (f 4), .int (f 5), .int (f 6), .int (f 7), .int (f 8), .int (f 9), .int (f 10)] : List Value).set 9 (.int x) = [.int (upd f 9 x 0), .int (upd f 9 x 1), .int (upd f 9 x 2), .int (upd f 9 x 3), .int (upd f 9 x 4), .int (upd f 9 x 5), .int (upd f 9 x 6), .int (upd f 9 x 7), .int (upd f 9 x 8), .int (upd f 9 x 9), .int (upd f 9 x 10)] := rfl
theorem cs5_10  (f : Nat → Int32) (x : Int32) : ([.int (f 0), .int (f 1), .int (f 2), .int (f 3), .int (f 4), .int (f 5), .int (f 6), .int (f 7), .int (f 8), .int (f 9), .int (f 10)] : List Value).set 10 (.int x) = [.int (upd f 10 x 0), .int (upd f 10 x 1), .int (upd f 10 x 2), .int (upd f 10 x 3), .int (upd f 10 x 4), .int (upd f 10 x 5), .int (upd f 10 x 6), .int (upd f 10 x 7), .int (upd f 10 x 8), .int (upd f 10 x 9), .int (upd f 10 x 10)] := rfl
theorem cs6_5 (v0 : Value) (v1 : Value) (v2 : Value) (v3 : Value) (v4 : Value) (f : Nat → Int32) (x : Int32) : ([v0, v1, v2, v3, v4, .int (f 5), .int (f 6)] : List Value).set 5 (.int x) = [v0, v1, v2, v3, v4, .int (upd f 5 x 5), .int (upd f 5 x 6)] := rfl
theorem cs6_6 (v0 : Value) (v1 : Value) (v2 : Value) (v3 : Value) (v4 : Value) (f : Nat → Int32) (x : Int32) : ([v0, v1, v2, v3, v4, .int (f 5), .int (f 6)] : List Value).set 6 (.int x) = [v0, v1, v2, v3, v4, .int (upd f 6 x 5), .int (upd f 6 x 6)] := rfl
theorem cw_topi {p : Program} {l : Launch} {e : Env} {R : Room} {s : State} {m : MethodId} {args : Array Value} {below : List Frame} {meth : Method} {c : Code} {H : Heap} {locs : List Loc} {cells slots : Nat} {Q : State → Prop} {pc : Nat} {ls : Array Slot} {rest : List Value} {x y : Int32} (h : x = y)
    (k : W p l e R s m args below meth c H locs cells slots Q (F0 m pc ls (.int y :: rest))) : W p l e R s m args below meth c H locs cells slots Q (F0 m pc ls (.int x :: rest)) := by
  rw [h]; exact k
theorem cw_upd0 (f : Nat → Int32) (k : Nat) (x : Int32) : upd f k x k = x := if_pos rfl
theorem cw_updn (f : Nat → Int32) {k j : Nat} (x : Int32) (h : ¬ j = k) : upd f k x j = f j := if_neg h
section CWN
variable {p : Program} {l : Launch} {e : Env} {R : Room} {s : State} {m : MethodId} {args : Array Value} {below : List Frame} {meth : Method} {c : Code} {H : Heap} {locs : List Loc} {cells slots : Nat} {Q : State → Prop}
variable {cc : ByteArray} {D : va_G} {A : Nat → Prop} {ws : va_W} {pc N : Nat} {ls : Array Slot} {rest : List Value} {cI cJ : ClassId} {n : Int32}
theorem cw_newaI (hx : p.tables.exec = Jvm.exec) (hb : c.code = cc) (harr : (Cond.arrayClass .int).before args s = true) (hK : va_K D vwCl [(cI, .int)] s) (hP : va_P D vwCl ws H) (hD : va_D A ws) (hS : va_S A s.heap H locs) (hA : ∀ q : Nat, s.heap.size ≤ q → A q) (hn : ¬ n < 0) (hN : n.toNatClampNeg = N) (hbytes : N * componentBytes .int ≤ 536870912) (hcells : cells + 1 ≤ R.cells) (hslots : slots + N ≤ R.slots) (hdg : decode cc pc = .ok (.newarray .int, 2))
    (kk : ∀ (q : Nat) (H : Heap), va_P D vwCl (ws ++ [(q, .inl (cI, N, .inl (fun _ => 0)))]) H → va_D A (ws ++ [(q, .inl (cI, N, .inl (fun _ => 0)))]) → va_S A s.heap H locs → W p l e R s m args below meth c H locs (cells + 1) (slots + N) Q (F0 m (pc + 2) ls (.ref q :: rest))) :
    W p l e R s m args below meth c H locs cells slots Q (F0 m pc ls (.int n :: rest)) := by
  refine va_newa (atype := .int) (ty := .int) hx hb harr rfl hK hP hD hS hA (a0 := (N, .inl (fun _ => 0))) (fun _ => rfl) hn hN hbytes hcells hslots hdg (fun q cA H1 hK1 hP1 hD1 hS1 => ?_)
  have e1 : s.vm.findClass ("[" ++ FieldType.int.toString) = some cA := (hK1.2 1 (cA, .int) rfl).2
  have e2 : s.vm.findClass ("[" ++ FieldType.int.toString) = some cI := (hK.2 0 (cI, .int) rfl).2
  have e3 : cA = cI := Option.some.inj (e1.symm.trans e2)
  subst e3
  exact kk q H1 hP1 hD1 hS1
end CWN
