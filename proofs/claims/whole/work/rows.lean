section
-- ===== PART A: goes FIRST, ahead of the names: the tables' words, and 'selects' of the private methods out of them =====
/-- a private method of a class that the tables say can be made, by its rows of tables_1 -/
def lw_okq (q : MethodName × Nat) : Prop := (q.1.cls ≠ "java/lang/invoke/MethodHandle" ∧ q.1.cls ≠ "java/lang/invoke/VarHandle") ∧ Cond.instantiable q.1.cls q.2 ∈ tables_1 ∧ Cond.privateMethod q.1 ∈ tables_1 ∧ Cond.instanceMethod q.1 ∈ tables_1
theorem lw_p0 : lw_okq (⟨"Burnerline$Furnace", "look", "(LBurnerline$Eye;Z)V"⟩, 11) := ⟨⟨by decide +kernel, by decide +kernel⟩, List.mem_of_getElem? (i := 87) (by decide +kernel), List.mem_of_getElem? (i := 319) (by decide +kernel), List.mem_of_getElem? (i := 320) (by decide +kernel)⟩
theorem lw_p1 : lw_okq (⟨"Burnerline$Furnace", "movePositions", "()V"⟩, 11) := ⟨⟨by decide +kernel, by decide +kernel⟩, List.mem_of_getElem? (i := 87) (by decide +kernel), List.mem_of_getElem? (i := 327) (by decide +kernel), List.mem_of_getElem? (i := 328) (by decide +kernel)⟩
theorem lw_p2 : lw_okq (⟨"Burnerline$Furnace", "airGoal", "()I"⟩, 11) := ⟨⟨by decide +kernel, by decide +kernel⟩, List.mem_of_getElem? (i := 87) (by decide +kernel), List.mem_of_getElem? (i := 331) (by decide +kernel), List.mem_of_getElem? (i := 332) (by decide +kernel)⟩
theorem lw_p3 : lw_okq (⟨"Burnerline$Furnace", "fuelGoal", "()I"⟩, 11) := ⟨⟨by decide +kernel, by decide +kernel⟩, List.mem_of_getElem? (i := 87) (by decide +kernel), List.mem_of_getElem? (i := 338) (by decide +kernel), List.mem_of_getElem? (i := 339) (by decide +kernel)⟩
theorem lw_p4 : lw_okq (⟨"Burnerline$Furnace", "sequence", "(I)Z"⟩, 11) := ⟨⟨by decide +kernel, by decide +kernel⟩, List.mem_of_getElem? (i := 87) (by decide +kernel), List.mem_of_getElem? (i := 348) (by decide +kernel), List.mem_of_getElem? (i := 349) (by decide +kernel)⟩
theorem lw_p5 : lw_okq (⟨"Burnerline$Furnace", "sequenceOff", "(I)Z"⟩, 11) := ⟨⟨by decide +kernel, by decide +kernel⟩, List.mem_of_getElem? (i := 87) (by decide +kernel), List.mem_of_getElem? (i := 352) (by decide +kernel), List.mem_of_getElem? (i := 353) (by decide +kernel)⟩
theorem lw_p6 : lw_okq (⟨"Burnerline$Furnace", "lockOut", "(I)Z"⟩, 11) := ⟨⟨by decide +kernel, by decide +kernel⟩, List.mem_of_getElem? (i := 87) (by decide +kernel), List.mem_of_getElem? (i := 360) (by decide +kernel), List.mem_of_getElem? (i := 361) (by decide +kernel)⟩
theorem lw_p7 : lw_okq (⟨"Burnerline$Furnace", "sequencePurge", "(I)Z"⟩, 11) := ⟨⟨by decide +kernel, by decide +kernel⟩, List.mem_of_getElem? (i := 87) (by decide +kernel), List.mem_of_getElem? (i := 368) (by decide +kernel), List.mem_of_getElem? (i := 369) (by decide +kernel)⟩
theorem lw_p8 : lw_okq (⟨"Burnerline$Furnace", "sequenceLighting", "(I)Z"⟩, 11) := ⟨⟨by decide +kernel, by decide +kernel⟩, List.mem_of_getElem? (i := 87) (by decide +kernel), List.mem_of_getElem? (i := 372) (by decide +kernel), List.mem_of_getElem? (i := 373) (by decide +kernel)⟩
theorem lw_p9 : lw_okq (⟨"Burnerline$Furnace", "lightPilot", "()Z"⟩, 11) := ⟨⟨by decide +kernel, by decide +kernel⟩, List.mem_of_getElem? (i := 87) (by decide +kernel), List.mem_of_getElem? (i := 376) (by decide +kernel), List.mem_of_getElem? (i := 377) (by decide +kernel)⟩
theorem lw_p10 : lw_okq (⟨"Burnerline$Furnace", "lightMain", "()Z"⟩, 11) := ⟨⟨by decide +kernel, by decide +kernel⟩, List.mem_of_getElem? (i := 87) (by decide +kernel), List.mem_of_getElem? (i := 380) (by decide +kernel), List.mem_of_getElem? (i := 381) (by decide +kernel)⟩
theorem lw_p11 : lw_okq (⟨"Burnerline$Furnace", "sequenceRun", "(I)Z"⟩, 11) := ⟨⟨by decide +kernel, by decide +kernel⟩, List.mem_of_getElem? (i := 87) (by decide +kernel), List.mem_of_getElem? (i := 384) (by decide +kernel), List.mem_of_getElem? (i := 385) (by decide +kernel)⟩
theorem lw_p12 : lw_okq (⟨"Burnerline$Furnace", "isCheckDue", "()Z"⟩, 11) := ⟨⟨by decide +kernel, by decide +kernel⟩, List.mem_of_getElem? (i := 87) (by decide +kernel), List.mem_of_getElem? (i := 388) (by decide +kernel), List.mem_of_getElem? (i := 389) (by decide +kernel)⟩
theorem lw_p13 : lw_okq (⟨"Burnerline$Furnace", "sequenceAfterPurge", "()Z"⟩, 11) := ⟨⟨by decide +kernel, by decide +kernel⟩, List.mem_of_getElem? (i := 87) (by decide +kernel), List.mem_of_getElem? (i := 392) (by decide +kernel), List.mem_of_getElem? (i := 393) (by decide +kernel)⟩
theorem lw_p14 : lw_okq (⟨"Burnerline$Furnace", "countUnlit", "(Z)V"⟩, 11) := ⟨⟨by decide +kernel, by decide +kernel⟩, List.mem_of_getElem? (i := 87) (by decide +kernel), List.mem_of_getElem? (i := 396) (by decide +kernel), List.mem_of_getElem? (i := 397) (by decide +kernel)⟩
theorem lw_p15 : lw_okq (⟨"java/lang/Throwable", "fillInStackTrace", "(I)Ljava/lang/Throwable;"⟩, 6) := ⟨⟨by decide +kernel, by decide +kernel⟩, List.mem_of_getElem? (i := 446) (by decide +kernel), List.mem_of_getElem? (i := 444) (by decide +kernel), List.mem_of_getElem? (i := 445) (by decide +kernel)⟩
def lw_privs_1 : List (MethodName × Nat) := [(⟨"Burnerline$Furnace", "look", "(LBurnerline$Eye;Z)V"⟩, 11), (⟨"Burnerline$Furnace", "movePositions", "()V"⟩, 11), (⟨"Burnerline$Furnace", "airGoal", "()I"⟩, 11), (⟨"Burnerline$Furnace", "fuelGoal", "()I"⟩, 11), (⟨"Burnerline$Furnace", "sequence", "(I)Z"⟩, 11), (⟨"Burnerline$Furnace", "sequenceOff", "(I)Z"⟩, 11), (⟨"Burnerline$Furnace", "lockOut", "(I)Z"⟩, 11), (⟨"Burnerline$Furnace", "sequencePurge", "(I)Z"⟩, 11), (⟨"Burnerline$Furnace", "sequenceLighting", "(I)Z"⟩, 11), (⟨"Burnerline$Furnace", "lightPilot", "()Z"⟩, 11), (⟨"Burnerline$Furnace", "lightMain", "()Z"⟩, 11), (⟨"Burnerline$Furnace", "sequenceRun", "(I)Z"⟩, 11), (⟨"Burnerline$Furnace", "isCheckDue", "()Z"⟩, 11), (⟨"Burnerline$Furnace", "sequenceAfterPurge", "()Z"⟩, 11), (⟨"Burnerline$Furnace", "countUnlit", "(Z)V"⟩, 11), (⟨"java/lang/Throwable", "fillInStackTrace", "(I)Ljava/lang/Throwable;"⟩, 6)]
theorem lw_r1 : ∀ q ∈ lw_privs_1, lw_okq q := List.forall_mem_cons.mpr ⟨lw_p0, List.forall_mem_cons.mpr ⟨lw_p1, List.forall_mem_cons.mpr ⟨lw_p2, List.forall_mem_cons.mpr ⟨lw_p3, List.forall_mem_cons.mpr ⟨lw_p4, List.forall_mem_cons.mpr ⟨lw_p5, List.forall_mem_cons.mpr ⟨lw_p6, List.forall_mem_cons.mpr ⟨lw_p7, List.forall_mem_cons.mpr ⟨lw_p8, List.forall_mem_cons.mpr ⟨lw_p9, List.forall_mem_cons.mpr ⟨lw_p10, List.forall_mem_cons.mpr ⟨lw_p11, List.forall_mem_cons.mpr ⟨lw_p12, List.forall_mem_cons.mpr ⟨lw_p13, List.forall_mem_cons.mpr ⟨lw_p14, List.forall_mem_cons.mpr ⟨lw_p15, fun _ h => absurd h List.not_mem_nil⟩⟩⟩⟩⟩⟩⟩⟩⟩⟩⟩⟩⟩⟩⟩⟩
theorem lw_p16 : lw_okq (⟨"Burnerline", "refuseUnlessOff", "()V"⟩, 7) := ⟨⟨by decide +kernel, by decide +kernel⟩, List.mem_of_getElem? (i := 17) (by decide +kernel), List.mem_of_getElem? (i := 513) (by decide +kernel), List.mem_of_getElem? (i := 514) (by decide +kernel)⟩
theorem lw_p17 : lw_okq (⟨"Burnerline", "recordChange", "()V"⟩, 7) := ⟨⟨by decide +kernel, by decide +kernel⟩, List.mem_of_getElem? (i := 17) (by decide +kernel), List.mem_of_getElem? (i := 557) (by decide +kernel), List.mem_of_getElem? (i := 558) (by decide +kernel)⟩
theorem lw_p18 : lw_okq (⟨"BurnerlineModel", "asks", "(Z)Z"⟩, 35) := ⟨⟨by decide +kernel, by decide +kernel⟩, List.mem_of_getElem? (i := 646) (by decide +kernel), List.mem_of_getElem? (i := 770) (by decide +kernel), List.mem_of_getElem? (i := 771) (by decide +kernel)⟩
theorem lw_p19 : lw_okq (⟨"BurnerlineModel", "asksSetting", "(Z)Z"⟩, 35) := ⟨⟨by decide +kernel, by decide +kernel⟩, List.mem_of_getElem? (i := 646) (by decide +kernel), List.mem_of_getElem? (i := 782) (by decide +kernel), List.mem_of_getElem? (i := 783) (by decide +kernel)⟩
theorem lw_p20 : lw_okq (⟨"BurnerlineModel", "plays", "(I)V"⟩, 35) := ⟨⟨by decide +kernel, by decide +kernel⟩, List.mem_of_getElem? (i := 646) (by decide +kernel), List.mem_of_getElem? (i := 798) (by decide +kernel), List.mem_of_getElem? (i := 799) (by decide +kernel)⟩
theorem lw_p21 : lw_okq (⟨"BurnerlineModel", "looks", "(III)I"⟩, 35) := ⟨⟨by decide +kernel, by decide +kernel⟩, List.mem_of_getElem? (i := 646) (by decide +kernel), List.mem_of_getElem? (i := 802) (by decide +kernel), List.mem_of_getElem? (i := 803) (by decide +kernel)⟩
theorem lw_p22 : lw_okq (⟨"BurnerlineModel", "goes", "()V"⟩, 35) := ⟨⟨by decide +kernel, by decide +kernel⟩, List.mem_of_getElem? (i := 646) (by decide +kernel), List.mem_of_getElem? (i := 809) (by decide +kernel), List.mem_of_getElem? (i := 810) (by decide +kernel)⟩
theorem lw_p23 : lw_okq (⟨"BurnerlineModel", "decides", "(I)V"⟩, 35) := ⟨⟨by decide +kernel, by decide +kernel⟩, List.mem_of_getElem? (i := 646) (by decide +kernel), List.mem_of_getElem? (i := 816) (by decide +kernel), List.mem_of_getElem? (i := 817) (by decide +kernel)⟩
theorem lw_p24 : lw_okq (⟨"BurnerlineModel", "begins", "(II)V"⟩, 35) := ⟨⟨by decide +kernel, by decide +kernel⟩, List.mem_of_getElem? (i := 646) (by decide +kernel), List.mem_of_getElem? (i := 820) (by decide +kernel), List.mem_of_getElem? (i := 821) (by decide +kernel)⟩
theorem lw_p25 : lw_okq (⟨"BurnerlineModel", "purges", "(IZ)V"⟩, 35) := ⟨⟨by decide +kernel, by decide +kernel⟩, List.mem_of_getElem? (i := 646) (by decide +kernel), List.mem_of_getElem? (i := 824) (by decide +kernel), List.mem_of_getElem? (i := 825) (by decide +kernel)⟩
theorem lw_p26 : lw_okq (⟨"BurnerlineModel", "lights", "(IZ)V"⟩, 35) := ⟨⟨by decide +kernel, by decide +kernel⟩, List.mem_of_getElem? (i := 646) (by decide +kernel), List.mem_of_getElem? (i := 828) (by decide +kernel), List.mem_of_getElem? (i := 829) (by decide +kernel)⟩
theorem lw_p27 : lw_okq (⟨"BurnerlineModel", "lacks", "(I)Z"⟩, 35) := ⟨⟨by decide +kernel, by decide +kernel⟩, List.mem_of_getElem? (i := 646) (by decide +kernel), List.mem_of_getElem? (i := 832) (by decide +kernel), List.mem_of_getElem? (i := 833) (by decide +kernel)⟩
theorem lw_p28 : lw_okq (⟨"BurnerlineModel", "runs", "(IZ)V"⟩, 35) := ⟨⟨by decide +kernel, by decide +kernel⟩, List.mem_of_getElem? (i := 646) (by decide +kernel), List.mem_of_getElem? (i := 836) (by decide +kernel), List.mem_of_getElem? (i := 837) (by decide +kernel)⟩
theorem lw_p29 : lw_okq (⟨"BurnerlineModel", "notes", "()V"⟩, 35) := ⟨⟨by decide +kernel, by decide +kernel⟩, List.mem_of_getElem? (i := 646) (by decide +kernel), List.mem_of_getElem? (i := 840) (by decide +kernel), List.mem_of_getElem? (i := 841) (by decide +kernel)⟩
theorem lw_p30 : lw_okq (⟨"BurnerlineModel", "recentResets", "()I"⟩, 35) := ⟨⟨by decide +kernel, by decide +kernel⟩, List.mem_of_getElem? (i := 646) (by decide +kernel), List.mem_of_getElem? (i := 848) (by decide +kernel), List.mem_of_getElem? (i := 849) (by decide +kernel)⟩
theorem lw_p31 : lw_okq (⟨"BurnerlineModel", "kept", "()I"⟩, 35) := ⟨⟨by decide +kernel, by decide +kernel⟩, List.mem_of_getElem? (i := 646) (by decide +kernel), List.mem_of_getElem? (i := 904) (by decide +kernel), List.mem_of_getElem? (i := 905) (by decide +kernel)⟩
def lw_privs_2 : List (MethodName × Nat) := [(⟨"Burnerline", "refuseUnlessOff", "()V"⟩, 7), (⟨"Burnerline", "recordChange", "()V"⟩, 7), (⟨"BurnerlineModel", "asks", "(Z)Z"⟩, 35), (⟨"BurnerlineModel", "asksSetting", "(Z)Z"⟩, 35), (⟨"BurnerlineModel", "plays", "(I)V"⟩, 35), (⟨"BurnerlineModel", "looks", "(III)I"⟩, 35), (⟨"BurnerlineModel", "goes", "()V"⟩, 35), (⟨"BurnerlineModel", "decides", "(I)V"⟩, 35), (⟨"BurnerlineModel", "begins", "(II)V"⟩, 35), (⟨"BurnerlineModel", "purges", "(IZ)V"⟩, 35), (⟨"BurnerlineModel", "lights", "(IZ)V"⟩, 35), (⟨"BurnerlineModel", "lacks", "(I)Z"⟩, 35), (⟨"BurnerlineModel", "runs", "(IZ)V"⟩, 35), (⟨"BurnerlineModel", "notes", "()V"⟩, 35), (⟨"BurnerlineModel", "recentResets", "()I"⟩, 35), (⟨"BurnerlineModel", "kept", "()I"⟩, 35)]
theorem lw_r2 : ∀ q ∈ lw_privs_2, lw_okq q := List.forall_mem_cons.mpr ⟨lw_p16, List.forall_mem_cons.mpr ⟨lw_p17, List.forall_mem_cons.mpr ⟨lw_p18, List.forall_mem_cons.mpr ⟨lw_p19, List.forall_mem_cons.mpr ⟨lw_p20, List.forall_mem_cons.mpr ⟨lw_p21, List.forall_mem_cons.mpr ⟨lw_p22, List.forall_mem_cons.mpr ⟨lw_p23, List.forall_mem_cons.mpr ⟨lw_p24, List.forall_mem_cons.mpr ⟨lw_p25, List.forall_mem_cons.mpr ⟨lw_p26, List.forall_mem_cons.mpr ⟨lw_p27, List.forall_mem_cons.mpr ⟨lw_p28, List.forall_mem_cons.mpr ⟨lw_p29, List.forall_mem_cons.mpr ⟨lw_p30, List.forall_mem_cons.mpr ⟨lw_p31, fun _ h => absurd h List.not_mem_nil⟩⟩⟩⟩⟩⟩⟩⟩⟩⟩⟩⟩⟩⟩⟩⟩
theorem lw_p32 : lw_okq (⟨"BurnerlineModel", "place", "(I)I"⟩, 35) := ⟨⟨by decide +kernel, by decide +kernel⟩, List.mem_of_getElem? (i := 646) (by decide +kernel), List.mem_of_getElem? (i := 912) (by decide +kernel), List.mem_of_getElem? (i := 913) (by decide +kernel)⟩
theorem lw_p33 : lw_okq (⟨"BurnerlineModel", "walks", "(I)I"⟩, 35) := ⟨⟨by decide +kernel, by decide +kernel⟩, List.mem_of_getElem? (i := 646) (by decide +kernel), List.mem_of_getElem? (i := 928) (by decide +kernel), List.mem_of_getElem? (i := 929) (by decide +kernel)⟩
theorem lw_p34 : lw_okq (⟨"BurnerlineModel", "packs", "()J"⟩, 35) := ⟨⟨by decide +kernel, by decide +kernel⟩, List.mem_of_getElem? (i := 646) (by decide +kernel), List.mem_of_getElem? (i := 932) (by decide +kernel), List.mem_of_getElem? (i := 933) (by decide +kernel)⟩
theorem lw_p35 : lw_okq (⟨"BurnerlineModel", "unpacks", "(J)V"⟩, 35) := ⟨⟨by decide +kernel, by decide +kernel⟩, List.mem_of_getElem? (i := 646) (by decide +kernel), List.mem_of_getElem? (i := 936) (by decide +kernel), List.mem_of_getElem? (i := 937) (by decide +kernel)⟩
theorem lw_p36 : lw_okq (⟨"BurnerlineModel", "adds", "(I)I"⟩, 35) := ⟨⟨by decide +kernel, by decide +kernel⟩, List.mem_of_getElem? (i := 646) (by decide +kernel), List.mem_of_getElem? (i := 946) (by decide +kernel), List.mem_of_getElem? (i := 947) (by decide +kernel)⟩
def lw_privs_3 : List (MethodName × Nat) := [(⟨"BurnerlineModel", "place", "(I)I"⟩, 35), (⟨"BurnerlineModel", "walks", "(I)I"⟩, 35), (⟨"BurnerlineModel", "packs", "()J"⟩, 35), (⟨"BurnerlineModel", "unpacks", "(J)V"⟩, 35), (⟨"BurnerlineModel", "adds", "(I)I"⟩, 35)]
theorem lw_r3 : ∀ q ∈ lw_privs_3, lw_okq q := List.forall_mem_cons.mpr ⟨lw_p32, List.forall_mem_cons.mpr ⟨lw_p33, List.forall_mem_cons.mpr ⟨lw_p34, List.forall_mem_cons.mpr ⟨lw_p35, List.forall_mem_cons.mpr ⟨lw_p36, fun _ h => absurd h List.not_mem_nil⟩⟩⟩⟩⟩
def lw_privs : List (MethodName × Nat) := lw_privs_1 ++ (lw_privs_2 ++ (lw_privs_3))
def lw_tbl : List Cond := k2_sels lw_privs ++ tables_1
theorem lw_privs_ok : ∀ q ∈ lw_privs, lw_okq q := by
  show ∀ q ∈ lw_privs_1 ++ (lw_privs_2 ++ (lw_privs_3)), lw_okq q
  exact List.forall_mem_append.mpr ⟨lw_r1, List.forall_mem_append.mpr ⟨lw_r2, lw_r3⟩⟩
end
section
/-! ===== BEGIN words of one list among another's, by their places ===== -/
theorem goodIn_r {big : List Cond} (ws : List Cond) (ps : List Nat) (hp : ws = ps.filterMap (fun i => big[i]?)) (h : ws.all goodWord = true) : GoodIn big ws := by
  intro w hw
  have h1 := List.all_eq_true.mp h w hw
  rw [hp] at hw
  obtain ⟨i, -, hi⟩ := List.mem_filterMap.mp hw
  have hm : w ∈ big := by first | exact List.mem_of_getElem? hi | exact List.getElem?_mem hi
  exact ⟨hm, good_of_word h1⟩
theorem goodIn_app {big a b : List Cond} (ha : GoodIn big a) (hb : GoodIn big b) : GoodIn big (a ++ b) := fun w h => (List.mem_append.mp h).elim (ha w) (hb w)
theorem goodIn_ca {big a b : List Cond} {c : Cond} (ha : GoodIn big (c :: a)) (hb : GoodIn big b) : GoodIn big (c :: (a ++ b)) := fun w h => (List.mem_cons.mp h).elim (fun e => ha w (List.mem_cons.mpr (Or.inl e))) (fun h => (List.mem_append.mp h).elim (fun h => ha w (List.mem_cons.mpr (Or.inr h))) (hb w))
theorem goodIn_sub {big ws : List Cond} (hm : ∀ w ∈ ws, w ∈ big) (h : ws.all goodWord = true) : GoodIn big ws := fun w hw => ⟨hm w hw, good_of_word (List.all_eq_true.mp h w hw)⟩
/-! ===== END ===== -/

/-! ===== BEGIN exceptions that leave a method, and their catching by the caller (launches without stack traces) ===== -/
section VXA
/-! The laws vx_back, vx_callV, vx_callS, vx_callSW, vx_throw0, vx_throwS follow proofs of the library, with one case more: JvmDerived/Free/Laws.lean (Back.of_free), Shelf42/LK1.lean (callV, callS), Shelf/KitTraced.lean (throwNew0V, throwNewS). -/
/-- where a method has thrown q: the class by its name, the cell, what was written, the world -/
def vx_T (XC : String → State → State → Prop) (st : State) (q : Addr) (t : State) (mc ms : Nat) (free : Addr → Prop) : Prop :=
  ∃ (E : String) (ce : Cell) (L : List Loc), XC E st t ∧ t.heap[q]? = some ce ∧ ce.vm = .none ∧ st.vm.findClass E = some ce.cls ∧ st.WarmedH t.vm ∧ st.sameButNew ({ t with vm := st.vm } : State) L mc ms ∧ ∀ z ∈ L, free z.base
def vx_Q (Qc : Array Value → State → Outcome → State → Prop) (XC : String → State → State → Prop) (mc ms : Nat) (free : Addr → Prop) : Array Value → State → Outcome → State → Prop := fun a st o t =>
  (Qc a st o t ∧ ∃ L, FrameEnd st o t L mc ms ∧ ∀ q ∈ L, free q.base) ∨ ∃ q, o = .threw q ∧ vx_T XC st q t mc ms free
/-- a callee that returns or throws -/
def vx_Met (l : Launch) (y : MethodName) (ws : List Cond) (rm : Room) (Pc : Array Value → State → Prop) (Qc : Array Value → State → Outcome → State → Prop) (XC : String → State → State → Prop) (mc ms : Nat) (free : Addr → Prop) : Prop :=
  MetFree l y (headSpec ws rm) Pc (fun _ _ _ _ _ => True) (vx_Q Qc XC mc ms free)
def vx_Post (XC : String → State → State → Prop) (mc ms : Nat) (free : Addr → Prop) : Pt → Array Value → Addr → Pt → Prop := fun A a q B =>
  ∃ (g : JFrame) (mk : MethodId) (t : State) (L : List Loc) (E : String) (ce : Cell), B.U.heap = t.heap ∧ B.U.vm = t.vm ∧ XC E (A.U.calling g mk a) t ∧ t.heap[q]? = some ce ∧ ce.vm = .none ∧ A.U.vm.findClass E = some ce.cls ∧ B.locs = A.locs ++ L ∧ (∀ z ∈ L, free z.base) ∧ B.cells = A.cells + mc ∧ B.slots = A.slots + ms
def vx_Back (l : Launch) (R : Room) (p : Program) (e : Env) (below : List Frame) (s : State) (sargs : Array Value) (y : MethodName) (len W9 : Nat)
    (Pre : Pt → Array Value → Prop) (Post : Pt → Array Value → Option Value → Pt → Prop) (PostX : Pt → Array Value → Addr → Pt → Prop) : Prop :=
  ∀ (m : MethodId) (meth : Method) (c : Code) (A : Pt) (g : JFrame) (ig : Instr) (mk : MethodId) (a : Array Value),
    Stand p l e R s m sargs below meth c A.U A.locs A.cells A.slots → g.method = m → g.locals.size = c.maxLocals → decode c.code g.pc = .ok (ig, len) →
    2 * g.monitorRoom + (g.stack.map fun v => v.category).sum ≤ W9 → A.U.methodNamed? y = some mk → Pre A a →
    (∃ (v : Option Value) (B : Pt), Stand p l e R s m sargs below meth c B.U B.locs B.cells B.slots ∧ Post A a v B ∧
      Steps p.tables e below (doInvoke e (A.U.setTop g) [] mk a).1 (B.U.setTop { g with pc := g.pc + len, stack := v.toList ++ g.stack })) ∨
    (∃ (q : Addr) (B : Pt), Stand p l e R s m sargs below meth c B.U B.locs B.cells B.slots ∧ PostX A a q B ∧
      Steps p.tables e below (doInvoke e (A.U.setTop g) [] mk a).1 ((B.U.setTop g).pushFrame (.throwing q)))
section Payer
variable {l : Launch} {R : Room} {p : Program} {e : Env} {below : List Frame} {s : State} {sargs : Array Value} {y : MethodName} {len W9 : Nat}
theorem vx_back {ws : List Cond} {rm : Room} {Pc : Array Value → State → Prop} {Qc : Array Value → State → Outcome → State → Prop} {XC : String → State → State → Prop} {mc ms : Nat} {free : Addr → Prop} {bytes : ByteArray} {maxL : Nat} {ret : Option FieldType}
    (hM : vx_Met l y ws rm Pc Qc XC mc ms free) (hblind : FrameBlind Pc) (hrc : rm.cells = mc) (hrs : rm.slots = ms)
    (hframes : rm.frames + 1 ≤ R.frames) (hlocals : W9 + (maxL + 11) + rm.locals ≤ R.locals)
    (hws : ∀ w ∈ ws, ∀ a' U, s.WarmedH U.vm → w.before a' U = true) (hcode : Cond.code y bytes maxL ret ∈ ws) (hinit : ∀ a' U, s.WarmedH U.vm → (Cond.initialized y.cls).before a' U = true) :
    vx_Back l R p e below s sargs y len W9 (PreOf R mc ms Pc) (PostOf Qc mc ms free) (vx_Post XC mc ms free) := by
  intro m meth c A g ig mk a X hg hsize hdg hW hn hp
  have h1 : (headSpec ws rm).pre.before a A.U = true := atoms_intro fun w hw => hws w hw _ _ X.warmed
  have h2 : (Cond.code y bytes maxL ret).before a A.U = true := hws _ hcode _ _ X.warmed
  have h3 : (Cond.initialized y.cls).before a A.U = true := hinit _ _ X.warmed
  have h4 : A.cells + (headSpec ws rm).room.cells ≤ R.cells := by rw [show (headSpec ws rm).room.cells = mc from hrc]; exact hp.1
  have h5 : A.slots + (headSpec ws rm).room.slots ≤ R.slots := by rw [show (headSpec ws rm).room.slots = ms from hrs]; exact hp.2.1
  have hPc : Pc a (A.U.calling g mk a) := hblind _ _ _ _ hp.2.2
  obtain ⟨U, Ls, c0, s0⟩ := A
  dsimp only [Pt.U, Pt.locs, Pt.cells, Pt.slots] at h1 h2 h3 h4 h5 X hn hPc ⊢
  obtain ⟨methY, cY, hmY, hcY, -, hlY, -, -, -, -⟩ := Cond.code_spec hn h2
  obtain ⟨kY, hkY, -⟩ := className_of_methodNamed hn
  have hinitY : kY.init = .initialized := Cond.initialized_spec (findClass_of_methodNamed hn) hkY h3
  have h : At U g.method c below := by rw [hg]; exact X.here
  have hlocals9 : W9 + (maxL + 11) + (headSpec ws rm).room.locals ≤ R.locals := hlocals
  have happ : (headSpec ws rm).appliesLoose y e.platform (U.calling g mk a) = true :=
    Spec.appliesLoose_calling (g := g) h hdg hn hkY hinitY
      (X.room_calling (g := g) (R' := (headSpec ws rm).room) hsize hmY hcY hframes (by rw [hlY]; omega) h4 h5) h1
  obtain ⟨mid, hmid⟩ := h.above
  have hfr : (U.setTop g).frames = (.java g :: mid) ++ below := by rw [State.frames_setTop' g h.top, hmid]; rfl
  obtain ⟨o, s₂, hsteps, -, hend, hq⟩ := Steps.callFree hM p X.admits X.cas X.clock (acts := []) hfr happ hPc trivial
  have hq' : vx_Q Qc XC mc ms free a (U.calling g mk a) o s₂ := hq
  rw [State.frames_setTop' g h.top] at hend
  obtain ⟨g₀, hg0⟩ := Option.isSome_iff_exists.mp h.top
  obtain ⟨r, hr⟩ := State.topJava?_eq_some.mp hg0
  have hr' : (({ U with heap := s₂.heap, slotsUsed := s₂.slotsUsed } : State).setVm s₂.vm).frames = .java g₀ :: r := hr
  rcases hq' with ⟨hqc, L, hfe, hL⟩ | ⟨q, rfl, E, ce, L, hx, hce, hcv, hcl, hW₂, hsm, hL⟩
  · obtain ⟨⟨v, rfl⟩, hW₂, e2, q2, q3, q4, q5, q6⟩ := id hfe
    have e3 : s₂ = ({ (U.calling g mk a).setFrames s₂.frames with heap := s₂.heap, slotsUsed := s₂.slotsUsed } : State).setVm s₂.vm := by
      have : s₂ = ({ s₂ with vm := (U.calling g mk a).vm } : State).setVm s₂.vm := rfl
      rw [e2] at this
      exact this
    obtain ⟨c₂, i₂, len₂, hc₂, hd₂, hf₂⟩ := hend
    have hW' : U.WarmedH s₂.vm := hW₂
    have hcc : c₂ = c := by
      have h1 : s₂.code? g.method = U.code? g.method := by
        rw [State.code?_eq, State.code?_eq, hW'.alike.method?]
      exact Option.some.inj (hc₂.symm.trans (h1.trans h.code))
    subst hcc
    have hlen : len₂ = len := by rw [hdg] at hd₂; cases hd₂; rfl
    subst hlen
    have hs₂ : s₂ = (({ U with heap := s₂.heap, slotsUsed := s₂.slotsUsed } : State).setVm s₂.vm).setTop { g with pc := g.pc + len₂, stack := v.toList ++ g.stack } := by
      refine e3.trans ?_
      rw [hf₂, State.calling_eq h.top, State.setFrames_setFrames, State.setTop_of_frames _ hr', hr]
      rfl
    have hsame : U.sameButNew ({ U with heap := s₂.heap, slotsUsed := s₂.slotsUsed } : State) L mc ms := by
      refine ⟨?_, q2, q3, q4, q5, q6⟩
      obtain ⟨t, ht, -⟩ := State.frames_cons hr
      show ({ U with heap := s₂.heap, slotsUsed := s₂.slotsUsed } : State) = { U.setFrames U.frames with heap := s₂.heap, slotsUsed := s₂.slotsUsed }
      rw [State.setFrames_self ht]
    subst hg
    refine Or.inl ⟨v, ⟨(({ U with heap := s₂.heap, slotsUsed := s₂.slotsUsed } : State).setVm s₂.vm), Ls ++ L, c0 + mc, s0 + ms⟩,
      ⟨X.admits, X.cas, X.clock, X.frames, X.room, X.hears, X.method, X.code, (X.here.setHeapUsed s₂.heap s₂.slotsUsed).setVm hW'.alike, X.tail, State.WarmedH.trans X.warmed hW', X.limits, X.bytes, X.same.trans (hsame.setVm s.vm)⟩,
      ⟨g, mk, s₂, L, rfl, rfl, hqc, rfl, hL, rfl, rfl⟩, ?_⟩
    show Steps p.tables e below _ ((({ U with heap := s₂.heap, slotsUsed := s₂.slotsUsed } : State).setVm s₂.vm).setTop { g with pc := g.pc + len₂, stack := v.toList ++ g.stack })
    rw [← hs₂]
    exact hsteps
  · obtain ⟨e2, q2, q3, q4, q5, q6⟩ := id hsm
    have e3 : s₂ = ({ (U.calling g mk a).setFrames s₂.frames with heap := s₂.heap, slotsUsed := s₂.slotsUsed } : State).setVm s₂.vm := by
      have : s₂ = ({ s₂ with vm := (U.calling g mk a).vm } : State).setVm s₂.vm := rfl
      rw [e2] at this
      exact this
    have hf₂ : s₂.frames = .throwing q :: .java g :: U.frames.tail := hend
    have hW' : U.WarmedH s₂.vm := hW₂
    have hs₂ : s₂ = ((({ U with heap := s₂.heap, slotsUsed := s₂.slotsUsed } : State).setVm s₂.vm).setTop g).pushFrame (.throwing q) := by
      refine e3.trans ?_
      rw [hf₂, State.calling_eq h.top, State.setFrames_setFrames, State.pushFrame, State.frames_setTop _ hr', State.setTop_of_frames _ hr', State.setFrames_setFrames, hr]
      rfl
    have hsame : U.sameButNew ({ U with heap := s₂.heap, slotsUsed := s₂.slotsUsed } : State) L mc ms := by
      refine ⟨?_, q2, q3, q4, q5, q6⟩
      obtain ⟨t, ht, -⟩ := State.frames_cons hr
      show ({ U with heap := s₂.heap, slotsUsed := s₂.slotsUsed } : State) = { U.setFrames U.frames with heap := s₂.heap, slotsUsed := s₂.slotsUsed }
      rw [State.setFrames_self ht]
    subst hg
    refine Or.inr ⟨q, ⟨(({ U with heap := s₂.heap, slotsUsed := s₂.slotsUsed } : State).setVm s₂.vm), Ls ++ L, c0 + mc, s0 + ms⟩,
      ⟨X.admits, X.cas, X.clock, X.frames, X.room, X.hears, X.method, X.code, (X.here.setHeapUsed s₂.heap s₂.slotsUsed).setVm hW'.alike, X.tail, State.WarmedH.trans X.warmed hW', X.limits, X.bytes, X.same.trans (hsame.setVm s.vm)⟩,
      ⟨g, mk, s₂, L, E, ce, rfl, rfl, hx, hce, hcv, hcl, rfl, hL, rfl, rfl⟩, ?_⟩
    show Steps p.tables e below _ (((({ U with heap := s₂.heap, slotsUsed := s₂.slotsUsed } : State).setVm s₂.vm).setTop g).pushFrame (.throwing q))
    rw [← hs₂]
    exact hsteps
end Payer
section Calls
variable {p : Program} {l : Launch} {e : Env} {R : Room} {s : State} {m : MethodId} {args : Array Value} {below : List Frame} {meth : Method} {c : Code} {T : State} {locs : List Loc} {cells slots : Nat}
theorem vx_callV (X : Stand p l e R s m args below meth c T locs cells slots) (hexec : p.tables.exec = Jvm.exec) {own C : String} {index : Nat} {y : MethodName} {bytes : ByteArray} {maxL : Nat} {ret : Option FieldType}
    (hown : s.vm.findClass own = some m.cls) (hlink : (Cond.methodLink own index y).before args s = true) (hinst : (Cond.instanceMethod y).before args s = true) (hsel : (Cond.selects C y y).before args s = true)
    (hcode : (Cond.code y bytes maxL ret).before args s = true) (hy : y.cls ≠ "java/lang/invoke/MethodHandle" ∧ y.cls ≠ "java/lang/invoke/VarHandle")
    {W9 : Nat} {Pre : Pt → Array Value → Prop} {Post : Pt → Array Value → Option Value → Pt → Prop} {PostX : Pt → Array Value → Addr → Pt → Prop} (hK : vx_Back l R p e below s args y 3 W9 Pre Post PostX)
    {b : Addr} {cellB : Cell} (hcell : T.heap[b]? = some cellB) (hobj : cellB.vm.isStatics = false) (hcls : s.vm.findClass C = some cellB.cls)
    {g : JFrame} (hg : g.method = m) (hsize : g.locals.size = c.maxLocals) {argsL rest : List Value} (hlen : ∀ sig, parseMethodDescriptor y.desc = some sig → argsL.length = sig.parameters.length)
    (hstack : g.stack = argsL.reverse ++ .ref b :: rest) (hW : 2 * g.monitorRoom + (rest.map fun v => v.category).sum ≤ W9) (hdg : decode c.code g.pc = .ok (.invokevirtual index, 3))
    (hpre : ∀ vm₁, s.WarmedH vm₁ → Pre ⟨T.setVm vm₁, locs, cells, slots⟩ (Value.ref b :: argsL).toArray) :
    (∃ (v : Option Value) (vm₁ : Vm) (B : Pt), s.WarmedH vm₁ ∧ Stand p l e R s m args below meth c B.U B.locs B.cells B.slots ∧ Post ⟨T.setVm vm₁, locs, cells, slots⟩ (Value.ref b :: argsL).toArray v B ∧
      ∀ target, Steps p.tables e below (B.U.setTop { g with pc := g.pc + 3, stack := v.toList ++ rest }) target → Steps p.tables e below (T.setTop g) target) ∨
    (∃ (q : Addr) (vm₁ : Vm) (B : Pt), s.WarmedH vm₁ ∧ Stand p l e R s m args below meth c B.U B.locs B.cells B.slots ∧ PostX ⟨T.setVm vm₁, locs, cells, slots⟩ (Value.ref b :: argsL).toArray q B ∧
      Steps p.tables e below (T.setTop g) ((B.U.setTop { g with stack := rest }).pushFrame (.throwing q))) := by
  obtain ⟨mk, methM, hnamed, hmethM, hstM, habM⟩ := Cond.instanceMethod_spec hinst
  obtain ⟨methM', cM, hmethM', -, -, -, -, -, -, hsigM⟩ := Cond.code_spec hnamed hcode
  cases hmethM.symm.trans hmethM'
  obtain ⟨c2, r2, m2, q1, q2, q3, q4, kP, hkP, hkPi⟩ := Cond.selects_spec hsel
  cases hcls.symm.trans q1
  cases (State.methodFound?_of_named hnamed hy).symm.trans q2
  cases hnamed.symm.trans q3
  have hselP : selectMethod e.platform s.vm cellB.cls mk = .method mk := by rw [Launch.admits_selectMethod X.admits]; exact q4
  obtain ⟨vm₁, X₁, hstep₁⟩ := X.invokevirtual hexec hown hlink hnamed hmethM hstM hkP hkPi hy (a := b) (cell := cellB) hcell
    (fun z h => by rw [h] at hobj; cases hobj) hselP hmethM habM hkP hkPi (g := g) hg (argsL := argsL) (rest := rest) (hlen _ hsigM) hstack hdg
  rcases hK m meth c ⟨T.setVm vm₁, locs, cells, slots⟩ { g with stack := rest } (.invokevirtual index) mk (Value.ref b :: argsL).toArray X₁ hg hsize hdg hW (X₁.named hnamed) (hpre vm₁ X₁.warmed) with ⟨v, B, X', hpost, hsteps⟩ | ⟨q, B, X', hpost, hsteps⟩
  · exact Or.inl ⟨v, vm₁, B, X₁.warmed, X', hpost, fun target h => hstep₁ _ fun acts => by rw [doInvoke_state]; exact hsteps.trans h⟩
  · exact Or.inr ⟨q, vm₁, B, X₁.warmed, X', hpost, hstep₁ _ fun acts => by rw [doInvoke_state]; exact hsteps⟩
theorem vx_callS (X : Stand p l e R s m args below meth c T locs cells slots) (hexec : p.tables.exec = Jvm.exec) {own : String} {index : Nat} {y : MethodName} {bytes : ByteArray} {maxL : Nat} {ret : Option FieldType}
    (hown : s.vm.findClass own = some m.cls) (hlink : (Cond.methodLink own index y).before args s = true) (hstat : (Cond.static y).before args s = true) (hinit : (Cond.initialized y.cls).before args s = true)
    (hcode : (Cond.code y bytes maxL ret).before args s = true) (hy : y.cls ≠ "java/lang/invoke/MethodHandle" ∧ y.cls ≠ "java/lang/invoke/VarHandle")
    {W9 : Nat} {Pre : Pt → Array Value → Prop} {Post : Pt → Array Value → Option Value → Pt → Prop} {PostX : Pt → Array Value → Addr → Pt → Prop} (hK : vx_Back l R p e below s args y 3 W9 Pre Post PostX)
    {g : JFrame} (hg : g.method = m) (hsize : g.locals.size = c.maxLocals) {argsL rest : List Value} (hlen : ∀ sig, parseMethodDescriptor y.desc = some sig → argsL.length = sig.parameters.length)
    (hstack : g.stack = argsL.reverse ++ rest) (hW : 2 * g.monitorRoom + (rest.map fun v => v.category).sum ≤ W9) (hdg : decode c.code g.pc = .ok (.invokestatic index, 3))
    (hpre : ∀ vm₁, s.WarmedH vm₁ → Pre ⟨T.setVm vm₁, locs, cells, slots⟩ argsL.toArray) :
    (∃ (v : Option Value) (vm₁ : Vm) (B : Pt), s.WarmedH vm₁ ∧ Stand p l e R s m args below meth c B.U B.locs B.cells B.slots ∧ Post ⟨T.setVm vm₁, locs, cells, slots⟩ argsL.toArray v B ∧
      ∀ target, Steps p.tables e below (B.U.setTop { g with pc := g.pc + 3, stack := v.toList ++ rest }) target → Steps p.tables e below (T.setTop g) target) ∨
    (∃ (q : Addr) (vm₁ : Vm) (B : Pt), s.WarmedH vm₁ ∧ Stand p l e R s m args below meth c B.U B.locs B.cells B.slots ∧ PostX ⟨T.setVm vm₁, locs, cells, slots⟩ argsL.toArray q B ∧
      Steps p.tables e below (T.setTop g) ((B.U.setTop { g with stack := rest }).pushFrame (.throwing q))) := by
  obtain ⟨mk, hnamed⟩ := Cond.code_named hcode
  obtain ⟨methM, cM, hmethM, -, -, -, -, -, -, hsigM⟩ := Cond.code_spec hnamed hcode
  have hstatic : methM.isStatic = true := Cond.static_spec hnamed hmethM hstat
  obtain ⟨kP, hkP, -⟩ := className_of_methodNamed hnamed
  have hinitP : kP.init = .initialized := Cond.initialized_spec (findClass_of_methodNamed hnamed) hkP hinit
  obtain ⟨vm₁, X₁, hstep₁⟩ := X.invokestatic hexec hown hlink hnamed hmethM hstatic hkP hinitP hy (g := g) hg (argsL := argsL) (rest := rest) (hlen _ hsigM) hstack hdg
  rcases hK m meth c ⟨T.setVm vm₁, locs, cells, slots⟩ { g with stack := rest } (.invokestatic index) mk argsL.toArray X₁ hg hsize hdg hW (X₁.named hnamed) (hpre vm₁ X₁.warmed) with ⟨v, B, X', hpost, hsteps⟩ | ⟨q, B, X', hpost, hsteps⟩
  · exact Or.inl ⟨v, vm₁, B, X₁.warmed, X', hpost, fun target h => hstep₁ _ fun acts => by rw [doInvoke_state]; exact hsteps.trans h⟩
  · exact Or.inr ⟨q, vm₁, B, X₁.warmed, X', hpost, hstep₁ _ fun acts => by rw [doInvoke_state]; exact hsteps⟩
end Calls
theorem vx_cls {s : State} {T : State} {vm₁ : Vm} {E : String} {k : ClassId} (hW : s.WarmedH vm₁) (h : (T.setVm vm₁).vm.findClass E = some k) : s.vm.findClass E = some k := by
  have h1 : vm₁.findClass E = some k := h
  rw [hW.alike.findClass] at h1
  exact h1
/-- the method's frame g, with q thrown over it -/
def vx_W (p : Program) (l : Launch) (e : Env) (R : Room) (s : State) (m : MethodId) (args : Array Value) (below : List Frame) (meth : Method) (c : Code) (H : Heap) (locs : List Loc) (cells slots : Nat) (Q : State → Prop) (g : JFrame) (q : Addr) : Prop :=
  ∀ T : State, T.heap = H → Stand p l e R s m args below meth c T locs cells slots → ∃ t, Steps p.tables e below ((T.setTop g).pushFrame (.throwing q)) t ∧ Q t
def vx_Run (p : Program) (l : Launch) (e : Env) (R : Room) (s : State) (m : MethodId) (args : Array Value) (below : List Frame) (meth : Method) (c : Code) (H : Heap) (locs : List Loc) (cells slots mc ms : Nat) (g : JFrame) (rest : List Value) (Qa : State → Outcome → State → Prop) (XC : String → State → State → Prop) (free : Addr → Prop) : Prop :=
  ∀ T : State, T.heap = H → Stand p l e R s m args below meth c T locs cells slots →
    (∃ (v : Option Value) (st₀ t T' : State) (L : List Loc), st₀.heap = H ∧ Stand p l e R s m args below meth c T' (locs ++ L) (cells + mc) (slots + ms) ∧ (∀ q ∈ L, free q.base) ∧ T'.heap = t.heap ∧ T'.vm = t.vm ∧ Qa st₀ (.returned v) t ∧
      Goes p e below T g T' { g with pc := g.pc + 3, stack := v.toList ++ rest }) ∨
    (∃ (q : Addr) (st₀ t T' : State) (L : List Loc) (E : String) (ce : Cell), st₀.heap = H ∧ Stand p l e R s m args below meth c T' (locs ++ L) (cells + mc) (slots + ms) ∧ (∀ z ∈ L, free z.base) ∧ T'.heap = t.heap ∧ T'.vm = t.vm ∧ XC E st₀ t ∧ t.heap[q]? = some ce ∧ ce.vm = .none ∧ s.vm.findClass E = some ce.cls ∧
      Steps p.tables e below (T.setTop g) ((T'.setTop { g with stack := rest }).pushFrame (.throwing q)))
def vx_X {S : Type} (px : S → Prop) (B : String → S → State → Prop) (A : Nat → Prop) : String → State → State → Prop := fun E st t => ∃ u : S, px u ∧ B E u t ∧ va_F A st t
section Runs
variable {p : Program} {l : Launch} {e : Env} {R : Room} {s : State} {m : MethodId} {args : Array Value} {below : List Frame} {meth : Method} {c : Code} {H : Heap} {locs : List Loc} {cells slots : Nat}
variable {y : MethodName} {bytes cc : ByteArray} {maxL nL mc ms n index : Nat} {ret : Option FieldType} {ws : List Cond} {rm : Room} {Pc : Array Value → State → Prop} {Qc : Array Value → State → Outcome → State → Prop} {XC : String → State → State → Prop} {free : Addr → Prop} {Ts : List Cond} {own C : String} {b : Addr} {As rest : List Value} {g : JFrame}
theorem vx_callBack (cb : CallB R s args own index y bytes maxL ret ws rm mc ms n) (hM : vx_Met l y ws rm Pc Qc XC mc ms free) (hbl : FrameBlind Pc) : vx_Back l R p e below s args y 3 8 (PreOf R mc ms Pc) (PostOf Qc mc ms free) (vx_Post XC mc ms free) := by
  obtain ⟨hrc, hrs, hfr, hlo, hws, hcw, -, hini, -⟩ := cb
  exact vx_back (bytes := bytes) (maxL := maxL) (ret := ret) hM hbl hrc hrs hfr hlo hws hcw (fun a' U hW => word_at hW (Or.inl (by first | rfl | simp [Cond.onTables, Cond.keeps, Cond.steady])) hini)
theorem vx_runV (S : CallFix p m c cc nL s args Ts own) (hM : vx_Met l y ws rm Pc Qc XC mc ms free) (cw : CallW R s args own C index y bytes maxL ret ws rm mc ms n) (hp : PreV s H C b Pc As)
    (hg : g.method = m) (hn : As.length = n) (hsize : g.locals.size = nL) (hstack : g.stack = As.reverse ++ .ref b :: rest) (hW : 2 * g.monitorRoom + (rest.map fun v => v.category).sum ≤ 8) (hdg : decode cc g.pc = .ok (.invokevirtual index, 3)) (hf : cells + mc ≤ R.cells ∧ slots + ms ≤ R.slots) :
    vx_Run p l e R s m args below meth c H locs cells slots mc ms g rest (Qc (Value.ref b :: As).toArray) XC free := by
  have hK : vx_Back l R p e below s args y 3 8 (PreOf R mc ms Pc) (PostOf Qc mc ms free) (vx_Post XC mc ms free) := vx_callBack cw.1 hM hp.1
  obtain ⟨⟨-, -, -, -, -, -, hcode, -, hy, hlen, hl⟩, hin, hse⟩ := cw
  obtain ⟨hx, hb, hml, ho, -⟩ := S
  obtain ⟨-, ⟨cellB, hcB, hoB, hclB⟩, hPc⟩ := hp
  intro T hT X
  rcases vx_callV X hx (C := C) (bytes := bytes) (maxL := maxL) (ret := ret) ho hl hin hse hcode hy hK (by rw [hT]; exact hcB) hoB hclB hg (hsize.trans hml.symm) (argsL := As) (rest := rest) (fun sig h => hn.trans (hlen sig h)) hstack hW (by rw [hb]; exact hdg)
    (fun vm₁ hW₁ => ⟨hf.1, hf.2, hPc (T.setVm vm₁) hT hW₁⟩) with ⟨v, vm₁, ⟨U', l2, c2, s2⟩, hW₁, X', ⟨g', mk, t, L, e1, e2, hq, h1, hL, h2, h3⟩, st⟩ | ⟨q, vm₁, ⟨U', l2, c2, s2⟩, hW₁, X', ⟨g', mk, t, L, E, ce, e1, e2, hq, hce, hcv, hcl, h1, hL, h2, h3⟩, st⟩
  · dsimp only [Pt.U, Pt.locs, Pt.cells, Pt.slots] at X' e1 e2 h1 h2 h3 st
    subst h1; subst h2; subst h3
    exact Or.inl ⟨v, (T.setVm vm₁).calling g' mk (Value.ref b :: As).toArray, t, U', L, hT, X', hL, e1, e2, hq, st⟩
  · dsimp only [Pt.U, Pt.locs, Pt.cells, Pt.slots] at X' e1 e2 h1 h2 h3 st hcl
    subst h1; subst h2; subst h3
    exact Or.inr ⟨q, (T.setVm vm₁).calling g' mk (Value.ref b :: As).toArray, t, U', L, E, ce, hT, X', hL, e1, e2, hq, hce, hcv, vx_cls hW₁ hcl, st⟩
theorem vx_runS (S : CallFix p m c cc nL s args Ts own) (hM : vx_Met l y ws rm Pc Qc XC mc ms free) (cw : CallB R s args own index y bytes maxL ret ws rm mc ms n ∧ (Cond.static y).before args s = true) (hp : PreS s H Pc As)
    (hg : g.method = m) (hn : As.length = n) (hsize : g.locals.size = nL) (hstack : g.stack = As.reverse ++ rest) (hW : 2 * g.monitorRoom + (rest.map fun v => v.category).sum ≤ 8) (hdg : decode cc g.pc = .ok (.invokestatic index, 3)) (hf : cells + mc ≤ R.cells ∧ slots + ms ≤ R.slots) :
    vx_Run p l e R s m args below meth c H locs cells slots mc ms g rest (Qc As.toArray) XC free := by
  have hK : vx_Back l R p e below s args y 3 8 (PreOf R mc ms Pc) (PostOf Qc mc ms free) (vx_Post XC mc ms free) := vx_callBack cw.1 hM hp.1
  obtain ⟨⟨-, -, -, -, -, -, hcode, hini, hy, hlen, hl⟩, hstt⟩ := cw
  obtain ⟨hx, hb, hml, ho, -⟩ := S
  intro T hT X
  rcases vx_callS X hx (bytes := bytes) (maxL := maxL) (ret := ret) ho hl hstt hini hcode hy hK hg (hsize.trans hml.symm) (argsL := As) (rest := rest) (fun sig h => hn.trans (hlen sig h)) hstack hW (by rw [hb]; exact hdg)
    (fun vm₁ hW₁ => ⟨hf.1, hf.2, hp.2 (T.setVm vm₁) hT hW₁⟩) with ⟨v, vm₁, ⟨U', l2, c2, s2⟩, hW₁, X', ⟨g', mk, t, L, e1, e2, hq, h1, hL, h2, h3⟩, st⟩ | ⟨q, vm₁, ⟨U', l2, c2, s2⟩, hW₁, X', ⟨g', mk, t, L, E, ce, e1, e2, hq, hce, hcv, hcl, h1, hL, h2, h3⟩, st⟩
  · dsimp only [Pt.U, Pt.locs, Pt.cells, Pt.slots] at X' e1 e2 h1 h2 h3 st
    subst h1; subst h2; subst h3
    exact Or.inl ⟨v, (T.setVm vm₁).calling g' mk As.toArray, t, U', L, hT, X', hL, e1, e2, hq, st⟩
  · dsimp only [Pt.U, Pt.locs, Pt.cells, Pt.slots] at X' e1 e2 h1 h2 h3 st hcl
    subst h1; subst h2; subst h3
    exact Or.inr ⟨q, (T.setVm vm₁).calling g' mk As.toArray, t, U', L, E, ce, hT, X', hL, e1, e2, hq, hce, hcv, vx_cls hW₁ hcl, st⟩
end Runs
section Rows
variable {p : Program} {l : Launch} {e : Env} {R : Room} {s : State} {m : MethodId} {args : Array Value} {below : List Frame} {meth : Method} {c : Code} {H : Heap} {locs : List Loc} {cells slots : Nat} {Q : State → Prop}
variable {mc ms : Nat} {free : Addr → Prop} {A0 A1 : Nat → Prop} {H0 : Heap} {a : Array Value} {pc : Nat} {ls : Array Slot} {st0 rest : List Value}
theorem vx_keep {st₀ t T' : State} {L : List Loc} (h0 : st₀.heap = H) (e1 : T'.heap = t.heap) (hS : va_S A0 H0 H locs) (hA : ∀ q, q < H.size → A1 q → A0 q) (hf : ∀ q, free q → A0 q) (hL : ∀ q ∈ L, free q.base) (hF : va_F A1 st₀ t) :
    H.size ≤ T'.heap.size ∧ (∀ q : Nat, q < H.size → ¬ A1 q → T'.heap[q]? = H[q]?) ∧ va_S A0 H0 T'.heap (locs ++ L) := by
  obtain ⟨hz, hk⟩ := hF
  rw [h0] at hz hk
  exact ⟨by rw [e1]; exact hz, fun q h1 h2 => by rw [e1]; exact hk q h1 h2,
    ⟨Nat.le_trans hS.1 (by rw [e1]; exact hz), fun q h1 h2 => by rw [e1, hk q (Nat.lt_of_lt_of_le h1 hS.1) (fun z => h2 (hA q (Nat.lt_of_lt_of_le h1 hS.1) z))]; exact hS.2.1 q h1 h2, fun q hq => by
      rcases List.mem_append.mp hq with h | h
      · exact hS.2.2 q h
      · exact hf _ (hL q h)⟩⟩
theorem vx_calli {S SX : Type} {post : Int32 → S → Prop} {px : SX → Prop} {B : S → State → Prop} {BX : String → SX → State → Prop} {AX : Nat → Prop} (hr : vx_Run p l e R s m args below meth c H locs cells slots mc ms (F0 m pc ls st0) rest (va_Qi post B A1 a) (vx_X px BX AX) free) (hS : va_S A0 H0 H locs) (hA : ∀ q, q < H.size → A1 q → A0 q) (hf : ∀ q, free q → A0 q) (hAX : ∀ q, q < H.size → AX q → A0 q)
    (kx : ∀ (E : String) (ce : Cell) (q9 : Addr) (u : SX) (t : State) (H1 : Heap) (locs1 : List Loc), t.heap = H1 → s.vm.Alike t.vm → px u → BX E u t → H.size ≤ H1.size → (∀ q : Nat, q < H.size → ¬ AX q → H1[q]? = H[q]?) → va_S A0 H0 H1 locs1 → H1[q9]? = some ce → ce.vm = .none → s.vm.findClass E = some ce.cls → vx_W p l e R s m args below meth c H1 locs1 (cells + mc) (slots + ms) Q (F0 m pc ls rest) q9)
    (kk : ∀ (r : Int32) (u : S) (t : State) (H1 : Heap) (locs1 : List Loc), t.heap = H1 → s.vm.Alike t.vm → post r u → B u t → H.size ≤ H1.size → (∀ q : Nat, q < H.size → ¬ A1 q → H1[q]? = H[q]?) → va_S A0 H0 H1 locs1 → W p l e R s m args below meth c H1 locs1 (cells + mc) (slots + ms) Q (F0 m (pc + 3) ls (.int r :: rest))) : W p l e R s m args below meth c H locs cells slots Q (F0 m pc ls st0) := by
  intro T hT X
  rcases hr T hT X with ⟨v, st₀, t, T', L, h0, X', hL, e1, e2, ⟨⟨r, u, hv, hp, hb⟩, hF⟩, st⟩ | ⟨q, st₀, t, T', L, E, ce, h0, X', hL, e1, e2, ⟨u, hp, hb, hF⟩, hce, hcv, hcl, st⟩
  · cases hv
    obtain ⟨k1, k2, k3⟩ := vx_keep h0 e1 hS hA hf hL hF
    obtain ⟨t2, a1, b1⟩ := kk r u t T'.heap (locs ++ L) e1.symm (by rw [← e2]; exact X'.warmed.alike) hp hb k1 k2 k3 T' rfl X'
    exact ⟨t2, st t2 a1, b1⟩
  · obtain ⟨k1, k2, k3⟩ := vx_keep h0 e1 hS hAX hf hL hF
    obtain ⟨t2, a1, b1⟩ := kx E ce q u t T'.heap (locs ++ L) e1.symm (by rw [← e2]; exact X'.warmed.alike) hp hb k1 k2 k3 (by rw [e1]; exact hce) hcv hcl T' rfl X'
    exact ⟨t2, st.trans a1, b1⟩
theorem vx_calll {S SX : Type} {post : Int64 → S → Prop} {px : SX → Prop} {B : S → State → Prop} {BX : String → SX → State → Prop} {AX : Nat → Prop} (hr : vx_Run p l e R s m args below meth c H locs cells slots mc ms (F0 m pc ls st0) rest (va_Ql post B A1 a) (vx_X px BX AX) free) (hS : va_S A0 H0 H locs) (hA : ∀ q, q < H.size → A1 q → A0 q) (hf : ∀ q, free q → A0 q) (hAX : ∀ q, q < H.size → AX q → A0 q)
    (kx : ∀ (E : String) (ce : Cell) (q9 : Addr) (u : SX) (t : State) (H1 : Heap) (locs1 : List Loc), t.heap = H1 → s.vm.Alike t.vm → px u → BX E u t → H.size ≤ H1.size → (∀ q : Nat, q < H.size → ¬ AX q → H1[q]? = H[q]?) → va_S A0 H0 H1 locs1 → H1[q9]? = some ce → ce.vm = .none → s.vm.findClass E = some ce.cls → vx_W p l e R s m args below meth c H1 locs1 (cells + mc) (slots + ms) Q (F0 m pc ls rest) q9)
    (kk : ∀ (r : Int64) (u : S) (t : State) (H1 : Heap) (locs1 : List Loc), t.heap = H1 → s.vm.Alike t.vm → post r u → B u t → H.size ≤ H1.size → (∀ q : Nat, q < H.size → ¬ A1 q → H1[q]? = H[q]?) → va_S A0 H0 H1 locs1 → W p l e R s m args below meth c H1 locs1 (cells + mc) (slots + ms) Q (F0 m (pc + 3) ls (.long r :: rest))) : W p l e R s m args below meth c H locs cells slots Q (F0 m pc ls st0) := by
  intro T hT X
  rcases hr T hT X with ⟨v, st₀, t, T', L, h0, X', hL, e1, e2, ⟨⟨r, u, hv, hp, hb⟩, hF⟩, st⟩ | ⟨q, st₀, t, T', L, E, ce, h0, X', hL, e1, e2, ⟨u, hp, hb, hF⟩, hce, hcv, hcl, st⟩
  · cases hv
    obtain ⟨k1, k2, k3⟩ := vx_keep h0 e1 hS hA hf hL hF
    obtain ⟨t2, a1, b1⟩ := kk r u t T'.heap (locs ++ L) e1.symm (by rw [← e2]; exact X'.warmed.alike) hp hb k1 k2 k3 T' rfl X'
    exact ⟨t2, st t2 a1, b1⟩
  · obtain ⟨k1, k2, k3⟩ := vx_keep h0 e1 hS hAX hf hL hF
    obtain ⟨t2, a1, b1⟩ := kx E ce q u t T'.heap (locs ++ L) e1.symm (by rw [← e2]; exact X'.warmed.alike) hp hb k1 k2 k3 (by rw [e1]; exact hce) hcv hcl T' rfl X'
    exact ⟨t2, st.trans a1, b1⟩
theorem vx_callf {S SX : Type} {post : UInt32 → S → Prop} {px : SX → Prop} {B : S → State → Prop} {BX : String → SX → State → Prop} {AX : Nat → Prop} (hr : vx_Run p l e R s m args below meth c H locs cells slots mc ms (F0 m pc ls st0) rest (va_Qf post B A1 a) (vx_X px BX AX) free) (hS : va_S A0 H0 H locs) (hA : ∀ q, q < H.size → A1 q → A0 q) (hf : ∀ q, free q → A0 q) (hAX : ∀ q, q < H.size → AX q → A0 q)
    (kx : ∀ (E : String) (ce : Cell) (q9 : Addr) (u : SX) (t : State) (H1 : Heap) (locs1 : List Loc), t.heap = H1 → s.vm.Alike t.vm → px u → BX E u t → H.size ≤ H1.size → (∀ q : Nat, q < H.size → ¬ AX q → H1[q]? = H[q]?) → va_S A0 H0 H1 locs1 → H1[q9]? = some ce → ce.vm = .none → s.vm.findClass E = some ce.cls → vx_W p l e R s m args below meth c H1 locs1 (cells + mc) (slots + ms) Q (F0 m pc ls rest) q9)
    (kk : ∀ (r : UInt32) (u : S) (t : State) (H1 : Heap) (locs1 : List Loc), t.heap = H1 → s.vm.Alike t.vm → post r u → B u t → H.size ≤ H1.size → (∀ q : Nat, q < H.size → ¬ A1 q → H1[q]? = H[q]?) → va_S A0 H0 H1 locs1 → W p l e R s m args below meth c H1 locs1 (cells + mc) (slots + ms) Q (F0 m (pc + 3) ls (.float r :: rest))) : W p l e R s m args below meth c H locs cells slots Q (F0 m pc ls st0) := by
  intro T hT X
  rcases hr T hT X with ⟨v, st₀, t, T', L, h0, X', hL, e1, e2, ⟨⟨r, u, hv, hp, hb⟩, hF⟩, st⟩ | ⟨q, st₀, t, T', L, E, ce, h0, X', hL, e1, e2, ⟨u, hp, hb, hF⟩, hce, hcv, hcl, st⟩
  · cases hv
    obtain ⟨k1, k2, k3⟩ := vx_keep h0 e1 hS hA hf hL hF
    obtain ⟨t2, a1, b1⟩ := kk r u t T'.heap (locs ++ L) e1.symm (by rw [← e2]; exact X'.warmed.alike) hp hb k1 k2 k3 T' rfl X'
    exact ⟨t2, st t2 a1, b1⟩
  · obtain ⟨k1, k2, k3⟩ := vx_keep h0 e1 hS hAX hf hL hF
    obtain ⟨t2, a1, b1⟩ := kx E ce q u t T'.heap (locs ++ L) e1.symm (by rw [← e2]; exact X'.warmed.alike) hp hb k1 k2 k3 (by rw [e1]; exact hce) hcv hcl T' rfl X'
    exact ⟨t2, st.trans a1, b1⟩
theorem vx_calld {S SX : Type} {post : UInt64 → S → Prop} {px : SX → Prop} {B : S → State → Prop} {BX : String → SX → State → Prop} {AX : Nat → Prop} (hr : vx_Run p l e R s m args below meth c H locs cells slots mc ms (F0 m pc ls st0) rest (va_Qd post B A1 a) (vx_X px BX AX) free) (hS : va_S A0 H0 H locs) (hA : ∀ q, q < H.size → A1 q → A0 q) (hf : ∀ q, free q → A0 q) (hAX : ∀ q, q < H.size → AX q → A0 q)
    (kx : ∀ (E : String) (ce : Cell) (q9 : Addr) (u : SX) (t : State) (H1 : Heap) (locs1 : List Loc), t.heap = H1 → s.vm.Alike t.vm → px u → BX E u t → H.size ≤ H1.size → (∀ q : Nat, q < H.size → ¬ AX q → H1[q]? = H[q]?) → va_S A0 H0 H1 locs1 → H1[q9]? = some ce → ce.vm = .none → s.vm.findClass E = some ce.cls → vx_W p l e R s m args below meth c H1 locs1 (cells + mc) (slots + ms) Q (F0 m pc ls rest) q9)
    (kk : ∀ (r : UInt64) (u : S) (t : State) (H1 : Heap) (locs1 : List Loc), t.heap = H1 → s.vm.Alike t.vm → post r u → B u t → H.size ≤ H1.size → (∀ q : Nat, q < H.size → ¬ A1 q → H1[q]? = H[q]?) → va_S A0 H0 H1 locs1 → W p l e R s m args below meth c H1 locs1 (cells + mc) (slots + ms) Q (F0 m (pc + 3) ls (.double r :: rest))) : W p l e R s m args below meth c H locs cells slots Q (F0 m pc ls st0) := by
  intro T hT X
  rcases hr T hT X with ⟨v, st₀, t, T', L, h0, X', hL, e1, e2, ⟨⟨r, u, hv, hp, hb⟩, hF⟩, st⟩ | ⟨q, st₀, t, T', L, E, ce, h0, X', hL, e1, e2, ⟨u, hp, hb, hF⟩, hce, hcv, hcl, st⟩
  · cases hv
    obtain ⟨k1, k2, k3⟩ := vx_keep h0 e1 hS hA hf hL hF
    obtain ⟨t2, a1, b1⟩ := kk r u t T'.heap (locs ++ L) e1.symm (by rw [← e2]; exact X'.warmed.alike) hp hb k1 k2 k3 T' rfl X'
    exact ⟨t2, st t2 a1, b1⟩
  · obtain ⟨k1, k2, k3⟩ := vx_keep h0 e1 hS hAX hf hL hF
    obtain ⟨t2, a1, b1⟩ := kx E ce q u t T'.heap (locs ++ L) e1.symm (by rw [← e2]; exact X'.warmed.alike) hp hb k1 k2 k3 (by rw [e1]; exact hce) hcv hcl T' rfl X'
    exact ⟨t2, st.trans a1, b1⟩
theorem vx_callv {S SX : Type} {post : S → Prop} {px : SX → Prop} {B : S → State → Prop} {BX : String → SX → State → Prop} {AX : Nat → Prop} (hr : vx_Run p l e R s m args below meth c H locs cells slots mc ms (F0 m pc ls st0) rest (va_Qv post B A1 a) (vx_X px BX AX) free) (hS : va_S A0 H0 H locs) (hA : ∀ q, q < H.size → A1 q → A0 q) (hf : ∀ q, free q → A0 q) (hAX : ∀ q, q < H.size → AX q → A0 q)
    (kx : ∀ (E : String) (ce : Cell) (q9 : Addr) (u : SX) (t : State) (H1 : Heap) (locs1 : List Loc), t.heap = H1 → s.vm.Alike t.vm → px u → BX E u t → H.size ≤ H1.size → (∀ q : Nat, q < H.size → ¬ AX q → H1[q]? = H[q]?) → va_S A0 H0 H1 locs1 → H1[q9]? = some ce → ce.vm = .none → s.vm.findClass E = some ce.cls → vx_W p l e R s m args below meth c H1 locs1 (cells + mc) (slots + ms) Q (F0 m pc ls rest) q9)
    (kk : ∀ (u : S) (t : State) (H1 : Heap) (locs1 : List Loc), t.heap = H1 → s.vm.Alike t.vm → post u → B u t → H.size ≤ H1.size → (∀ q : Nat, q < H.size → ¬ A1 q → H1[q]? = H[q]?) → va_S A0 H0 H1 locs1 → W p l e R s m args below meth c H1 locs1 (cells + mc) (slots + ms) Q (F0 m (pc + 3) ls (rest))) : W p l e R s m args below meth c H locs cells slots Q (F0 m pc ls st0) := by
  intro T hT X
  rcases hr T hT X with ⟨v, st₀, t, T', L, h0, X', hL, e1, e2, ⟨⟨u, hv, hp, hb⟩, hF⟩, st⟩ | ⟨q, st₀, t, T', L, E, ce, h0, X', hL, e1, e2, ⟨u, hp, hb, hF⟩, hce, hcv, hcl, st⟩
  · cases hv
    obtain ⟨k1, k2, k3⟩ := vx_keep h0 e1 hS hA hf hL hF
    obtain ⟨t2, a1, b1⟩ := kk u t T'.heap (locs ++ L) e1.symm (by rw [← e2]; exact X'.warmed.alike) hp hb k1 k2 k3 T' rfl X'
    exact ⟨t2, st t2 a1, b1⟩
  · obtain ⟨k1, k2, k3⟩ := vx_keep h0 e1 hS hAX hf hL hF
    obtain ⟨t2, a1, b1⟩ := kx E ce q u t T'.heap (locs ++ L) e1.symm (by rw [← e2]; exact X'.warmed.alike) hp hb k1 k2 k3 (by rw [e1]; exact hce) hcv hcl T' rfl X'
    exact ⟨t2, st.trans a1, b1⟩
/-- caught by the row x of this method's table; the rows ahead don't take it -/
theorem vx_catch {own name : String} {E : String} {ce : Cell} {q : Addr} (hown : s.vm.findClass own = some m.cls) (pre : List ExceptionTableEntry) (x : ExceptionTableEntry) (suf : List ExceptionTableEntry) (hsplit : c.exceptionTable.toList = pre ++ x :: suf)
    (hpass : ∀ z ∈ pre, covers z pc = false ∨ (z.catchType ≠ 0 ∧ ∃ nm : String, (Cond.classLink own z.catchType nm).before args s = true ∧ va_Nc E nm s)) (hx : covers x pc = true) (h0 : x.catchType ≠ 0)
    (hlink : (Cond.classLink own x.catchType name).before args s = true) (hcast : (Cond.castable E name).before args s = true) (hcell : H[q]? = some ce) (hv : ce.vm = .none) (hcl : s.vm.findClass E = some ce.cls)
    (kk : W p l e R s m args below meth c H locs cells slots Q (F0 m x.handlerPc ls [.ref q])) : vx_W p l e R s m args below meth c H locs cells slots Q (F0 m pc ls rest) q := by
  intro T hT X
  have hpl : e.platform.magicAccessors = ({} : Platform).magicAccessors := by rw [X.admits.platform]
  obtain ⟨c3, c4, hc3, hc4, hasg⟩ := Cond.castable_spec hcast
  cases Option.some.inj (hc3.symm.trans hcl)
  obtain ⟨c5, hc5, hcl5⟩ := Cond.classLink_spec hown hlink e.platform hpl
  cases Option.some.inj (hc4.symm.trans hc5)
  obtain ⟨vm', X', st⟩ := X.thenCaughtThrough q (g := F0 m pc ls rest) rfl (Steps.refl _) (by rw [hT]; exact hcell) (by rw [hv]; rfl) (by obtain ⟨k9, h9, -⟩ := Vm.findClass_spec hcl; exact ⟨k9, h9⟩) pre x suf hsplit
    (fun z hz => by
      rcases hpass z hz with h | ⟨hz0, nm, hl1, hn1⟩
      · exact Or.inl h
      · obtain ⟨c6, hc6, hcl6⟩ := Cond.classLink_spec hown hl1 e.platform hpl
        obtain ⟨a8, b8, h1, h2, h3⟩ := hn1
        cases Option.some.inj (h1.symm.trans hcl)
        cases Option.some.inj (h2.symm.trans hc6)
        exact Or.inr ⟨hz0, _, hcl6, h3⟩) hx (Or.inr ⟨h0, c4, hcl5, hasg⟩)
  obtain ⟨t, a1, b1⟩ := kk (T.setVm vm') hT X'
  exact ⟨t, st.trans a1, b1⟩
end Rows
section Ends
variable {p : Program} {l : Launch} {e : Env} {R : Room} {s : State} {m : MethodId} {args : Array Value} {below : List Frame} {meth : Method} {c : Code} {H : Heap} {locs : List Loc} {cells slots : Nat} {Q : State → Prop}
variable {mc ms : Nat} {free : Addr → Prop} {A0 A1 : Nat → Prop} {H0 : Heap} {a : Array Value} {ls : Array Slot} {st0 rest : List Value}
variable {Qc : Array Value → State → Outcome → State → Prop} {XC : String → State → State → Prop}
/-- what a body that may throw owes at its end -/
def vx_MQ (below : List Frame) (Qc : Array Value → State → Outcome → State → Prop) (XC : String → State → State → Prop) (a : Array Value) (s : State) (mc ms : Nat) (free : Addr → Prop) : State → Prop := fun t =>
  ∃ o, t.status = .running ∧ Ended t below o ∧ vx_Q Qc XC mc ms free a s o t
theorem vx_ret {g : JFrame} {mc ms : Nat} (k : W p l e R s m args below meth c H locs cells slots (MQ below Qc args s mc ms free) g) : W p l e R s m args below meth c H locs cells slots (vx_MQ below Qc XC args s mc ms free) g := by
  intro T hT X
  obtain ⟨t, a1, o, b1, b2, b3, b4⟩ := k T hT X
  exact ⟨t, a1, o, b1, b2, Or.inl ⟨b3, b4⟩⟩
/-- not caught here: it goes on to the caller -/
theorem vx_widen {g : JFrame} {q : Addr} {k n : Nat} (h1 : cells ≤ k) (h2 : slots ≤ n) (kk : vx_W p l e R s m args below meth c H locs k n Q g q) : vx_W p l e R s m args below meth c H locs cells slots Q g q := fun T hT X => kk T hT (stand_widen X h1 h2)
theorem vx_out {pc : Nat} {E : String} {ce : Cell} {q : Addr} {mc ms : Nat} (hout : ∀ x ∈ c.exceptionTable.toList, covers x pc = false) (hlocks : meth.locks = false) (hcell : H[q]? = some ce) (hv : ce.vm = .none) (hcl : s.vm.findClass E = some ce.cls)
    (hx : ∀ t : State, t.heap = H → s.vm.Alike t.vm → XC E s t) (hf : ∀ z ∈ locs, free z.base) (hc : cells ≤ mc) (hs : slots ≤ ms) :
    vx_W p l e R s m args below meth c H locs cells slots (vx_MQ below Qc XC args s mc ms free) (F0 m pc ls rest) q := by
  intro T hT X
  obtain ⟨st1, hrun, hend, hW, hsm⟩ := X.leaveThrown q (g := F0 m pc ls rest) rfl rfl rfl hout hlocks
  have hcell9 : (T.setFrames (.throwing q :: below)).heap[q]? = some ce := by
    show T.heap[q]? = some ce
    rw [hT]; exact hcell
  exact ⟨_, st1, .threw q, hrun, hend, Or.inr ⟨q, rfl, E, ce, locs, hx _ hT hW.alike, hcell9, hv, hcl, hW, hsm.mono hc hs, hf⟩⟩
theorem vx_frame {U : State} {k n : Nat} (h : s.sameButNew ({ U with vm := s.vm } : State) locs k n) : s.heap.size ≤ U.heap.size ∧ ∀ q : Nat, q < s.heap.size → (∀ z ∈ locs, z.base ≠ q) → U.heap[q]? = s.heap[q]? := by
  obtain ⟨-, h2, -, -, -, h6⟩ := h
  refine ⟨h2, fun q hq hz => ?_⟩
  obtain ⟨c9, e1, e2, e3, e4⟩ := h6 q _ (Array.getElem?_eq_getElem hq)
  have hs : c9.slots = (s.heap[q]).slots := Array.ext_getElem? fun i => e4 i fun hm => hz _ hm rfl
  have h9 : c9 = s.heap[q] := by
    rw [hs] at e2
    exact e2
  have e5 : U.heap[q]? = some c9 := e1
  rw [e5, h9, Array.getElem?_eq_getElem hq]
/-- the words of a throw but the four that speak of the heap -/
def vx_no (w : Cond) : Bool := decide (w ≠ .isRef (.static Bundle.tN "UNASSIGNED_STACK" Bundle.steD)) && decide (w ≠ .isRef (.static Bundle.tN "SUPPRESSED_SENTINEL" Bundle.listD)) && decide (w ≠ .laysStatic Bundle.tN "UNASSIGNED_STACK" Bundle.steD) && decide (w ≠ .laysStatic Bundle.tN "SUPPRESSED_SENTINEL" Bundle.listD)
def vx_at0 (own : String) (ic : Nat) (X : String) (names : List String) : List Cond := (Bundle.ownAtoms0 own ic X names).filter vx_no
def vx_atS (own : String) (ic : Nat) (X : String) (names : List String) : List Cond := (Bundle.ownAtoms own ic X names).filter vx_no
/-- a word that the tables alone decide, or a good one -/
def vx_ot (w : Cond) : Bool := w.onTables || goodWord w
theorem vx_ot_at {args a' : Array Value} {s U : State} {w : Cond} (hW : s.WarmedH U.vm) (hvm : s.vm = U.vm) (hg : vx_ot w = true) (h : w.before args s = true) : w.before a' U = true := by
  simp only [vx_ot, Bool.or_eq_true] at hg
  rcases hg with hg | hg
  · exact va_tabs hg hvm h
  · exact word_at hW (good_of_word hg) h
/-- a list's words: the good ones out of the method's own list, the others by premises of their own -/
theorem vx_hat {args : Array Value} {s : State} {L B : List Cond} (h1 : ∀ w ∈ L.filter goodWord, w.before args s = true) (h2 : ∀ w ∈ L.filter (fun w => !goodWord w), w ∈ B) (h3 : ∀ w ∈ B, w.before args s = true) : ∀ w ∈ L, w.before args s = true := by
  intro w hw
  by_cases g : goodWord w = true
  · exact h1 w (List.mem_filter.mpr ⟨hw, g⟩)
  · refine h3 w (h2 w (List.mem_filter.mpr ⟨hw, ?_⟩))
    show (!goodWord w) = true
    cases hgw : goodWord w
    · rfl
    · exact absurd hgw g
theorem vx_c {args : Array Value} {s : State} {w : Cond} {B : List Cond} (h : w.before args s = true) (t : ∀ w ∈ B, w.before args s = true) : ∀ w' ∈ w :: B, w'.before args s = true := fun w' h' => (List.mem_cons.mp h').elim (fun e => by rw [e]; exact h) (t w')
theorem vx_n {args : Array Value} {s : State} : ∀ w ∈ ([] : List Cond), w.before args s = true := fun _ h => nomatch h
theorem vx_own {args : Array Value} {s : State} {L : List Cond} (h1 : ∀ w ∈ L.filter vx_no, w.before args s = true)
    (hU : (Cond.isRef (.static Bundle.tN "UNASSIGNED_STACK" Bundle.steD)).before args s = true) (hN : (Cond.isRef (.static Bundle.tN "SUPPRESSED_SENTINEL" Bundle.listD)).before args s = true)
    (lU : (Cond.laysStatic Bundle.tN "UNASSIGNED_STACK" Bundle.steD).before args s = true) (lN : (Cond.laysStatic Bundle.tN "SUPPRESSED_SENTINEL" Bundle.listD).before args s = true) : ∀ w ∈ L, w.before args s = true := by
  intro w hw
  by_cases e1 : w = .isRef (.static Bundle.tN "UNASSIGNED_STACK" Bundle.steD)
  · rw [e1]; exact hU
  · by_cases e2 : w = .isRef (.static Bundle.tN "SUPPRESSED_SENTINEL" Bundle.listD)
    · rw [e2]; exact hN
    · by_cases e3 : w = .laysStatic Bundle.tN "UNASSIGNED_STACK" Bundle.steD
      · rw [e3]; exact lU
      · by_cases e4 : w = .laysStatic Bundle.tN "SUPPRESSED_SENTINEL" Bundle.listD
        · rw [e4]; exact lN
        · exact h1 w (List.mem_filter.mpr ⟨hw, by unfold vx_no; rw [decide_eq_true e1, decide_eq_true e2, decide_eq_true e3, decide_eq_true e4]; rfl⟩)
/-- where a static field lies, its class's statics cell in H -/
def vx_L (C n d : String) (A : Nat → Prop) (U : State) (H : Heap) : Prop := ∃ (c : ClassId) (k : Class) (i : Nat) (f : Field) (a : Nat) (cell : Cell), U.vm.findClass C = some c ∧ U.fieldFound? C n d = some (c, k, i, f) ∧ f.isStatic = true ∧ k.statics = some a ∧ H[a]? = some cell ∧ cell.vm.isStatics = true ∧ cell.cls = c ∧ f.slot < cell.slots.size ∧ k.staticTypes[f.slot]? = some f.type ∧ ¬ A a
theorem vx_L.moved {C n d : String} {A : Nat → Prop} {u U : State} {H : Heap} (hvm : u.vm.Alike U.vm) (h : vx_L C n d A u H) : vx_L C n d A U H := by
  obtain ⟨c, k, i, f, a, cell, h1, h2, h3, h4, h5, h6, h7, h8, h9, h10⟩ := h
  obtain ⟨k', hi', he⟩ := State.fieldFound?_setVm hvm h2
  exact ⟨c, k', i, f, a, cell, by rw [hvm.findClass]; exact h1, hi', h3, by rw [he]; exact h4, h5, h6, h7, h8, by rw [he]; exact h9, h10⟩
theorem vx_L.kept {C n d : String} {A : Nat → Prop} {U : State} {H H1 : Heap} (h : vx_L C n d A U H) (hq : ∀ a : Nat, a < H.size → ¬ A a → H1[a]? = H[a]?) : vx_L C n d A U H1 := by
  obtain ⟨c, k, i, f, a, cell, h1, h2, h3, h4, h5, h6, h7, h8, h9, h10⟩ := h
  exact ⟨c, k, i, f, a, cell, h1, h2, h3, h4, by rw [hq a (Array.getElem?_eq_some_iff.mp h5).1 h10]; exact h5, h6, h7, h8, h9, h10⟩
theorem vx_L.narrow {C n d : String} {A B : Nat → Prop} {U : State} {H : Heap} (h : vx_L C n d A U H) (hAB : ∀ q, B q → A q) : vx_L C n d B U H := by
  obtain ⟨c, k, i, f, a, cell, h1, h2, h3, h4, h5, h6, h7, h8, h9, h10⟩ := h
  exact ⟨c, k, i, f, a, cell, h1, h2, h3, h4, h5, h6, h7, h8, h9, fun z => h10 (hAB _ z)⟩
theorem vx_L.word {C n d : String} {A : Nat → Prop} {s : State} {args : Array Value} (h : vx_L C n d A s s.heap) : (Cond.laysStatic C n d).before args s = true := by
  obtain ⟨c, k, i, f, a, cell, h1, h2, h3, h4, h5, h6, h7, h8, h9, -⟩ := h
  show (Cond.laysStatic C n d).holds args s none s [] = true
  exact Cond.laysStatic_of h1 h2 h3 h4 h5 h6 h7 h8 h9
/-- .. and what it holds: null or some reference -/
def vx_Zq (C n d : String) (A : Nat → Prop) (U : State) (H : Heap) : Prop := va_Zq C n d A U H ∧ vx_L C n d A U H
theorem vx_Zq.moved {C n d : String} {A : Nat → Prop} {u U : State} {H : Heap} (hvm : u.vm.Alike U.vm) (h : vx_Zq C n d A u H) : vx_Zq C n d A U H := ⟨va_Zq.moved hvm h.1, vx_L.moved hvm h.2⟩
theorem vx_Zq.kept {C n d : String} {A : Nat → Prop} {U : State} {H H1 : Heap} (h : vx_Zq C n d A U H) (hq : ∀ a : Nat, a < H.size → ¬ A a → H1[a]? = H[a]?) : vx_Zq C n d A U H1 := ⟨va_Zq.kept h.1 hq, vx_L.kept h.2 hq⟩
theorem vx_Zq.narrow {C n d : String} {A B : Nat → Prop} {U : State} {H : Heap} (h : vx_Zq C n d A U H) (hAB : ∀ q, B q → A q) : vx_Zq C n d B U H := ⟨va_Zq.narrow h.1 hAB, vx_L.narrow h.2 hAB⟩
theorem vx_Zqof {args : Array Value} {s : State} {C n d : String} {A : Nat → Prop} (hl : (Cond.laysStatic C n d).before args s = true) (hini : (Cond.initialized C).before args s = true) (h : (Cond.isRef (.static C n d)).before args s = true) (hA : ∀ a : Nat, a < s.heap.size → ¬ A a) : vx_Zq C n d A s s.heap := by
  refine ⟨va_Zqof hl hini h hA, ?_⟩
  obtain ⟨c, k, i, f, a, cell, h1, h2, h3, h4, h5, h6, h7, h8, h9⟩ := Cond.laysStatic_spec hl
  exact ⟨c, k, i, f, a, cell, h1, h2, h3, h4, h5, h6, h7, h8, h9, hA a (Array.getElem?_eq_some_iff.mp h5).1⟩
theorem vx_isRef {C n d : String} {v : Value} {A : Nat → Prop} {s : State} {args : Array Value} (h : va_Z C n d v A s s.heap) (hv : v.isRef = true) : (Cond.isRef (.static C n d)).before args s = true := by
  obtain ⟨cf, kf, fi, f, a, cell, h1, h2, h3, h4, h5, h6, h7, -⟩ := h
  have he : (Term.static C n d).eval args s none [] s = some v := by
    simp [Term.eval, State.fieldNamed?, h1, h2, h4, h5, h6, h7]
  simp only [Cond.before, Cond.holds, Cond.value, he]
  cases v <;> simp_all [Value.isRef]
theorem vx_isRefq {C n d : String} {A : Nat → Prop} {s : State} {args : Array Value} (h : va_Zq C n d A s s.heap) : (Cond.isRef (.static C n d)).before args s = true := by
  rcases h with h | ⟨t, h⟩
  · exact vx_isRef h rfl
  · exact vx_isRef h rfl
/-- the same frame, seen from here: as if the method were called anew in this heap -/
theorem vx_rebase {T : State} (X : Stand p l e R s m args below meth c T locs cells slots) {R' : Room} (hf : R'.frames ≤ R.frames) (hl : R'.locals ≤ R.locals) (hc : cells + R'.cells ≤ R.cells) (hs : slots + R'.slots ≤ R.slots) :
    Stand p l e R' ((T.setVm s.vm).setFrames (.invoking m args :: below)) m args below meth c T [] 0 0 := by
  have htop : (T.setVm s.vm).topJava?.isSome := X.here.top
  have hF : ((T.setVm s.vm).setFrames (.invoking m args :: below)).frames = .invoking m args :: below := State.frames_setFrames _ (State.cur_lt_of_top htop)
  obtain ⟨g₀, hg0⟩ := Option.isSome_iff_exists.mp htop
  obtain ⟨r, hr⟩ := State.topJava?_eq_some.mp hg0
  have hl9 : e.platform.stackLimits (T.setVm s.vm).me = e.platform.stackLimits s.me := X.limits
  have hb9 : (T.setVm s.vm).me.stackBytes = s.me.stackBytes := X.bytes
  refine ⟨X.admits, X.cas, X.clock, hF, ?_, X.hears, X.method, X.code, X.here, X.tail, X.warmed, ?_, ?_, ?_⟩
  · have h := X.room
    have hU : ((T.setVm s.vm).setFrames (.invoking m args :: below)).localsInUse = s.localsInUse := by
      rw [State.localsInUse_invoking hF (meth := meth) (c := c) X.method X.code, State.localsInUse_invoking X.frames X.method X.code]
    simp only [State.hasRoom, Bool.and_eq_true, decide_eq_true_eq] at h ⊢
    obtain ⟨⟨⟨⟨h1, h2, h3, h4, h5, h6⟩, h7⟩, h8⟩, h9⟩ := h
    rw [X.frames, List.length_cons] at h2 h3
    have q1 := X.heapSize
    have q2 := X.used
    simp only [hF, hU, List.length_cons, State.stackLimits_setFrames, State.stackBytes_setFrames, hl9, hb9]
    refine ⟨⟨⟨⟨by omega, by omega, by omega, by omega, by omega, h6⟩, ?_⟩, ?_⟩, X.book⟩
    · show T.heap.size + R'.cells ≤ e.platform.maxCells
      omega
    · show T.slotsUsed + R'.slots ≤ e.platform.maxSlots
      omega
  · rw [State.stackLimits_setFrames]; rfl
  · rw [State.stackBytes_setFrames]; rfl
  · refine ⟨?_, Nat.le_refl _, Nat.le_refl _, ?_, ?_, fun a c9 h9 => ⟨c9, h9, rfl, rfl, fun _ _ => rfl⟩⟩
    · obtain ⟨t, ht, -⟩ := State.frames_cons hr
      show T.setVm s.vm = { ((T.setVm s.vm).setFrames (.invoking m args :: below)).setFrames (T.setVm s.vm).frames with heap := T.heap, slotsUsed := T.slotsUsed }
      rw [State.setFrames_setFrames, State.setFrames_self ht]
      rfl
    · show T.slotsUsed = T.slotsUsed + ((T.heap.toList.drop T.heap.size).map (·.slots.size)).sum
      rw [List.drop_eq_nil_of_le (Nat.le_of_eq Array.length_toList)]
      rfl
    · show ((T.heap.toList.drop T.heap.size).map (·.slots.size)).sum ≤ 0
      rw [List.drop_eq_nil_of_le (Nat.le_of_eq Array.length_toList)]
      exact Nat.le_refl _
/-- 'throw new E()': new; dup; invokespecial; athrow -/
theorem vx_throw0 {cc : ByteArray} {pc : Nat} (hexec : p.tables.exec = Jvm.exec) (hb : c.code = cc) (hl : l.stackTraces = false) {own cls : String} {names : List String} {ik ic mc ms : Nat} {A : Nat → Prop}
    (hown : s.vm.findClass own = some m.cls) (hcls : Bundle.fit cls = true) (hnames : ∀ n ∈ names, Bundle.fit n = true)
    (hk : (Cond.classLink own ik cls).before args s = true) (hini : (Cond.initialized cls).before args s = true) (hat : ∀ w ∈ vx_at0 own ic cls names, w.before args s = true)
    (hgood : ∀ w ∈ Cond.classLink own ik cls :: Cond.initialized cls :: vx_at0 own ic cls names, vx_ot w = true)
    (hU : vx_Zq Bundle.tN "UNASSIGNED_STACK" Bundle.steD A s s.heap) (hN : vx_Zq Bundle.tN "SUPPRESSED_SENTINEL" Bundle.listD A s s.heap) (hS : va_S A s.heap H locs) (hsize : ls.size = c.maxLocals)
    (d0 : decode cc pc = .ok (.new ik, 3)) (d3 : decode cc (pc + 3) = .ok (.dup, 1)) (d4 : decode cc (pc + 4) = .ok (.invokespecial ic, 3)) (d7 : decode cc (pc + 7) = .ok (.athrow, 1))
    (hout : ∀ x ∈ c.exceptionTable.toList, covers x (pc + 7) = false)
    (hRframes : names.length + 3 < R.frames) (hRlocals : (rest.map fun v => v.category).sum + (13 * (names.length + 1) + 42) ≤ R.locals) (hRcells : cells + 1 ≤ R.cells) (hRslots : slots + 6 ≤ R.slots) (hlocks : meth.locks = false)
    (hx : ∀ t : State, s.vm.Alike t.vm → H.size ≤ t.heap.size → (∀ q : Nat, q < H.size → t.heap[q]? = H[q]?) → XC cls s t)
    (hf : ∀ z ∈ locs, free z.base) (hc : cells + 1 ≤ mc) (hs : slots + 6 ≤ ms) :
    W p l e R s m args below meth c H locs cells slots (vx_MQ below Qc XC args s mc ms free) (F0 m pc ls rest) := by
  intro T hT X
  have htr : e.platform.stackTraces = false := (show e.platform.stackTraces = l.stackTraces by rw [X.admits.platform]).trans hl
  have Y := vx_rebase X (R' := { frames := R.frames, locals := R.locals, cells := 1, slots := 6 }) (Nat.le_refl _) (Nat.le_refl _) hRcells hRslots
  obtain ⟨s', hA⟩ : ∃ z, z = (T.setVm s.vm).setFrames (.invoking m args :: below) := ⟨_, rfl⟩
  rw [← hA] at Y
  have hvm : s'.vm = s.vm := by rw [hA]; rfl
  have hhp : s'.heap = H := by rw [hA]; exact hT
  have hW0 : s.WarmedH s'.vm := by rw [hvm]; exact State.WarmedH.refl s
  have hat' : ∀ w ∈ vx_at0 own ic cls names, w.before args s' = true := fun w hw => vx_ot_at hW0 hvm.symm (hgood w (List.mem_cons_of_mem _ (List.mem_cons_of_mem _ hw))) (hat w hw)
  have hk' : (Cond.classLink own ik cls).before args s' = true := vx_ot_at hW0 hvm.symm (hgood _ List.mem_cons_self) hk
  have hini' : (Cond.initialized cls).before args s' = true := vx_ot_at hW0 hvm.symm (hgood _ (List.mem_cons_of_mem _ List.mem_cons_self)) hini
  have hU' : vx_Zq Bundle.tN "UNASSIGNED_STACK" Bundle.steD A s' s'.heap := by rw [hhp]; exact vx_Zq.moved hW0.alike (hU.kept hS.2.1)
  have hN' : vx_Zq Bundle.tN "SUPPRESSED_SENTINEL" Bundle.listD A s' s'.heap := by rw [hhp]; exact vx_Zq.moved hW0.alike (hN.kept hS.2.1)
  have h : ∀ w ∈ Bundle.ownAtoms0 own ic cls names, w.before args s' = true := vx_own hat' (vx_isRefq hU'.1) (vx_isRefq hN'.1) hU'.2.word hN'.2.word
  have hown' : s'.vm.findClass own = some m.cls := by rw [hvm]; exact hown
  have hins : (Cond.instantiable cls 6).before args s' = true := h _ (by simp [Bundle.ownAtoms0])
  obtain ⟨vm₁, cX, kX, hfX, hkX, -, -, X₁, st1⟩ := Y.newCold hexec (own := own) (C := cls) (index := ik) (n := 6) hown' hk' hins hini'
    (g := F0 m pc ls rest) rfl (by rw [hb]; exact d0) (Nat.le_refl _) (Nat.le_refl _)
  generalize hT1 : (T.setVm vm₁).pushCell { cls := cX, slots := kX.instanceTypes.map defaultValue, vm := .none } = T1 at X₁ st1
  have hcat : (Value.ref T.heap.size).category = 1 := rfl
  have hcellA : T1.heap[T.heap.size]? = some (freshCell cX kX) := by rw [← hT1]; exact State.heap_pushCell_size _ _
  have d3' : decode c.code (pc + 3) = .ok (.dup, 1) := by rw [hb]; exact d3
  obtain ⟨U, hsteps, hrun, hend, hW, hsame, ce, hce, hO⟩ := X₁.ctorThrow0 hexec htr (own := own) (cls := cls) (names := names) (ic := ic) hown' hcls hnames h (fun x hx => nomatch hx) hfX hkX hcellA (by rw [hhp, hT]; exact Nat.le_refl _)
    (g := { method := m, pc := pc + 4, locals := ls, stack := .ref T.heap.size :: .ref T.heap.size :: rest, locked := none }) rfl hsize rfl rfl (rest := rest) rfl
    (by rw [hb]; exact d4) (by rw [hb]; exact d7) hout hRframes (by simp only [List.map_cons, List.sum_cons, hcat]; omega) hlocks
  obtain ⟨f1, f2⟩ := vx_frame hsame
  rw [hhp] at f1 f2
  have hWs : s.WarmedH U.vm := State.WarmedH.trans hW0 hW
  have hcl : s.vm.findClass cls = some ce.cls := by
    have h9 := hO.cls
    rw [hvm] at h9
    exact h9
  have hall : s.sameButNew ({ U with vm := s.vm } : State) locs mc ms := by
    subst hA
    obtain ⟨e1, e2⟩ := hsame
    rw [State.setFrames_setFrames] at e1
    have h2 : (T.setVm s.vm).sameButNew ({ U with vm := s.vm } : State) [] (0 + 1) (0 + 6) := ⟨e1, e2⟩
    have h3 := X.same.trans h2
    rw [List.append_nil] at h3
    exact h3.mono hc hs
  refine ⟨U, ?_, .threw T.heap.size, hrun, hend, Or.inr ⟨T.heap.size, rfl, cls, ce, locs, hx U hWs.alike f1 (fun q hq => f2 q hq (fun z hz => nomatch hz)), hce, hO.vm, hcl, hWs, hall, hf⟩⟩
  refine st1 _ ?_
  show Steps p.tables e below (T1.setTop { method := m, pc := pc + 3, locals := ls, stack := .ref T.heap.size :: rest, locked := none }) _
  jvm_step X₁.here [X₁.here.top, hexec, d3', Value.category]
  exact hsteps
/-- 'throw new E("text")': new; dup; ldc; invokespecial; athrow -/
theorem vx_throwS {cc : ByteArray} {pc : Nat} (hexec : p.tables.exec = Jvm.exec) (hb : c.code = cc) (hl : l.stackTraces = false) {own cls text : String} {names : List String} {ik is ic mc ms sa : Nat} {A : Nat → Prop}
    (hown : s.vm.findClass own = some m.cls) (hcls : Bundle.fit cls = true) (hnames : ∀ n ∈ names, Bundle.fit n = true)
    (hk : (Cond.classLink own ik cls).before args s = true) (hini : (Cond.initialized cls).before args s = true) (hstr : vk_R own is text sa s) (hat : ∀ w ∈ vx_atS own ic cls names, w.before args s = true)
    (hgood : ∀ w ∈ Cond.classLink own ik cls :: Cond.initialized cls :: vx_atS own ic cls names, vx_ot w = true)
    (hU : vx_Zq Bundle.tN "UNASSIGNED_STACK" Bundle.steD A s s.heap) (hN : vx_Zq Bundle.tN "SUPPRESSED_SENTINEL" Bundle.listD A s s.heap) (hS : va_S A s.heap H locs) (hsize : ls.size = c.maxLocals)
    (d0 : decode cc pc = .ok (.new ik, 3)) (d3 : decode cc (pc + 3) = .ok (.dup, 1)) (d4 : decode cc (pc + 4) = .ok (.ldc is, 2)) (d6 : decode cc (pc + 6) = .ok (.invokespecial ic, 3)) (d9 : decode cc (pc + 9) = .ok (.athrow, 1))
    (hout : ∀ x ∈ c.exceptionTable.toList, covers x (pc + 9) = false)
    (hRframes : names.length + 3 < R.frames) (hRlocals : (rest.map fun v => v.category).sum + (13 * (names.length + 1) + 43) ≤ R.locals) (hRcells : cells + 1 ≤ R.cells) (hRslots : slots + 6 ≤ R.slots) (hlocks : meth.locks = false)
    (hx : ∀ t : State, s.vm.Alike t.vm → H.size ≤ t.heap.size → (∀ q : Nat, q < H.size → t.heap[q]? = H[q]?) → XC cls s t)
    (hf : ∀ z ∈ locs, free z.base) (hc : cells + 1 ≤ mc) (hs : slots + 6 ≤ ms) :
    W p l e R s m args below meth c H locs cells slots (vx_MQ below Qc XC args s mc ms free) (F0 m pc ls rest) := by
  intro T hT X
  have htr : e.platform.stackTraces = false := (show e.platform.stackTraces = l.stackTraces by rw [X.admits.platform]).trans hl
  have Y := vx_rebase X (R' := { frames := R.frames, locals := R.locals, cells := 1, slots := 6 }) (Nat.le_refl _) (Nat.le_refl _) hRcells hRslots
  obtain ⟨s', hA⟩ : ∃ z, z = (T.setVm s.vm).setFrames (.invoking m args :: below) := ⟨_, rfl⟩
  rw [← hA] at Y
  have hvm : s'.vm = s.vm := by rw [hA]; rfl
  have hhp : s'.heap = H := by rw [hA]; exact hT
  have hW0 : s.WarmedH s'.vm := by rw [hvm]; exact State.WarmedH.refl s
  have hat' : ∀ w ∈ vx_atS own ic cls names, w.before args s' = true := fun w hw => vx_ot_at hW0 hvm.symm (hgood w (List.mem_cons_of_mem _ (List.mem_cons_of_mem _ hw))) (hat w hw)
  have hk' : (Cond.classLink own ik cls).before args s' = true := vx_ot_at hW0 hvm.symm (hgood _ List.mem_cons_self) hk
  have hini' : (Cond.initialized cls).before args s' = true := vx_ot_at hW0 hvm.symm (hgood _ (List.mem_cons_of_mem _ List.mem_cons_self)) hini
  have hU' : vx_Zq Bundle.tN "UNASSIGNED_STACK" Bundle.steD A s' s'.heap := by rw [hhp]; exact vx_Zq.moved hW0.alike (hU.kept hS.2.1)
  have hN' : vx_Zq Bundle.tN "SUPPRESSED_SENTINEL" Bundle.listD A s' s'.heap := by rw [hhp]; exact vx_Zq.moved hW0.alike (hN.kept hS.2.1)
  have h : ∀ w ∈ Bundle.ownAtoms own ic cls names, w.before args s' = true := vx_own hat' (vx_isRefq hU'.1) (vx_isRefq hN'.1) hU'.2.word hN'.2.word
  have hown' : s'.vm.findClass own = some m.cls := by rw [hvm]; exact hown
  have hins : (Cond.instantiable cls 6).before args s' = true := h _ (by simp [Bundle.ownAtoms])
  obtain ⟨vm₁, cX, kX, hfX, hkX, -, -, X₁, st1⟩ := Y.newCold hexec (own := own) (C := cls) (index := ik) (n := 6) hown' hk' hins hini'
    (g := F0 m pc ls rest) rfl (by rw [hb]; exact d0) (Nat.le_refl _) (Nat.le_refl _)
  generalize hT1 : (T.setVm vm₁).pushCell { cls := cX, slots := kX.instanceTypes.map defaultValue, vm := .none } = T1 at X₁ st1
  have hcat : (Value.ref T.heap.size).category = 1 := rfl
  have hcellA : T1.heap[T.heap.size]? = some (freshCell cX kX) := by rw [← hT1]; exact State.heap_pushCell_size _ _
  have d3' : decode c.code (pc + 3) = .ok (.dup, 1) := by rw [hb]; exact d3
  have d4' : decode c.code (pc + 4) = .ok (.ldc is, 2) := by rw [hb]; exact d4
  have hstr' : vk_R own is text sa s' := vk_R.warm hW0 hstr
  obtain ⟨U, hsteps, hrun, hend, hW, hsame, ce, hce, hO⟩ := X₁.ctorThrowS hexec htr (own := own) (cls := cls) (names := names) (ic := ic) hown' hcls hnames h (fun x hx => nomatch hx) hfX hkX hcellA (by rw [hhp, hT]; exact Nat.le_refl _) (msg := .ref sa) rfl
    (g := { method := m, pc := pc + 6, locals := ls, stack := .ref sa :: .ref T.heap.size :: .ref T.heap.size :: rest, locked := none }) rfl hsize rfl rfl (rest := rest) rfl
    (by rw [hb]; exact d6) (by rw [hb]; exact d9) hout hRframes (by simp only [List.map_cons, List.sum_cons, hcat]; omega) hlocks
  obtain ⟨f1, f2⟩ := vx_frame hsame
  rw [hhp] at f1 f2
  have hWs : s.WarmedH U.vm := State.WarmedH.trans hW0 hW
  have hcl : s.vm.findClass cls = some ce.cls := by
    have h9 := hO.cls
    rw [hvm] at h9
    exact h9
  have hall : s.sameButNew ({ U with vm := s.vm } : State) locs mc ms := by
    subst hA
    obtain ⟨e1, e2⟩ := hsame
    rw [State.setFrames_setFrames] at e1
    have h2 : (T.setVm s.vm).sameButNew ({ U with vm := s.vm } : State) [] (0 + 1) (0 + 6) := ⟨e1, e2⟩
    have h3 := X.same.trans h2
    rw [List.append_nil] at h3
    exact h3.mono hc hs
  refine ⟨U, ?_, .threw T.heap.size, hrun, hend, Or.inr ⟨T.heap.size, rfl, cls, ce, locs, hx U hWs.alike f1 (fun q hq => f2 q hq (fun z hz => nomatch hz)), hce, hO.vm, hcl, hWs, hall, hf⟩⟩
  refine st1 _ ?_
  show Steps p.tables e below (T1.setTop { method := m, pc := pc + 3, locals := ls, stack := .ref T.heap.size :: rest, locked := none }) _
  jvm_step X₁.here [X₁.here.top, hexec, d3', Value.category]
  exact X₁.ldcString hexec (own := own) (text := text) (index := is) (a := sa) hown' hstr'.1 hstr'.2
    (g := { method := m, pc := pc + 4, locals := ls, stack := .ref T.heap.size :: .ref T.heap.size :: rest, locked := none }) rfl d4' _ hsteps
/-- 'throw new E("text")', the text by a wide index -/
theorem vx_throwSW {cc : ByteArray} {pc : Nat} (hexec : p.tables.exec = Jvm.exec) (hb : c.code = cc) (hl : l.stackTraces = false) {own cls text : String} {names : List String} {ik is ic mc ms sa : Nat} {A : Nat → Prop}
    (hown : s.vm.findClass own = some m.cls) (hcls : Bundle.fit cls = true) (hnames : ∀ n ∈ names, Bundle.fit n = true)
    (hk : (Cond.classLink own ik cls).before args s = true) (hini : (Cond.initialized cls).before args s = true) (hstr : vk_R own is text sa s) (hat : ∀ w ∈ vx_atS own ic cls names, w.before args s = true)
    (hgood : ∀ w ∈ Cond.classLink own ik cls :: Cond.initialized cls :: vx_atS own ic cls names, vx_ot w = true)
    (hU : vx_Zq Bundle.tN "UNASSIGNED_STACK" Bundle.steD A s s.heap) (hN : vx_Zq Bundle.tN "SUPPRESSED_SENTINEL" Bundle.listD A s s.heap) (hS : va_S A s.heap H locs) (hsize : ls.size = c.maxLocals)
    (d0 : decode cc pc = .ok (.new ik, 3)) (d3 : decode cc (pc + 3) = .ok (.dup, 1)) (d4 : decode cc (pc + 4) = .ok (.ldc_w is, 3)) (d7 : decode cc (pc + 7) = .ok (.invokespecial ic, 3)) (d10 : decode cc (pc + 10) = .ok (.athrow, 1))
    (hout : ∀ x ∈ c.exceptionTable.toList, covers x (pc + 10) = false)
    (hRframes : names.length + 3 < R.frames) (hRlocals : (rest.map fun v => v.category).sum + (13 * (names.length + 1) + 43) ≤ R.locals) (hRcells : cells + 1 ≤ R.cells) (hRslots : slots + 6 ≤ R.slots) (hlocks : meth.locks = false)
    (hx : ∀ t : State, s.vm.Alike t.vm → H.size ≤ t.heap.size → (∀ q : Nat, q < H.size → t.heap[q]? = H[q]?) → XC cls s t)
    (hf : ∀ z ∈ locs, free z.base) (hc : cells + 1 ≤ mc) (hs : slots + 6 ≤ ms) :
    W p l e R s m args below meth c H locs cells slots (vx_MQ below Qc XC args s mc ms free) (F0 m pc ls rest) := by
  intro T hT X
  have htr : e.platform.stackTraces = false := (show e.platform.stackTraces = l.stackTraces by rw [X.admits.platform]).trans hl
  have Y := vx_rebase X (R' := { frames := R.frames, locals := R.locals, cells := 1, slots := 6 }) (Nat.le_refl _) (Nat.le_refl _) hRcells hRslots
  obtain ⟨s', hA⟩ : ∃ z, z = (T.setVm s.vm).setFrames (.invoking m args :: below) := ⟨_, rfl⟩
  rw [← hA] at Y
  have hvm : s'.vm = s.vm := by rw [hA]; rfl
  have hhp : s'.heap = H := by rw [hA]; exact hT
  have hW0 : s.WarmedH s'.vm := by rw [hvm]; exact State.WarmedH.refl s
  have hat' : ∀ w ∈ vx_atS own ic cls names, w.before args s' = true := fun w hw => vx_ot_at hW0 hvm.symm (hgood w (List.mem_cons_of_mem _ (List.mem_cons_of_mem _ hw))) (hat w hw)
  have hk' : (Cond.classLink own ik cls).before args s' = true := vx_ot_at hW0 hvm.symm (hgood _ List.mem_cons_self) hk
  have hini' : (Cond.initialized cls).before args s' = true := vx_ot_at hW0 hvm.symm (hgood _ (List.mem_cons_of_mem _ List.mem_cons_self)) hini
  have hU' : vx_Zq Bundle.tN "UNASSIGNED_STACK" Bundle.steD A s' s'.heap := by rw [hhp]; exact vx_Zq.moved hW0.alike (hU.kept hS.2.1)
  have hN' : vx_Zq Bundle.tN "SUPPRESSED_SENTINEL" Bundle.listD A s' s'.heap := by rw [hhp]; exact vx_Zq.moved hW0.alike (hN.kept hS.2.1)
  have h : ∀ w ∈ Bundle.ownAtoms own ic cls names, w.before args s' = true := vx_own hat' (vx_isRefq hU'.1) (vx_isRefq hN'.1) hU'.2.word hN'.2.word
  have hown' : s'.vm.findClass own = some m.cls := by rw [hvm]; exact hown
  have hins : (Cond.instantiable cls 6).before args s' = true := h _ (by simp [Bundle.ownAtoms])
  obtain ⟨vm₁, cX, kX, hfX, hkX, -, -, X₁, st1⟩ := Y.newCold hexec (own := own) (C := cls) (index := ik) (n := 6) hown' hk' hins hini'
    (g := F0 m pc ls rest) rfl (by rw [hb]; exact d0) (Nat.le_refl _) (Nat.le_refl _)
  generalize hT1 : (T.setVm vm₁).pushCell { cls := cX, slots := kX.instanceTypes.map defaultValue, vm := .none } = T1 at X₁ st1
  have hcat : (Value.ref T.heap.size).category = 1 := rfl
  have hcellA : T1.heap[T.heap.size]? = some (freshCell cX kX) := by rw [← hT1]; exact State.heap_pushCell_size _ _
  have d3' : decode c.code (pc + 3) = .ok (.dup, 1) := by rw [hb]; exact d3
  have d4' : decode c.code (pc + 4) = .ok (.ldc_w is, 3) := by rw [hb]; exact d4
  have hstr' : vk_R own is text sa s' := vk_R.warm hW0 hstr
  obtain ⟨U, hsteps, hrun, hend, hW, hsame, ce, hce, hO⟩ := X₁.ctorThrowS hexec htr (own := own) (cls := cls) (names := names) (ic := ic) hown' hcls hnames h (fun x hx => nomatch hx) hfX hkX hcellA (by rw [hhp, hT]; exact Nat.le_refl _) (msg := .ref sa) rfl
    (g := { method := m, pc := pc + 7, locals := ls, stack := .ref sa :: .ref T.heap.size :: .ref T.heap.size :: rest, locked := none }) rfl hsize rfl rfl (rest := rest) rfl
    (by rw [hb]; exact d7) (by rw [hb]; exact d10) hout hRframes (by simp only [List.map_cons, List.sum_cons, hcat]; omega) hlocks
  obtain ⟨f1, f2⟩ := vx_frame hsame
  rw [hhp] at f1 f2
  have hWs : s.WarmedH U.vm := State.WarmedH.trans hW0 hW
  have hcl : s.vm.findClass cls = some ce.cls := by
    have h9 := hO.cls
    rw [hvm] at h9
    exact h9
  have hall : s.sameButNew ({ U with vm := s.vm } : State) locs mc ms := by
    subst hA
    obtain ⟨e1, e2⟩ := hsame
    rw [State.setFrames_setFrames] at e1
    have h2 : (T.setVm s.vm).sameButNew ({ U with vm := s.vm } : State) [] (0 + 1) (0 + 6) := ⟨e1, e2⟩
    have h3 := X.same.trans h2
    rw [List.append_nil] at h3
    exact h3.mono hc hs
  refine ⟨U, ?_, .threw T.heap.size, hrun, hend, Or.inr ⟨T.heap.size, rfl, cls, ce, locs, hx U hWs.alike f1 (fun q hq => f2 q hq (fun z hz => nomatch hz)), hce, hO.vm, hcl, hWs, hall, hf⟩⟩
  refine st1 _ ?_
  show Steps p.tables e below (T1.setTop { method := m, pc := pc + 3, locals := ls, stack := .ref T.heap.size :: rest, locked := none }) _
  jvm_step X₁.here [X₁.here.top, hexec, d3', Value.category]
  exact X₁.ldcStringW hexec (own := own) (text := text) (index := is) (a := sa) hown' hstr'.1 hstr'.2
    (g := { method := m, pc := pc + 4, locals := ls, stack := .ref T.heap.size :: .ref T.heap.size :: rest, locked := none }) rfl d4' _ hsteps
end Ends
section Bodies
variable {l : Launch}
theorem vx_ofW {y : MethodName} {ws ws' : List Cond} {rm : Room} {Pc : Array Value → State → Prop} {Qc : Array Value → State → Outcome → State → Prop} {XC : String → State → State → Prop} {mc ms : Nat} {free : Addr → Prop} {cc : ByteArray} {maxL : Nat} {ret : Option FieldType}
    (hy : plainName y.cls = true) (hw : ws = Cond.code y cc maxL ret :: ws')
    (body : ∀ p e s m args below meth c s₁, BodyLoose p l y (headSpec ws rm) cc maxL ret e s m args below meth c s₁ → c.maxLocals = maxL → (∀ x ∈ c.exceptionTable.toList, False) → Pc args s →
      W p l e (headSpec ws rm).room s m args below meth c s.heap [] 0 0 (vx_MQ below Qc XC args s mc ms free) (entryFrame m args maxL)) : vx_Met l y ws rm Pc Qc XC mc ms free := by
  refine MetFree.of_bodyS (code := cc) (maxLocals := maxL) (ret := ret) hy ?_ ?_
  · intro args s m h hn
    obtain ⟨meth, c, h1, h2, h3, h4, h5, h6, -, -⟩ := Cond.code_spec hn (atoms_spec (ws := ws) h _ (by rw [hw]; exact List.mem_cons_self))
    exact ⟨meth, c, h1, h2, h3, h4, h5, h6⟩
  · intro p e s m args below meth c s₁ B hml hP _
    have hh0 : s₁.heap = s.heap := by rw [B.state]; rfl
    have ht : ∀ x ∈ c.exceptionTable.toList, False := by
      obtain ⟨meth9, c9, h1, h2, -, -, -, -, h7, -⟩ := Cond.code_spec B.named (atoms_spec (ws := ws) B.pre _ (by rw [hw]; exact List.mem_cons_self))
      cases Option.some.inj (h1.symm.trans B.method)
      cases Option.some.inj (h2.symm.trans (Stand.of_body B).code)
      intro x hx
      rw [Array.isEmpty_iff.mp h7] at hx
      cases hx
    obtain ⟨t, a1, o, b1, b2, b3⟩ := body p e s m args below meth c s₁ B hml ht hP s₁ hh0 (Stand.of_body B)
    exact ⟨t, o, a1, b1, b2, b3⟩
/-- the table of a body with handlers -/
theorem vx_table {p : Program} {x y : MethodName} {S : Spec} {cc bytes : ByteArray} {maxL maxL' : Nat} {ret ret' : Option FieldType} {e : Env} {s s₁ : State} {m : MethodId} {args : Array Value} {below : List Frame} {meth : Method} {c : Code} {hh : List (Nat × Nat × Nat × Nat)}
    (B : BodyLoose p l y S cc maxL ret e s m args below meth c s₁) (h : (Cond.codeWith y bytes maxL' ret' hh).before args s = true) : c.exceptionTable.toList = tableOf hh := by
  obtain ⟨m9, meth9, c9, hn9, h1, h2, -, -, h6, -⟩ := Cond.codeWith_spec h
  cases Option.some.inj (hn9.symm.trans B.named)
  cases Option.some.inj (h1.symm.trans B.method)
  cases Option.some.inj (h2.symm.trans (Stand.of_body B).code)
  rw [← h6, table_eq]
end Bodies
end VXA
/-! ===== END ===== -/
/-! ===== BEGIN a static call of a method with an exception table ===== -/
section VXS
variable {p : Program} {l : Launch} {e : Env} {R : Room} {s : State} {m : MethodId} {args : Array Value} {below : List Frame} {meth : Method} {c : Code} {T : State} {H : Heap} {locs : List Loc} {cells slots : Nat}
abbrev vx_CSW (R : Room) (s : State) (args : Array Value) (own : String) (index : Nat) (y : MethodName) (bytes : ByteArray) (maxL : Nat) (ret : Option FieldType) (hh : List (Nat × Nat × Nat × Nat)) (ws : List Cond) (rm : Room) (mc ms n : Nat) : Prop :=
  (rm.cells = mc ∧ rm.slots = ms ∧ rm.frames + 1 ≤ R.frames ∧ 8 + (maxL + 11) + rm.locals ≤ R.locals ∧ (∀ w ∈ ws, ∀ (a' : Array Value) (U : State), s.WarmedH U.vm → w.before a' U = true) ∧ Cond.codeWith y bytes maxL ret hh ∈ ws) ∧
  (Cond.codeWith y bytes maxL ret hh).before args s = true ∧ (Cond.initialized y.cls).before args s = true ∧ (y.cls ≠ "java/lang/invoke/MethodHandle" ∧ y.cls ≠ "java/lang/invoke/VarHandle") ∧
  (∀ sig, parseMethodDescriptor y.desc = some sig → n = sig.parameters.length) ∧ (Cond.methodLink own index y).before args s = true ∧ (Cond.static y).before args s = true
theorem vx_cwSW {own : String} {index maxL mc ms : Nat} {y : MethodName} {bytes : ByteArray} {ret : Option FieldType} {hh : List (Nat × Nat × Nat × Nat)} {Ts ws ws' : List Cond} {rm : Room} (n : Nat) (ht : ∀ w ∈ Ts, w.before args s = true) (hT : GoodIn Ts (va_wsS own index y ws)) (hw : ws = Cond.codeWith y bytes maxL ret hh :: ws') (hrc : rm.cells = mc) (hrs : rm.slots = ms)
    (hd : y.cls ≠ "java/lang/invoke/MethodHandle" ∧ y.cls ≠ "java/lang/invoke/VarHandle" ∧ (parseMethodDescriptor y.desc).map (fun d => d.parameters.length) = some n) (hR : rm.frames + 1 ≤ R.frames ∧ 8 + (maxL + 11) + rm.locals ≤ R.locals) :
    vx_CSW R s args own index y bytes maxL ret hh ws rm mc ms n := by
  have ok : ∀ w ∈ va_wsS own index y ws, w.before args s = true := fun w h => ht w (hT w h).1
  have hG : GoodIn Ts ws := fun w h => hT w (by unfold va_wsS; exact List.mem_append_right _ h)
  have hc : Cond.codeWith y bytes maxL ret hh ∈ ws := by rw [hw]; exact List.mem_cons_self
  refine ⟨⟨hrc, hrs, hR.1, hR.2, pay_in ht hG, hc⟩, ht _ (hG _ hc).1, ok _ (by simp [va_wsS]), ⟨hd.1, hd.2.1⟩, fun sig h => ?_, ok _ (by simp [va_wsS]), ok _ (by simp [va_wsS])⟩
  have h2 := hd.2.2
  rw [h] at h2
  exact (Option.some.inj h2).symm
theorem vx_callSW (X : Stand p l e R s m args below meth c T locs cells slots) (hexec : p.tables.exec = Jvm.exec) {own : String} {index : Nat} {y : MethodName} {bytes : ByteArray} {maxL : Nat} {ret : Option FieldType} {hh : List (Nat × Nat × Nat × Nat)}
    (hown : s.vm.findClass own = some m.cls) (hlink : (Cond.methodLink own index y).before args s = true) (hstat : (Cond.static y).before args s = true) (hinit : (Cond.initialized y.cls).before args s = true)
    (hcode : (Cond.codeWith y bytes maxL ret hh).before args s = true) (hy : y.cls ≠ "java/lang/invoke/MethodHandle" ∧ y.cls ≠ "java/lang/invoke/VarHandle")
    {W9 : Nat} {Pre : Pt → Array Value → Prop} {Post : Pt → Array Value → Option Value → Pt → Prop} (hK : Back l R p e below s args y 3 W9 Pre Post)
    {g : JFrame} (hg : g.method = m) (hsize : g.locals.size = c.maxLocals) {argsL rest : List Value} (hlen : ∀ sig, parseMethodDescriptor y.desc = some sig → argsL.length = sig.parameters.length)
    (hstack : g.stack = argsL.reverse ++ rest) (hW : 2 * g.monitorRoom + (rest.map fun v => v.category).sum ≤ W9) (hdg : decode c.code g.pc = .ok (.invokestatic index, 3))
    (hpre : ∀ vm₁, s.WarmedH vm₁ → Pre ⟨T.setVm vm₁, locs, cells, slots⟩ argsL.toArray) :
    ∃ (v : Option Value) (vm₁ : Vm) (B : Pt), s.WarmedH vm₁ ∧ Stand p l e R s m args below meth c B.U B.locs B.cells B.slots ∧ Post ⟨T.setVm vm₁, locs, cells, slots⟩ argsL.toArray v B ∧
      ∀ target, Steps p.tables e below (B.U.setTop { g with pc := g.pc + 3, stack := v.toList ++ rest }) target → Steps p.tables e below (T.setTop g) target := by
  obtain ⟨mk, methM, cM, hnamed, hmethM, -, -, -, -, -, -, hsigM⟩ := Cond.codeWith_spec hcode
  have hstatic : methM.isStatic = true := Cond.static_spec hnamed hmethM hstat
  obtain ⟨kP, hkP, -⟩ := className_of_methodNamed hnamed
  have hinitP : kP.init = .initialized := Cond.initialized_spec (findClass_of_methodNamed hnamed) hkP hinit
  obtain ⟨vm₁, X₁, hstep₁⟩ := X.invokestatic hexec hown hlink hnamed hmethM hstatic hkP hinitP hy (g := g) hg (argsL := argsL) (rest := rest) (hlen _ hsigM) hstack hdg
  obtain ⟨v, B, X', hpost, hsteps⟩ := hK m meth c ⟨T.setVm vm₁, locs, cells, slots⟩ { g with stack := rest } (.invokestatic index) mk argsL.toArray X₁ hg hsize hdg hW (X₁.named hnamed) (hpre vm₁ X₁.warmed)
  exact ⟨v, vm₁, B, X₁.warmed, X', hpost, fun target h => hstep₁ _ fun acts => by rw [doInvoke_state]; exact hsteps.trans h⟩
theorem vx_runSW {y : MethodName} {bytes cc : ByteArray} {maxL nL mc ms n index : Nat} {ret : Option FieldType} {hh : List (Nat × Nat × Nat × Nat)} {ws : List Cond} {rm : Room} {Pc : Array Value → State → Prop} {Qc : Array Value → State → Outcome → State → Prop} {free : Addr → Prop} {Ts : List Cond} {own : String} {As rest : List Value} {g : JFrame}
    (S : CallFix p m c cc nL s args Ts own) (hM : Met l y ws rm Pc Qc mc ms free) (cw : vx_CSW R s args own index y bytes maxL ret hh ws rm mc ms n) (hp : PreS s H Pc As)
    (hg : g.method = m) (hn : As.length = n) (hsize : g.locals.size = nL) (hstack : g.stack = As.reverse ++ rest) (hW : 2 * g.monitorRoom + (rest.map fun v => v.category).sum ≤ 8) (hdg : decode cc g.pc = .ok (.invokestatic index, 3)) (hf : cells + mc ≤ R.cells ∧ slots + ms ≤ R.slots) :
    va_Run p l e R s m args below meth c H locs cells slots mc ms g rest (Qc As.toArray) (free) := by
  obtain ⟨⟨hrc, hrs, hfr, hlo, hws, hcw⟩, hcode, hini, hy, hlen, hl, hstt⟩ := cw
  have hK : Back l R p e below s args y 3 8 (PreOf R mc ms Pc) (PostOf Qc mc ms free) := va_backW (hh := hh) (bytes := bytes) (maxL := maxL) (ret := ret) hM hp.1 hrc hrs hfr hlo hws hcw (fun a' U hW => word_at hW (Or.inl (by first | rfl | simp [Cond.onTables, Cond.keeps, Cond.steady])) hini)
  obtain ⟨hx, hb, hml, ho, -⟩ := S
  intro T hT X
  obtain ⟨v, vm₁, ⟨U', l2, c2, s2⟩, hW₁, X', ⟨g', mk, t, L, e1, e2, hq, h1, hL, h2, h3⟩, st⟩ := vx_callSW X hx (hh := hh) (bytes := bytes) (maxL := maxL) (ret := ret) ho hl hstt hini hcode hy hK hg (hsize.trans hml.symm) (argsL := As) (rest := rest) (fun sig h => hn.trans (hlen sig h)) hstack hW (by rw [hb]; exact hdg)
    (fun vm₁ hW₁ => ⟨hf.1, hf.2, hp.2 (T.setVm vm₁) hT hW₁⟩)
  dsimp only [Pt.U, Pt.locs, Pt.cells, Pt.slots] at X' e1 e2 h1 h2 h3 st
  subst h1; subst h2; subst h3
  exact ⟨v, (T.setVm vm₁).calling g' mk As.toArray, t, U', L, hT, X', hL, e1, e2, hq, st⟩
/-- not caught here, past rows that name other classes: it goes on to the caller -/
theorem vx_outP {p : Program} {l : Launch} {e : Env} {R : Room} {s : State} {m : MethodId} {args : Array Value} {below : List Frame} {meth : Method} {c : Code} {H : Heap} {locs : List Loc} {cells slots : Nat} {free : Addr → Prop} {ls : Array Slot} {rest : List Value} {Qc : Array Value → State → Outcome → State → Prop} {XC : String → State → State → Prop}
    {pc : Nat} {own E : String} {ce : Cell} {q : Addr} {mc ms : Nat} (hown : s.vm.findClass own = some m.cls) (hlocks : meth.locks = false)
    (hpass : ∀ z ∈ c.exceptionTable.toList, covers z pc = false ∨ (z.catchType ≠ 0 ∧ ∃ nm : String, (Cond.classLink own z.catchType nm).before args s = true ∧ va_Nc E nm s)) (hcell : H[q]? = some ce) (hv : ce.vm = .none) (hcl : s.vm.findClass E = some ce.cls)
    (hx : ∀ t : State, t.heap = H → s.vm.Alike t.vm → XC E s t) (hf : ∀ z ∈ locs, free z.base) (hc : cells ≤ mc) (hs : slots ≤ ms) :
    vx_W p l e R s m args below meth c H locs cells slots (vx_MQ below Qc XC args s mc ms free) (F0 m pc ls rest) q := by
  intro T hT X
  have hpl : e.platform.magicAccessors = ({} : Platform).magicAccessors := by rw [X.admits.platform]
  obtain ⟨vm', hW', X', st⟩ := X.outThrough hlocks q (g := F0 m pc ls rest) rfl rfl rfl (cell := ce) (by rw [hT]; exact hcell) (by rw [hv]; rfl)
    (by obtain ⟨k9, h9, -⟩ := Vm.findClass_spec hcl; exact ⟨k9, h9⟩) (fun z hz => by
      rcases hpass z hz with h | ⟨hz0, nm, hl1, hn1⟩
      · exact Or.inl h
      · obtain ⟨c6, hc6, hcl6⟩ := Cond.classLink_spec hown hl1 e.platform hpl
        obtain ⟨a8, b8, h1, h2, h3⟩ := hn1
        cases Option.some.inj (h1.symm.trans hcl)
        cases Option.some.inj (h2.symm.trans hc6)
        exact Or.inr ⟨hz0, _, hcl6, h3⟩)
  obtain ⟨g₀, hfr⟩ := X'.frames_eq
  have hcell9 : ((T.setVm vm').setFrames (.throwing q :: below)).heap[q]? = some ce := by
    show T.heap[q]? = some ce
    rw [hT]; exact hcell
  have hend : Ended ((T.setVm vm').setFrames (.throwing q :: below)) below (.threw q) := State.frames_setFrames _ (State.cur_lt_of_frames hfr)
  refine ⟨(T.setVm vm').setFrames (.throwing q :: below), ?_, .threw q, X'.here.running, hend, Or.inr ⟨q, rfl, E, ce, locs, hx _ hT (X'.ends _).1.alike, hcell9, hv, hcl, (X'.ends _).1, (X'.ends _).2.mono hc hs, hf⟩⟩
  rw [X.pushThrowing_eq]
  exact st
/-- a thing of a world lies in the heap -/
theorem vx_lt {D : va_G} {cl : List vw_C} {ws : va_W} {H1 : Heap} (h : va_P D cl ws H1) {k : Nat} {q : Nat × va_E} (hk : ws[k]? = some q) : q.1 < H1.size := (h k q hk).lt
end VXS
/-! ===== END ===== -/
/-! ===== BEGIN methods with a table of their own: called by a name, returning or throwing ===== -/
section VXH
/-! vx_backW, vx_callVX, vx_callSX, vx_callVW, vx_runVW, vx_runVX, vx_runSX, vx_ofWH follow the same proofs as their sisters above (Free/Laws.lean, Shelf42/LK1.lean); vx_outP calls Shelf42/NT130.lean (outThrough). -/
section
variable {l : Launch} {R : Room} {p : Program} {e : Env} {below : List Frame} {s : State} {sargs : Array Value} {y : MethodName} {len W9 : Nat}
theorem vx_backW {ws : List Cond} {rm : Room} {Pc : Array Value → State → Prop} {Qc : Array Value → State → Outcome → State → Prop} {XC : String → State → State → Prop} {mc ms : Nat} {free : Addr → Prop} {bytes : ByteArray} {maxL : Nat} {ret : Option FieldType} {hh : List (Nat × Nat × Nat × Nat)}
    (hM : vx_Met l y ws rm Pc Qc XC mc ms free) (hblind : FrameBlind Pc) (hrc : rm.cells = mc) (hrs : rm.slots = ms)
    (hframes : rm.frames + 1 ≤ R.frames) (hlocals : W9 + (maxL + 11) + rm.locals ≤ R.locals)
    (hws : ∀ w ∈ ws, ∀ a' U, s.WarmedH U.vm → w.before a' U = true) (hcode : Cond.codeWith y bytes maxL ret hh ∈ ws) (hinit : ∀ a' U, s.WarmedH U.vm → (Cond.initialized y.cls).before a' U = true) :
    vx_Back l R p e below s sargs y len W9 (PreOf R mc ms Pc) (PostOf Qc mc ms free) (vx_Post XC mc ms free) := by
  intro m meth c A g ig mk a X hg hsize hdg hW hn hp
  have h1 : (headSpec ws rm).pre.before a A.U = true := atoms_intro fun w hw => hws w hw _ _ X.warmed
  have h2 : (Cond.codeWith y bytes maxL ret hh).before a A.U = true := hws _ hcode _ _ X.warmed
  have h3 : (Cond.initialized y.cls).before a A.U = true := hinit _ _ X.warmed
  have h4 : A.cells + (headSpec ws rm).room.cells ≤ R.cells := by rw [show (headSpec ws rm).room.cells = mc from hrc]; exact hp.1
  have h5 : A.slots + (headSpec ws rm).room.slots ≤ R.slots := by rw [show (headSpec ws rm).room.slots = ms from hrs]; exact hp.2.1
  have hPc : Pc a (A.U.calling g mk a) := hblind _ _ _ _ hp.2.2
  obtain ⟨U, Ls, c0, s0⟩ := A
  dsimp only [Pt.U, Pt.locs, Pt.cells, Pt.slots] at h1 h2 h3 h4 h5 X hn hPc ⊢
  obtain ⟨m9, methY, cY, hn9, hmY, hcY, -, hlY, -⟩ := Cond.codeWith_spec h2
  cases Option.some.inj (hn9.symm.trans hn)
  obtain ⟨kY, hkY, -⟩ := className_of_methodNamed hn
  have hinitY : kY.init = .initialized := Cond.initialized_spec (findClass_of_methodNamed hn) hkY h3
  have h : At U g.method c below := by rw [hg]; exact X.here
  have hlocals9 : W9 + (maxL + 11) + (headSpec ws rm).room.locals ≤ R.locals := hlocals
  have happ : (headSpec ws rm).appliesLoose y e.platform (U.calling g mk a) = true :=
    Spec.appliesLoose_calling (g := g) h hdg hn hkY hinitY
      (X.room_calling (g := g) (R' := (headSpec ws rm).room) hsize hmY hcY hframes (by rw [hlY]; omega) h4 h5) h1
  obtain ⟨mid, hmid⟩ := h.above
  have hfr : (U.setTop g).frames = (.java g :: mid) ++ below := by rw [State.frames_setTop' g h.top, hmid]; rfl
  obtain ⟨o, s₂, hsteps, -, hend, hq⟩ := Steps.callFree hM p X.admits X.cas X.clock (acts := []) hfr happ hPc trivial
  have hq' : vx_Q Qc XC mc ms free a (U.calling g mk a) o s₂ := hq
  rw [State.frames_setTop' g h.top] at hend
  obtain ⟨g₀, hg0⟩ := Option.isSome_iff_exists.mp h.top
  obtain ⟨r, hr⟩ := State.topJava?_eq_some.mp hg0
  have hr' : (({ U with heap := s₂.heap, slotsUsed := s₂.slotsUsed } : State).setVm s₂.vm).frames = .java g₀ :: r := hr
  rcases hq' with ⟨hqc, L, hfe, hL⟩ | ⟨q, rfl, E, ce, L, hx, hce, hcv, hcl, hW₂, hsm, hL⟩
  · obtain ⟨⟨v, rfl⟩, hW₂, e2, q2, q3, q4, q5, q6⟩ := id hfe
    have e3 : s₂ = ({ (U.calling g mk a).setFrames s₂.frames with heap := s₂.heap, slotsUsed := s₂.slotsUsed } : State).setVm s₂.vm := by
      have : s₂ = ({ s₂ with vm := (U.calling g mk a).vm } : State).setVm s₂.vm := rfl
      rw [e2] at this
      exact this
    obtain ⟨c₂, i₂, len₂, hc₂, hd₂, hf₂⟩ := hend
    have hW' : U.WarmedH s₂.vm := hW₂
    have hcc : c₂ = c := by
      have h1 : s₂.code? g.method = U.code? g.method := by
        rw [State.code?_eq, State.code?_eq, hW'.alike.method?]
      exact Option.some.inj (hc₂.symm.trans (h1.trans h.code))
    subst hcc
    have hlen : len₂ = len := by rw [hdg] at hd₂; cases hd₂; rfl
    subst hlen
    have hs₂ : s₂ = (({ U with heap := s₂.heap, slotsUsed := s₂.slotsUsed } : State).setVm s₂.vm).setTop { g with pc := g.pc + len₂, stack := v.toList ++ g.stack } := by
      refine e3.trans ?_
      rw [hf₂, State.calling_eq h.top, State.setFrames_setFrames, State.setTop_of_frames _ hr', hr]
      rfl
    have hsame : U.sameButNew ({ U with heap := s₂.heap, slotsUsed := s₂.slotsUsed } : State) L mc ms := by
      refine ⟨?_, q2, q3, q4, q5, q6⟩
      obtain ⟨t, ht, -⟩ := State.frames_cons hr
      show ({ U with heap := s₂.heap, slotsUsed := s₂.slotsUsed } : State) = { U.setFrames U.frames with heap := s₂.heap, slotsUsed := s₂.slotsUsed }
      rw [State.setFrames_self ht]
    subst hg
    refine Or.inl ⟨v, ⟨(({ U with heap := s₂.heap, slotsUsed := s₂.slotsUsed } : State).setVm s₂.vm), Ls ++ L, c0 + mc, s0 + ms⟩,
      ⟨X.admits, X.cas, X.clock, X.frames, X.room, X.hears, X.method, X.code, (X.here.setHeapUsed s₂.heap s₂.slotsUsed).setVm hW'.alike, X.tail, State.WarmedH.trans X.warmed hW', X.limits, X.bytes, X.same.trans (hsame.setVm s.vm)⟩,
      ⟨g, mk, s₂, L, rfl, rfl, hqc, rfl, hL, rfl, rfl⟩, ?_⟩
    show Steps p.tables e below _ ((({ U with heap := s₂.heap, slotsUsed := s₂.slotsUsed } : State).setVm s₂.vm).setTop { g with pc := g.pc + len₂, stack := v.toList ++ g.stack })
    rw [← hs₂]
    exact hsteps
  · obtain ⟨e2, q2, q3, q4, q5, q6⟩ := id hsm
    have e3 : s₂ = ({ (U.calling g mk a).setFrames s₂.frames with heap := s₂.heap, slotsUsed := s₂.slotsUsed } : State).setVm s₂.vm := by
      have : s₂ = ({ s₂ with vm := (U.calling g mk a).vm } : State).setVm s₂.vm := rfl
      rw [e2] at this
      exact this
    have hf₂ : s₂.frames = .throwing q :: .java g :: U.frames.tail := hend
    have hW' : U.WarmedH s₂.vm := hW₂
    have hs₂ : s₂ = ((({ U with heap := s₂.heap, slotsUsed := s₂.slotsUsed } : State).setVm s₂.vm).setTop g).pushFrame (.throwing q) := by
      refine e3.trans ?_
      rw [hf₂, State.calling_eq h.top, State.setFrames_setFrames, State.pushFrame, State.frames_setTop _ hr', State.setTop_of_frames _ hr', State.setFrames_setFrames, hr]
      rfl
    have hsame : U.sameButNew ({ U with heap := s₂.heap, slotsUsed := s₂.slotsUsed } : State) L mc ms := by
      refine ⟨?_, q2, q3, q4, q5, q6⟩
      obtain ⟨t, ht, -⟩ := State.frames_cons hr
      show ({ U with heap := s₂.heap, slotsUsed := s₂.slotsUsed } : State) = { U.setFrames U.frames with heap := s₂.heap, slotsUsed := s₂.slotsUsed }
      rw [State.setFrames_self ht]
    subst hg
    refine Or.inr ⟨q, ⟨(({ U with heap := s₂.heap, slotsUsed := s₂.slotsUsed } : State).setVm s₂.vm), Ls ++ L, c0 + mc, s0 + ms⟩,
      ⟨X.admits, X.cas, X.clock, X.frames, X.room, X.hears, X.method, X.code, (X.here.setHeapUsed s₂.heap s₂.slotsUsed).setVm hW'.alike, X.tail, State.WarmedH.trans X.warmed hW', X.limits, X.bytes, X.same.trans (hsame.setVm s.vm)⟩,
      ⟨g, mk, s₂, L, E, ce, rfl, rfl, hx, hce, hcv, hcl, rfl, hL, rfl, rfl⟩, ?_⟩
    show Steps p.tables e below _ (((({ U with heap := s₂.heap, slotsUsed := s₂.slotsUsed } : State).setVm s₂.vm).setTop g).pushFrame (.throwing q))
    rw [← hs₂]
    exact hsteps
end
variable {p : Program} {l : Launch} {e : Env} {R : Room} {s : State} {m : MethodId} {args : Array Value} {below : List Frame} {meth : Method} {c : Code} {T : State} {H : Heap} {locs : List Loc} {cells slots : Nat}
theorem vx_callVX (X : Stand p l e R s m args below meth c T locs cells slots) (hexec : p.tables.exec = Jvm.exec) {own C : String} {index : Nat} {y : MethodName} {bytes : ByteArray} {maxL : Nat} {ret : Option FieldType} {hh : List (Nat × Nat × Nat × Nat)}
    (hown : s.vm.findClass own = some m.cls) (hlink : (Cond.methodLink own index y).before args s = true) (hinst : (Cond.instanceMethod y).before args s = true) (hsel : (Cond.selects C y y).before args s = true)
    (hcode : (Cond.codeWith y bytes maxL ret hh).before args s = true) (hy : y.cls ≠ "java/lang/invoke/MethodHandle" ∧ y.cls ≠ "java/lang/invoke/VarHandle")
    {W9 : Nat} {Pre : Pt → Array Value → Prop} {Post : Pt → Array Value → Option Value → Pt → Prop} {PostX : Pt → Array Value → Addr → Pt → Prop} (hK : vx_Back l R p e below s args y 3 W9 Pre Post PostX)
    {b : Addr} {cellB : Cell} (hcell : T.heap[b]? = some cellB) (hobj : cellB.vm.isStatics = false) (hcls : s.vm.findClass C = some cellB.cls)
    {g : JFrame} (hg : g.method = m) (hsize : g.locals.size = c.maxLocals) {argsL rest : List Value} (hlen : ∀ sig, parseMethodDescriptor y.desc = some sig → argsL.length = sig.parameters.length)
    (hstack : g.stack = argsL.reverse ++ .ref b :: rest) (hW : 2 * g.monitorRoom + (rest.map fun v => v.category).sum ≤ W9) (hdg : decode c.code g.pc = .ok (.invokevirtual index, 3))
    (hpre : ∀ vm₁, s.WarmedH vm₁ → Pre ⟨T.setVm vm₁, locs, cells, slots⟩ (Value.ref b :: argsL).toArray) :
    (∃ (v : Option Value) (vm₁ : Vm) (B : Pt), s.WarmedH vm₁ ∧ Stand p l e R s m args below meth c B.U B.locs B.cells B.slots ∧ Post ⟨T.setVm vm₁, locs, cells, slots⟩ (Value.ref b :: argsL).toArray v B ∧
      ∀ target, Steps p.tables e below (B.U.setTop { g with pc := g.pc + 3, stack := v.toList ++ rest }) target → Steps p.tables e below (T.setTop g) target) ∨
    (∃ (q : Addr) (vm₁ : Vm) (B : Pt), s.WarmedH vm₁ ∧ Stand p l e R s m args below meth c B.U B.locs B.cells B.slots ∧ PostX ⟨T.setVm vm₁, locs, cells, slots⟩ (Value.ref b :: argsL).toArray q B ∧
      Steps p.tables e below (T.setTop g) ((B.U.setTop { g with stack := rest }).pushFrame (.throwing q))) := by
  obtain ⟨mk, methM, hnamed, hmethM, hstM, habM⟩ := Cond.instanceMethod_spec hinst
  obtain ⟨m8, methM', cM, hn8, hmethM', -, -, -, -, -, -, hsigM⟩ := Cond.codeWith_spec hcode
  cases Option.some.inj (hn8.symm.trans hnamed)
  cases hmethM.symm.trans hmethM'
  obtain ⟨c2, r2, m2, q1, q2, q3, q4, kP, hkP, hkPi⟩ := Cond.selects_spec hsel
  cases hcls.symm.trans q1
  cases (State.methodFound?_of_named hnamed hy).symm.trans q2
  cases hnamed.symm.trans q3
  have hselP : selectMethod e.platform s.vm cellB.cls mk = .method mk := by rw [Launch.admits_selectMethod X.admits]; exact q4
  obtain ⟨vm₁, X₁, hstep₁⟩ := X.invokevirtual hexec hown hlink hnamed hmethM hstM hkP hkPi hy (a := b) (cell := cellB) hcell
    (fun z h => by rw [h] at hobj; cases hobj) hselP hmethM habM hkP hkPi (g := g) hg (argsL := argsL) (rest := rest) (hlen _ hsigM) hstack hdg
  rcases hK m meth c ⟨T.setVm vm₁, locs, cells, slots⟩ { g with stack := rest } (.invokevirtual index) mk (Value.ref b :: argsL).toArray X₁ hg hsize hdg hW (X₁.named hnamed) (hpre vm₁ X₁.warmed) with ⟨v, B, X', hpost, hsteps⟩ | ⟨q, B, X', hpost, hsteps⟩
  · exact Or.inl ⟨v, vm₁, B, X₁.warmed, X', hpost, fun target h => hstep₁ _ fun acts => by rw [doInvoke_state]; exact hsteps.trans h⟩
  · exact Or.inr ⟨q, vm₁, B, X₁.warmed, X', hpost, hstep₁ _ fun acts => by rw [doInvoke_state]; exact hsteps⟩
theorem vx_callSX (X : Stand p l e R s m args below meth c T locs cells slots) (hexec : p.tables.exec = Jvm.exec) {own : String} {index : Nat} {y : MethodName} {bytes : ByteArray} {maxL : Nat} {ret : Option FieldType} {hh : List (Nat × Nat × Nat × Nat)}
    (hown : s.vm.findClass own = some m.cls) (hlink : (Cond.methodLink own index y).before args s = true) (hstat : (Cond.static y).before args s = true) (hinit : (Cond.initialized y.cls).before args s = true)
    (hcode : (Cond.codeWith y bytes maxL ret hh).before args s = true) (hy : y.cls ≠ "java/lang/invoke/MethodHandle" ∧ y.cls ≠ "java/lang/invoke/VarHandle")
    {W9 : Nat} {Pre : Pt → Array Value → Prop} {Post : Pt → Array Value → Option Value → Pt → Prop} {PostX : Pt → Array Value → Addr → Pt → Prop} (hK : vx_Back l R p e below s args y 3 W9 Pre Post PostX)
    {g : JFrame} (hg : g.method = m) (hsize : g.locals.size = c.maxLocals) {argsL rest : List Value} (hlen : ∀ sig, parseMethodDescriptor y.desc = some sig → argsL.length = sig.parameters.length)
    (hstack : g.stack = argsL.reverse ++ rest) (hW : 2 * g.monitorRoom + (rest.map fun v => v.category).sum ≤ W9) (hdg : decode c.code g.pc = .ok (.invokestatic index, 3))
    (hpre : ∀ vm₁, s.WarmedH vm₁ → Pre ⟨T.setVm vm₁, locs, cells, slots⟩ argsL.toArray) :
    (∃ (v : Option Value) (vm₁ : Vm) (B : Pt), s.WarmedH vm₁ ∧ Stand p l e R s m args below meth c B.U B.locs B.cells B.slots ∧ Post ⟨T.setVm vm₁, locs, cells, slots⟩ argsL.toArray v B ∧
      ∀ target, Steps p.tables e below (B.U.setTop { g with pc := g.pc + 3, stack := v.toList ++ rest }) target → Steps p.tables e below (T.setTop g) target) ∨
    (∃ (q : Addr) (vm₁ : Vm) (B : Pt), s.WarmedH vm₁ ∧ Stand p l e R s m args below meth c B.U B.locs B.cells B.slots ∧ PostX ⟨T.setVm vm₁, locs, cells, slots⟩ argsL.toArray q B ∧
      Steps p.tables e below (T.setTop g) ((B.U.setTop { g with stack := rest }).pushFrame (.throwing q))) := by
  obtain ⟨mk, methM, cM, hnamed, hmethM, -, -, -, -, -, -, hsigM⟩ := Cond.codeWith_spec hcode
  have hstatic : methM.isStatic = true := Cond.static_spec hnamed hmethM hstat
  obtain ⟨kP, hkP, -⟩ := className_of_methodNamed hnamed
  have hinitP : kP.init = .initialized := Cond.initialized_spec (findClass_of_methodNamed hnamed) hkP hinit
  obtain ⟨vm₁, X₁, hstep₁⟩ := X.invokestatic hexec hown hlink hnamed hmethM hstatic hkP hinitP hy (g := g) hg (argsL := argsL) (rest := rest) (hlen _ hsigM) hstack hdg
  rcases hK m meth c ⟨T.setVm vm₁, locs, cells, slots⟩ { g with stack := rest } (.invokestatic index) mk argsL.toArray X₁ hg hsize hdg hW (X₁.named hnamed) (hpre vm₁ X₁.warmed) with ⟨v, B, X', hpost, hsteps⟩ | ⟨q, B, X', hpost, hsteps⟩
  · exact Or.inl ⟨v, vm₁, B, X₁.warmed, X', hpost, fun target h => hstep₁ _ fun acts => by rw [doInvoke_state]; exact hsteps.trans h⟩
  · exact Or.inr ⟨q, vm₁, B, X₁.warmed, X', hpost, hstep₁ _ fun acts => by rw [doInvoke_state]; exact hsteps⟩
theorem vx_callVW (X : Stand p l e R s m args below meth c T locs cells slots) (hexec : p.tables.exec = Jvm.exec) {own C : String} {index : Nat} {y : MethodName} {bytes : ByteArray} {maxL : Nat} {ret : Option FieldType} {hh : List (Nat × Nat × Nat × Nat)}
    (hown : s.vm.findClass own = some m.cls) (hlink : (Cond.methodLink own index y).before args s = true) (hinst : (Cond.instanceMethod y).before args s = true) (hsel : (Cond.selects C y y).before args s = true)
    (hcode : (Cond.codeWith y bytes maxL ret hh).before args s = true) (hy : y.cls ≠ "java/lang/invoke/MethodHandle" ∧ y.cls ≠ "java/lang/invoke/VarHandle")
    {W9 : Nat} {Pre : Pt → Array Value → Prop} {Post : Pt → Array Value → Option Value → Pt → Prop} (hK : Back l R p e below s args y 3 W9 Pre Post)
    {b : Addr} {cellB : Cell} (hcell : T.heap[b]? = some cellB) (hobj : cellB.vm.isStatics = false) (hcls : s.vm.findClass C = some cellB.cls)
    {g : JFrame} (hg : g.method = m) (hsize : g.locals.size = c.maxLocals) {argsL rest : List Value} (hlen : ∀ sig, parseMethodDescriptor y.desc = some sig → argsL.length = sig.parameters.length)
    (hstack : g.stack = argsL.reverse ++ .ref b :: rest) (hW : 2 * g.monitorRoom + (rest.map fun v => v.category).sum ≤ W9) (hdg : decode c.code g.pc = .ok (.invokevirtual index, 3))
    (hpre : ∀ vm₁, s.WarmedH vm₁ → Pre ⟨T.setVm vm₁, locs, cells, slots⟩ (Value.ref b :: argsL).toArray) :
    ∃ (v : Option Value) (vm₁ : Vm) (B : Pt), s.WarmedH vm₁ ∧ Stand p l e R s m args below meth c B.U B.locs B.cells B.slots ∧ Post ⟨T.setVm vm₁, locs, cells, slots⟩ (Value.ref b :: argsL).toArray v B ∧
      ∀ target, Steps p.tables e below (B.U.setTop { g with pc := g.pc + 3, stack := v.toList ++ rest }) target → Steps p.tables e below (T.setTop g) target := by
  obtain ⟨mk, methM, hnamed, hmethM, hstM, habM⟩ := Cond.instanceMethod_spec hinst
  obtain ⟨m8, methM', cM, hn8, hmethM', -, -, -, -, -, -, hsigM⟩ := Cond.codeWith_spec hcode
  cases Option.some.inj (hn8.symm.trans hnamed)
  cases hmethM.symm.trans hmethM'
  obtain ⟨c2, r2, m2, q1, q2, q3, q4, kP, hkP, hkPi⟩ := Cond.selects_spec hsel
  cases hcls.symm.trans q1
  cases (State.methodFound?_of_named hnamed hy).symm.trans q2
  cases hnamed.symm.trans q3
  have hselP : selectMethod e.platform s.vm cellB.cls mk = .method mk := by rw [Launch.admits_selectMethod X.admits]; exact q4
  obtain ⟨vm₁, X₁, hstep₁⟩ := X.invokevirtual hexec hown hlink hnamed hmethM hstM hkP hkPi hy (a := b) (cell := cellB) hcell
    (fun z h => by rw [h] at hobj; cases hobj) hselP hmethM habM hkP hkPi (g := g) hg (argsL := argsL) (rest := rest) (hlen _ hsigM) hstack hdg
  obtain ⟨v, B, X', hpost, hsteps⟩ := hK m meth c ⟨T.setVm vm₁, locs, cells, slots⟩ { g with stack := rest } (.invokevirtual index) mk (Value.ref b :: argsL).toArray X₁ hg hsize hdg hW (X₁.named hnamed) (hpre vm₁ X₁.warmed)
  exact ⟨v, vm₁, B, X₁.warmed, X', hpost, fun target h => hstep₁ _ fun acts => by rw [doInvoke_state]; exact hsteps.trans h⟩
abbrev vx_CVW (R : Room) (s : State) (args : Array Value) (own C : String) (index : Nat) (y : MethodName) (bytes : ByteArray) (maxL : Nat) (ret : Option FieldType) (hh : List (Nat × Nat × Nat × Nat)) (ws : List Cond) (rm : Room) (mc ms n : Nat) : Prop :=
  (rm.cells = mc ∧ rm.slots = ms ∧ rm.frames + 1 ≤ R.frames ∧ 8 + (maxL + 11) + rm.locals ≤ R.locals ∧ (∀ w ∈ ws, ∀ (a' : Array Value) (U : State), s.WarmedH U.vm → w.before a' U = true) ∧ Cond.codeWith y bytes maxL ret hh ∈ ws) ∧
  (Cond.codeWith y bytes maxL ret hh).before args s = true ∧ (Cond.initialized y.cls).before args s = true ∧ (y.cls ≠ "java/lang/invoke/MethodHandle" ∧ y.cls ≠ "java/lang/invoke/VarHandle") ∧
  (∀ sig, parseMethodDescriptor y.desc = some sig → n = sig.parameters.length) ∧ (Cond.methodLink own index y).before args s = true ∧ (Cond.instanceMethod y).before args s = true ∧ (Cond.selects C y y).before args s = true
theorem vx_cwVW {own C : String} {index maxL mc ms : Nat} {y : MethodName} {bytes : ByteArray} {ret : Option FieldType} {hh : List (Nat × Nat × Nat × Nat)} {Ts ws ws' : List Cond} {rm : Room} (n : Nat) (ht : ∀ w ∈ Ts, w.before args s = true) (hT : GoodIn Ts (wsV own index C y ws)) (hw : ws = Cond.codeWith y bytes maxL ret hh :: ws') (hrc : rm.cells = mc) (hrs : rm.slots = ms)
    (hd : y.cls = C ∧ y.cls ≠ "java/lang/invoke/MethodHandle" ∧ y.cls ≠ "java/lang/invoke/VarHandle" ∧ (parseMethodDescriptor y.desc).map (fun d => d.parameters.length) = some n) (hR : rm.frames + 1 ≤ R.frames ∧ 8 + (maxL + 11) + rm.locals ≤ R.locals) :
    vx_CVW R s args own C index y bytes maxL ret hh ws rm mc ms n := by
  obtain ⟨hC, hd⟩ := hd
  subst hC
  have ok : ∀ w ∈ wsV own index y.cls y ws, w.before args s = true := fun w h => ht w (hT w h).1
  have hG : GoodIn Ts ws := fun w h => hT w (by unfold wsV; exact List.mem_append_right _ h)
  have hc : Cond.codeWith y bytes maxL ret hh ∈ ws := by rw [hw]; exact List.mem_cons_self
  refine ⟨⟨hrc, hrs, hR.1, hR.2, pay_in ht hG, hc⟩, ht _ (hG _ hc).1, ok _ (by simp [wsV]), ⟨hd.1, hd.2.1⟩, fun sig h => ?_, ok _ (by simp [wsV]), ok _ (by simp [wsV]), ok _ (by simp [wsV])⟩
  have h2 := hd.2.2
  rw [h] at h2
  exact (Option.some.inj h2).symm
theorem vx_runVW {y : MethodName} {bytes cc : ByteArray} {maxL nL mc ms n index : Nat} {ret : Option FieldType} {hh : List (Nat × Nat × Nat × Nat)} {ws : List Cond} {rm : Room} {Pc : Array Value → State → Prop} {Qc : Array Value → State → Outcome → State → Prop} {free : Addr → Prop} {Ts : List Cond} {own C : String} {b : Addr} {As rest : List Value} {g : JFrame}
    (S : CallFix p m c cc nL s args Ts own) (hM : Met l y ws rm Pc Qc mc ms free) (cw : vx_CVW R s args own C index y bytes maxL ret hh ws rm mc ms n) (hp : PreV s H C b Pc As)
    (hg : g.method = m) (hn : As.length = n) (hsize : g.locals.size = nL) (hstack : g.stack = As.reverse ++ .ref b :: rest) (hW : 2 * g.monitorRoom + (rest.map fun v => v.category).sum ≤ 8) (hdg : decode cc g.pc = .ok (.invokevirtual index, 3)) (hf : cells + mc ≤ R.cells ∧ slots + ms ≤ R.slots) :
    va_Run p l e R s m args below meth c H locs cells slots mc ms g rest (Qc (Value.ref b :: As).toArray) free := by
  obtain ⟨⟨hrc, hrs, hfr, hlo, hws, hcw⟩, hcode, hini, hy, hlen, hl, hin, hse⟩ := cw
  have hK : Back l R p e below s args y 3 8 (PreOf R mc ms Pc) (PostOf Qc mc ms free) := va_backW (hh := hh) (bytes := bytes) (maxL := maxL) (ret := ret) hM hp.1 hrc hrs hfr hlo hws hcw (fun a' U hW => word_at hW (Or.inl (by first | rfl | simp [Cond.onTables, Cond.keeps, Cond.steady])) hini)
  obtain ⟨hx, hb, hml, ho, -⟩ := S
  obtain ⟨-, ⟨cellB, hcB, hoB, hclB⟩, hPc⟩ := hp
  intro T hT X
  obtain ⟨v, vm₁, ⟨U', l2, c2, s2⟩, hW₁, X', ⟨g', mk, t, L, e1, e2, hq, h1, hL, h2, h3⟩, st⟩ := vx_callVW X hx (C := C) (hh := hh) (bytes := bytes) (maxL := maxL) (ret := ret) ho hl hin hse hcode hy hK (by rw [hT]; exact hcB) hoB hclB hg (hsize.trans hml.symm) (argsL := As) (rest := rest) (fun sig h => hn.trans (hlen sig h)) hstack hW (by rw [hb]; exact hdg)
    (fun vm₁ hW₁ => ⟨hf.1, hf.2, hPc (T.setVm vm₁) hT hW₁⟩)
  dsimp only [Pt.U, Pt.locs, Pt.cells, Pt.slots] at X' e1 e2 h1 h2 h3 st
  subst h1; subst h2; subst h3
  exact ⟨v, (T.setVm vm₁).calling g' mk (Value.ref b :: As).toArray, t, U', L, hT, X', hL, e1, e2, hq, st⟩
section
variable {y : MethodName} {bytes cc : ByteArray} {maxL nL mc ms n index : Nat} {ret : Option FieldType} {ws : List Cond} {rm : Room} {Pc : Array Value → State → Prop} {Qc : Array Value → State → Outcome → State → Prop} {XC : String → State → State → Prop} {free : Addr → Prop} {Ts : List Cond} {own C : String} {b : Addr} {As rest : List Value} {g : JFrame}
theorem vx_runVX {hh : List (Nat × Nat × Nat × Nat)} (S : CallFix p m c cc nL s args Ts own) (hM : vx_Met l y ws rm Pc Qc XC mc ms free) (cw : vx_CVW R s args own C index y bytes maxL ret hh ws rm mc ms n) (hp : PreV s H C b Pc As)
    (hg : g.method = m) (hn : As.length = n) (hsize : g.locals.size = nL) (hstack : g.stack = As.reverse ++ .ref b :: rest) (hW : 2 * g.monitorRoom + (rest.map fun v => v.category).sum ≤ 8) (hdg : decode cc g.pc = .ok (.invokevirtual index, 3)) (hf : cells + mc ≤ R.cells ∧ slots + ms ≤ R.slots) :
    vx_Run p l e R s m args below meth c H locs cells slots mc ms g rest (Qc (Value.ref b :: As).toArray) XC free := by
  obtain ⟨⟨hrc, hrs, hfr, hlo, hws, hcw⟩, hcode, hini, hy, hlen, hl, hin, hse⟩ := cw
  have hK : vx_Back l R p e below s args y 3 8 (PreOf R mc ms Pc) (PostOf Qc mc ms free) (vx_Post XC mc ms free) := vx_backW (hh := hh) (bytes := bytes) (maxL := maxL) (ret := ret) hM hp.1 hrc hrs hfr hlo hws hcw (fun a' U hW => word_at hW (Or.inl (by first | rfl | simp [Cond.onTables, Cond.keeps, Cond.steady])) hini)
  obtain ⟨hx, hb, hml, ho, -⟩ := S
  obtain ⟨-, ⟨cellB, hcB, hoB, hclB⟩, hPc⟩ := hp
  intro T hT X
  rcases vx_callVX X hx (C := C) (hh := hh) (bytes := bytes) (maxL := maxL) (ret := ret) ho hl hin hse hcode hy hK (by rw [hT]; exact hcB) hoB hclB hg (hsize.trans hml.symm) (argsL := As) (rest := rest) (fun sig h => hn.trans (hlen sig h)) hstack hW (by rw [hb]; exact hdg)
    (fun vm₁ hW₁ => ⟨hf.1, hf.2, hPc (T.setVm vm₁) hT hW₁⟩) with ⟨v, vm₁, ⟨U', l2, c2, s2⟩, hW₁, X', ⟨g', mk, t, L, e1, e2, hq, h1, hL, h2, h3⟩, st⟩ | ⟨q, vm₁, ⟨U', l2, c2, s2⟩, hW₁, X', ⟨g', mk, t, L, E, ce, e1, e2, hq, hce, hcv, hcl, h1, hL, h2, h3⟩, st⟩
  · dsimp only [Pt.U, Pt.locs, Pt.cells, Pt.slots] at X' e1 e2 h1 h2 h3 st
    subst h1; subst h2; subst h3
    exact Or.inl ⟨v, (T.setVm vm₁).calling g' mk (Value.ref b :: As).toArray, t, U', L, hT, X', hL, e1, e2, hq, st⟩
  · dsimp only [Pt.U, Pt.locs, Pt.cells, Pt.slots] at X' e1 e2 h1 h2 h3 st hcl
    subst h1; subst h2; subst h3
    exact Or.inr ⟨q, (T.setVm vm₁).calling g' mk (Value.ref b :: As).toArray, t, U', L, E, ce, hT, X', hL, e1, e2, hq, hce, hcv, vx_cls hW₁ hcl, st⟩
theorem vx_runSX {hh : List (Nat × Nat × Nat × Nat)} (S : CallFix p m c cc nL s args Ts own) (hM : vx_Met l y ws rm Pc Qc XC mc ms free) (cw : vx_CSW R s args own index y bytes maxL ret hh ws rm mc ms n) (hp : PreS s H Pc As)
    (hg : g.method = m) (hn : As.length = n) (hsize : g.locals.size = nL) (hstack : g.stack = As.reverse ++ rest) (hW : 2 * g.monitorRoom + (rest.map fun v => v.category).sum ≤ 8) (hdg : decode cc g.pc = .ok (.invokestatic index, 3)) (hf : cells + mc ≤ R.cells ∧ slots + ms ≤ R.slots) :
    vx_Run p l e R s m args below meth c H locs cells slots mc ms g rest (Qc As.toArray) XC free := by
  obtain ⟨⟨hrc, hrs, hfr, hlo, hws, hcw⟩, hcode, hini, hy, hlen, hl, hstt⟩ := cw
  have hK : vx_Back l R p e below s args y 3 8 (PreOf R mc ms Pc) (PostOf Qc mc ms free) (vx_Post XC mc ms free) := vx_backW (hh := hh) (bytes := bytes) (maxL := maxL) (ret := ret) hM hp.1 hrc hrs hfr hlo hws hcw (fun a' U hW => word_at hW (Or.inl (by first | rfl | simp [Cond.onTables, Cond.keeps, Cond.steady])) hini)
  obtain ⟨hx, hb, hml, ho, -⟩ := S
  intro T hT X
  rcases vx_callSX X hx (hh := hh) (bytes := bytes) (maxL := maxL) (ret := ret) ho hl hstt hini hcode hy hK hg (hsize.trans hml.symm) (argsL := As) (rest := rest) (fun sig h => hn.trans (hlen sig h)) hstack hW (by rw [hb]; exact hdg)
    (fun vm₁ hW₁ => ⟨hf.1, hf.2, hp.2 (T.setVm vm₁) hT hW₁⟩) with ⟨v, vm₁, ⟨U', l2, c2, s2⟩, hW₁, X', ⟨g', mk, t, L, e1, e2, hq, h1, hL, h2, h3⟩, st⟩ | ⟨q, vm₁, ⟨U', l2, c2, s2⟩, hW₁, X', ⟨g', mk, t, L, E, ce, e1, e2, hq, hce, hcv, hcl, h1, hL, h2, h3⟩, st⟩
  · dsimp only [Pt.U, Pt.locs, Pt.cells, Pt.slots] at X' e1 e2 h1 h2 h3 st
    subst h1; subst h2; subst h3
    exact Or.inl ⟨v, (T.setVm vm₁).calling g' mk As.toArray, t, U', L, hT, X', hL, e1, e2, hq, st⟩
  · dsimp only [Pt.U, Pt.locs, Pt.cells, Pt.slots] at X' e1 e2 h1 h2 h3 st hcl
    subst h1; subst h2; subst h3
    exact Or.inr ⟨q, (T.setVm vm₁).calling g' mk As.toArray, t, U', L, E, ce, hT, X', hL, e1, e2, hq, hce, hcv, vx_cls hW₁ hcl, st⟩
end
end VXH
theorem vx_ofWH {l : Launch} {y : MethodName} {ws ws' : List Cond} {rm : Room} {Pc : Array Value → State → Prop} {Qc : Array Value → State → Outcome → State → Prop} {XC : String → State → State → Prop} {mc ms : Nat} {free : Addr → Prop} {cc : ByteArray} {maxL : Nat} {ret : Option FieldType} {hh : List (Nat × Nat × Nat × Nat)}
    (hy : plainName y.cls = true) (hw : ws = Cond.codeWith y cc maxL ret hh :: ws')
    (body : ∀ p e s m args below meth c s₁, BodyLoose p l y (headSpec ws rm) cc maxL ret e s m args below meth c s₁ → c.maxLocals = maxL → Pc args s →
      W p l e (headSpec ws rm).room s m args below meth c s.heap [] 0 0 (vx_MQ below Qc XC args s mc ms free) (entryFrame m args maxL)) : vx_Met l y ws rm Pc Qc XC mc ms free := by
  refine MetFree.of_bodyS (code := cc) (maxLocals := maxL) (ret := ret) hy ?_ ?_
  · intro args s m h hn
    obtain ⟨m9, meth, c, hn9, h1, h2, h3, h4, -, h5, h6, -⟩ := Cond.codeWith_spec (atoms_spec (ws := ws) h _ (by rw [hw]; exact List.mem_cons_self))
    cases hn.symm.trans hn9
    exact ⟨meth, c, h1, h2, h3, h4, h5, h6⟩
  · intro p e s m args below meth c s₁ B hml hP _
    have hh0 : s₁.heap = s.heap := by rw [B.state]; rfl
    obtain ⟨t, a1, o, b1, b2, b3⟩ := body p e s m args below meth c s₁ B hml hP s₁ hh0 (Stand.of_body B)
    exact ⟨t, o, a1, b1, b2, b3⟩
/-! ===== END ===== -/
end
section
/-! ===== BEGIN printed: names, fields, word lists, decode rows ===== -/
def RX0 : String := "Burnerline$Ahead"
def TX0 : u_T := fun k => match k with
  | 0 => ("Burnerline$Ahead", "furnace", "LBurnerline$Furnace;", true)
  | _ => ("Burnerline$Ahead", "next", "LBurnerline$Ahead;", true)
def tyX0 : Nat → FieldType := fun k => match k with
  | 0 => .object "Burnerline$Furnace"
  | _ => .object "Burnerline$Ahead"
abbrev wsX00 : List Cond := u_ws RX0 TX0 2
theorem nmX0 : ∀ a, a < 2 → ∀ b, b < 2 → a ≠ b → (TX0 a).2.1 ≠ (TX0 b).2.1 := by decide +kernel
theorem tyX0_ok : ∀ k, k < 2 → parseFieldDescriptor (TX0 k).2.2.1 = some (tyX0 k) := by decide +kernel
abbrev cX0_init : ByteArray := prog_2_method_1_code
def yX0_init : MethodName := ⟨RX0, "<init>", "(LBurnerline$Settings;LBurnerline$Ahead;)V"⟩
def RX1 : String := "Burnerline$Eye"
def TX1 : u_T := fun k => match k with
  | 0 => ("Burnerline$Eye", "seesFlame", "Z", false)
  | _ => ("Burnerline$Eye", "row", "I", false)
def tyX1 : Nat → FieldType := fun k => match k with
  | 0 => .boolean
  | _ => .int
abbrev wsX10 : List Cond := u_ws RX1 TX1 2
theorem nmX1 : ∀ a, a < 2 → ∀ b, b < 2 → a ≠ b → (TX1 a).2.1 ≠ (TX1 b).2.1 := by decide +kernel
theorem tyX1_ok : ∀ k, k < 2 → parseFieldDescriptor (TX1 k).2.2.1 = some (tyX1 k) := by decide +kernel
abbrev cX1_init : ByteArray := prog_3_method_1_code
def yX1_init : MethodName := ⟨RX1, "<init>", "()V"⟩
abbrev cX1_copyFrom : ByteArray := prog_3_method_2_code
def yX1_copyFrom : MethodName := ⟨RX1, "copyFrom", "(LBurnerline$Eye;)V"⟩
abbrev cX1_look : ByteArray := prog_3_method_3_code
def yX1_look : MethodName := ⟨RX1, "look", "(ZI)V"⟩
def RX2 : String := "Burnerline$Furnace"
def TX2 : u_T := fun k => match k with
  | 0 => ("Burnerline$Furnace", "settings", "LBurnerline$Settings;", true)
  | 1 => ("Burnerline$Furnace", "pilotEye", "LBurnerline$Eye;", true)
  | 2 => ("Burnerline$Furnace", "mainEye", "LBurnerline$Eye;", true)
  | 3 => ("Burnerline$Furnace", "state", "I", false)
  | 4 => ("Burnerline$Furnace", "reason", "I", false)
  | 5 => ("Burnerline$Furnace", "time", "I", false)
  | 6 => ("Burnerline$Furnace", "air", "I", false)
  | 7 => ("Burnerline$Furnace", "fuel", "I", false)
  | 8 => ("Burnerline$Furnace", "purged", "I", false)
  | 9 => ("Burnerline$Furnace", "unlit", "I", false)
  | _ => ("Burnerline$Furnace", "longestUnlit", "I", false)
def tyX2 : Nat → FieldType := fun k => match k with
  | 0 => .object "Burnerline$Settings"
  | 1 => .object "Burnerline$Eye"
  | 2 => .object "Burnerline$Eye"
  | 3 => .int
  | 4 => .int
  | 5 => .int
  | 6 => .int
  | 7 => .int
  | 8 => .int
  | 9 => .int
  | _ => .int
abbrev wsX20 : List Cond := u_ws RX2 TX2 11
theorem nmX2 : ∀ a, a < 11 → ∀ b, b < 11 → a ≠ b → (TX2 a).2.1 ≠ (TX2 b).2.1 := by decide +kernel
theorem tyX2_ok : ∀ k, k < 11 → parseFieldDescriptor (TX2 k).2.2.1 = some (tyX2 k) := by decide +kernel
abbrev cX2_init : ByteArray := prog_4_method_1_code
def yX2_init : MethodName := ⟨RX2, "<init>", "(LBurnerline$Settings;)V"⟩
abbrev cX2_copyFrom : ByteArray := prog_4_method_2_code
def yX2_copyFrom : MethodName := ⟨RX2, "copyFrom", "(LBurnerline$Furnace;)V"⟩
abbrev cX2_hasFlame : ByteArray := prog_4_method_3_code
def yX2_hasFlame : MethodName := ⟨RX2, "hasFlame", "()Z"⟩
abbrev cX2_isLockedOut : ByteArray := prog_4_method_4_code
def yX2_isLockedOut : MethodName := ⟨RX2, "isLockedOut", "()Z"⟩
abbrev cX2_isPilotOpen : ByteArray := prog_4_method_5_code
def yX2_isPilotOpen : MethodName := ⟨RX2, "isPilotOpen", "()Z"⟩
abbrev cX2_isMainOpen : ByteArray := prog_4_method_6_code
def yX2_isMainOpen : MethodName := ⟨RX2, "isMainOpen", "()Z"⟩
abbrev cX2_tick : ByteArray := prog_4_method_7_code
def yX2_tick : MethodName := ⟨RX2, "tick", "(I)Z"⟩
abbrev cX2_look : ByteArray := prog_4_method_8_code
def yX2_look : MethodName := ⟨RX2, "look", "(LBurnerline$Eye;Z)V"⟩
abbrev cX2_movePositions : ByteArray := prog_4_method_9_code
def yX2_movePositions : MethodName := ⟨RX2, "movePositions", "()V"⟩
abbrev cX2_airGoal : ByteArray := prog_4_method_10_code
def yX2_airGoal : MethodName := ⟨RX2, "airGoal", "()I"⟩
abbrev cX2_fuelGoal : ByteArray := prog_4_method_11_code
def yX2_fuelGoal : MethodName := ⟨RX2, "fuelGoal", "()I"⟩
abbrev cX2_moved : ByteArray := prog_4_method_12_code
def yX2_moved : MethodName := ⟨RX2, "moved", "(III)I"⟩
abbrev cX2_sequence : ByteArray := prog_4_method_13_code
def yX2_sequence : MethodName := ⟨RX2, "sequence", "(I)Z"⟩
abbrev cX2_sequenceOff : ByteArray := prog_4_method_14_code
def yX2_sequenceOff : MethodName := ⟨RX2, "sequenceOff", "(I)Z"⟩
abbrev cX2_sequencePurge : ByteArray := prog_4_method_15_code
def yX2_sequencePurge : MethodName := ⟨RX2, "sequencePurge", "(I)Z"⟩
abbrev cX2_sequenceLighting : ByteArray := prog_4_method_16_code
def yX2_sequenceLighting : MethodName := ⟨RX2, "sequenceLighting", "(I)Z"⟩
abbrev cX2_lightPilot : ByteArray := prog_4_method_17_code
def yX2_lightPilot : MethodName := ⟨RX2, "lightPilot", "()Z"⟩
abbrev cX2_lightMain : ByteArray := prog_4_method_18_code
def yX2_lightMain : MethodName := ⟨RX2, "lightMain", "()Z"⟩
abbrev cX2_sequenceRun : ByteArray := prog_4_method_19_code
def yX2_sequenceRun : MethodName := ⟨RX2, "sequenceRun", "(I)Z"⟩
abbrev cX2_isCheckDue : ByteArray := prog_4_method_20_code
def yX2_isCheckDue : MethodName := ⟨RX2, "isCheckDue", "()Z"⟩
abbrev cX2_sequenceAfterPurge : ByteArray := prog_4_method_21_code
def yX2_sequenceAfterPurge : MethodName := ⟨RX2, "sequenceAfterPurge", "()Z"⟩
abbrev cX2_lockOut : ByteArray := prog_4_method_22_code
def yX2_lockOut : MethodName := ⟨RX2, "lockOut", "(I)Z"⟩
abbrev cX2_begin : ByteArray := prog_4_method_23_code
def yX2_begin : MethodName := ⟨RX2, "begin", "(II)Z"⟩
abbrev cX2_countUnlit : ByteArray := prog_4_method_24_code
def yX2_countUnlit : MethodName := ⟨RX2, "countUnlit", "(Z)V"⟩
def RX3 : String := "Burnerline$History"
def TX3 : u_T := fun k => match k with
  | 0 => ("Burnerline$History", "tickRow", "[I", true)
  | 1 => ("Burnerline$History", "stateRow", "[I", true)
  | 2 => ("Burnerline$History", "reasonRow", "[I", true)
  | 3 => ("Burnerline$History", "added", "I", false)
  | 4 => ("Burnerline$History", "kept", "I", false)
  | _ => ("Burnerline$History", "place", "I", false)
def tyX3 : Nat → FieldType := fun k => match k with
  | 0 => .array .int
  | 1 => .array .int
  | 2 => .array .int
  | 3 => .int
  | 4 => .int
  | _ => .int
abbrev wsX30 : List Cond := u_ws RX3 TX3 6
theorem nmX3 : ∀ a, a < 6 → ∀ b, b < 6 → a ≠ b → (TX3 a).2.1 ≠ (TX3 b).2.1 := by decide +kernel
theorem tyX3_ok : ∀ k, k < 6 → parseFieldDescriptor (TX3 k).2.2.1 = some (tyX3 k) := by decide +kernel
abbrev cX3_init : ByteArray := prog_5_method_1_code
def yX3_init : MethodName := ⟨RX3, "<init>", "()V"⟩
abbrev cX3_add : ByteArray := prog_5_method_2_code
def yX3_add : MethodName := ⟨RX3, "add", "(III)V"⟩
abbrev cX3_has : ByteArray := prog_5_method_3_code
def yX3_has : MethodName := ⟨RX3, "has", "(I)Z"⟩
abbrev cX3_read : ByteArray := prog_5_method_4_code
def yX3_read : MethodName := ⟨RX3, "read", "([II)I"⟩
def RX4 : String := "Burnerline$Resets"
def TX4 : u_T := fun k => match k with
  | 0 => ("Burnerline$Resets", "last", "I", false)
  | 1 => ("Burnerline$Resets", "second", "I", false)
  | _ => ("Burnerline$Resets", "third", "I", false)
def tyX4 : Nat → FieldType := fun k => match k with
  | 0 => .int
  | 1 => .int
  | _ => .int
abbrev wsX40 : List Cond := u_ws RX4 TX4 3
theorem nmX4 : ∀ a, a < 3 → ∀ b, b < 3 → a ≠ b → (TX4 a).2.1 ≠ (TX4 b).2.1 := by decide +kernel
theorem tyX4_ok : ∀ k, k < 3 → parseFieldDescriptor (TX4 k).2.2.1 = some (tyX4 k) := by decide +kernel
abbrev cX4_init : ByteArray := prog_6_method_1_code
def yX4_init : MethodName := ⟨RX4, "<init>", "()V"⟩
abbrev cX4_add : ByteArray := prog_6_method_2_code
def yX4_add : MethodName := ⟨RX4, "add", "(I)V"⟩
abbrev cX4_recent : ByteArray := prog_6_method_3_code
def yX4_recent : MethodName := ⟨RX4, "recent", "(I)I"⟩
abbrev cX4_countOf : ByteArray := prog_6_method_4_code
def yX4_countOf : MethodName := ⟨RX4, "countOf", "(II)I"⟩
def RX5 : String := "Burnerline$Settings"
def TX5 : u_T := fun k => match k with
  | 0 => ("Burnerline$Settings", "rate", "I", false)
  | 1 => ("Burnerline$Settings", "longestPurge", "I", false)
  | 2 => ("Burnerline$Settings", "longestPilot", "I", false)
  | 3 => ("Burnerline$Settings", "longestMain", "I", false)
  | 4 => ("Burnerline$Settings", "afterPurge", "I", false)
  | 5 => ("Burnerline$Settings", "ticksToLight", "I", false)
  | 6 => ("Burnerline$Settings", "ticksToNone", "I", false)
  | 7 => ("Burnerline$Settings", "ticksToCheck", "I", false)
  | 8 => ("Burnerline$Settings", "volume", "I", false)
  | 9 => ("Burnerline$Settings", "airStep", "I", false)
  | _ => ("Burnerline$Settings", "fuelStep", "I", false)
def tyX5 : Nat → FieldType := fun k => match k with
  | 0 => .int
  | 1 => .int
  | 2 => .int
  | 3 => .int
  | 4 => .int
  | 5 => .int
  | 6 => .int
  | 7 => .int
  | 8 => .int
  | 9 => .int
  | _ => .int
abbrev wsX50 : List Cond := u_ws RX5 TX5 11
theorem nmX5 : ∀ a, a < 11 → ∀ b, b < 11 → a ≠ b → (TX5 a).2.1 ≠ (TX5 b).2.1 := by decide +kernel
theorem tyX5_ok : ∀ k, k < 11 → parseFieldDescriptor (TX5 k).2.2.1 = some (tyX5 k) := by decide +kernel
abbrev cX5_init : ByteArray := prog_7_method_1_code
def yX5_init : MethodName := ⟨RX5, "<init>", "()V"⟩
def RX6 : String := "Burnerline"
def TX6 : u_T := fun k => match k with
  | 0 => ("Burnerline", "settings", "LBurnerline$Settings;", true)
  | 1 => ("Burnerline", "furnace", "LBurnerline$Furnace;", true)
  | 2 => ("Burnerline", "history", "LBurnerline$History;", true)
  | 3 => ("Burnerline", "resets", "LBurnerline$Resets;", true)
  | 4 => ("Burnerline", "ahead", "LBurnerline$Ahead;", true)
  | 5 => ("Burnerline", "signals", "I", false)
  | _ => ("Burnerline", "ticks", "I", false)
def tyX6 : Nat → FieldType := fun k => match k with
  | 0 => .object "Burnerline$Settings"
  | 1 => .object "Burnerline$Furnace"
  | 2 => .object "Burnerline$History"
  | 3 => .object "Burnerline$Resets"
  | 4 => .object "Burnerline$Ahead"
  | 5 => .int
  | _ => .int
abbrev wsX60 : List Cond := u_ws RX6 TX6 7
theorem nmX6 : ∀ a, a < 7 → ∀ b, b < 7 → a ≠ b → (TX6 a).2.1 ≠ (TX6 b).2.1 := by decide +kernel
theorem tyX6_ok : ∀ k, k < 7 → parseFieldDescriptor (TX6 k).2.2.1 = some (tyX6 k) := by decide +kernel
abbrev cX6_init : ByteArray := prog_1_method_1_code
def yX6_init : MethodName := ⟨RX6, "<init>", "()V"⟩
abbrev cX6_signal : ByteArray := prog_1_method_2_code
def yX6_signal : MethodName := ⟨RX6, "signal", "(IZ)Z"⟩
abbrev cX6_setRate : ByteArray := prog_1_method_3_code
def yX6_setRate : MethodName := ⟨RX6, "setRate", "(I)I"⟩
abbrev cX6_setTimes : ByteArray := prog_1_method_4_code
def yX6_setTimes : MethodName := ⟨RX6, "setTimes", "(IIII)V"⟩
abbrev cX6_setEyes : ByteArray := prog_1_method_5_code
def yX6_setEyes : MethodName := ⟨RX6, "setEyes", "(III)V"⟩
abbrev cX6_setFurnace : ByteArray := prog_1_method_6_code
def yX6_setFurnace : MethodName := ⟨RX6, "setFurnace", "(III)V"⟩
abbrev cX6_poll : ByteArray := prog_1_method_7_code
def yX6_poll : MethodName := ⟨RX6, "poll", "(I)I"⟩
abbrev cX6_reset : ByteArray := prog_1_method_8_code
def yX6_reset : MethodName := ⟨RX6, "reset", "()I"⟩
abbrev cX6_ticks : ByteArray := prog_1_method_9_code
def yX6_ticks : MethodName := ⟨RX6, "ticks", "()I"⟩
abbrev cX6_state : ByteArray := prog_1_method_10_code
def yX6_state : MethodName := ⟨RX6, "state", "()I"⟩
abbrev cX6_reason : ByteArray := prog_1_method_11_code
def yX6_reason : MethodName := ⟨RX6, "reason", "()I"⟩
abbrev cX6_time : ByteArray := prog_1_method_12_code
def yX6_time : MethodName := ⟨RX6, "time", "()I"⟩
abbrev cX6_isOpen : ByteArray := prog_1_method_13_code
def yX6_isOpen : MethodName := ⟨RX6, "isOpen", "(Z)Z"⟩
abbrev cX6_sees : ByteArray := prog_1_method_14_code
def yX6_sees : MethodName := ⟨RX6, "sees", "(Z)Z"⟩
abbrev cX6_air : ByteArray := prog_1_method_15_code
def yX6_air : MethodName := ⟨RX6, "air", "()I"⟩
abbrev cX6_fuel : ByteArray := prog_1_method_16_code
def yX6_fuel : MethodName := ⟨RX6, "fuel", "()I"⟩
abbrev cX6_purged : ByteArray := prog_1_method_17_code
def yX6_purged : MethodName := ⟨RX6, "purged", "()I"⟩
abbrev cX6_unlit : ByteArray := prog_1_method_18_code
def yX6_unlit : MethodName := ⟨RX6, "unlit", "()I"⟩
abbrev cX6_longestUnlit : ByteArray := prog_1_method_19_code
def yX6_longestUnlit : MethodName := ⟨RX6, "longestUnlit", "()I"⟩
abbrev cX6_changes : ByteArray := prog_1_method_20_code
def yX6_changes : MethodName := ⟨RX6, "changes", "()I"⟩
abbrev cX6_records : ByteArray := prog_1_method_21_code
def yX6_records : MethodName := ⟨RX6, "records", "()I"⟩
abbrev cX6_tickOf : ByteArray := prog_1_method_22_code
def yX6_tickOf : MethodName := ⟨RX6, "tickOf", "(I)I"⟩
abbrev cX6_stateOf : ByteArray := prog_1_method_23_code
def yX6_stateOf : MethodName := ⟨RX6, "stateOf", "(I)I"⟩
abbrev cX6_reasonOf : ByteArray := prog_1_method_24_code
def yX6_reasonOf : MethodName := ⟨RX6, "reasonOf", "(I)I"⟩
abbrev cX6_couldBe : ByteArray := prog_1_method_25_code
def yX6_couldBe : MethodName := ⟨RX6, "couldBe", "(II)Z"⟩
abbrev cX6_reasonsAhead : ByteArray := prog_1_method_26_code
def yX6_reasonsAhead : MethodName := ⟨RX6, "reasonsAhead", "(I)I"⟩
abbrev cX6_toPilot : ByteArray := prog_1_method_27_code
def yX6_toPilot : MethodName := ⟨RX6, "toPilot", "()I"⟩
abbrev cX6_isOn : ByteArray := prog_1_method_28_code
def yX6_isOn : MethodName := ⟨RX6, "isOn", "(II)Z"⟩
abbrev cX6_isOutside : ByteArray := prog_1_method_29_code
def yX6_isOutside : MethodName := ⟨RX6, "isOutside", "(III)Z"⟩
abbrev cX6_refuseUnlessOff : ByteArray := prog_1_method_30_code
def yX6_refuseUnlessOff : MethodName := ⟨RX6, "refuseUnlessOff", "()V"⟩
abbrev cX6_recordChange : ByteArray := prog_1_method_31_code
def yX6_recordChange : MethodName := ⟨RX6, "recordChange", "()V"⟩
abbrev cX6_walk : ByteArray := prog_1_method_32_code
def yX6_walk : MethodName := ⟨RX6, "walk", "(LBurnerline$Ahead;LBurnerline$Furnace;I)I"⟩
abbrev cX6_foundAt : ByteArray := prog_1_method_33_code
def yX6_foundAt : MethodName := ⟨RX6, "foundAt", "(LBurnerline$Furnace;)I"⟩
abbrev cX6_tellingSignals : ByteArray := prog_1_method_34_code
def yX6_tellingSignals : MethodName := ⟨RX6, "tellingSignals", "(I)I"⟩
def RX7 : String := "BurnerlineModel"
def TX7 : u_T := fun k => match k with
  | 0 => ("BurnerlineModel", "signals", "I", false)
  | 1 => ("BurnerlineModel", "rate", "I", false)
  | 2 => ("BurnerlineModel", "longPurge", "I", false)
  | 3 => ("BurnerlineModel", "longPilot", "I", false)
  | 4 => ("BurnerlineModel", "longMain", "I", false)
  | 5 => ("BurnerlineModel", "longAfter", "I", false)
  | 6 => ("BurnerlineModel", "light", "I", false)
  | 7 => ("BurnerlineModel", "none", "I", false)
  | 8 => ("BurnerlineModel", "check", "I", false)
  | 9 => ("BurnerlineModel", "volume", "I", false)
  | 10 => ("BurnerlineModel", "airStep", "I", false)
  | 11 => ("BurnerlineModel", "fuelStep", "I", false)
  | 12 => ("BurnerlineModel", "state", "I", false)
  | 13 => ("BurnerlineModel", "why", "I", false)
  | 14 => ("BurnerlineModel", "time", "I", false)
  | 15 => ("BurnerlineModel", "air", "I", false)
  | 16 => ("BurnerlineModel", "fuel", "I", false)
  | 17 => ("BurnerlineModel", "purged", "I", false)
  | 18 => ("BurnerlineModel", "seen", "I", false)
  | 19 => ("BurnerlineModel", "pilotRow", "I", false)
  | 20 => ("BurnerlineModel", "mainRow", "I", false)
  | 21 => ("BurnerlineModel", "ticks", "I", false)
  | 22 => ("BurnerlineModel", "unlit", "I", false)
  | 23 => ("BurnerlineModel", "longestUnlit", "I", false)
  | 24 => ("BurnerlineModel", "changes", "I", false)
  | 25 => ("BurnerlineModel", "changedAt", "[I", true)
  | 26 => ("BurnerlineModel", "changedTo", "[I", true)
  | 27 => ("BurnerlineModel", "changedFor", "[I", true)
  | 28 => ("BurnerlineModel", "resets", "I", false)
  | 29 => ("BurnerlineModel", "resetAt", "[I", true)
  | 30 => ("BurnerlineModel", "now", "[J", true)
  | 31 => ("BurnerlineModel", "then", "[J", true)
  | 32 => ("BurnerlineModel", "states", "I", false)
  | 33 => ("BurnerlineModel", "reasons", "I", false)
  | _ => ("BurnerlineModel", "thrown", "I", false)
def tyX7 : Nat → FieldType := fun k => match k with
  | 0 => .int
  | 1 => .int
  | 2 => .int
  | 3 => .int
  | 4 => .int
  | 5 => .int
  | 6 => .int
  | 7 => .int
  | 8 => .int
  | 9 => .int
  | 10 => .int
  | 11 => .int
  | 12 => .int
  | 13 => .int
  | 14 => .int
  | 15 => .int
  | 16 => .int
  | 17 => .int
  | 18 => .int
  | 19 => .int
  | 20 => .int
  | 21 => .int
  | 22 => .int
  | 23 => .int
  | 24 => .int
  | 25 => .array .int
  | 26 => .array .int
  | 27 => .array .int
  | 28 => .int
  | 29 => .array .int
  | 30 => .array .long
  | 31 => .array .long
  | 32 => .int
  | 33 => .int
  | _ => .int
abbrev wsX70 : List Cond := u_ws RX7 TX7 35
theorem nmX7 : ∀ a, a < 35 → ∀ b, b < 35 → a ≠ b → (TX7 a).2.1 ≠ (TX7 b).2.1 := by decide +kernel
theorem tyX7_ok : ∀ k, k < 35 → parseFieldDescriptor (TX7 k).2.2.1 = some (tyX7 k) := by decide +kernel
abbrev cX7_init : ByteArray := prog_9_method_1_code
def yX7_init : MethodName := ⟨RX7, "<init>", "()V"⟩
abbrev cX7_thrown : ByteArray := prog_9_method_2_code
def yX7_thrown : MethodName := ⟨RX7, "thrown", "()I"⟩
abbrev cX7_asks : ByteArray := prog_9_method_4_code
def yX7_asks : MethodName := ⟨RX7, "asks", "(Z)Z"⟩
abbrev cX7_in : ByteArray := prog_9_method_5_code
def yX7_in : MethodName := ⟨RX7, "in", "(III)Z"⟩
abbrev cX7_signal : ByteArray := prog_9_method_6_code
def yX7_signal : MethodName := ⟨RX7, "signal", "(IZ)Z"⟩
abbrev cX7_setRate : ByteArray := prog_9_method_7_code
def yX7_setRate : MethodName := ⟨RX7, "setRate", "(I)I"⟩
abbrev cX7_asksSetting : ByteArray := prog_9_method_8_code
def yX7_asksSetting : MethodName := ⟨RX7, "asksSetting", "(Z)Z"⟩
abbrev cX7_setTimes : ByteArray := prog_9_method_9_code
def yX7_setTimes : MethodName := ⟨RX7, "setTimes", "(IIII)V"⟩
abbrev cX7_setEyes : ByteArray := prog_9_method_10_code
def yX7_setEyes : MethodName := ⟨RX7, "setEyes", "(III)V"⟩
abbrev cX7_setFurnace : ByteArray := prog_9_method_11_code
def yX7_setFurnace : MethodName := ⟨RX7, "setFurnace", "(III)V"⟩
abbrev cX7_has : ByteArray := prog_9_method_12_code
def yX7_has : MethodName := ⟨RX7, "has", "(II)Z"⟩
abbrev cX7_looks : ByteArray := prog_9_method_13_code
def yX7_looks : MethodName := ⟨RX7, "looks", "(III)I"⟩
abbrev cX7_nears : ByteArray := prog_9_method_14_code
def yX7_nears : MethodName := ⟨RX7, "nears", "(III)I"⟩
abbrev cX7_goes : ByteArray := prog_9_method_15_code
def yX7_goes : MethodName := ⟨RX7, "goes", "()V"⟩
abbrev cX7_begins : ByteArray := prog_9_method_16_code
def yX7_begins : MethodName := ⟨RX7, "begins", "(II)V"⟩
abbrev cX7_lacks : ByteArray := prog_9_method_17_code
def yX7_lacks : MethodName := ⟨RX7, "lacks", "(I)Z"⟩
abbrev cX7_decides : ByteArray := prog_9_method_18_code
def yX7_decides : MethodName := ⟨RX7, "decides", "(I)V"⟩
abbrev cX7_purges : ByteArray := prog_9_method_19_code
def yX7_purges : MethodName := ⟨RX7, "purges", "(IZ)V"⟩
abbrev cX7_lights : ByteArray := prog_9_method_20_code
def yX7_lights : MethodName := ⟨RX7, "lights", "(IZ)V"⟩
abbrev cX7_runs : ByteArray := prog_9_method_21_code
def yX7_runs : MethodName := ⟨RX7, "runs", "(IZ)V"⟩
abbrev cX7_plays : ByteArray := prog_9_method_22_code
def yX7_plays : MethodName := ⟨RX7, "plays", "(I)V"⟩
abbrev cX7_notes : ByteArray := prog_9_method_23_code
def yX7_notes : MethodName := ⟨RX7, "notes", "()V"⟩
abbrev cX7_poll : ByteArray := prog_9_method_24_code
def yX7_poll : MethodName := ⟨RX7, "poll", "(I)I"⟩
abbrev cX7_recentResets : ByteArray := prog_9_method_25_code
def yX7_recentResets : MethodName := ⟨RX7, "recentResets", "()I"⟩
abbrev cX7_reset : ByteArray := prog_9_method_26_code
def yX7_reset : MethodName := ⟨RX7, "reset", "()I"⟩
abbrev cX7_ticks : ByteArray := prog_9_method_27_code
def yX7_ticks : MethodName := ⟨RX7, "ticks", "()I"⟩
abbrev cX7_state : ByteArray := prog_9_method_28_code
def yX7_state : MethodName := ⟨RX7, "state", "()I"⟩
abbrev cX7_reason : ByteArray := prog_9_method_29_code
def yX7_reason : MethodName := ⟨RX7, "reason", "()I"⟩
abbrev cX7_time : ByteArray := prog_9_method_30_code
def yX7_time : MethodName := ⟨RX7, "time", "()I"⟩
abbrev cX7_isOpen : ByteArray := prog_9_method_31_code
def yX7_isOpen : MethodName := ⟨RX7, "isOpen", "(Z)Z"⟩
abbrev cX7_sees : ByteArray := prog_9_method_32_code
def yX7_sees : MethodName := ⟨RX7, "sees", "(Z)Z"⟩
abbrev cX7_air : ByteArray := prog_9_method_33_code
def yX7_air : MethodName := ⟨RX7, "air", "()I"⟩
abbrev cX7_fuel : ByteArray := prog_9_method_34_code
def yX7_fuel : MethodName := ⟨RX7, "fuel", "()I"⟩
abbrev cX7_purged : ByteArray := prog_9_method_35_code
def yX7_purged : MethodName := ⟨RX7, "purged", "()I"⟩
abbrev cX7_unlit : ByteArray := prog_9_method_36_code
def yX7_unlit : MethodName := ⟨RX7, "unlit", "()I"⟩
abbrev cX7_longestUnlit : ByteArray := prog_9_method_37_code
def yX7_longestUnlit : MethodName := ⟨RX7, "longestUnlit", "()I"⟩
abbrev cX7_changes : ByteArray := prog_9_method_38_code
def yX7_changes : MethodName := ⟨RX7, "changes", "()I"⟩
abbrev cX7_kept : ByteArray := prog_9_method_39_code
def yX7_kept : MethodName := ⟨RX7, "kept", "()I"⟩
abbrev cX7_records : ByteArray := prog_9_method_40_code
def yX7_records : MethodName := ⟨RX7, "records", "()I"⟩
abbrev cX7_place : ByteArray := prog_9_method_41_code
def yX7_place : MethodName := ⟨RX7, "place", "(I)I"⟩
abbrev cX7_tickOf : ByteArray := prog_9_method_42_code
def yX7_tickOf : MethodName := ⟨RX7, "tickOf", "(I)I"⟩
abbrev cX7_stateOf : ByteArray := prog_9_method_43_code
def yX7_stateOf : MethodName := ⟨RX7, "stateOf", "(I)I"⟩
abbrev cX7_reasonOf : ByteArray := prog_9_method_44_code
def yX7_reasonOf : MethodName := ⟨RX7, "reasonOf", "(I)I"⟩
abbrev cX7_packs : ByteArray := prog_9_method_45_code
def yX7_packs : MethodName := ⟨RX7, "packs", "()J"⟩
abbrev cX7_unpacks : ByteArray := prog_9_method_46_code
def yX7_unpacks : MethodName := ⟨RX7, "unpacks", "(J)V"⟩
abbrev cX7_walks : ByteArray := prog_9_method_47_code
def yX7_walks : MethodName := ⟨RX7, "walks", "(I)I"⟩
abbrev cX7_adds : ByteArray := prog_9_method_48_code
def yX7_adds : MethodName := ⟨RX7, "adds", "(I)I"⟩
abbrev cX7_couldBe : ByteArray := prog_9_method_49_code
def yX7_couldBe : MethodName := ⟨RX7, "couldBe", "(II)Z"⟩
abbrev cX7_reasonsAhead : ByteArray := prog_9_method_50_code
def yX7_reasonsAhead : MethodName := ⟨RX7, "reasonsAhead", "(I)I"⟩
abbrev cX7_toPilot : ByteArray := prog_9_method_51_code
def yX7_toPilot : MethodName := ⟨RX7, "toPilot", "()I"⟩
def RJ9 : String := "java/lang/Math"
def TJ9 : u_T := fun k => match k with
  | _ => ("", "", "", false)
def tyJ9 : Nat → FieldType := fun k => match k with
  | _ => .int
abbrev wsJ90 : List Cond := u_ws RJ9 TJ9 0
theorem nmJ9 : ∀ a, a < 0 → ∀ b, b < 0 → a ≠ b → (TJ9 a).2.1 ≠ (TJ9 b).2.1 := by decide +kernel
theorem tyJ9_ok : ∀ k, k < 0 → parseFieldDescriptor (TJ9 k).2.2.1 = some (tyJ9 k) := by decide +kernel
abbrev cJ9_max_7cf53 : ByteArray := prog_14_method_65_code
def yJ9_max_7cf53 : MethodName := ⟨RJ9, "max", "(II)I"⟩
abbrev cJ9_min_7cf53 : ByteArray := prog_14_method_69_code
def yJ9_min_7cf53 : MethodName := ⟨RJ9, "min", "(II)I"⟩
def RJ0 : String := "java/lang/String"
def TJ0 : u_T := fun k => match k with
  | _ => ("", "", "", false)
def tyJ0 : Nat → FieldType := fun k => match k with
  | _ => .int
abbrev wsJ00 : List Cond := u_ws RJ0 TJ0 0
theorem nmJ0 : ∀ a, a < 0 → ∀ b, b < 0 → a ≠ b → (TJ0 a).2.1 ≠ (TJ0 b).2.1 := by decide +kernel
theorem tyJ0_ok : ∀ k, k < 0 → parseFieldDescriptor (TJ0 k).2.2.1 = some (tyJ0 k) := by decide +kernel
def RL : String := "BurnerlineLaw"
abbrev cL_signal : ByteArray := method_3_code
def yL_signal : MethodName := ⟨RL, "signal", "(LBurnerline;IZ[J)I"⟩
abbrev cL_setRate : ByteArray := method_4_code
def yL_setRate : MethodName := ⟨RL, "setRate", "(LBurnerline;I[J)I"⟩
abbrev cL_setTimes : ByteArray := method_5_code
def yL_setTimes : MethodName := ⟨RL, "setTimes", "(LBurnerline;IIII)I"⟩
abbrev cL_setEyes : ByteArray := method_6_code
def yL_setEyes : MethodName := ⟨RL, "setEyes", "(LBurnerline;III)I"⟩
abbrev cL_setFurnace : ByteArray := method_7_code
def yL_setFurnace : MethodName := ⟨RL, "setFurnace", "(LBurnerline;III)I"⟩
abbrev cL_poll : ByteArray := method_8_code
def yL_poll : MethodName := ⟨RL, "poll", "(LBurnerline;I[J)I"⟩
abbrev cL_reset : ByteArray := method_9_code
def yL_reset : MethodName := ⟨RL, "reset", "(LBurnerline;[J)I"⟩
abbrev cL_tickOf : ByteArray := method_10_code
def yL_tickOf : MethodName := ⟨RL, "tickOf", "(LBurnerline;I[J)I"⟩
abbrev cL_stateOf : ByteArray := method_11_code
def yL_stateOf : MethodName := ⟨RL, "stateOf", "(LBurnerline;I[J)I"⟩
abbrev cL_reasonOf : ByteArray := method_12_code
def yL_reasonOf : MethodName := ⟨RL, "reasonOf", "(LBurnerline;I[J)I"⟩
abbrev cL_couldBe : ByteArray := method_13_code
def yL_couldBe : MethodName := ⟨RL, "couldBe", "(LBurnerline;II[J)I"⟩
abbrev cL_reasonsAhead : ByteArray := method_14_code
def yL_reasonsAhead : MethodName := ⟨RL, "reasonsAhead", "(LBurnerline;I[J)I"⟩
abbrev cL_law : ByteArray := code
def yL_law : MethodName := ⟨RL, "law", "([I)Z"⟩
def wsX1_init : List Cond := .code yX1_init cX1_init 1 none :: ([.methodLink RX1 1 objectInit, .instanceMethod objectInit, .code objectInit ⟨#[0xb1]⟩ 1 none])
def wsX2_init : List Cond := .code yX2_init cX2_init 2 none :: ([.methodLink RX2 3 objectInit, .instanceMethod objectInit, .code objectInit ⟨#[0xb1]⟩ 1 none, .classLink RX2 9 RX1, .instantiable RX1 2, .initialized RX1, .fieldLink RX2 12 "Burnerline$Furnace" "pilotEye" "LBurnerline$Eye;", .fieldLink RX2 18 "Burnerline$Furnace" "mainEye" "LBurnerline$Eye;", .fieldLink RX2 21 "Burnerline$Furnace" "settings" "LBurnerline$Settings;", .instanceMethod yX1_init, .code yX1_init cX1_init 1 none, .methodLink RX1 1 objectInit] ++ wsX10 ++ wsX20)
def wsX0_init : List Cond := .code yX0_init cX0_init 3 none :: ([.methodLink RX0 1 objectInit, .instanceMethod objectInit, .code objectInit ⟨#[0xb1]⟩ 1 none, .classLink RX0 7 RX2, .instantiable RX2 11, .initialized RX2, .fieldLink RX0 12 "Burnerline$Ahead" "furnace" "LBurnerline$Furnace;", .fieldLink RX0 18 "Burnerline$Ahead" "next" "LBurnerline$Ahead;", .methodLink RX0 9 yX2_init, .instanceMethod yX2_init, .code yX2_init cX2_init 2 none, .methodLink RX2 3 objectInit, .classLink RX2 9 RX1, .instantiable RX1 2, .initialized RX1, .fieldLink RX2 12 "Burnerline$Furnace" "pilotEye" "LBurnerline$Eye;", .fieldLink RX2 18 "Burnerline$Furnace" "mainEye" "LBurnerline$Eye;", .fieldLink RX2 21 "Burnerline$Furnace" "settings" "LBurnerline$Settings;", .instanceMethod yX1_init, .code yX1_init cX1_init 1 none, .methodLink RX1 1 objectInit] ++ wsX20 ++ wsX00 ++ wsX10)
def wsX1_copyFrom : List Cond := .code yX1_copyFrom cX1_copyFrom 2 none :: ([.fieldLink RX1 7 "Burnerline$Eye" "seesFlame" "Z", .fieldLink RX1 13 "Burnerline$Eye" "row" "I"] ++ wsX10)
def wsX1_look : List Cond := .code yX1_look cX1_look 3 none :: ([.fieldLink RX1 7 "Burnerline$Eye" "seesFlame" "Z", .fieldLink RX1 13 "Burnerline$Eye" "row" "I"] ++ wsX10)
def wsX2_copyFrom : List Cond := .code yX2_copyFrom cX2_copyFrom 2 none :: ([.fieldLink RX2 12 "Burnerline$Furnace" "pilotEye" "LBurnerline$Eye;", .fieldLink RX2 18 "Burnerline$Furnace" "mainEye" "LBurnerline$Eye;", .fieldLink RX2 29 "Burnerline$Furnace" "state" "I", .fieldLink RX2 33 "Burnerline$Furnace" "reason" "I", .fieldLink RX2 36 "Burnerline$Furnace" "time" "I", .fieldLink RX2 39 "Burnerline$Furnace" "air" "I", .fieldLink RX2 42 "Burnerline$Furnace" "fuel" "I", .fieldLink RX2 45 "Burnerline$Furnace" "purged" "I", .fieldLink RX2 48 "Burnerline$Furnace" "unlit" "I", .fieldLink RX2 51 "Burnerline$Furnace" "longestUnlit" "I", .methodLink RX2 25 yX1_copyFrom, .instanceMethod yX1_copyFrom, .selects RX1 yX1_copyFrom yX1_copyFrom, .initialized RX1, .code yX1_copyFrom cX1_copyFrom 2 none, .fieldLink RX1 7 "Burnerline$Eye" "seesFlame" "Z", .fieldLink RX1 13 "Burnerline$Eye" "row" "I"] ++ wsX20 ++ wsX10)
def wsX2_hasFlame : List Cond := .code yX2_hasFlame cX2_hasFlame 1 (some .boolean) :: ([.fieldLink RX2 12 "Burnerline$Furnace" "pilotEye" "LBurnerline$Eye;", .fieldLink RX2 18 "Burnerline$Furnace" "mainEye" "LBurnerline$Eye;"] ++ wsX20 ++ wsX10)
def wsX2_isLockedOut : List Cond := .code yX2_isLockedOut cX2_isLockedOut 1 (some .boolean) :: ([.fieldLink RX2 29 "Burnerline$Furnace" "state" "I"] ++ wsX20)
def wsX2_isPilotOpen : List Cond := .code yX2_isPilotOpen cX2_isPilotOpen 1 (some .boolean) :: ([.fieldLink RX2 29 "Burnerline$Furnace" "state" "I"] ++ wsX20)
def wsX2_isMainOpen : List Cond := .code yX2_isMainOpen cX2_isMainOpen 1 (some .boolean) :: ([.fieldLink RX2 29 "Burnerline$Furnace" "state" "I"] ++ wsX20)
def wsX6_isOn : List Cond := .code yX6_isOn cX6_isOn 2 (some .boolean) :: ([])
def wsX2_look : List Cond := .code yX2_look cX2_look 3 none :: ([.fieldLink RX2 21 "Burnerline$Furnace" "settings" "LBurnerline$Settings;", .methodLink RX2 92 yX1_look, .instanceMethod yX1_look, .selects RX1 yX1_look yX1_look, .initialized RX1, .code yX1_look cX1_look 3 none, .fieldLink RX1 7 "Burnerline$Eye" "seesFlame" "Z", .fieldLink RX1 13 "Burnerline$Eye" "row" "I"] ++ wsX20 ++ wsX50 ++ wsX10)
def wsX2_airGoal : List Cond := .code yX2_airGoal cX2_airGoal 1 (some .int) :: ([.fieldLink RX2 29 "Burnerline$Furnace" "state" "I", .fieldLink RX2 21 "Burnerline$Furnace" "settings" "LBurnerline$Settings;", .fieldLink RX2 42 "Burnerline$Furnace" "fuel" "I", .methodLink RX2 115 Lib.Math.max.name, .static Lib.Math.max.name, .initialized "java/lang/Math", .code Lib.Math.max.name Lib.Math.max.code 2 (some .int)] ++ wsX20 ++ wsX50)
def wsX2_fuelGoal : List Cond := .code yX2_fuelGoal cX2_fuelGoal 1 (some .int) :: ([.fieldLink RX2 29 "Burnerline$Furnace" "state" "I", .fieldLink RX2 21 "Burnerline$Furnace" "settings" "LBurnerline$Settings;", .fieldLink RX2 39 "Burnerline$Furnace" "air" "I", .methodLink RX2 121 Lib.Math.min.name, .static Lib.Math.min.name, .initialized "java/lang/Math", .code Lib.Math.min.name Lib.Math.min.code 2 (some .int)] ++ wsX20 ++ wsX50)
def wsX2_moved : List Cond := .code yX2_moved cX2_moved 3 (some .int) :: ([.methodLink RX2 121 Lib.Math.min.name, .static Lib.Math.min.name, .initialized "java/lang/Math", .code Lib.Math.min.name Lib.Math.min.code 2 (some .int), .methodLink RX2 115 Lib.Math.max.name, .static Lib.Math.max.name, .code Lib.Math.max.name Lib.Math.max.code 2 (some .int)])
def wsX2_movePositions_r1 : List Cond := [Cond.fieldLink RX2 39 "Burnerline$Furnace" "air" "I", Cond.fieldLink RX2 21 "Burnerline$Furnace" "settings" "LBurnerline$Settings;", Cond.fieldLink RX2 42 "Burnerline$Furnace" "fuel" "I", Cond.methodLink RX2 95 yX2_airGoal, Cond.instanceMethod yX2_airGoal, Cond.selects RX2 yX2_airGoal yX2_airGoal, Cond.initialized RX2, Cond.code yX2_airGoal cX2_airGoal 1 (some .int), Cond.fieldLink RX2 29 "Burnerline$Furnace" "state" "I", Cond.methodLink RX2 115 Lib.Math.max.name, Cond.static Lib.Math.max.name, Cond.initialized "java/lang/Math", Cond.code Lib.Math.max.name Lib.Math.max.code 2 (some .int), Cond.methodLink RX2 99 yX2_fuelGoal, Cond.instanceMethod yX2_fuelGoal, Cond.selects RX2 yX2_fuelGoal yX2_fuelGoal, Cond.code yX2_fuelGoal cX2_fuelGoal 1 (some .int), Cond.methodLink RX2 121 Lib.Math.min.name, Cond.static Lib.Math.min.name, Cond.code Lib.Math.min.name Lib.Math.min.code 2 (some .int), Cond.methodLink RX2 105 yX2_moved, Cond.static yX2_moved, Cond.code yX2_moved cX2_moved 3 (some .int), Cond.methodLink RX2 62 yX2_isMainOpen]
def wsX2_movePositions_r2 : List Cond := [Cond.instanceMethod yX2_isMainOpen, Cond.selects RX2 yX2_isMainOpen yX2_isMainOpen, Cond.code yX2_isMainOpen cX2_isMainOpen 1 (some .boolean)]
def wsX2_movePositions : List Cond := .code yX2_movePositions cX2_movePositions 3 none :: ((wsX2_movePositions_r1 ++ wsX2_movePositions_r2) ++ wsX20 ++ wsX50)
def wsX2_begin : List Cond := .code yX2_begin cX2_begin 3 (some .boolean) :: ([.fieldLink RX2 29 "Burnerline$Furnace" "state" "I", .fieldLink RX2 33 "Burnerline$Furnace" "reason" "I", .fieldLink RX2 36 "Burnerline$Furnace" "time" "I", .fieldLink RX2 45 "Burnerline$Furnace" "purged" "I", .fieldLink RX2 42 "Burnerline$Furnace" "fuel" "I", .methodLink RX2 62 yX2_isMainOpen, .instanceMethod yX2_isMainOpen, .selects RX2 yX2_isMainOpen yX2_isMainOpen, .initialized RX2, .code yX2_isMainOpen cX2_isMainOpen 1 (some .boolean)] ++ wsX20)
def wsX2_lockOut : List Cond := .code yX2_lockOut cX2_lockOut 2 (some .boolean) :: ([.methodLink RX2 145 yX2_begin, .instanceMethod yX2_begin, .selects RX2 yX2_begin yX2_begin, .initialized RX2, .code yX2_begin cX2_begin 3 (some .boolean), .fieldLink RX2 29 "Burnerline$Furnace" "state" "I", .fieldLink RX2 33 "Burnerline$Furnace" "reason" "I", .fieldLink RX2 36 "Burnerline$Furnace" "time" "I", .fieldLink RX2 45 "Burnerline$Furnace" "purged" "I", .fieldLink RX2 42 "Burnerline$Furnace" "fuel" "I", .methodLink RX2 62 yX2_isMainOpen, .instanceMethod yX2_isMainOpen, .selects RX2 yX2_isMainOpen yX2_isMainOpen, .code yX2_isMainOpen cX2_isMainOpen 1 (some .boolean)] ++ wsX20)
def wsX2_sequenceOff_r1 : List Cond := [Cond.methodLink RX2 139 yX2_hasFlame, Cond.instanceMethod yX2_hasFlame, Cond.selects RX2 yX2_hasFlame yX2_hasFlame, Cond.initialized RX2, Cond.code yX2_hasFlame cX2_hasFlame 1 (some .boolean), Cond.fieldLink RX2 12 "Burnerline$Furnace" "pilotEye" "LBurnerline$Eye;", Cond.fieldLink RX2 18 "Burnerline$Furnace" "mainEye" "LBurnerline$Eye;", Cond.methodLink RX2 142 yX2_lockOut, Cond.instanceMethod yX2_lockOut, Cond.selects RX2 yX2_lockOut yX2_lockOut, Cond.code yX2_lockOut cX2_lockOut 2 (some .boolean), Cond.methodLink RX2 145 yX2_begin, Cond.instanceMethod yX2_begin, Cond.selects RX2 yX2_begin yX2_begin, Cond.code yX2_begin cX2_begin 3 (some .boolean), Cond.fieldLink RX2 29 "Burnerline$Furnace" "state" "I", Cond.fieldLink RX2 33 "Burnerline$Furnace" "reason" "I", Cond.fieldLink RX2 36 "Burnerline$Furnace" "time" "I", Cond.fieldLink RX2 45 "Burnerline$Furnace" "purged" "I", Cond.fieldLink RX2 42 "Burnerline$Furnace" "fuel" "I", Cond.methodLink RX2 62 yX2_isMainOpen, Cond.instanceMethod yX2_isMainOpen, Cond.selects RX2 yX2_isMainOpen yX2_isMainOpen, Cond.code yX2_isMainOpen cX2_isMainOpen 1 (some .boolean)]
def wsX2_sequenceOff_r2 : List Cond := [Cond.static yX6_isOn, Cond.initialized RX6, Cond.code yX6_isOn cX6_isOn 2 (some .boolean)]
def wsX2_sequenceOff : List Cond := .code yX2_sequenceOff cX2_sequenceOff 2 (some .boolean) :: ((wsX2_sequenceOff_r1 ++ wsX2_sequenceOff_r2) ++ wsX20 ++ wsX10)
def wsX2_sequencePurge_r1 : List Cond := [Cond.fieldLink RX2 39 "Burnerline$Furnace" "air" "I", Cond.fieldLink RX2 45 "Burnerline$Furnace" "purged" "I", Cond.fieldLink RX2 21 "Burnerline$Furnace" "settings" "LBurnerline$Settings;", Cond.fieldLink RX2 36 "Burnerline$Furnace" "time" "I", Cond.static yX6_isOn, Cond.initialized RX6, Cond.code yX6_isOn cX6_isOn 2 (some .boolean), Cond.methodLink RX2 145 yX2_begin, Cond.instanceMethod yX2_begin, Cond.selects RX2 yX2_begin yX2_begin, Cond.initialized RX2, Cond.code yX2_begin cX2_begin 3 (some .boolean), Cond.fieldLink RX2 29 "Burnerline$Furnace" "state" "I", Cond.fieldLink RX2 33 "Burnerline$Furnace" "reason" "I", Cond.fieldLink RX2 42 "Burnerline$Furnace" "fuel" "I", Cond.methodLink RX2 62 yX2_isMainOpen, Cond.instanceMethod yX2_isMainOpen, Cond.selects RX2 yX2_isMainOpen yX2_isMainOpen, Cond.code yX2_isMainOpen cX2_isMainOpen 1 (some .boolean), Cond.methodLink RX2 139 yX2_hasFlame, Cond.instanceMethod yX2_hasFlame, Cond.selects RX2 yX2_hasFlame yX2_hasFlame, Cond.code yX2_hasFlame cX2_hasFlame 1 (some .boolean), Cond.fieldLink RX2 12 "Burnerline$Furnace" "pilotEye" "LBurnerline$Eye;"]
def wsX2_sequencePurge_r2 : List Cond := [Cond.fieldLink RX2 18 "Burnerline$Furnace" "mainEye" "LBurnerline$Eye;", Cond.methodLink RX2 142 yX2_lockOut, Cond.instanceMethod yX2_lockOut, Cond.selects RX2 yX2_lockOut yX2_lockOut, Cond.code yX2_lockOut cX2_lockOut 2 (some .boolean)]
def wsX2_sequencePurge : List Cond := .code yX2_sequencePurge cX2_sequencePurge 2 (some .boolean) :: ((wsX2_sequencePurge_r1 ++ wsX2_sequencePurge_r2) ++ wsX20 ++ wsX50 ++ wsX10)
def wsX2_lightPilot : List Cond := .code yX2_lightPilot cX2_lightPilot 1 (some .boolean) :: ([.fieldLink RX2 12 "Burnerline$Furnace" "pilotEye" "LBurnerline$Eye;", .fieldLink RX2 36 "Burnerline$Furnace" "time" "I", .fieldLink RX2 21 "Burnerline$Furnace" "settings" "LBurnerline$Settings;", .methodLink RX2 145 yX2_begin, .instanceMethod yX2_begin, .selects RX2 yX2_begin yX2_begin, .initialized RX2, .code yX2_begin cX2_begin 3 (some .boolean), .fieldLink RX2 29 "Burnerline$Furnace" "state" "I", .fieldLink RX2 33 "Burnerline$Furnace" "reason" "I", .fieldLink RX2 45 "Burnerline$Furnace" "purged" "I", .fieldLink RX2 42 "Burnerline$Furnace" "fuel" "I", .methodLink RX2 62 yX2_isMainOpen, .instanceMethod yX2_isMainOpen, .selects RX2 yX2_isMainOpen yX2_isMainOpen, .code yX2_isMainOpen cX2_isMainOpen 1 (some .boolean), .methodLink RX2 142 yX2_lockOut, .instanceMethod yX2_lockOut, .selects RX2 yX2_lockOut yX2_lockOut, .code yX2_lockOut cX2_lockOut 2 (some .boolean)] ++ wsX20 ++ wsX10 ++ wsX50)
def wsX2_lightMain : List Cond := .code yX2_lightMain cX2_lightMain 1 (some .boolean) :: ([.fieldLink RX2 18 "Burnerline$Furnace" "mainEye" "LBurnerline$Eye;", .fieldLink RX2 36 "Burnerline$Furnace" "time" "I", .fieldLink RX2 21 "Burnerline$Furnace" "settings" "LBurnerline$Settings;", .methodLink RX2 145 yX2_begin, .instanceMethod yX2_begin, .selects RX2 yX2_begin yX2_begin, .initialized RX2, .code yX2_begin cX2_begin 3 (some .boolean), .fieldLink RX2 29 "Burnerline$Furnace" "state" "I", .fieldLink RX2 33 "Burnerline$Furnace" "reason" "I", .fieldLink RX2 45 "Burnerline$Furnace" "purged" "I", .fieldLink RX2 42 "Burnerline$Furnace" "fuel" "I", .methodLink RX2 62 yX2_isMainOpen, .instanceMethod yX2_isMainOpen, .selects RX2 yX2_isMainOpen yX2_isMainOpen, .code yX2_isMainOpen cX2_isMainOpen 1 (some .boolean), .methodLink RX2 142 yX2_lockOut, .instanceMethod yX2_lockOut, .selects RX2 yX2_lockOut yX2_lockOut, .code yX2_lockOut cX2_lockOut 2 (some .boolean)] ++ wsX20 ++ wsX10 ++ wsX50)
def wsX2_sequenceLighting_r1 : List Cond := [Cond.fieldLink RX2 29 "Burnerline$Furnace" "state" "I", Cond.static yX6_isOn, Cond.initialized RX6, Cond.code yX6_isOn cX6_isOn 2 (some .boolean), Cond.methodLink RX2 142 yX2_lockOut, Cond.instanceMethod yX2_lockOut, Cond.selects RX2 yX2_lockOut yX2_lockOut, Cond.initialized RX2, Cond.code yX2_lockOut cX2_lockOut 2 (some .boolean), Cond.methodLink RX2 145 yX2_begin, Cond.instanceMethod yX2_begin, Cond.selects RX2 yX2_begin yX2_begin, Cond.code yX2_begin cX2_begin 3 (some .boolean), Cond.fieldLink RX2 33 "Burnerline$Furnace" "reason" "I", Cond.fieldLink RX2 36 "Burnerline$Furnace" "time" "I", Cond.fieldLink RX2 45 "Burnerline$Furnace" "purged" "I", Cond.fieldLink RX2 42 "Burnerline$Furnace" "fuel" "I", Cond.methodLink RX2 62 yX2_isMainOpen, Cond.instanceMethod yX2_isMainOpen, Cond.selects RX2 yX2_isMainOpen yX2_isMainOpen, Cond.code yX2_isMainOpen cX2_isMainOpen 1 (some .boolean), Cond.methodLink RX2 154 yX2_lightPilot, Cond.instanceMethod yX2_lightPilot, Cond.selects RX2 yX2_lightPilot yX2_lightPilot]
def wsX2_sequenceLighting_r2 : List Cond := [Cond.code yX2_lightPilot cX2_lightPilot 1 (some .boolean), Cond.fieldLink RX2 12 "Burnerline$Furnace" "pilotEye" "LBurnerline$Eye;", Cond.fieldLink RX2 21 "Burnerline$Furnace" "settings" "LBurnerline$Settings;", Cond.methodLink RX2 157 yX2_lightMain, Cond.instanceMethod yX2_lightMain, Cond.selects RX2 yX2_lightMain yX2_lightMain, Cond.code yX2_lightMain cX2_lightMain 1 (some .boolean), Cond.fieldLink RX2 18 "Burnerline$Furnace" "mainEye" "LBurnerline$Eye;"]
def wsX2_sequenceLighting : List Cond := .code yX2_sequenceLighting cX2_sequenceLighting 2 (some .boolean) :: ((wsX2_sequenceLighting_r1 ++ wsX2_sequenceLighting_r2) ++ wsX20 ++ wsX10 ++ wsX50)
def wsX2_isCheckDue : List Cond := .code yX2_isCheckDue cX2_isCheckDue 1 (some .boolean) :: ([.fieldLink RX2 21 "Burnerline$Furnace" "settings" "LBurnerline$Settings;", .fieldLink RX2 36 "Burnerline$Furnace" "time" "I"] ++ wsX20 ++ wsX50)
def wsX2_sequenceRun_r1 : List Cond := [Cond.fieldLink RX2 18 "Burnerline$Furnace" "mainEye" "LBurnerline$Eye;", Cond.static yX6_isOn, Cond.initialized RX6, Cond.code yX6_isOn cX6_isOn 2 (some .boolean), Cond.methodLink RX2 142 yX2_lockOut, Cond.instanceMethod yX2_lockOut, Cond.selects RX2 yX2_lockOut yX2_lockOut, Cond.initialized RX2, Cond.code yX2_lockOut cX2_lockOut 2 (some .boolean), Cond.methodLink RX2 145 yX2_begin, Cond.instanceMethod yX2_begin, Cond.selects RX2 yX2_begin yX2_begin, Cond.code yX2_begin cX2_begin 3 (some .boolean), Cond.fieldLink RX2 29 "Burnerline$Furnace" "state" "I", Cond.fieldLink RX2 33 "Burnerline$Furnace" "reason" "I", Cond.fieldLink RX2 36 "Burnerline$Furnace" "time" "I", Cond.fieldLink RX2 45 "Burnerline$Furnace" "purged" "I", Cond.fieldLink RX2 42 "Burnerline$Furnace" "fuel" "I", Cond.methodLink RX2 62 yX2_isMainOpen, Cond.instanceMethod yX2_isMainOpen, Cond.selects RX2 yX2_isMainOpen yX2_isMainOpen, Cond.code yX2_isMainOpen cX2_isMainOpen 1 (some .boolean), Cond.methodLink RX2 166 yX2_isCheckDue, Cond.instanceMethod yX2_isCheckDue]
def wsX2_sequenceRun_r2 : List Cond := [Cond.selects RX2 yX2_isCheckDue yX2_isCheckDue, Cond.code yX2_isCheckDue cX2_isCheckDue 1 (some .boolean), Cond.fieldLink RX2 21 "Burnerline$Furnace" "settings" "LBurnerline$Settings;"]
def wsX2_sequenceRun : List Cond := .code yX2_sequenceRun cX2_sequenceRun 2 (some .boolean) :: ((wsX2_sequenceRun_r1 ++ wsX2_sequenceRun_r2) ++ wsX20 ++ wsX10 ++ wsX50)
def wsX2_sequenceAfterPurge_r1 : List Cond := [Cond.fieldLink RX2 36 "Burnerline$Furnace" "time" "I", Cond.fieldLink RX2 21 "Burnerline$Furnace" "settings" "LBurnerline$Settings;", Cond.methodLink RX2 139 yX2_hasFlame, Cond.instanceMethod yX2_hasFlame, Cond.selects RX2 yX2_hasFlame yX2_hasFlame, Cond.initialized RX2, Cond.code yX2_hasFlame cX2_hasFlame 1 (some .boolean), Cond.fieldLink RX2 12 "Burnerline$Furnace" "pilotEye" "LBurnerline$Eye;", Cond.fieldLink RX2 18 "Burnerline$Furnace" "mainEye" "LBurnerline$Eye;", Cond.methodLink RX2 142 yX2_lockOut, Cond.instanceMethod yX2_lockOut, Cond.selects RX2 yX2_lockOut yX2_lockOut, Cond.code yX2_lockOut cX2_lockOut 2 (some .boolean), Cond.methodLink RX2 145 yX2_begin, Cond.instanceMethod yX2_begin, Cond.selects RX2 yX2_begin yX2_begin, Cond.code yX2_begin cX2_begin 3 (some .boolean), Cond.fieldLink RX2 29 "Burnerline$Furnace" "state" "I", Cond.fieldLink RX2 33 "Burnerline$Furnace" "reason" "I", Cond.fieldLink RX2 45 "Burnerline$Furnace" "purged" "I", Cond.fieldLink RX2 42 "Burnerline$Furnace" "fuel" "I", Cond.methodLink RX2 62 yX2_isMainOpen, Cond.instanceMethod yX2_isMainOpen, Cond.selects RX2 yX2_isMainOpen yX2_isMainOpen]
def wsX2_sequenceAfterPurge_r2 : List Cond := [Cond.code yX2_isMainOpen cX2_isMainOpen 1 (some .boolean)]
def wsX2_sequenceAfterPurge : List Cond := .code yX2_sequenceAfterPurge cX2_sequenceAfterPurge 1 (some .boolean) :: ((wsX2_sequenceAfterPurge_r1 ++ wsX2_sequenceAfterPurge_r2) ++ wsX20 ++ wsX50 ++ wsX10)
def wsX2_sequence_r1 : List Cond := [Cond.fieldLink RX2 29 "Burnerline$Furnace" "state" "I", Cond.methodLink RX2 124 yX2_sequenceOff, Cond.instanceMethod yX2_sequenceOff, Cond.selects RX2 yX2_sequenceOff yX2_sequenceOff, Cond.initialized RX2, Cond.code yX2_sequenceOff cX2_sequenceOff 2 (some .boolean), Cond.methodLink RX2 139 yX2_hasFlame, Cond.instanceMethod yX2_hasFlame, Cond.selects RX2 yX2_hasFlame yX2_hasFlame, Cond.code yX2_hasFlame cX2_hasFlame 1 (some .boolean), Cond.fieldLink RX2 12 "Burnerline$Furnace" "pilotEye" "LBurnerline$Eye;", Cond.fieldLink RX2 18 "Burnerline$Furnace" "mainEye" "LBurnerline$Eye;", Cond.methodLink RX2 142 yX2_lockOut, Cond.instanceMethod yX2_lockOut, Cond.selects RX2 yX2_lockOut yX2_lockOut, Cond.code yX2_lockOut cX2_lockOut 2 (some .boolean), Cond.methodLink RX2 145 yX2_begin, Cond.instanceMethod yX2_begin, Cond.selects RX2 yX2_begin yX2_begin, Cond.code yX2_begin cX2_begin 3 (some .boolean), Cond.fieldLink RX2 33 "Burnerline$Furnace" "reason" "I", Cond.fieldLink RX2 36 "Burnerline$Furnace" "time" "I", Cond.fieldLink RX2 45 "Burnerline$Furnace" "purged" "I", Cond.fieldLink RX2 42 "Burnerline$Furnace" "fuel" "I"]
def wsX2_sequence_r2 : List Cond := [Cond.methodLink RX2 62 yX2_isMainOpen, Cond.instanceMethod yX2_isMainOpen, Cond.selects RX2 yX2_isMainOpen yX2_isMainOpen, Cond.code yX2_isMainOpen cX2_isMainOpen 1 (some .boolean), Cond.static yX6_isOn, Cond.initialized RX6, Cond.code yX6_isOn cX6_isOn 2 (some .boolean), Cond.methodLink RX2 127 yX2_sequencePurge, Cond.instanceMethod yX2_sequencePurge, Cond.selects RX2 yX2_sequencePurge yX2_sequencePurge, Cond.code yX2_sequencePurge cX2_sequencePurge 2 (some .boolean), Cond.fieldLink RX2 39 "Burnerline$Furnace" "air" "I", Cond.fieldLink RX2 21 "Burnerline$Furnace" "settings" "LBurnerline$Settings;", Cond.methodLink RX2 130 yX2_sequenceLighting, Cond.instanceMethod yX2_sequenceLighting, Cond.selects RX2 yX2_sequenceLighting yX2_sequenceLighting, Cond.code yX2_sequenceLighting cX2_sequenceLighting 2 (some .boolean), Cond.methodLink RX2 154 yX2_lightPilot, Cond.instanceMethod yX2_lightPilot, Cond.selects RX2 yX2_lightPilot yX2_lightPilot, Cond.code yX2_lightPilot cX2_lightPilot 1 (some .boolean), Cond.methodLink RX2 157 yX2_lightMain, Cond.instanceMethod yX2_lightMain, Cond.selects RX2 yX2_lightMain yX2_lightMain]
def wsX2_sequence_r3 : List Cond := [Cond.code yX2_lightMain cX2_lightMain 1 (some .boolean), Cond.methodLink RX2 133 yX2_sequenceRun, Cond.instanceMethod yX2_sequenceRun, Cond.selects RX2 yX2_sequenceRun yX2_sequenceRun, Cond.code yX2_sequenceRun cX2_sequenceRun 2 (some .boolean), Cond.methodLink RX2 166 yX2_isCheckDue, Cond.instanceMethod yX2_isCheckDue, Cond.selects RX2 yX2_isCheckDue yX2_isCheckDue, Cond.code yX2_isCheckDue cX2_isCheckDue 1 (some .boolean), Cond.methodLink RX2 136 yX2_sequenceAfterPurge, Cond.instanceMethod yX2_sequenceAfterPurge, Cond.selects RX2 yX2_sequenceAfterPurge yX2_sequenceAfterPurge, Cond.code yX2_sequenceAfterPurge cX2_sequenceAfterPurge 1 (some .boolean)]
def wsX2_sequence : List Cond := .code yX2_sequence cX2_sequence 2 (some .boolean) :: ((wsX2_sequence_r1 ++ (wsX2_sequence_r2 ++ wsX2_sequence_r3)) ++ wsX20 ++ wsX10 ++ wsX50)
def wsX2_countUnlit : List Cond := .code yX2_countUnlit cX2_countUnlit 2 none :: ([.fieldLink RX2 48 "Burnerline$Furnace" "unlit" "I", .fieldLink RX2 51 "Burnerline$Furnace" "longestUnlit" "I", .methodLink RX2 115 Lib.Math.max.name, .static Lib.Math.max.name, .initialized "java/lang/Math", .code Lib.Math.max.name Lib.Math.max.code 2 (some .int), .methodLink RX2 139 yX2_hasFlame, .instanceMethod yX2_hasFlame, .selects RX2 yX2_hasFlame yX2_hasFlame, .initialized RX2, .code yX2_hasFlame cX2_hasFlame 1 (some .boolean), .fieldLink RX2 12 "Burnerline$Furnace" "pilotEye" "LBurnerline$Eye;", .fieldLink RX2 18 "Burnerline$Furnace" "mainEye" "LBurnerline$Eye;"] ++ wsX20 ++ wsX10)
def wsX2_tick_r1 : List Cond := [Cond.fieldLink RX2 12 "Burnerline$Furnace" "pilotEye" "LBurnerline$Eye;", Cond.fieldLink RX2 18 "Burnerline$Furnace" "mainEye" "LBurnerline$Eye;", Cond.fieldLink RX2 36 "Burnerline$Furnace" "time" "I", Cond.methodLink RX2 58 yX2_isPilotOpen, Cond.instanceMethod yX2_isPilotOpen, Cond.selects RX2 yX2_isPilotOpen yX2_isPilotOpen, Cond.initialized RX2, Cond.code yX2_isPilotOpen cX2_isPilotOpen 1 (some .boolean), Cond.fieldLink RX2 29 "Burnerline$Furnace" "state" "I", Cond.methodLink RX2 62 yX2_isMainOpen, Cond.instanceMethod yX2_isMainOpen, Cond.selects RX2 yX2_isMainOpen yX2_isMainOpen, Cond.code yX2_isMainOpen cX2_isMainOpen 1 (some .boolean), Cond.static yX6_isOn, Cond.initialized RX6, Cond.code yX6_isOn cX6_isOn 2 (some .boolean), Cond.methodLink RX2 69 yX2_look, Cond.instanceMethod yX2_look, Cond.selects RX2 yX2_look yX2_look, Cond.code yX2_look cX2_look 3 none, Cond.fieldLink RX2 21 "Burnerline$Furnace" "settings" "LBurnerline$Settings;", Cond.methodLink RX2 92 yX1_look, Cond.instanceMethod yX1_look, Cond.selects RX1 yX1_look yX1_look]
def wsX2_tick_r2 : List Cond := [Cond.initialized RX1, Cond.code yX1_look cX1_look 3 none, Cond.fieldLink RX1 7 "Burnerline$Eye" "seesFlame" "Z", Cond.fieldLink RX1 13 "Burnerline$Eye" "row" "I", Cond.methodLink RX2 73 yX2_movePositions, Cond.instanceMethod yX2_movePositions, Cond.selects RX2 yX2_movePositions yX2_movePositions, Cond.code yX2_movePositions cX2_movePositions 3 none, Cond.fieldLink RX2 39 "Burnerline$Furnace" "air" "I", Cond.fieldLink RX2 42 "Burnerline$Furnace" "fuel" "I", Cond.methodLink RX2 95 yX2_airGoal, Cond.instanceMethod yX2_airGoal, Cond.selects RX2 yX2_airGoal yX2_airGoal, Cond.code yX2_airGoal cX2_airGoal 1 (some .int), Cond.methodLink RX2 115 Lib.Math.max.name, Cond.static Lib.Math.max.name, Cond.initialized "java/lang/Math", Cond.code Lib.Math.max.name Lib.Math.max.code 2 (some .int), Cond.methodLink RX2 99 yX2_fuelGoal, Cond.instanceMethod yX2_fuelGoal, Cond.selects RX2 yX2_fuelGoal yX2_fuelGoal, Cond.code yX2_fuelGoal cX2_fuelGoal 1 (some .int), Cond.methodLink RX2 121 Lib.Math.min.name, Cond.static Lib.Math.min.name]
def wsX2_tick_r3 : List Cond := [Cond.code Lib.Math.min.name Lib.Math.min.code 2 (some .int), Cond.methodLink RX2 105 yX2_moved, Cond.static yX2_moved, Cond.code yX2_moved cX2_moved 3 (some .int), Cond.methodLink RX2 76 yX2_sequence, Cond.instanceMethod yX2_sequence, Cond.selects RX2 yX2_sequence yX2_sequence, Cond.code yX2_sequence cX2_sequence 2 (some .boolean), Cond.methodLink RX2 124 yX2_sequenceOff, Cond.instanceMethod yX2_sequenceOff, Cond.selects RX2 yX2_sequenceOff yX2_sequenceOff, Cond.code yX2_sequenceOff cX2_sequenceOff 2 (some .boolean), Cond.methodLink RX2 139 yX2_hasFlame, Cond.instanceMethod yX2_hasFlame, Cond.selects RX2 yX2_hasFlame yX2_hasFlame, Cond.code yX2_hasFlame cX2_hasFlame 1 (some .boolean), Cond.methodLink RX2 142 yX2_lockOut, Cond.instanceMethod yX2_lockOut, Cond.selects RX2 yX2_lockOut yX2_lockOut, Cond.code yX2_lockOut cX2_lockOut 2 (some .boolean), Cond.methodLink RX2 145 yX2_begin, Cond.instanceMethod yX2_begin, Cond.selects RX2 yX2_begin yX2_begin, Cond.code yX2_begin cX2_begin 3 (some .boolean)]
def wsX2_tick_r4 : List Cond := [Cond.fieldLink RX2 33 "Burnerline$Furnace" "reason" "I", Cond.fieldLink RX2 45 "Burnerline$Furnace" "purged" "I", Cond.methodLink RX2 127 yX2_sequencePurge, Cond.instanceMethod yX2_sequencePurge, Cond.selects RX2 yX2_sequencePurge yX2_sequencePurge, Cond.code yX2_sequencePurge cX2_sequencePurge 2 (some .boolean), Cond.methodLink RX2 130 yX2_sequenceLighting, Cond.instanceMethod yX2_sequenceLighting, Cond.selects RX2 yX2_sequenceLighting yX2_sequenceLighting, Cond.code yX2_sequenceLighting cX2_sequenceLighting 2 (some .boolean), Cond.methodLink RX2 154 yX2_lightPilot, Cond.instanceMethod yX2_lightPilot, Cond.selects RX2 yX2_lightPilot yX2_lightPilot, Cond.code yX2_lightPilot cX2_lightPilot 1 (some .boolean), Cond.methodLink RX2 157 yX2_lightMain, Cond.instanceMethod yX2_lightMain, Cond.selects RX2 yX2_lightMain yX2_lightMain, Cond.code yX2_lightMain cX2_lightMain 1 (some .boolean), Cond.methodLink RX2 133 yX2_sequenceRun, Cond.instanceMethod yX2_sequenceRun, Cond.selects RX2 yX2_sequenceRun yX2_sequenceRun, Cond.code yX2_sequenceRun cX2_sequenceRun 2 (some .boolean), Cond.methodLink RX2 166 yX2_isCheckDue, Cond.instanceMethod yX2_isCheckDue]
def wsX2_tick_r5 : List Cond := [Cond.selects RX2 yX2_isCheckDue yX2_isCheckDue, Cond.code yX2_isCheckDue cX2_isCheckDue 1 (some .boolean), Cond.methodLink RX2 136 yX2_sequenceAfterPurge, Cond.instanceMethod yX2_sequenceAfterPurge, Cond.selects RX2 yX2_sequenceAfterPurge yX2_sequenceAfterPurge, Cond.code yX2_sequenceAfterPurge cX2_sequenceAfterPurge 1 (some .boolean), Cond.methodLink RX2 80 yX2_countUnlit, Cond.instanceMethod yX2_countUnlit, Cond.selects RX2 yX2_countUnlit yX2_countUnlit, Cond.code yX2_countUnlit cX2_countUnlit 2 none, Cond.fieldLink RX2 48 "Burnerline$Furnace" "unlit" "I", Cond.fieldLink RX2 51 "Burnerline$Furnace" "longestUnlit" "I"]
def wsX2_tick : List Cond := .code yX2_tick cX2_tick 4 (some .boolean) :: ((wsX2_tick_r1 ++ (wsX2_tick_r2 ++ (wsX2_tick_r3 ++ (wsX2_tick_r4 ++ wsX2_tick_r5)))) ++ wsX20 ++ wsX50 ++ wsX10)
def wsX3_init : List Cond := .code yX3_init cX3_init 1 none :: ([.methodLink RX3 3 objectInit, .instanceMethod objectInit, .code objectInit ⟨#[0xb1]⟩ 1 none, .arrayClass .int, .fieldLink RX3 9 "Burnerline$History" "tickRow" "[I", .fieldLink RX3 15 "Burnerline$History" "stateRow" "[I", .fieldLink RX3 18 "Burnerline$History" "reasonRow" "[I"] ++ wsX30)
def wsX3_add : List Cond := .code yX3_add cX3_add 4 none :: ([.fieldLink RX3 21 "Burnerline$History" "place" "I", .fieldLink RX3 9 "Burnerline$History" "tickRow" "[I", .fieldLink RX3 15 "Burnerline$History" "stateRow" "[I", .fieldLink RX3 18 "Burnerline$History" "reasonRow" "[I", .fieldLink RX3 25 "Burnerline$History" "kept" "I", .methodLink RX3 28 Lib.Math.min.name, .static Lib.Math.min.name, .initialized "java/lang/Math", .code Lib.Math.min.name Lib.Math.min.code 2 (some .int), .fieldLink RX3 34 "Burnerline$History" "added" "I"] ++ wsX30)
def wsX3_has : List Cond := .code yX3_has cX3_has 2 (some .boolean) :: ([.fieldLink RX3 25 "Burnerline$History" "kept" "I"] ++ wsX30)
def wsX3_read : List Cond := .code yX3_read cX3_read 4 (some .int) :: ([.fieldLink RX3 21 "Burnerline$History" "place" "I"] ++ wsX30)
def wsX4_init : List Cond := .code yX4_init cX4_init 1 none :: ([.methodLink RX4 3 objectInit, .instanceMethod objectInit, .code objectInit ⟨#[0xb1]⟩ 1 none, .fieldLink RX4 9 "Burnerline$Resets" "last" "I", .fieldLink RX4 15 "Burnerline$Resets" "second" "I", .fieldLink RX4 18 "Burnerline$Resets" "third" "I"] ++ wsX40)
def wsX4_add : List Cond := .code yX4_add cX4_add 2 none :: ([.fieldLink RX4 15 "Burnerline$Resets" "second" "I", .fieldLink RX4 18 "Burnerline$Resets" "third" "I", .fieldLink RX4 9 "Burnerline$Resets" "last" "I"] ++ wsX40)
def wsX4_countOf : List Cond := .code yX4_countOf cX4_countOf 2 (some .int) :: ([])
def wsX4_recent : List Cond := .code yX4_recent cX4_recent 2 (some .int) :: ([.fieldLink RX4 9 "Burnerline$Resets" "last" "I", .fieldLink RX4 15 "Burnerline$Resets" "second" "I", .fieldLink RX4 18 "Burnerline$Resets" "third" "I", .methodLink RX4 21 yX4_countOf, .static yX4_countOf, .initialized RX4, .code yX4_countOf cX4_countOf 2 (some .int)] ++ wsX40)
def wsX5_init : List Cond := .code yX5_init cX5_init 1 none :: ([.methodLink RX5 1 objectInit, .instanceMethod objectInit, .code objectInit ⟨#[0xb1]⟩ 1 none, .fieldLink RX5 7 "Burnerline$Settings" "rate" "I", .fieldLink RX5 13 "Burnerline$Settings" "longestPurge" "I", .fieldLink RX5 16 "Burnerline$Settings" "longestPilot" "I", .fieldLink RX5 19 "Burnerline$Settings" "longestMain" "I", .fieldLink RX5 22 "Burnerline$Settings" "afterPurge" "I", .fieldLink RX5 25 "Burnerline$Settings" "ticksToLight" "I", .fieldLink RX5 28 "Burnerline$Settings" "ticksToNone" "I", .fieldLink RX5 31 "Burnerline$Settings" "ticksToCheck" "I", .fieldLink RX5 34 "Burnerline$Settings" "volume" "I", .fieldLink RX5 37 "Burnerline$Settings" "airStep" "I", .fieldLink RX5 40 "Burnerline$Settings" "fuelStep" "I"] ++ wsX50)
def wsX6_init_r1 : List Cond := [Cond.methodLink RX6 3 objectInit, Cond.instanceMethod objectInit, Cond.code objectInit ⟨#[0xb1]⟩ 1 none, Cond.classLink RX6 9 RX5, Cond.instantiable RX5 11, Cond.initialized RX5, Cond.fieldLink RX6 12 "Burnerline" "settings" "LBurnerline$Settings;", Cond.classLink RX6 16 RX2, Cond.instantiable RX2 11, Cond.initialized RX2, Cond.fieldLink RX6 21 "Burnerline" "furnace" "LBurnerline$Furnace;", Cond.classLink RX6 25 RX3, Cond.instantiable RX3 6, Cond.initialized RX3, Cond.fieldLink RX6 28 "Burnerline" "history" "LBurnerline$History;", Cond.classLink RX6 32 RX4, Cond.instantiable RX4 3, Cond.initialized RX4, Cond.fieldLink RX6 35 "Burnerline" "resets" "LBurnerline$Resets;", Cond.classLink RX6 39 RX0, Cond.instantiable RX0 2, Cond.initialized RX0, Cond.fieldLink RX6 44 "Burnerline" "ahead" "LBurnerline$Ahead;", Cond.instanceMethod yX5_init]
def wsX6_init_r2 : List Cond := [Cond.code yX5_init cX5_init 1 none, Cond.methodLink RX5 1 objectInit, Cond.fieldLink RX5 7 "Burnerline$Settings" "rate" "I", Cond.fieldLink RX5 13 "Burnerline$Settings" "longestPurge" "I", Cond.fieldLink RX5 16 "Burnerline$Settings" "longestPilot" "I", Cond.fieldLink RX5 19 "Burnerline$Settings" "longestMain" "I", Cond.fieldLink RX5 22 "Burnerline$Settings" "afterPurge" "I", Cond.fieldLink RX5 25 "Burnerline$Settings" "ticksToLight" "I", Cond.fieldLink RX5 28 "Burnerline$Settings" "ticksToNone" "I", Cond.fieldLink RX5 31 "Burnerline$Settings" "ticksToCheck" "I", Cond.fieldLink RX5 34 "Burnerline$Settings" "volume" "I", Cond.fieldLink RX5 37 "Burnerline$Settings" "airStep" "I", Cond.fieldLink RX5 40 "Burnerline$Settings" "fuelStep" "I", Cond.methodLink RX6 18 yX2_init, Cond.instanceMethod yX2_init, Cond.code yX2_init cX2_init 2 none, Cond.methodLink RX2 3 objectInit, Cond.classLink RX2 9 RX1, Cond.instantiable RX1 2, Cond.initialized RX1, Cond.fieldLink RX2 12 "Burnerline$Furnace" "pilotEye" "LBurnerline$Eye;", Cond.fieldLink RX2 18 "Burnerline$Furnace" "mainEye" "LBurnerline$Eye;", Cond.fieldLink RX2 21 "Burnerline$Furnace" "settings" "LBurnerline$Settings;", Cond.instanceMethod yX1_init]
def wsX6_init_r3 : List Cond := [Cond.code yX1_init cX1_init 1 none, Cond.methodLink RX1 1 objectInit, Cond.instanceMethod yX3_init, Cond.code yX3_init cX3_init 1 none, Cond.methodLink RX3 3 objectInit, Cond.arrayClass .int, Cond.fieldLink RX3 9 "Burnerline$History" "tickRow" "[I", Cond.fieldLink RX3 15 "Burnerline$History" "stateRow" "[I", Cond.fieldLink RX3 18 "Burnerline$History" "reasonRow" "[I", Cond.instanceMethod yX4_init, Cond.code yX4_init cX4_init 1 none, Cond.methodLink RX4 3 objectInit, Cond.fieldLink RX4 9 "Burnerline$Resets" "last" "I", Cond.fieldLink RX4 15 "Burnerline$Resets" "second" "I", Cond.fieldLink RX4 18 "Burnerline$Resets" "third" "I", Cond.methodLink RX6 41 yX0_init, Cond.instanceMethod yX0_init, Cond.code yX0_init cX0_init 3 none, Cond.methodLink RX0 1 objectInit, Cond.classLink RX0 7 RX2, Cond.fieldLink RX0 12 "Burnerline$Ahead" "furnace" "LBurnerline$Furnace;", Cond.fieldLink RX0 18 "Burnerline$Ahead" "next" "LBurnerline$Ahead;", Cond.methodLink RX0 9 yX2_init]
def wsX6_init : List Cond := .code yX6_init cX6_init 1 none :: ((wsX6_init_r1 ++ (wsX6_init_r2 ++ wsX6_init_r3)) ++ wsX50 ++ wsX60 ++ wsX20 ++ wsX30 ++ wsX40 ++ wsX00 ++ wsX10)
def wsX6_signal : List Cond := .code yX6_signal cX6_signal 5 (some .boolean) :: ([.classLink RX6 48 "java/lang/IndexOutOfBoundsException", .initialized "java/lang/IndexOutOfBoundsException", .fieldLink RX6 55 "Burnerline" "signals" "I", .methodLink RX6 59 yX6_isOn, .static yX6_isOn, .initialized RX6, .code yX6_isOn cX6_isOn 2 (some .boolean)] ++ wsX60 ++ (vx_atS RX6 52 "java/lang/IndexOutOfBoundsException" ["java/lang/RuntimeException", "java/lang/Exception"]).filter goodWord)
def wsX6_isOutside : List Cond := .code yX6_isOutside cX6_isOutside 3 (some .boolean) :: ([])
def wsX6_setRate : List Cond := .code yX6_setRate cX6_setRate 3 (some .int) :: ([.classLink RX6 67 "java/lang/IllegalArgumentException", .initialized "java/lang/IllegalArgumentException", .fieldLink RX6 12 "Burnerline" "settings" "LBurnerline$Settings;", .methodLink RX6 63 yX6_isOutside, .static yX6_isOutside, .initialized RX6, .code yX6_isOutside cX6_isOutside 3 (some .boolean)] ++ wsX60 ++ wsX50 ++ (vx_atS RX6 71 "java/lang/IllegalArgumentException" ["java/lang/RuntimeException", "java/lang/Exception"]).filter goodWord)
def wsX6_refuseUnlessOff : List Cond := .code yX6_refuseUnlessOff cX6_refuseUnlessOff 1 none :: ([.classLink RX6 133 "java/lang/IllegalStateException", .initialized "java/lang/IllegalStateException", .fieldLink RX6 21 "Burnerline" "furnace" "LBurnerline$Furnace;"] ++ wsX60 ++ wsX20 ++ (vx_atS RX6 137 "java/lang/IllegalStateException" ["java/lang/RuntimeException", "java/lang/Exception"]).filter goodWord)
def wsX6_setTimes : List Cond := .code yX6_setTimes cX6_setTimes 5 none :: ([.classLink RX6 67 "java/lang/IllegalArgumentException", .initialized "java/lang/IllegalArgumentException", .fieldLink RX6 12 "Burnerline" "settings" "LBurnerline$Settings;", .methodLink RX6 63 yX6_isOutside, .static yX6_isOutside, .initialized RX6, .code yX6_isOutside cX6_isOutside 3 (some .boolean), .methodLink RX6 77 yX6_refuseUnlessOff, .instanceMethod yX6_refuseUnlessOff, .selects RX6 yX6_refuseUnlessOff yX6_refuseUnlessOff, .code yX6_refuseUnlessOff cX6_refuseUnlessOff 1 none, .classLink RX6 133 "java/lang/IllegalStateException", .initialized "java/lang/IllegalStateException", .fieldLink RX6 21 "Burnerline" "furnace" "LBurnerline$Furnace;"] ++ wsX60 ++ wsX50 ++ wsX20 ++ (vx_atS RX6 71 "java/lang/IllegalArgumentException" ["java/lang/RuntimeException", "java/lang/Exception"]).filter goodWord ++ (vx_atS RX6 137 "java/lang/IllegalStateException" ["java/lang/RuntimeException", "java/lang/Exception"]).filter goodWord)
def wsX6_setEyes : List Cond := .code yX6_setEyes cX6_setEyes 4 none :: ([.classLink RX6 67 "java/lang/IllegalArgumentException", .initialized "java/lang/IllegalArgumentException", .fieldLink RX6 12 "Burnerline" "settings" "LBurnerline$Settings;", .methodLink RX6 63 yX6_isOutside, .static yX6_isOutside, .initialized RX6, .code yX6_isOutside cX6_isOutside 3 (some .boolean), .methodLink RX6 77 yX6_refuseUnlessOff, .instanceMethod yX6_refuseUnlessOff, .selects RX6 yX6_refuseUnlessOff yX6_refuseUnlessOff, .code yX6_refuseUnlessOff cX6_refuseUnlessOff 1 none, .classLink RX6 133 "java/lang/IllegalStateException", .initialized "java/lang/IllegalStateException", .fieldLink RX6 21 "Burnerline" "furnace" "LBurnerline$Furnace;"] ++ wsX60 ++ wsX50 ++ wsX20 ++ (vx_atS RX6 71 "java/lang/IllegalArgumentException" ["java/lang/RuntimeException", "java/lang/Exception"]).filter goodWord ++ (vx_atS RX6 137 "java/lang/IllegalStateException" ["java/lang/RuntimeException", "java/lang/Exception"]).filter goodWord)
def wsX6_setFurnace : List Cond := .code yX6_setFurnace cX6_setFurnace 4 none :: ([.classLink RX6 67 "java/lang/IllegalArgumentException", .initialized "java/lang/IllegalArgumentException", .fieldLink RX6 12 "Burnerline" "settings" "LBurnerline$Settings;", .methodLink RX6 63 yX6_isOutside, .static yX6_isOutside, .initialized RX6, .code yX6_isOutside cX6_isOutside 3 (some .boolean), .methodLink RX6 77 yX6_refuseUnlessOff, .instanceMethod yX6_refuseUnlessOff, .selects RX6 yX6_refuseUnlessOff yX6_refuseUnlessOff, .code yX6_refuseUnlessOff cX6_refuseUnlessOff 1 none, .classLink RX6 133 "java/lang/IllegalStateException", .initialized "java/lang/IllegalStateException", .fieldLink RX6 21 "Burnerline" "furnace" "LBurnerline$Furnace;"] ++ wsX60 ++ wsX50 ++ wsX20 ++ (vx_atS RX6 71 "java/lang/IllegalArgumentException" ["java/lang/RuntimeException", "java/lang/Exception"]).filter goodWord ++ (vx_atS RX6 137 "java/lang/IllegalStateException" ["java/lang/RuntimeException", "java/lang/Exception"]).filter goodWord)
def wsX6_recordChange : List Cond := .code yX6_recordChange cX6_recordChange 1 none :: ([.fieldLink RX6 28 "Burnerline" "history" "LBurnerline$History;", .fieldLink RX6 116 "Burnerline" "ticks" "I", .fieldLink RX6 21 "Burnerline" "furnace" "LBurnerline$Furnace;", .methodLink RX6 232 yX3_add, .instanceMethod yX3_add, .selects RX3 yX3_add yX3_add, .initialized RX3, .code yX3_add cX3_add 4 none, .fieldLink RX3 21 "Burnerline$History" "place" "I", .fieldLink RX3 9 "Burnerline$History" "tickRow" "[I", .fieldLink RX3 15 "Burnerline$History" "stateRow" "[I", .fieldLink RX3 18 "Burnerline$History" "reasonRow" "[I", .fieldLink RX3 25 "Burnerline$History" "kept" "I", .methodLink RX3 28 Lib.Math.min.name, .static Lib.Math.min.name, .initialized "java/lang/Math", .code Lib.Math.min.name Lib.Math.min.code 2 (some .int), .fieldLink RX3 34 "Burnerline$History" "added" "I"] ++ wsX60 ++ wsX20 ++ wsX30)
def wsX6_poll_r1 : List Cond := [Cond.classLink RX6 67 "java/lang/IllegalArgumentException", Cond.initialized "java/lang/IllegalArgumentException", Cond.fieldLink RX6 116 "Burnerline" "ticks" "I", Cond.fieldLink RX6 21 "Burnerline" "furnace" "LBurnerline$Furnace;", Cond.fieldLink RX6 55 "Burnerline" "signals" "I", Cond.methodLink RX6 63 yX6_isOutside, Cond.static yX6_isOutside, Cond.initialized RX6, Cond.code yX6_isOutside cX6_isOutside 3 (some .boolean), Cond.methodLink RX6 119 yX2_tick, Cond.instanceMethod yX2_tick, Cond.selects RX2 yX2_tick yX2_tick, Cond.initialized RX2, Cond.code yX2_tick cX2_tick 4 (some .boolean), Cond.fieldLink RX2 12 "Burnerline$Furnace" "pilotEye" "LBurnerline$Eye;", Cond.fieldLink RX2 18 "Burnerline$Furnace" "mainEye" "LBurnerline$Eye;", Cond.fieldLink RX2 36 "Burnerline$Furnace" "time" "I", Cond.methodLink RX2 58 yX2_isPilotOpen, Cond.instanceMethod yX2_isPilotOpen, Cond.selects RX2 yX2_isPilotOpen yX2_isPilotOpen, Cond.code yX2_isPilotOpen cX2_isPilotOpen 1 (some .boolean), Cond.fieldLink RX2 29 "Burnerline$Furnace" "state" "I", Cond.methodLink RX2 62 yX2_isMainOpen, Cond.instanceMethod yX2_isMainOpen]
def wsX6_poll_r2 : List Cond := [Cond.selects RX2 yX2_isMainOpen yX2_isMainOpen, Cond.code yX2_isMainOpen cX2_isMainOpen 1 (some .boolean), Cond.static yX6_isOn, Cond.code yX6_isOn cX6_isOn 2 (some .boolean), Cond.methodLink RX2 69 yX2_look, Cond.instanceMethod yX2_look, Cond.selects RX2 yX2_look yX2_look, Cond.code yX2_look cX2_look 3 none, Cond.fieldLink RX2 21 "Burnerline$Furnace" "settings" "LBurnerline$Settings;", Cond.methodLink RX2 92 yX1_look, Cond.instanceMethod yX1_look, Cond.selects RX1 yX1_look yX1_look, Cond.initialized RX1, Cond.code yX1_look cX1_look 3 none, Cond.fieldLink RX1 7 "Burnerline$Eye" "seesFlame" "Z", Cond.fieldLink RX1 13 "Burnerline$Eye" "row" "I", Cond.methodLink RX2 73 yX2_movePositions, Cond.instanceMethod yX2_movePositions, Cond.selects RX2 yX2_movePositions yX2_movePositions, Cond.code yX2_movePositions cX2_movePositions 3 none, Cond.fieldLink RX2 39 "Burnerline$Furnace" "air" "I", Cond.fieldLink RX2 42 "Burnerline$Furnace" "fuel" "I", Cond.methodLink RX2 95 yX2_airGoal, Cond.instanceMethod yX2_airGoal]
def wsX6_poll_r3 : List Cond := [Cond.selects RX2 yX2_airGoal yX2_airGoal, Cond.code yX2_airGoal cX2_airGoal 1 (some .int), Cond.methodLink RX2 115 Lib.Math.max.name, Cond.static Lib.Math.max.name, Cond.initialized "java/lang/Math", Cond.code Lib.Math.max.name Lib.Math.max.code 2 (some .int), Cond.methodLink RX2 99 yX2_fuelGoal, Cond.instanceMethod yX2_fuelGoal, Cond.selects RX2 yX2_fuelGoal yX2_fuelGoal, Cond.code yX2_fuelGoal cX2_fuelGoal 1 (some .int), Cond.methodLink RX2 121 Lib.Math.min.name, Cond.static Lib.Math.min.name, Cond.code Lib.Math.min.name Lib.Math.min.code 2 (some .int), Cond.methodLink RX2 105 yX2_moved, Cond.static yX2_moved, Cond.code yX2_moved cX2_moved 3 (some .int), Cond.methodLink RX2 76 yX2_sequence, Cond.instanceMethod yX2_sequence, Cond.selects RX2 yX2_sequence yX2_sequence, Cond.code yX2_sequence cX2_sequence 2 (some .boolean), Cond.methodLink RX2 124 yX2_sequenceOff, Cond.instanceMethod yX2_sequenceOff, Cond.selects RX2 yX2_sequenceOff yX2_sequenceOff, Cond.code yX2_sequenceOff cX2_sequenceOff 2 (some .boolean)]
def wsX6_poll_r4 : List Cond := [Cond.methodLink RX2 139 yX2_hasFlame, Cond.instanceMethod yX2_hasFlame, Cond.selects RX2 yX2_hasFlame yX2_hasFlame, Cond.code yX2_hasFlame cX2_hasFlame 1 (some .boolean), Cond.methodLink RX2 142 yX2_lockOut, Cond.instanceMethod yX2_lockOut, Cond.selects RX2 yX2_lockOut yX2_lockOut, Cond.code yX2_lockOut cX2_lockOut 2 (some .boolean), Cond.methodLink RX2 145 yX2_begin, Cond.instanceMethod yX2_begin, Cond.selects RX2 yX2_begin yX2_begin, Cond.code yX2_begin cX2_begin 3 (some .boolean), Cond.fieldLink RX2 33 "Burnerline$Furnace" "reason" "I", Cond.fieldLink RX2 45 "Burnerline$Furnace" "purged" "I", Cond.methodLink RX2 127 yX2_sequencePurge, Cond.instanceMethod yX2_sequencePurge, Cond.selects RX2 yX2_sequencePurge yX2_sequencePurge, Cond.code yX2_sequencePurge cX2_sequencePurge 2 (some .boolean), Cond.methodLink RX2 130 yX2_sequenceLighting, Cond.instanceMethod yX2_sequenceLighting, Cond.selects RX2 yX2_sequenceLighting yX2_sequenceLighting, Cond.code yX2_sequenceLighting cX2_sequenceLighting 2 (some .boolean), Cond.methodLink RX2 154 yX2_lightPilot, Cond.instanceMethod yX2_lightPilot]
def wsX6_poll_r5 : List Cond := [Cond.selects RX2 yX2_lightPilot yX2_lightPilot, Cond.code yX2_lightPilot cX2_lightPilot 1 (some .boolean), Cond.methodLink RX2 157 yX2_lightMain, Cond.instanceMethod yX2_lightMain, Cond.selects RX2 yX2_lightMain yX2_lightMain, Cond.code yX2_lightMain cX2_lightMain 1 (some .boolean), Cond.methodLink RX2 133 yX2_sequenceRun, Cond.instanceMethod yX2_sequenceRun, Cond.selects RX2 yX2_sequenceRun yX2_sequenceRun, Cond.code yX2_sequenceRun cX2_sequenceRun 2 (some .boolean), Cond.methodLink RX2 166 yX2_isCheckDue, Cond.instanceMethod yX2_isCheckDue, Cond.selects RX2 yX2_isCheckDue yX2_isCheckDue, Cond.code yX2_isCheckDue cX2_isCheckDue 1 (some .boolean), Cond.methodLink RX2 136 yX2_sequenceAfterPurge, Cond.instanceMethod yX2_sequenceAfterPurge, Cond.selects RX2 yX2_sequenceAfterPurge yX2_sequenceAfterPurge, Cond.code yX2_sequenceAfterPurge cX2_sequenceAfterPurge 1 (some .boolean), Cond.methodLink RX2 80 yX2_countUnlit, Cond.instanceMethod yX2_countUnlit, Cond.selects RX2 yX2_countUnlit yX2_countUnlit, Cond.code yX2_countUnlit cX2_countUnlit 2 none, Cond.fieldLink RX2 48 "Burnerline$Furnace" "unlit" "I", Cond.fieldLink RX2 51 "Burnerline$Furnace" "longestUnlit" "I"]
def wsX6_poll_r6 : List Cond := [Cond.methodLink RX6 123 yX6_recordChange, Cond.instanceMethod yX6_recordChange, Cond.selects RX6 yX6_recordChange yX6_recordChange, Cond.code yX6_recordChange cX6_recordChange 1 none, Cond.fieldLink RX6 28 "Burnerline" "history" "LBurnerline$History;", Cond.methodLink RX6 232 yX3_add, Cond.instanceMethod yX3_add, Cond.selects RX3 yX3_add yX3_add, Cond.initialized RX3, Cond.code yX3_add cX3_add 4 none, Cond.fieldLink RX3 21 "Burnerline$History" "place" "I", Cond.fieldLink RX3 9 "Burnerline$History" "tickRow" "[I", Cond.fieldLink RX3 15 "Burnerline$History" "stateRow" "[I", Cond.fieldLink RX3 18 "Burnerline$History" "reasonRow" "[I", Cond.fieldLink RX3 25 "Burnerline$History" "kept" "I", Cond.methodLink RX3 28 Lib.Math.min.name, Cond.fieldLink RX3 34 "Burnerline$History" "added" "I"]
def wsX6_poll : List Cond := .code yX6_poll cX6_poll 4 (some .int) :: ((wsX6_poll_r1 ++ (wsX6_poll_r2 ++ (wsX6_poll_r3 ++ (wsX6_poll_r4 ++ (wsX6_poll_r5 ++ wsX6_poll_r6))))) ++ wsX60 ++ wsX20 ++ wsX50 ++ wsX10 ++ wsX30 ++ (vx_atS RX6 71 "java/lang/IllegalArgumentException" ["java/lang/RuntimeException", "java/lang/Exception"]).filter goodWord)
def wsX6_reset_r1 : List Cond := [Cond.classLink RX6 133 "java/lang/IllegalStateException", Cond.initialized "java/lang/IllegalStateException", Cond.fieldLink RX6 21 "Burnerline" "furnace" "LBurnerline$Furnace;", Cond.fieldLink RX6 35 "Burnerline" "resets" "LBurnerline$Resets;", Cond.fieldLink RX6 116 "Burnerline" "ticks" "I", Cond.methodLink RX6 126 yX2_isLockedOut, Cond.instanceMethod yX2_isLockedOut, Cond.selects RX2 yX2_isLockedOut yX2_isLockedOut, Cond.initialized RX2, Cond.code yX2_isLockedOut cX2_isLockedOut 1 (some .boolean), Cond.fieldLink RX2 29 "Burnerline$Furnace" "state" "I", Cond.methodLink RX6 130 yX2_hasFlame, Cond.instanceMethod yX2_hasFlame, Cond.selects RX2 yX2_hasFlame yX2_hasFlame, Cond.code yX2_hasFlame cX2_hasFlame 1 (some .boolean), Cond.fieldLink RX2 12 "Burnerline$Furnace" "pilotEye" "LBurnerline$Eye;", Cond.fieldLink RX2 18 "Burnerline$Furnace" "mainEye" "LBurnerline$Eye;", Cond.methodLink RX6 141 yX4_recent, Cond.instanceMethod yX4_recent, Cond.selects RX4 yX4_recent yX4_recent, Cond.initialized RX4, Cond.code yX4_recent cX4_recent 2 (some .int), Cond.fieldLink RX4 9 "Burnerline$Resets" "last" "I", Cond.fieldLink RX4 15 "Burnerline$Resets" "second" "I"]
def wsX6_reset_r2 : List Cond := [Cond.fieldLink RX4 18 "Burnerline$Resets" "third" "I", Cond.methodLink RX4 21 yX4_countOf, Cond.static yX4_countOf, Cond.code yX4_countOf cX4_countOf 2 (some .int), Cond.methodLink RX6 147 yX2_begin, Cond.instanceMethod yX2_begin, Cond.selects RX2 yX2_begin yX2_begin, Cond.code yX2_begin cX2_begin 3 (some .boolean), Cond.fieldLink RX2 33 "Burnerline$Furnace" "reason" "I", Cond.fieldLink RX2 36 "Burnerline$Furnace" "time" "I", Cond.fieldLink RX2 45 "Burnerline$Furnace" "purged" "I", Cond.fieldLink RX2 42 "Burnerline$Furnace" "fuel" "I", Cond.methodLink RX2 62 yX2_isMainOpen, Cond.instanceMethod yX2_isMainOpen, Cond.selects RX2 yX2_isMainOpen yX2_isMainOpen, Cond.code yX2_isMainOpen cX2_isMainOpen 1 (some .boolean), Cond.methodLink RX6 123 yX6_recordChange, Cond.instanceMethod yX6_recordChange, Cond.selects RX6 yX6_recordChange yX6_recordChange, Cond.initialized RX6, Cond.code yX6_recordChange cX6_recordChange 1 none, Cond.fieldLink RX6 28 "Burnerline" "history" "LBurnerline$History;", Cond.methodLink RX6 232 yX3_add, Cond.instanceMethod yX3_add]
def wsX6_reset_r3 : List Cond := [Cond.selects RX3 yX3_add yX3_add, Cond.initialized RX3, Cond.code yX3_add cX3_add 4 none, Cond.fieldLink RX3 21 "Burnerline$History" "place" "I", Cond.fieldLink RX3 9 "Burnerline$History" "tickRow" "[I", Cond.fieldLink RX3 15 "Burnerline$History" "stateRow" "[I", Cond.fieldLink RX3 18 "Burnerline$History" "reasonRow" "[I", Cond.fieldLink RX3 25 "Burnerline$History" "kept" "I", Cond.methodLink RX3 28 Lib.Math.min.name, Cond.static Lib.Math.min.name, Cond.initialized "java/lang/Math", Cond.code Lib.Math.min.name Lib.Math.min.code 2 (some .int), Cond.fieldLink RX3 34 "Burnerline$History" "added" "I", Cond.methodLink RX6 150 yX4_add, Cond.instanceMethod yX4_add, Cond.selects RX4 yX4_add yX4_add, Cond.code yX4_add cX4_add 2 none]
def wsX6_reset : List Cond := .code yX6_reset cX6_reset 1 (some .int) :: ((wsX6_reset_r1 ++ (wsX6_reset_r2 ++ wsX6_reset_r3)) ++ wsX60 ++ wsX20 ++ wsX10 ++ wsX40 ++ wsX30 ++ (vx_atS RX6 137 "java/lang/IllegalStateException" ["java/lang/RuntimeException", "java/lang/Exception"]).filter goodWord)
def wsX6_ticks : List Cond := .code yX6_ticks cX6_ticks 1 (some .int) :: ([.fieldLink RX6 116 "Burnerline" "ticks" "I"] ++ wsX60)
def wsX6_state : List Cond := .code yX6_state cX6_state 1 (some .int) :: ([.fieldLink RX6 21 "Burnerline" "furnace" "LBurnerline$Furnace;"] ++ wsX60 ++ wsX20)
def wsX6_reason : List Cond := .code yX6_reason cX6_reason 1 (some .int) :: ([.fieldLink RX6 21 "Burnerline" "furnace" "LBurnerline$Furnace;"] ++ wsX60 ++ wsX20)
def wsX6_time : List Cond := .code yX6_time cX6_time 1 (some .int) :: ([.fieldLink RX6 21 "Burnerline" "furnace" "LBurnerline$Furnace;"] ++ wsX60 ++ wsX20)
def wsX6_isOpen : List Cond := .code yX6_isOpen cX6_isOpen 2 (some .boolean) :: ([.fieldLink RX6 21 "Burnerline" "furnace" "LBurnerline$Furnace;", .methodLink RX6 160 yX2_isMainOpen, .instanceMethod yX2_isMainOpen, .selects RX2 yX2_isMainOpen yX2_isMainOpen, .initialized RX2, .code yX2_isMainOpen cX2_isMainOpen 1 (some .boolean), .fieldLink RX2 29 "Burnerline$Furnace" "state" "I", .methodLink RX6 163 yX2_isPilotOpen, .instanceMethod yX2_isPilotOpen, .selects RX2 yX2_isPilotOpen yX2_isPilotOpen, .code yX2_isPilotOpen cX2_isPilotOpen 1 (some .boolean)] ++ wsX60 ++ wsX20)
def wsX6_sees : List Cond := .code yX6_sees cX6_sees 2 (some .boolean) :: ([.fieldLink RX6 21 "Burnerline" "furnace" "LBurnerline$Furnace;"] ++ wsX60 ++ wsX20 ++ wsX10)
def wsX6_air : List Cond := .code yX6_air cX6_air 1 (some .int) :: ([.fieldLink RX6 21 "Burnerline" "furnace" "LBurnerline$Furnace;"] ++ wsX60 ++ wsX20)
def wsX6_fuel : List Cond := .code yX6_fuel cX6_fuel 1 (some .int) :: ([.fieldLink RX6 21 "Burnerline" "furnace" "LBurnerline$Furnace;"] ++ wsX60 ++ wsX20)
def wsX6_purged : List Cond := .code yX6_purged cX6_purged 1 (some .int) :: ([.fieldLink RX6 21 "Burnerline" "furnace" "LBurnerline$Furnace;"] ++ wsX60 ++ wsX20)
def wsX6_unlit : List Cond := .code yX6_unlit cX6_unlit 1 (some .int) :: ([.fieldLink RX6 21 "Burnerline" "furnace" "LBurnerline$Furnace;"] ++ wsX60 ++ wsX20)
def wsX6_longestUnlit : List Cond := .code yX6_longestUnlit cX6_longestUnlit 1 (some .int) :: ([.fieldLink RX6 21 "Burnerline" "furnace" "LBurnerline$Furnace;"] ++ wsX60 ++ wsX20)
def wsX6_changes : List Cond := .code yX6_changes cX6_changes 1 (some .int) :: ([.fieldLink RX6 28 "Burnerline" "history" "LBurnerline$History;"] ++ wsX60 ++ wsX30)
def wsX6_records : List Cond := .code yX6_records cX6_records 1 (some .int) :: ([.fieldLink RX6 28 "Burnerline" "history" "LBurnerline$History;"] ++ wsX60 ++ wsX30)
def wsX6_tickOf : List Cond := .code yX6_tickOf cX6_tickOf 2 (some .int) :: ([.classLink RX6 48 "java/lang/IndexOutOfBoundsException", .initialized "java/lang/IndexOutOfBoundsException", .fieldLink RX6 28 "Burnerline" "history" "LBurnerline$History;", .methodLink RX6 200 yX3_has, .instanceMethod yX3_has, .selects RX3 yX3_has yX3_has, .initialized RX3, .code yX3_has cX3_has 2 (some .boolean), .fieldLink RX3 25 "Burnerline$History" "kept" "I", .methodLink RX6 209 yX3_read, .instanceMethod yX3_read, .selects RX3 yX3_read yX3_read, .code yX3_read cX3_read 4 (some .int), .fieldLink RX3 21 "Burnerline$History" "place" "I"] ++ wsX60 ++ wsX30 ++ (vx_atS RX6 52 "java/lang/IndexOutOfBoundsException" ["java/lang/RuntimeException", "java/lang/Exception"]).filter goodWord)
def wsX6_stateOf : List Cond := .code yX6_stateOf cX6_stateOf 2 (some .int) :: ([.classLink RX6 48 "java/lang/IndexOutOfBoundsException", .initialized "java/lang/IndexOutOfBoundsException", .fieldLink RX6 28 "Burnerline" "history" "LBurnerline$History;", .methodLink RX6 200 yX3_has, .instanceMethod yX3_has, .selects RX3 yX3_has yX3_has, .initialized RX3, .code yX3_has cX3_has 2 (some .boolean), .fieldLink RX3 25 "Burnerline$History" "kept" "I", .methodLink RX6 209 yX3_read, .instanceMethod yX3_read, .selects RX3 yX3_read yX3_read, .code yX3_read cX3_read 4 (some .int), .fieldLink RX3 21 "Burnerline$History" "place" "I"] ++ wsX60 ++ wsX30 ++ (vx_atS RX6 52 "java/lang/IndexOutOfBoundsException" ["java/lang/RuntimeException", "java/lang/Exception"]).filter goodWord)
def wsX6_reasonOf : List Cond := .code yX6_reasonOf cX6_reasonOf 2 (some .int) :: ([.classLink RX6 48 "java/lang/IndexOutOfBoundsException", .initialized "java/lang/IndexOutOfBoundsException", .fieldLink RX6 28 "Burnerline" "history" "LBurnerline$History;", .methodLink RX6 200 yX3_has, .instanceMethod yX3_has, .selects RX3 yX3_has yX3_has, .initialized RX3, .code yX3_has cX3_has 2 (some .boolean), .fieldLink RX3 25 "Burnerline$History" "kept" "I", .methodLink RX6 209 yX3_read, .instanceMethod yX3_read, .selects RX3 yX3_read yX3_read, .code yX3_read cX3_read 4 (some .int), .fieldLink RX3 21 "Burnerline$History" "place" "I"] ++ wsX60 ++ wsX30 ++ (vx_atS RX6 52 "java/lang/IndexOutOfBoundsException" ["java/lang/RuntimeException", "java/lang/Exception"]).filter goodWord)
def wsX6_tellingSignals : List Cond := .code yX6_tellingSignals cX6_tellingSignals 1 (some .int) :: ([])
def wsX6_foundAt : List Cond := .code yX6_foundAt cX6_foundAt 2 (some .int) :: ([.methodLink RX6 126 yX2_isLockedOut, .instanceMethod yX2_isLockedOut, .selects RX2 yX2_isLockedOut yX2_isLockedOut, .initialized RX2, .code yX2_isLockedOut cX2_isLockedOut 1 (some .boolean), .fieldLink RX2 29 "Burnerline$Furnace" "state" "I"] ++ wsX20)
def wsX6_walk_r1 : List Cond := [Cond.methodLink RX6 235 yX6_tellingSignals, Cond.static yX6_tellingSignals, Cond.initialized RX6, Cond.code yX6_tellingSignals cX6_tellingSignals 1 (some .int), Cond.methodLink RX6 226 yX2_copyFrom, Cond.instanceMethod yX2_copyFrom, Cond.selects RX2 yX2_copyFrom yX2_copyFrom, Cond.initialized RX2, Cond.code yX2_copyFrom cX2_copyFrom 2 none, Cond.fieldLink RX2 12 "Burnerline$Furnace" "pilotEye" "LBurnerline$Eye;", Cond.fieldLink RX2 18 "Burnerline$Furnace" "mainEye" "LBurnerline$Eye;", Cond.fieldLink RX2 29 "Burnerline$Furnace" "state" "I", Cond.fieldLink RX2 33 "Burnerline$Furnace" "reason" "I", Cond.fieldLink RX2 36 "Burnerline$Furnace" "time" "I", Cond.fieldLink RX2 39 "Burnerline$Furnace" "air" "I", Cond.fieldLink RX2 42 "Burnerline$Furnace" "fuel" "I", Cond.fieldLink RX2 45 "Burnerline$Furnace" "purged" "I", Cond.fieldLink RX2 48 "Burnerline$Furnace" "unlit" "I", Cond.fieldLink RX2 51 "Burnerline$Furnace" "longestUnlit" "I", Cond.methodLink RX2 25 yX1_copyFrom, Cond.instanceMethod yX1_copyFrom, Cond.selects RX1 yX1_copyFrom yX1_copyFrom, Cond.initialized RX1, Cond.code yX1_copyFrom cX1_copyFrom 2 none]
def wsX6_walk_r2 : List Cond := [Cond.fieldLink RX1 7 "Burnerline$Eye" "seesFlame" "Z", Cond.fieldLink RX1 13 "Burnerline$Eye" "row" "I", Cond.methodLink RX6 119 yX2_tick, Cond.instanceMethod yX2_tick, Cond.selects RX2 yX2_tick yX2_tick, Cond.code yX2_tick cX2_tick 4 (some .boolean), Cond.methodLink RX2 58 yX2_isPilotOpen, Cond.instanceMethod yX2_isPilotOpen, Cond.selects RX2 yX2_isPilotOpen yX2_isPilotOpen, Cond.code yX2_isPilotOpen cX2_isPilotOpen 1 (some .boolean), Cond.methodLink RX2 62 yX2_isMainOpen, Cond.instanceMethod yX2_isMainOpen, Cond.selects RX2 yX2_isMainOpen yX2_isMainOpen, Cond.code yX2_isMainOpen cX2_isMainOpen 1 (some .boolean), Cond.static yX6_isOn, Cond.code yX6_isOn cX6_isOn 2 (some .boolean), Cond.methodLink RX2 69 yX2_look, Cond.instanceMethod yX2_look, Cond.selects RX2 yX2_look yX2_look, Cond.code yX2_look cX2_look 3 none, Cond.fieldLink RX2 21 "Burnerline$Furnace" "settings" "LBurnerline$Settings;", Cond.methodLink RX2 92 yX1_look, Cond.instanceMethod yX1_look, Cond.selects RX1 yX1_look yX1_look]
def wsX6_walk_r3 : List Cond := [Cond.code yX1_look cX1_look 3 none, Cond.methodLink RX2 73 yX2_movePositions, Cond.instanceMethod yX2_movePositions, Cond.selects RX2 yX2_movePositions yX2_movePositions, Cond.code yX2_movePositions cX2_movePositions 3 none, Cond.methodLink RX2 95 yX2_airGoal, Cond.instanceMethod yX2_airGoal, Cond.selects RX2 yX2_airGoal yX2_airGoal, Cond.code yX2_airGoal cX2_airGoal 1 (some .int), Cond.methodLink RX2 115 Lib.Math.max.name, Cond.static Lib.Math.max.name, Cond.initialized "java/lang/Math", Cond.code Lib.Math.max.name Lib.Math.max.code 2 (some .int), Cond.methodLink RX2 99 yX2_fuelGoal, Cond.instanceMethod yX2_fuelGoal, Cond.selects RX2 yX2_fuelGoal yX2_fuelGoal, Cond.code yX2_fuelGoal cX2_fuelGoal 1 (some .int), Cond.methodLink RX2 121 Lib.Math.min.name, Cond.static Lib.Math.min.name, Cond.code Lib.Math.min.name Lib.Math.min.code 2 (some .int), Cond.methodLink RX2 105 yX2_moved, Cond.static yX2_moved, Cond.code yX2_moved cX2_moved 3 (some .int), Cond.methodLink RX2 76 yX2_sequence]
def wsX6_walk_r4 : List Cond := [Cond.instanceMethod yX2_sequence, Cond.selects RX2 yX2_sequence yX2_sequence, Cond.code yX2_sequence cX2_sequence 2 (some .boolean), Cond.methodLink RX2 124 yX2_sequenceOff, Cond.instanceMethod yX2_sequenceOff, Cond.selects RX2 yX2_sequenceOff yX2_sequenceOff, Cond.code yX2_sequenceOff cX2_sequenceOff 2 (some .boolean), Cond.methodLink RX2 139 yX2_hasFlame, Cond.instanceMethod yX2_hasFlame, Cond.selects RX2 yX2_hasFlame yX2_hasFlame, Cond.code yX2_hasFlame cX2_hasFlame 1 (some .boolean), Cond.methodLink RX2 142 yX2_lockOut, Cond.instanceMethod yX2_lockOut, Cond.selects RX2 yX2_lockOut yX2_lockOut, Cond.code yX2_lockOut cX2_lockOut 2 (some .boolean), Cond.methodLink RX2 145 yX2_begin, Cond.instanceMethod yX2_begin, Cond.selects RX2 yX2_begin yX2_begin, Cond.code yX2_begin cX2_begin 3 (some .boolean), Cond.methodLink RX2 127 yX2_sequencePurge, Cond.instanceMethod yX2_sequencePurge, Cond.selects RX2 yX2_sequencePurge yX2_sequencePurge, Cond.code yX2_sequencePurge cX2_sequencePurge 2 (some .boolean), Cond.methodLink RX2 130 yX2_sequenceLighting]
def wsX6_walk_r5 : List Cond := [Cond.instanceMethod yX2_sequenceLighting, Cond.selects RX2 yX2_sequenceLighting yX2_sequenceLighting, Cond.code yX2_sequenceLighting cX2_sequenceLighting 2 (some .boolean), Cond.methodLink RX2 154 yX2_lightPilot, Cond.instanceMethod yX2_lightPilot, Cond.selects RX2 yX2_lightPilot yX2_lightPilot, Cond.code yX2_lightPilot cX2_lightPilot 1 (some .boolean), Cond.methodLink RX2 157 yX2_lightMain, Cond.instanceMethod yX2_lightMain, Cond.selects RX2 yX2_lightMain yX2_lightMain, Cond.code yX2_lightMain cX2_lightMain 1 (some .boolean), Cond.methodLink RX2 133 yX2_sequenceRun, Cond.instanceMethod yX2_sequenceRun, Cond.selects RX2 yX2_sequenceRun yX2_sequenceRun, Cond.code yX2_sequenceRun cX2_sequenceRun 2 (some .boolean), Cond.methodLink RX2 166 yX2_isCheckDue, Cond.instanceMethod yX2_isCheckDue, Cond.selects RX2 yX2_isCheckDue yX2_isCheckDue, Cond.code yX2_isCheckDue cX2_isCheckDue 1 (some .boolean), Cond.methodLink RX2 136 yX2_sequenceAfterPurge, Cond.instanceMethod yX2_sequenceAfterPurge, Cond.selects RX2 yX2_sequenceAfterPurge yX2_sequenceAfterPurge, Cond.code yX2_sequenceAfterPurge cX2_sequenceAfterPurge 1 (some .boolean), Cond.methodLink RX2 80 yX2_countUnlit]
def wsX6_walk_r6 : List Cond := [Cond.instanceMethod yX2_countUnlit, Cond.selects RX2 yX2_countUnlit yX2_countUnlit, Cond.code yX2_countUnlit cX2_countUnlit 2 none, Cond.methodLink RX6 238 yX6_foundAt, Cond.static yX6_foundAt, Cond.code yX6_foundAt cX6_foundAt 2 (some .int), Cond.methodLink RX6 126 yX2_isLockedOut, Cond.instanceMethod yX2_isLockedOut, Cond.selects RX2 yX2_isLockedOut yX2_isLockedOut, Cond.code yX2_isLockedOut cX2_isLockedOut 1 (some .boolean), Cond.methodLink RX6 221 yX6_walk, Cond.static yX6_walk]
def wsX6_walk : List Cond := .code yX6_walk cX6_walk 7 (some .int) :: ((wsX6_walk_r1 ++ (wsX6_walk_r2 ++ (wsX6_walk_r3 ++ (wsX6_walk_r4 ++ (wsX6_walk_r5 ++ wsX6_walk_r6))))) ++ wsX20 ++ wsX00 ++ wsX10 ++ wsX50)
def wsX6_couldBe_r1 : List Cond := [Cond.classLink RX6 67 "java/lang/IllegalArgumentException", Cond.initialized "java/lang/IllegalArgumentException", Cond.fieldLink RX6 44 "Burnerline" "ahead" "LBurnerline$Ahead;", Cond.fieldLink RX6 21 "Burnerline" "furnace" "LBurnerline$Furnace;", Cond.methodLink RX6 63 yX6_isOutside, Cond.static yX6_isOutside, Cond.initialized RX6, Cond.code yX6_isOutside cX6_isOutside 3 (some .boolean), Cond.methodLink RX6 221 yX6_walk, Cond.static yX6_walk, Cond.code yX6_walk cX6_walk 7 (some .int), Cond.methodLink RX6 235 yX6_tellingSignals, Cond.static yX6_tellingSignals, Cond.code yX6_tellingSignals cX6_tellingSignals 1 (some .int), Cond.methodLink RX6 226 yX2_copyFrom, Cond.instanceMethod yX2_copyFrom, Cond.selects RX2 yX2_copyFrom yX2_copyFrom, Cond.initialized RX2, Cond.code yX2_copyFrom cX2_copyFrom 2 none, Cond.fieldLink RX2 12 "Burnerline$Furnace" "pilotEye" "LBurnerline$Eye;", Cond.fieldLink RX2 18 "Burnerline$Furnace" "mainEye" "LBurnerline$Eye;", Cond.fieldLink RX2 29 "Burnerline$Furnace" "state" "I", Cond.fieldLink RX2 33 "Burnerline$Furnace" "reason" "I", Cond.fieldLink RX2 36 "Burnerline$Furnace" "time" "I"]
def wsX6_couldBe_r2 : List Cond := [Cond.fieldLink RX2 39 "Burnerline$Furnace" "air" "I", Cond.fieldLink RX2 42 "Burnerline$Furnace" "fuel" "I", Cond.fieldLink RX2 45 "Burnerline$Furnace" "purged" "I", Cond.fieldLink RX2 48 "Burnerline$Furnace" "unlit" "I", Cond.fieldLink RX2 51 "Burnerline$Furnace" "longestUnlit" "I", Cond.methodLink RX2 25 yX1_copyFrom, Cond.instanceMethod yX1_copyFrom, Cond.selects RX1 yX1_copyFrom yX1_copyFrom, Cond.initialized RX1, Cond.code yX1_copyFrom cX1_copyFrom 2 none, Cond.fieldLink RX1 7 "Burnerline$Eye" "seesFlame" "Z", Cond.fieldLink RX1 13 "Burnerline$Eye" "row" "I", Cond.methodLink RX6 119 yX2_tick, Cond.instanceMethod yX2_tick, Cond.selects RX2 yX2_tick yX2_tick, Cond.code yX2_tick cX2_tick 4 (some .boolean), Cond.methodLink RX2 58 yX2_isPilotOpen, Cond.instanceMethod yX2_isPilotOpen, Cond.selects RX2 yX2_isPilotOpen yX2_isPilotOpen, Cond.code yX2_isPilotOpen cX2_isPilotOpen 1 (some .boolean), Cond.methodLink RX2 62 yX2_isMainOpen, Cond.instanceMethod yX2_isMainOpen, Cond.selects RX2 yX2_isMainOpen yX2_isMainOpen, Cond.code yX2_isMainOpen cX2_isMainOpen 1 (some .boolean)]
def wsX6_couldBe_r3 : List Cond := [Cond.static yX6_isOn, Cond.code yX6_isOn cX6_isOn 2 (some .boolean), Cond.methodLink RX2 69 yX2_look, Cond.instanceMethod yX2_look, Cond.selects RX2 yX2_look yX2_look, Cond.code yX2_look cX2_look 3 none, Cond.fieldLink RX2 21 "Burnerline$Furnace" "settings" "LBurnerline$Settings;", Cond.methodLink RX2 92 yX1_look, Cond.instanceMethod yX1_look, Cond.selects RX1 yX1_look yX1_look, Cond.code yX1_look cX1_look 3 none, Cond.methodLink RX2 73 yX2_movePositions, Cond.instanceMethod yX2_movePositions, Cond.selects RX2 yX2_movePositions yX2_movePositions, Cond.code yX2_movePositions cX2_movePositions 3 none, Cond.methodLink RX2 95 yX2_airGoal, Cond.instanceMethod yX2_airGoal, Cond.selects RX2 yX2_airGoal yX2_airGoal, Cond.code yX2_airGoal cX2_airGoal 1 (some .int), Cond.methodLink RX2 115 Lib.Math.max.name, Cond.static Lib.Math.max.name, Cond.initialized "java/lang/Math", Cond.code Lib.Math.max.name Lib.Math.max.code 2 (some .int), Cond.methodLink RX2 99 yX2_fuelGoal]
def wsX6_couldBe_r4 : List Cond := [Cond.instanceMethod yX2_fuelGoal, Cond.selects RX2 yX2_fuelGoal yX2_fuelGoal, Cond.code yX2_fuelGoal cX2_fuelGoal 1 (some .int), Cond.methodLink RX2 121 Lib.Math.min.name, Cond.static Lib.Math.min.name, Cond.code Lib.Math.min.name Lib.Math.min.code 2 (some .int), Cond.methodLink RX2 105 yX2_moved, Cond.static yX2_moved, Cond.code yX2_moved cX2_moved 3 (some .int), Cond.methodLink RX2 76 yX2_sequence, Cond.instanceMethod yX2_sequence, Cond.selects RX2 yX2_sequence yX2_sequence, Cond.code yX2_sequence cX2_sequence 2 (some .boolean), Cond.methodLink RX2 124 yX2_sequenceOff, Cond.instanceMethod yX2_sequenceOff, Cond.selects RX2 yX2_sequenceOff yX2_sequenceOff, Cond.code yX2_sequenceOff cX2_sequenceOff 2 (some .boolean), Cond.methodLink RX2 139 yX2_hasFlame, Cond.instanceMethod yX2_hasFlame, Cond.selects RX2 yX2_hasFlame yX2_hasFlame, Cond.code yX2_hasFlame cX2_hasFlame 1 (some .boolean), Cond.methodLink RX2 142 yX2_lockOut, Cond.instanceMethod yX2_lockOut, Cond.selects RX2 yX2_lockOut yX2_lockOut]
def wsX6_couldBe_r5 : List Cond := [Cond.code yX2_lockOut cX2_lockOut 2 (some .boolean), Cond.methodLink RX2 145 yX2_begin, Cond.instanceMethod yX2_begin, Cond.selects RX2 yX2_begin yX2_begin, Cond.code yX2_begin cX2_begin 3 (some .boolean), Cond.methodLink RX2 127 yX2_sequencePurge, Cond.instanceMethod yX2_sequencePurge, Cond.selects RX2 yX2_sequencePurge yX2_sequencePurge, Cond.code yX2_sequencePurge cX2_sequencePurge 2 (some .boolean), Cond.methodLink RX2 130 yX2_sequenceLighting, Cond.instanceMethod yX2_sequenceLighting, Cond.selects RX2 yX2_sequenceLighting yX2_sequenceLighting, Cond.code yX2_sequenceLighting cX2_sequenceLighting 2 (some .boolean), Cond.methodLink RX2 154 yX2_lightPilot, Cond.instanceMethod yX2_lightPilot, Cond.selects RX2 yX2_lightPilot yX2_lightPilot, Cond.code yX2_lightPilot cX2_lightPilot 1 (some .boolean), Cond.methodLink RX2 157 yX2_lightMain, Cond.instanceMethod yX2_lightMain, Cond.selects RX2 yX2_lightMain yX2_lightMain, Cond.code yX2_lightMain cX2_lightMain 1 (some .boolean), Cond.methodLink RX2 133 yX2_sequenceRun, Cond.instanceMethod yX2_sequenceRun, Cond.selects RX2 yX2_sequenceRun yX2_sequenceRun]
def wsX6_couldBe_r6 : List Cond := [Cond.code yX2_sequenceRun cX2_sequenceRun 2 (some .boolean), Cond.methodLink RX2 166 yX2_isCheckDue, Cond.instanceMethod yX2_isCheckDue, Cond.selects RX2 yX2_isCheckDue yX2_isCheckDue, Cond.code yX2_isCheckDue cX2_isCheckDue 1 (some .boolean), Cond.methodLink RX2 136 yX2_sequenceAfterPurge, Cond.instanceMethod yX2_sequenceAfterPurge, Cond.selects RX2 yX2_sequenceAfterPurge yX2_sequenceAfterPurge, Cond.code yX2_sequenceAfterPurge cX2_sequenceAfterPurge 1 (some .boolean), Cond.methodLink RX2 80 yX2_countUnlit, Cond.instanceMethod yX2_countUnlit, Cond.selects RX2 yX2_countUnlit yX2_countUnlit, Cond.code yX2_countUnlit cX2_countUnlit 2 none, Cond.methodLink RX6 238 yX6_foundAt, Cond.static yX6_foundAt, Cond.code yX6_foundAt cX6_foundAt 2 (some .int), Cond.methodLink RX6 126 yX2_isLockedOut, Cond.instanceMethod yX2_isLockedOut, Cond.selects RX2 yX2_isLockedOut yX2_isLockedOut, Cond.code yX2_isLockedOut cX2_isLockedOut 1 (some .boolean), Cond.methodLink RX6 59 yX6_isOn]
def wsX6_couldBe : List Cond := .code yX6_couldBe cX6_couldBe 3 (some .boolean) :: ((wsX6_couldBe_r1 ++ (wsX6_couldBe_r2 ++ (wsX6_couldBe_r3 ++ (wsX6_couldBe_r4 ++ (wsX6_couldBe_r5 ++ wsX6_couldBe_r6))))) ++ wsX60 ++ wsX20 ++ wsX00 ++ wsX10 ++ wsX50 ++ (vx_atS RX6 71 "java/lang/IllegalArgumentException" ["java/lang/RuntimeException", "java/lang/Exception"]).filter goodWord)
def wsX6_reasonsAhead_r1 : List Cond := [Cond.classLink RX6 67 "java/lang/IllegalArgumentException", Cond.initialized "java/lang/IllegalArgumentException", Cond.fieldLink RX6 21 "Burnerline" "furnace" "LBurnerline$Furnace;", Cond.fieldLink RX6 44 "Burnerline" "ahead" "LBurnerline$Ahead;", Cond.methodLink RX6 63 yX6_isOutside, Cond.static yX6_isOutside, Cond.initialized RX6, Cond.code yX6_isOutside cX6_isOutside 3 (some .boolean), Cond.methodLink RX6 126 yX2_isLockedOut, Cond.instanceMethod yX2_isLockedOut, Cond.selects RX2 yX2_isLockedOut yX2_isLockedOut, Cond.initialized RX2, Cond.code yX2_isLockedOut cX2_isLockedOut 1 (some .boolean), Cond.fieldLink RX2 29 "Burnerline$Furnace" "state" "I", Cond.methodLink RX6 221 yX6_walk, Cond.static yX6_walk, Cond.code yX6_walk cX6_walk 7 (some .int), Cond.methodLink RX6 235 yX6_tellingSignals, Cond.static yX6_tellingSignals, Cond.code yX6_tellingSignals cX6_tellingSignals 1 (some .int), Cond.methodLink RX6 226 yX2_copyFrom, Cond.instanceMethod yX2_copyFrom, Cond.selects RX2 yX2_copyFrom yX2_copyFrom, Cond.code yX2_copyFrom cX2_copyFrom 2 none]
def wsX6_reasonsAhead_r2 : List Cond := [Cond.fieldLink RX2 12 "Burnerline$Furnace" "pilotEye" "LBurnerline$Eye;", Cond.fieldLink RX2 18 "Burnerline$Furnace" "mainEye" "LBurnerline$Eye;", Cond.fieldLink RX2 33 "Burnerline$Furnace" "reason" "I", Cond.fieldLink RX2 36 "Burnerline$Furnace" "time" "I", Cond.fieldLink RX2 39 "Burnerline$Furnace" "air" "I", Cond.fieldLink RX2 42 "Burnerline$Furnace" "fuel" "I", Cond.fieldLink RX2 45 "Burnerline$Furnace" "purged" "I", Cond.fieldLink RX2 48 "Burnerline$Furnace" "unlit" "I", Cond.fieldLink RX2 51 "Burnerline$Furnace" "longestUnlit" "I", Cond.methodLink RX2 25 yX1_copyFrom, Cond.instanceMethod yX1_copyFrom, Cond.selects RX1 yX1_copyFrom yX1_copyFrom, Cond.initialized RX1, Cond.code yX1_copyFrom cX1_copyFrom 2 none, Cond.fieldLink RX1 7 "Burnerline$Eye" "seesFlame" "Z", Cond.fieldLink RX1 13 "Burnerline$Eye" "row" "I", Cond.methodLink RX6 119 yX2_tick, Cond.instanceMethod yX2_tick, Cond.selects RX2 yX2_tick yX2_tick, Cond.code yX2_tick cX2_tick 4 (some .boolean), Cond.methodLink RX2 58 yX2_isPilotOpen, Cond.instanceMethod yX2_isPilotOpen, Cond.selects RX2 yX2_isPilotOpen yX2_isPilotOpen, Cond.code yX2_isPilotOpen cX2_isPilotOpen 1 (some .boolean)]
def wsX6_reasonsAhead_r3 : List Cond := [Cond.methodLink RX2 62 yX2_isMainOpen, Cond.instanceMethod yX2_isMainOpen, Cond.selects RX2 yX2_isMainOpen yX2_isMainOpen, Cond.code yX2_isMainOpen cX2_isMainOpen 1 (some .boolean), Cond.static yX6_isOn, Cond.code yX6_isOn cX6_isOn 2 (some .boolean), Cond.methodLink RX2 69 yX2_look, Cond.instanceMethod yX2_look, Cond.selects RX2 yX2_look yX2_look, Cond.code yX2_look cX2_look 3 none, Cond.fieldLink RX2 21 "Burnerline$Furnace" "settings" "LBurnerline$Settings;", Cond.methodLink RX2 92 yX1_look, Cond.instanceMethod yX1_look, Cond.selects RX1 yX1_look yX1_look, Cond.code yX1_look cX1_look 3 none, Cond.methodLink RX2 73 yX2_movePositions, Cond.instanceMethod yX2_movePositions, Cond.selects RX2 yX2_movePositions yX2_movePositions, Cond.code yX2_movePositions cX2_movePositions 3 none, Cond.methodLink RX2 95 yX2_airGoal, Cond.instanceMethod yX2_airGoal, Cond.selects RX2 yX2_airGoal yX2_airGoal, Cond.code yX2_airGoal cX2_airGoal 1 (some .int), Cond.methodLink RX2 115 Lib.Math.max.name]
def wsX6_reasonsAhead_r4 : List Cond := [Cond.static Lib.Math.max.name, Cond.initialized "java/lang/Math", Cond.code Lib.Math.max.name Lib.Math.max.code 2 (some .int), Cond.methodLink RX2 99 yX2_fuelGoal, Cond.instanceMethod yX2_fuelGoal, Cond.selects RX2 yX2_fuelGoal yX2_fuelGoal, Cond.code yX2_fuelGoal cX2_fuelGoal 1 (some .int), Cond.methodLink RX2 121 Lib.Math.min.name, Cond.static Lib.Math.min.name, Cond.code Lib.Math.min.name Lib.Math.min.code 2 (some .int), Cond.methodLink RX2 105 yX2_moved, Cond.static yX2_moved, Cond.code yX2_moved cX2_moved 3 (some .int), Cond.methodLink RX2 76 yX2_sequence, Cond.instanceMethod yX2_sequence, Cond.selects RX2 yX2_sequence yX2_sequence, Cond.code yX2_sequence cX2_sequence 2 (some .boolean), Cond.methodLink RX2 124 yX2_sequenceOff, Cond.instanceMethod yX2_sequenceOff, Cond.selects RX2 yX2_sequenceOff yX2_sequenceOff, Cond.code yX2_sequenceOff cX2_sequenceOff 2 (some .boolean), Cond.methodLink RX2 139 yX2_hasFlame, Cond.instanceMethod yX2_hasFlame, Cond.selects RX2 yX2_hasFlame yX2_hasFlame]
def wsX6_reasonsAhead_r5 : List Cond := [Cond.code yX2_hasFlame cX2_hasFlame 1 (some .boolean), Cond.methodLink RX2 142 yX2_lockOut, Cond.instanceMethod yX2_lockOut, Cond.selects RX2 yX2_lockOut yX2_lockOut, Cond.code yX2_lockOut cX2_lockOut 2 (some .boolean), Cond.methodLink RX2 145 yX2_begin, Cond.instanceMethod yX2_begin, Cond.selects RX2 yX2_begin yX2_begin, Cond.code yX2_begin cX2_begin 3 (some .boolean), Cond.methodLink RX2 127 yX2_sequencePurge, Cond.instanceMethod yX2_sequencePurge, Cond.selects RX2 yX2_sequencePurge yX2_sequencePurge, Cond.code yX2_sequencePurge cX2_sequencePurge 2 (some .boolean), Cond.methodLink RX2 130 yX2_sequenceLighting, Cond.instanceMethod yX2_sequenceLighting, Cond.selects RX2 yX2_sequenceLighting yX2_sequenceLighting, Cond.code yX2_sequenceLighting cX2_sequenceLighting 2 (some .boolean), Cond.methodLink RX2 154 yX2_lightPilot, Cond.instanceMethod yX2_lightPilot, Cond.selects RX2 yX2_lightPilot yX2_lightPilot, Cond.code yX2_lightPilot cX2_lightPilot 1 (some .boolean), Cond.methodLink RX2 157 yX2_lightMain, Cond.instanceMethod yX2_lightMain, Cond.selects RX2 yX2_lightMain yX2_lightMain]
def wsX6_reasonsAhead_r6 : List Cond := [Cond.code yX2_lightMain cX2_lightMain 1 (some .boolean), Cond.methodLink RX2 133 yX2_sequenceRun, Cond.instanceMethod yX2_sequenceRun, Cond.selects RX2 yX2_sequenceRun yX2_sequenceRun, Cond.code yX2_sequenceRun cX2_sequenceRun 2 (some .boolean), Cond.methodLink RX2 166 yX2_isCheckDue, Cond.instanceMethod yX2_isCheckDue, Cond.selects RX2 yX2_isCheckDue yX2_isCheckDue, Cond.code yX2_isCheckDue cX2_isCheckDue 1 (some .boolean), Cond.methodLink RX2 136 yX2_sequenceAfterPurge, Cond.instanceMethod yX2_sequenceAfterPurge, Cond.selects RX2 yX2_sequenceAfterPurge yX2_sequenceAfterPurge, Cond.code yX2_sequenceAfterPurge cX2_sequenceAfterPurge 1 (some .boolean), Cond.methodLink RX2 80 yX2_countUnlit, Cond.instanceMethod yX2_countUnlit, Cond.selects RX2 yX2_countUnlit yX2_countUnlit, Cond.code yX2_countUnlit cX2_countUnlit 2 none, Cond.methodLink RX6 238 yX6_foundAt, Cond.static yX6_foundAt, Cond.code yX6_foundAt cX6_foundAt 2 (some .int)]
def wsX6_reasonsAhead : List Cond := .code yX6_reasonsAhead cX6_reasonsAhead 2 (some .int) :: ((wsX6_reasonsAhead_r1 ++ (wsX6_reasonsAhead_r2 ++ (wsX6_reasonsAhead_r3 ++ (wsX6_reasonsAhead_r4 ++ (wsX6_reasonsAhead_r5 ++ wsX6_reasonsAhead_r6))))) ++ wsX60 ++ wsX20 ++ wsX00 ++ wsX10 ++ wsX50 ++ (vx_atS RX6 71 "java/lang/IllegalArgumentException" ["java/lang/RuntimeException", "java/lang/Exception"]).filter goodWord)
def wsX6_toPilot_r1 : List Cond := [Cond.fieldLink RX6 21 "Burnerline" "furnace" "LBurnerline$Furnace;", Cond.fieldLink RX6 44 "Burnerline" "ahead" "LBurnerline$Ahead;", Cond.methodLink RX6 163 yX2_isPilotOpen, Cond.instanceMethod yX2_isPilotOpen, Cond.selects RX2 yX2_isPilotOpen yX2_isPilotOpen, Cond.initialized RX2, Cond.code yX2_isPilotOpen cX2_isPilotOpen 1 (some .boolean), Cond.fieldLink RX2 29 "Burnerline$Furnace" "state" "I", Cond.methodLink RX6 226 yX2_copyFrom, Cond.instanceMethod yX2_copyFrom, Cond.selects RX2 yX2_copyFrom yX2_copyFrom, Cond.code yX2_copyFrom cX2_copyFrom 2 none, Cond.fieldLink RX2 12 "Burnerline$Furnace" "pilotEye" "LBurnerline$Eye;", Cond.fieldLink RX2 18 "Burnerline$Furnace" "mainEye" "LBurnerline$Eye;", Cond.fieldLink RX2 33 "Burnerline$Furnace" "reason" "I", Cond.fieldLink RX2 36 "Burnerline$Furnace" "time" "I", Cond.fieldLink RX2 39 "Burnerline$Furnace" "air" "I", Cond.fieldLink RX2 42 "Burnerline$Furnace" "fuel" "I", Cond.fieldLink RX2 45 "Burnerline$Furnace" "purged" "I", Cond.fieldLink RX2 48 "Burnerline$Furnace" "unlit" "I", Cond.fieldLink RX2 51 "Burnerline$Furnace" "longestUnlit" "I", Cond.methodLink RX2 25 yX1_copyFrom, Cond.instanceMethod yX1_copyFrom, Cond.selects RX1 yX1_copyFrom yX1_copyFrom]
def wsX6_toPilot_r2 : List Cond := [Cond.initialized RX1, Cond.code yX1_copyFrom cX1_copyFrom 2 none, Cond.fieldLink RX1 7 "Burnerline$Eye" "seesFlame" "Z", Cond.fieldLink RX1 13 "Burnerline$Eye" "row" "I", Cond.methodLink RX6 119 yX2_tick, Cond.instanceMethod yX2_tick, Cond.selects RX2 yX2_tick yX2_tick, Cond.code yX2_tick cX2_tick 4 (some .boolean), Cond.methodLink RX2 58 yX2_isPilotOpen, Cond.methodLink RX2 62 yX2_isMainOpen, Cond.instanceMethod yX2_isMainOpen, Cond.selects RX2 yX2_isMainOpen yX2_isMainOpen, Cond.code yX2_isMainOpen cX2_isMainOpen 1 (some .boolean), Cond.static yX6_isOn, Cond.initialized RX6, Cond.code yX6_isOn cX6_isOn 2 (some .boolean), Cond.methodLink RX2 69 yX2_look, Cond.instanceMethod yX2_look, Cond.selects RX2 yX2_look yX2_look, Cond.code yX2_look cX2_look 3 none, Cond.fieldLink RX2 21 "Burnerline$Furnace" "settings" "LBurnerline$Settings;", Cond.methodLink RX2 92 yX1_look, Cond.instanceMethod yX1_look, Cond.selects RX1 yX1_look yX1_look]
def wsX6_toPilot_r3 : List Cond := [Cond.code yX1_look cX1_look 3 none, Cond.methodLink RX2 73 yX2_movePositions, Cond.instanceMethod yX2_movePositions, Cond.selects RX2 yX2_movePositions yX2_movePositions, Cond.code yX2_movePositions cX2_movePositions 3 none, Cond.methodLink RX2 95 yX2_airGoal, Cond.instanceMethod yX2_airGoal, Cond.selects RX2 yX2_airGoal yX2_airGoal, Cond.code yX2_airGoal cX2_airGoal 1 (some .int), Cond.methodLink RX2 115 Lib.Math.max.name, Cond.static Lib.Math.max.name, Cond.initialized "java/lang/Math", Cond.code Lib.Math.max.name Lib.Math.max.code 2 (some .int), Cond.methodLink RX2 99 yX2_fuelGoal, Cond.instanceMethod yX2_fuelGoal, Cond.selects RX2 yX2_fuelGoal yX2_fuelGoal, Cond.code yX2_fuelGoal cX2_fuelGoal 1 (some .int), Cond.methodLink RX2 121 Lib.Math.min.name, Cond.static Lib.Math.min.name, Cond.code Lib.Math.min.name Lib.Math.min.code 2 (some .int), Cond.methodLink RX2 105 yX2_moved, Cond.static yX2_moved, Cond.code yX2_moved cX2_moved 3 (some .int), Cond.methodLink RX2 76 yX2_sequence]
def wsX6_toPilot_r4 : List Cond := [Cond.instanceMethod yX2_sequence, Cond.selects RX2 yX2_sequence yX2_sequence, Cond.code yX2_sequence cX2_sequence 2 (some .boolean), Cond.methodLink RX2 124 yX2_sequenceOff, Cond.instanceMethod yX2_sequenceOff, Cond.selects RX2 yX2_sequenceOff yX2_sequenceOff, Cond.code yX2_sequenceOff cX2_sequenceOff 2 (some .boolean), Cond.methodLink RX2 139 yX2_hasFlame, Cond.instanceMethod yX2_hasFlame, Cond.selects RX2 yX2_hasFlame yX2_hasFlame, Cond.code yX2_hasFlame cX2_hasFlame 1 (some .boolean), Cond.methodLink RX2 142 yX2_lockOut, Cond.instanceMethod yX2_lockOut, Cond.selects RX2 yX2_lockOut yX2_lockOut, Cond.code yX2_lockOut cX2_lockOut 2 (some .boolean), Cond.methodLink RX2 145 yX2_begin, Cond.instanceMethod yX2_begin, Cond.selects RX2 yX2_begin yX2_begin, Cond.code yX2_begin cX2_begin 3 (some .boolean), Cond.methodLink RX2 127 yX2_sequencePurge, Cond.instanceMethod yX2_sequencePurge, Cond.selects RX2 yX2_sequencePurge yX2_sequencePurge, Cond.code yX2_sequencePurge cX2_sequencePurge 2 (some .boolean), Cond.methodLink RX2 130 yX2_sequenceLighting]
def wsX6_toPilot_r5 : List Cond := [Cond.instanceMethod yX2_sequenceLighting, Cond.selects RX2 yX2_sequenceLighting yX2_sequenceLighting, Cond.code yX2_sequenceLighting cX2_sequenceLighting 2 (some .boolean), Cond.methodLink RX2 154 yX2_lightPilot, Cond.instanceMethod yX2_lightPilot, Cond.selects RX2 yX2_lightPilot yX2_lightPilot, Cond.code yX2_lightPilot cX2_lightPilot 1 (some .boolean), Cond.methodLink RX2 157 yX2_lightMain, Cond.instanceMethod yX2_lightMain, Cond.selects RX2 yX2_lightMain yX2_lightMain, Cond.code yX2_lightMain cX2_lightMain 1 (some .boolean), Cond.methodLink RX2 133 yX2_sequenceRun, Cond.instanceMethod yX2_sequenceRun, Cond.selects RX2 yX2_sequenceRun yX2_sequenceRun, Cond.code yX2_sequenceRun cX2_sequenceRun 2 (some .boolean), Cond.methodLink RX2 166 yX2_isCheckDue, Cond.instanceMethod yX2_isCheckDue, Cond.selects RX2 yX2_isCheckDue yX2_isCheckDue, Cond.code yX2_isCheckDue cX2_isCheckDue 1 (some .boolean), Cond.methodLink RX2 136 yX2_sequenceAfterPurge, Cond.instanceMethod yX2_sequenceAfterPurge, Cond.selects RX2 yX2_sequenceAfterPurge yX2_sequenceAfterPurge, Cond.code yX2_sequenceAfterPurge cX2_sequenceAfterPurge 1 (some .boolean), Cond.methodLink RX2 80 yX2_countUnlit]
def wsX6_toPilot_r6 : List Cond := [Cond.instanceMethod yX2_countUnlit, Cond.selects RX2 yX2_countUnlit yX2_countUnlit, Cond.code yX2_countUnlit cX2_countUnlit 2 none]
def wsX6_toPilot : List Cond := .code yX6_toPilot cX6_toPilot 3 (some .int) :: ((wsX6_toPilot_r1 ++ (wsX6_toPilot_r2 ++ (wsX6_toPilot_r3 ++ (wsX6_toPilot_r4 ++ (wsX6_toPilot_r5 ++ wsX6_toPilot_r6))))) ++ wsX60 ++ wsX00 ++ wsX20 ++ wsX10 ++ wsX50)
def wsX7_init : List Cond := .code yX7_init cX7_init 1 none :: ([.methodLink RX7 1 objectInit, .instanceMethod objectInit, .code objectInit ⟨#[0xb1]⟩ 1 none, .fieldLink RX7 7 "BurnerlineModel" "rate" "I", .fieldLink RX7 13 "BurnerlineModel" "longPurge" "I", .fieldLink RX7 16 "BurnerlineModel" "longPilot" "I", .fieldLink RX7 19 "BurnerlineModel" "longMain" "I", .fieldLink RX7 22 "BurnerlineModel" "longAfter" "I", .fieldLink RX7 25 "BurnerlineModel" "light" "I", .fieldLink RX7 28 "BurnerlineModel" "none" "I", .fieldLink RX7 31 "BurnerlineModel" "check" "I", .fieldLink RX7 34 "BurnerlineModel" "volume" "I", .fieldLink RX7 37 "BurnerlineModel" "airStep" "I", .fieldLink RX7 40 "BurnerlineModel" "fuelStep" "I", .arrayClass .int, .fieldLink RX7 43 "BurnerlineModel" "changedAt" "[I", .fieldLink RX7 47 "BurnerlineModel" "changedTo" "[I", .fieldLink RX7 50 "BurnerlineModel" "changedFor" "[I", .fieldLink RX7 53 "BurnerlineModel" "resetAt" "[I", .arrayClass .long, .fieldLink RX7 56 "BurnerlineModel" "now" "[J", .fieldLink RX7 60 "BurnerlineModel" "then" "[J"] ++ wsX70)
def wsX7_thrown : List Cond := .code yX7_thrown cX7_thrown 1 (some .int) :: ([.fieldLink RX7 63 "BurnerlineModel" "thrown" "I"] ++ wsX70)
def wsX7_asks : List Cond := .code yX7_asks cX7_asks 2 (some .boolean) :: ([.fieldLink RX7 63 "BurnerlineModel" "thrown" "I"] ++ wsX70)
def wsX7_in : List Cond := .code yX7_in cX7_in 3 (some .boolean) :: ([])
def wsX7_signal : List Cond := .code yX7_signal cX7_signal 4 (some .boolean) :: ([.fieldLink RX7 74 "BurnerlineModel" "signals" "I", .methodLink RX7 66 yX7_in, .static yX7_in, .initialized RX7, .code yX7_in cX7_in 3 (some .boolean), .methodLink RX7 70 yX7_asks, .instanceMethod yX7_asks, .selects RX7 yX7_asks yX7_asks, .code yX7_asks cX7_asks 2 (some .boolean), .fieldLink RX7 63 "BurnerlineModel" "thrown" "I"] ++ wsX70)
def wsX7_setRate : List Cond := .code yX7_setRate cX7_setRate 3 (some .int) :: ([.fieldLink RX7 7 "BurnerlineModel" "rate" "I", .methodLink RX7 66 yX7_in, .static yX7_in, .initialized RX7, .code yX7_in cX7_in 3 (some .boolean), .methodLink RX7 70 yX7_asks, .instanceMethod yX7_asks, .selects RX7 yX7_asks yX7_asks, .code yX7_asks cX7_asks 2 (some .boolean), .fieldLink RX7 63 "BurnerlineModel" "thrown" "I"] ++ wsX70)
def wsX7_asksSetting : List Cond := .code yX7_asksSetting cX7_asksSetting 2 (some .boolean) :: ([.fieldLink RX7 77 "BurnerlineModel" "state" "I", .fieldLink RX7 63 "BurnerlineModel" "thrown" "I"] ++ wsX70)
def wsX7_setTimes : List Cond := .code yX7_setTimes cX7_setTimes 5 none :: ([.fieldLink RX7 13 "BurnerlineModel" "longPurge" "I", .fieldLink RX7 16 "BurnerlineModel" "longPilot" "I", .fieldLink RX7 19 "BurnerlineModel" "longMain" "I", .fieldLink RX7 22 "BurnerlineModel" "longAfter" "I", .methodLink RX7 66 yX7_in, .static yX7_in, .initialized RX7, .code yX7_in cX7_in 3 (some .boolean), .methodLink RX7 80 yX7_asksSetting, .instanceMethod yX7_asksSetting, .selects RX7 yX7_asksSetting yX7_asksSetting, .code yX7_asksSetting cX7_asksSetting 2 (some .boolean), .fieldLink RX7 77 "BurnerlineModel" "state" "I", .fieldLink RX7 63 "BurnerlineModel" "thrown" "I"] ++ wsX70)
def wsX7_setEyes : List Cond := .code yX7_setEyes cX7_setEyes 4 none :: ([.fieldLink RX7 25 "BurnerlineModel" "light" "I", .fieldLink RX7 28 "BurnerlineModel" "none" "I", .fieldLink RX7 31 "BurnerlineModel" "check" "I", .methodLink RX7 66 yX7_in, .static yX7_in, .initialized RX7, .code yX7_in cX7_in 3 (some .boolean), .methodLink RX7 80 yX7_asksSetting, .instanceMethod yX7_asksSetting, .selects RX7 yX7_asksSetting yX7_asksSetting, .code yX7_asksSetting cX7_asksSetting 2 (some .boolean), .fieldLink RX7 77 "BurnerlineModel" "state" "I", .fieldLink RX7 63 "BurnerlineModel" "thrown" "I"] ++ wsX70)
def wsX7_setFurnace : List Cond := .code yX7_setFurnace cX7_setFurnace 4 none :: ([.fieldLink RX7 34 "BurnerlineModel" "volume" "I", .fieldLink RX7 37 "BurnerlineModel" "airStep" "I", .fieldLink RX7 40 "BurnerlineModel" "fuelStep" "I", .methodLink RX7 66 yX7_in, .static yX7_in, .initialized RX7, .code yX7_in cX7_in 3 (some .boolean), .methodLink RX7 80 yX7_asksSetting, .instanceMethod yX7_asksSetting, .selects RX7 yX7_asksSetting yX7_asksSetting, .code yX7_asksSetting cX7_asksSetting 2 (some .boolean), .fieldLink RX7 77 "BurnerlineModel" "state" "I", .fieldLink RX7 63 "BurnerlineModel" "thrown" "I"] ++ wsX70)
def wsX7_has : List Cond := .code yX7_has cX7_has 2 (some .boolean) :: ([])
def wsX7_looks : List Cond := .code yX7_looks cX7_looks 5 (some .int) :: ([.fieldLink RX7 87 "BurnerlineModel" "seen" "I", .fieldLink RX7 25 "BurnerlineModel" "light" "I", .fieldLink RX7 28 "BurnerlineModel" "none" "I", .methodLink RX7 83 yX7_has, .static yX7_has, .initialized RX7, .code yX7_has cX7_has 2 (some .boolean)] ++ wsX70)
def wsX7_nears : List Cond := .code yX7_nears cX7_nears 3 (some .int) :: ([])
def wsX7_goes : List Cond := .code yX7_goes cX7_goes 3 none :: ([.fieldLink RX7 77 "BurnerlineModel" "state" "I", .fieldLink RX7 7 "BurnerlineModel" "rate" "I", .fieldLink RX7 90 "BurnerlineModel" "fuel" "I", .fieldLink RX7 93 "BurnerlineModel" "air" "I", .fieldLink RX7 37 "BurnerlineModel" "airStep" "I", .fieldLink RX7 40 "BurnerlineModel" "fuelStep" "I", .methodLink RX7 96 yX7_nears, .static yX7_nears, .initialized RX7, .code yX7_nears cX7_nears 3 (some .int)] ++ wsX70)
def wsX7_begins : List Cond := .code yX7_begins cX7_begins 3 none :: ([.fieldLink RX7 77 "BurnerlineModel" "state" "I", .fieldLink RX7 100 "BurnerlineModel" "why" "I", .fieldLink RX7 103 "BurnerlineModel" "time" "I", .fieldLink RX7 106 "BurnerlineModel" "purged" "I", .fieldLink RX7 90 "BurnerlineModel" "fuel" "I"] ++ wsX70)
def wsX7_lacks : List Cond := .code yX7_lacks cX7_lacks 2 (some .boolean) :: ([.methodLink RX7 83 yX7_has, .static yX7_has, .initialized RX7, .code yX7_has cX7_has 2 (some .boolean), .methodLink RX7 109 yX7_begins, .instanceMethod yX7_begins, .selects RX7 yX7_begins yX7_begins, .code yX7_begins cX7_begins 3 none, .fieldLink RX7 77 "BurnerlineModel" "state" "I", .fieldLink RX7 100 "BurnerlineModel" "why" "I", .fieldLink RX7 103 "BurnerlineModel" "time" "I", .fieldLink RX7 106 "BurnerlineModel" "purged" "I", .fieldLink RX7 90 "BurnerlineModel" "fuel" "I"] ++ wsX70)
def wsX7_purges : List Cond := .code yX7_purges cX7_purges 3 none :: ([.fieldLink RX7 87 "BurnerlineModel" "seen" "I", .fieldLink RX7 93 "BurnerlineModel" "air" "I", .fieldLink RX7 106 "BurnerlineModel" "purged" "I", .fieldLink RX7 34 "BurnerlineModel" "volume" "I", .fieldLink RX7 103 "BurnerlineModel" "time" "I", .fieldLink RX7 13 "BurnerlineModel" "longPurge" "I", .methodLink RX7 109 yX7_begins, .instanceMethod yX7_begins, .selects RX7 yX7_begins yX7_begins, .initialized RX7, .code yX7_begins cX7_begins 3 none, .fieldLink RX7 77 "BurnerlineModel" "state" "I", .fieldLink RX7 100 "BurnerlineModel" "why" "I", .fieldLink RX7 90 "BurnerlineModel" "fuel" "I", .methodLink RX7 83 yX7_has, .static yX7_has, .code yX7_has cX7_has 2 (some .boolean)] ++ wsX70)
def wsX7_lights : List Cond := .code yX7_lights cX7_lights 4 none :: ([.fieldLink RX7 77 "BurnerlineModel" "state" "I", .fieldLink RX7 87 "BurnerlineModel" "seen" "I", .fieldLink RX7 103 "BurnerlineModel" "time" "I", .fieldLink RX7 16 "BurnerlineModel" "longPilot" "I", .fieldLink RX7 19 "BurnerlineModel" "longMain" "I", .methodLink RX7 123 yX7_lacks, .instanceMethod yX7_lacks, .selects RX7 yX7_lacks yX7_lacks, .initialized RX7, .code yX7_lacks cX7_lacks 2 (some .boolean), .methodLink RX7 83 yX7_has, .static yX7_has, .code yX7_has cX7_has 2 (some .boolean), .methodLink RX7 109 yX7_begins, .instanceMethod yX7_begins, .selects RX7 yX7_begins yX7_begins, .code yX7_begins cX7_begins 3 none, .fieldLink RX7 100 "BurnerlineModel" "why" "I", .fieldLink RX7 106 "BurnerlineModel" "purged" "I", .fieldLink RX7 90 "BurnerlineModel" "fuel" "I"] ++ wsX70)
def wsX7_runs : List Cond := .code yX7_runs cX7_runs 3 none :: ([.fieldLink RX7 87 "BurnerlineModel" "seen" "I", .fieldLink RX7 103 "BurnerlineModel" "time" "I", .fieldLink RX7 31 "BurnerlineModel" "check" "I", .methodLink RX7 123 yX7_lacks, .instanceMethod yX7_lacks, .selects RX7 yX7_lacks yX7_lacks, .initialized RX7, .code yX7_lacks cX7_lacks 2 (some .boolean), .methodLink RX7 83 yX7_has, .static yX7_has, .code yX7_has cX7_has 2 (some .boolean), .methodLink RX7 109 yX7_begins, .instanceMethod yX7_begins, .selects RX7 yX7_begins yX7_begins, .code yX7_begins cX7_begins 3 none, .fieldLink RX7 77 "BurnerlineModel" "state" "I", .fieldLink RX7 100 "BurnerlineModel" "why" "I", .fieldLink RX7 106 "BurnerlineModel" "purged" "I", .fieldLink RX7 90 "BurnerlineModel" "fuel" "I"] ++ wsX70)
def wsX7_decides_r1 : List Cond := [Cond.fieldLink RX7 77 "BurnerlineModel" "state" "I", Cond.fieldLink RX7 87 "BurnerlineModel" "seen" "I", Cond.fieldLink RX7 103 "BurnerlineModel" "time" "I", Cond.fieldLink RX7 22 "BurnerlineModel" "longAfter" "I", Cond.methodLink RX7 83 yX7_has, Cond.static yX7_has, Cond.initialized RX7, Cond.code yX7_has cX7_has 2 (some .boolean), Cond.methodLink RX7 109 yX7_begins, Cond.instanceMethod yX7_begins, Cond.selects RX7 yX7_begins yX7_begins, Cond.code yX7_begins cX7_begins 3 none, Cond.fieldLink RX7 100 "BurnerlineModel" "why" "I", Cond.fieldLink RX7 106 "BurnerlineModel" "purged" "I", Cond.fieldLink RX7 90 "BurnerlineModel" "fuel" "I", Cond.methodLink RX7 113 yX7_purges, Cond.instanceMethod yX7_purges, Cond.selects RX7 yX7_purges yX7_purges, Cond.code yX7_purges cX7_purges 3 none, Cond.fieldLink RX7 93 "BurnerlineModel" "air" "I", Cond.fieldLink RX7 34 "BurnerlineModel" "volume" "I", Cond.fieldLink RX7 13 "BurnerlineModel" "longPurge" "I", Cond.methodLink RX7 117 yX7_lights, Cond.instanceMethod yX7_lights]
def wsX7_decides_r2 : List Cond := [Cond.selects RX7 yX7_lights yX7_lights, Cond.code yX7_lights cX7_lights 4 none, Cond.fieldLink RX7 16 "BurnerlineModel" "longPilot" "I", Cond.fieldLink RX7 19 "BurnerlineModel" "longMain" "I", Cond.methodLink RX7 123 yX7_lacks, Cond.instanceMethod yX7_lacks, Cond.selects RX7 yX7_lacks yX7_lacks, Cond.code yX7_lacks cX7_lacks 2 (some .boolean), Cond.methodLink RX7 120 yX7_runs, Cond.instanceMethod yX7_runs, Cond.selects RX7 yX7_runs yX7_runs, Cond.code yX7_runs cX7_runs 3 none, Cond.fieldLink RX7 31 "BurnerlineModel" "check" "I"]
def wsX7_decides : List Cond := .code yX7_decides cX7_decides 3 none :: ((wsX7_decides_r1 ++ wsX7_decides_r2) ++ wsX70)
def wsX7_plays_r1 : List Cond := [Cond.fieldLink RX7 127 "BurnerlineModel" "pilotRow" "I", Cond.fieldLink RX7 133 "BurnerlineModel" "mainRow" "I", Cond.fieldLink RX7 103 "BurnerlineModel" "time" "I", Cond.methodLink RX7 130 yX7_looks, Cond.instanceMethod yX7_looks, Cond.selects RX7 yX7_looks yX7_looks, Cond.initialized RX7, Cond.code yX7_looks cX7_looks 5 (some .int), Cond.fieldLink RX7 87 "BurnerlineModel" "seen" "I", Cond.fieldLink RX7 25 "BurnerlineModel" "light" "I", Cond.fieldLink RX7 28 "BurnerlineModel" "none" "I", Cond.methodLink RX7 83 yX7_has, Cond.static yX7_has, Cond.code yX7_has cX7_has 2 (some .boolean), Cond.methodLink RX7 136 yX7_goes, Cond.instanceMethod yX7_goes, Cond.selects RX7 yX7_goes yX7_goes, Cond.code yX7_goes cX7_goes 3 none, Cond.fieldLink RX7 77 "BurnerlineModel" "state" "I", Cond.fieldLink RX7 7 "BurnerlineModel" "rate" "I", Cond.fieldLink RX7 90 "BurnerlineModel" "fuel" "I", Cond.fieldLink RX7 93 "BurnerlineModel" "air" "I", Cond.fieldLink RX7 37 "BurnerlineModel" "airStep" "I", Cond.fieldLink RX7 40 "BurnerlineModel" "fuelStep" "I"]
def wsX7_plays_r2 : List Cond := [Cond.methodLink RX7 96 yX7_nears, Cond.static yX7_nears, Cond.code yX7_nears cX7_nears 3 (some .int), Cond.methodLink RX7 139 yX7_decides, Cond.instanceMethod yX7_decides, Cond.selects RX7 yX7_decides yX7_decides, Cond.code yX7_decides cX7_decides 3 none, Cond.fieldLink RX7 22 "BurnerlineModel" "longAfter" "I", Cond.methodLink RX7 109 yX7_begins, Cond.instanceMethod yX7_begins, Cond.selects RX7 yX7_begins yX7_begins, Cond.code yX7_begins cX7_begins 3 none, Cond.fieldLink RX7 100 "BurnerlineModel" "why" "I", Cond.fieldLink RX7 106 "BurnerlineModel" "purged" "I", Cond.methodLink RX7 113 yX7_purges, Cond.instanceMethod yX7_purges, Cond.selects RX7 yX7_purges yX7_purges, Cond.code yX7_purges cX7_purges 3 none, Cond.fieldLink RX7 34 "BurnerlineModel" "volume" "I", Cond.fieldLink RX7 13 "BurnerlineModel" "longPurge" "I", Cond.methodLink RX7 117 yX7_lights, Cond.instanceMethod yX7_lights, Cond.selects RX7 yX7_lights yX7_lights, Cond.code yX7_lights cX7_lights 4 none]
def wsX7_plays_r3 : List Cond := [Cond.fieldLink RX7 16 "BurnerlineModel" "longPilot" "I", Cond.fieldLink RX7 19 "BurnerlineModel" "longMain" "I", Cond.methodLink RX7 123 yX7_lacks, Cond.instanceMethod yX7_lacks, Cond.selects RX7 yX7_lacks yX7_lacks, Cond.code yX7_lacks cX7_lacks 2 (some .boolean), Cond.methodLink RX7 120 yX7_runs, Cond.instanceMethod yX7_runs, Cond.selects RX7 yX7_runs yX7_runs, Cond.code yX7_runs cX7_runs 3 none, Cond.fieldLink RX7 31 "BurnerlineModel" "check" "I"]
def wsX7_plays : List Cond := .code yX7_plays cX7_plays 2 none :: ((wsX7_plays_r1 ++ (wsX7_plays_r2 ++ wsX7_plays_r3)) ++ wsX70)
def wsX7_notes : List Cond := .code yX7_notes cX7_notes 1 none :: ([.fieldLink RX7 43 "BurnerlineModel" "changedAt" "[I", .fieldLink RX7 143 "BurnerlineModel" "changes" "I", .fieldLink RX7 146 "BurnerlineModel" "ticks" "I", .fieldLink RX7 47 "BurnerlineModel" "changedTo" "[I", .fieldLink RX7 77 "BurnerlineModel" "state" "I", .fieldLink RX7 50 "BurnerlineModel" "changedFor" "[I", .fieldLink RX7 100 "BurnerlineModel" "why" "I"] ++ wsX70)
def wsX7_poll_r1 : List Cond := [Cond.fieldLink RX7 143 "BurnerlineModel" "changes" "I", Cond.fieldLink RX7 77 "BurnerlineModel" "state" "I", Cond.fieldLink RX7 74 "BurnerlineModel" "signals" "I", Cond.fieldLink RX7 146 "BurnerlineModel" "ticks" "I", Cond.fieldLink RX7 87 "BurnerlineModel" "seen" "I", Cond.fieldLink RX7 155 "BurnerlineModel" "unlit" "I", Cond.fieldLink RX7 158 "BurnerlineModel" "longestUnlit" "I", Cond.methodLink RX7 66 yX7_in, Cond.static yX7_in, Cond.initialized RX7, Cond.code yX7_in cX7_in 3 (some .boolean), Cond.methodLink RX7 70 yX7_asks, Cond.instanceMethod yX7_asks, Cond.selects RX7 yX7_asks yX7_asks, Cond.code yX7_asks cX7_asks 2 (some .boolean), Cond.fieldLink RX7 63 "BurnerlineModel" "thrown" "I", Cond.methodLink RX7 149 yX7_plays, Cond.instanceMethod yX7_plays, Cond.selects RX7 yX7_plays yX7_plays, Cond.code yX7_plays cX7_plays 2 none, Cond.fieldLink RX7 127 "BurnerlineModel" "pilotRow" "I", Cond.fieldLink RX7 133 "BurnerlineModel" "mainRow" "I", Cond.fieldLink RX7 103 "BurnerlineModel" "time" "I", Cond.methodLink RX7 130 yX7_looks]
def wsX7_poll_r2 : List Cond := [Cond.instanceMethod yX7_looks, Cond.selects RX7 yX7_looks yX7_looks, Cond.code yX7_looks cX7_looks 5 (some .int), Cond.fieldLink RX7 25 "BurnerlineModel" "light" "I", Cond.fieldLink RX7 28 "BurnerlineModel" "none" "I", Cond.methodLink RX7 83 yX7_has, Cond.static yX7_has, Cond.code yX7_has cX7_has 2 (some .boolean), Cond.methodLink RX7 136 yX7_goes, Cond.instanceMethod yX7_goes, Cond.selects RX7 yX7_goes yX7_goes, Cond.code yX7_goes cX7_goes 3 none, Cond.fieldLink RX7 7 "BurnerlineModel" "rate" "I", Cond.fieldLink RX7 90 "BurnerlineModel" "fuel" "I", Cond.fieldLink RX7 93 "BurnerlineModel" "air" "I", Cond.fieldLink RX7 37 "BurnerlineModel" "airStep" "I", Cond.fieldLink RX7 40 "BurnerlineModel" "fuelStep" "I", Cond.methodLink RX7 96 yX7_nears, Cond.static yX7_nears, Cond.code yX7_nears cX7_nears 3 (some .int), Cond.methodLink RX7 139 yX7_decides, Cond.instanceMethod yX7_decides, Cond.selects RX7 yX7_decides yX7_decides, Cond.code yX7_decides cX7_decides 3 none]
def wsX7_poll_r3 : List Cond := [Cond.fieldLink RX7 22 "BurnerlineModel" "longAfter" "I", Cond.methodLink RX7 109 yX7_begins, Cond.instanceMethod yX7_begins, Cond.selects RX7 yX7_begins yX7_begins, Cond.code yX7_begins cX7_begins 3 none, Cond.fieldLink RX7 100 "BurnerlineModel" "why" "I", Cond.fieldLink RX7 106 "BurnerlineModel" "purged" "I", Cond.methodLink RX7 113 yX7_purges, Cond.instanceMethod yX7_purges, Cond.selects RX7 yX7_purges yX7_purges, Cond.code yX7_purges cX7_purges 3 none, Cond.fieldLink RX7 34 "BurnerlineModel" "volume" "I", Cond.fieldLink RX7 13 "BurnerlineModel" "longPurge" "I", Cond.methodLink RX7 117 yX7_lights, Cond.instanceMethod yX7_lights, Cond.selects RX7 yX7_lights yX7_lights, Cond.code yX7_lights cX7_lights 4 none, Cond.fieldLink RX7 16 "BurnerlineModel" "longPilot" "I", Cond.fieldLink RX7 19 "BurnerlineModel" "longMain" "I", Cond.methodLink RX7 123 yX7_lacks, Cond.instanceMethod yX7_lacks, Cond.selects RX7 yX7_lacks yX7_lacks, Cond.code yX7_lacks cX7_lacks 2 (some .boolean), Cond.methodLink RX7 120 yX7_runs]
def wsX7_poll_r4 : List Cond := [Cond.instanceMethod yX7_runs, Cond.selects RX7 yX7_runs yX7_runs, Cond.code yX7_runs cX7_runs 3 none, Cond.fieldLink RX7 31 "BurnerlineModel" "check" "I", Cond.methodLink RX7 152 yX7_notes, Cond.instanceMethod yX7_notes, Cond.selects RX7 yX7_notes yX7_notes, Cond.code yX7_notes cX7_notes 1 none, Cond.fieldLink RX7 43 "BurnerlineModel" "changedAt" "[I", Cond.fieldLink RX7 47 "BurnerlineModel" "changedTo" "[I", Cond.fieldLink RX7 50 "BurnerlineModel" "changedFor" "[I"]
def wsX7_poll : List Cond := .code yX7_poll cX7_poll 5 (some .int) :: ((wsX7_poll_r1 ++ (wsX7_poll_r2 ++ (wsX7_poll_r3 ++ wsX7_poll_r4))) ++ wsX70)
def wsX7_recentResets : List Cond := .code yX7_recentResets cX7_recentResets 3 (some .int) :: ([.fieldLink RX7 161 "BurnerlineModel" "resets" "I", .fieldLink RX7 146 "BurnerlineModel" "ticks" "I", .fieldLink RX7 53 "BurnerlineModel" "resetAt" "[I"] ++ wsX70)
def wsX7_reset_r1 : List Cond := [Cond.fieldLink RX7 77 "BurnerlineModel" "state" "I", Cond.fieldLink RX7 87 "BurnerlineModel" "seen" "I", Cond.fieldLink RX7 103 "BurnerlineModel" "time" "I", Cond.fieldLink RX7 53 "BurnerlineModel" "resetAt" "[I", Cond.fieldLink RX7 161 "BurnerlineModel" "resets" "I", Cond.fieldLink RX7 146 "BurnerlineModel" "ticks" "I", Cond.methodLink RX7 164 yX7_recentResets, Cond.instanceMethod yX7_recentResets, Cond.selects RX7 yX7_recentResets yX7_recentResets, Cond.initialized RX7, Cond.code yX7_recentResets cX7_recentResets 3 (some .int), Cond.methodLink RX7 70 yX7_asks, Cond.instanceMethod yX7_asks, Cond.selects RX7 yX7_asks yX7_asks, Cond.code yX7_asks cX7_asks 2 (some .boolean), Cond.fieldLink RX7 63 "BurnerlineModel" "thrown" "I", Cond.methodLink RX7 109 yX7_begins, Cond.instanceMethod yX7_begins, Cond.selects RX7 yX7_begins yX7_begins, Cond.code yX7_begins cX7_begins 3 none, Cond.fieldLink RX7 100 "BurnerlineModel" "why" "I", Cond.fieldLink RX7 106 "BurnerlineModel" "purged" "I", Cond.fieldLink RX7 90 "BurnerlineModel" "fuel" "I", Cond.methodLink RX7 152 yX7_notes]
def wsX7_reset_r2 : List Cond := [Cond.instanceMethod yX7_notes, Cond.selects RX7 yX7_notes yX7_notes, Cond.code yX7_notes cX7_notes 1 none, Cond.fieldLink RX7 43 "BurnerlineModel" "changedAt" "[I", Cond.fieldLink RX7 143 "BurnerlineModel" "changes" "I", Cond.fieldLink RX7 47 "BurnerlineModel" "changedTo" "[I", Cond.fieldLink RX7 50 "BurnerlineModel" "changedFor" "[I"]
def wsX7_reset : List Cond := .code yX7_reset cX7_reset 1 (some .int) :: ((wsX7_reset_r1 ++ wsX7_reset_r2) ++ wsX70)
def wsX7_ticks : List Cond := .code yX7_ticks cX7_ticks 1 (some .int) :: ([.fieldLink RX7 63 "BurnerlineModel" "thrown" "I", .fieldLink RX7 146 "BurnerlineModel" "ticks" "I"] ++ wsX70)
def wsX7_state : List Cond := .code yX7_state cX7_state 1 (some .int) :: ([.fieldLink RX7 63 "BurnerlineModel" "thrown" "I", .fieldLink RX7 77 "BurnerlineModel" "state" "I"] ++ wsX70)
def wsX7_reason : List Cond := .code yX7_reason cX7_reason 1 (some .int) :: ([.fieldLink RX7 63 "BurnerlineModel" "thrown" "I", .fieldLink RX7 100 "BurnerlineModel" "why" "I"] ++ wsX70)
def wsX7_time : List Cond := .code yX7_time cX7_time 1 (some .int) :: ([.fieldLink RX7 63 "BurnerlineModel" "thrown" "I", .fieldLink RX7 103 "BurnerlineModel" "time" "I"] ++ wsX70)
def wsX7_isOpen : List Cond := .code yX7_isOpen cX7_isOpen 2 (some .boolean) :: ([.fieldLink RX7 63 "BurnerlineModel" "thrown" "I", .fieldLink RX7 77 "BurnerlineModel" "state" "I"] ++ wsX70)
def wsX7_sees : List Cond := .code yX7_sees cX7_sees 2 (some .boolean) :: ([.fieldLink RX7 63 "BurnerlineModel" "thrown" "I", .fieldLink RX7 87 "BurnerlineModel" "seen" "I", .methodLink RX7 83 yX7_has, .static yX7_has, .initialized RX7, .code yX7_has cX7_has 2 (some .boolean)] ++ wsX70)
def wsX7_air : List Cond := .code yX7_air cX7_air 1 (some .int) :: ([.fieldLink RX7 63 "BurnerlineModel" "thrown" "I", .fieldLink RX7 93 "BurnerlineModel" "air" "I"] ++ wsX70)
def wsX7_fuel : List Cond := .code yX7_fuel cX7_fuel 1 (some .int) :: ([.fieldLink RX7 63 "BurnerlineModel" "thrown" "I", .fieldLink RX7 90 "BurnerlineModel" "fuel" "I"] ++ wsX70)
def wsX7_purged : List Cond := .code yX7_purged cX7_purged 1 (some .int) :: ([.fieldLink RX7 63 "BurnerlineModel" "thrown" "I", .fieldLink RX7 106 "BurnerlineModel" "purged" "I"] ++ wsX70)
def wsX7_unlit : List Cond := .code yX7_unlit cX7_unlit 1 (some .int) :: ([.fieldLink RX7 63 "BurnerlineModel" "thrown" "I", .fieldLink RX7 155 "BurnerlineModel" "unlit" "I"] ++ wsX70)
def wsX7_longestUnlit : List Cond := .code yX7_longestUnlit cX7_longestUnlit 1 (some .int) :: ([.fieldLink RX7 63 "BurnerlineModel" "thrown" "I", .fieldLink RX7 158 "BurnerlineModel" "longestUnlit" "I"] ++ wsX70)
def wsX7_changes : List Cond := .code yX7_changes cX7_changes 1 (some .int) :: ([.fieldLink RX7 63 "BurnerlineModel" "thrown" "I", .fieldLink RX7 143 "BurnerlineModel" "changes" "I"] ++ wsX70)
def wsX7_kept : List Cond := .code yX7_kept cX7_kept 1 (some .int) :: ([.fieldLink RX7 143 "BurnerlineModel" "changes" "I"] ++ wsX70)
def wsX7_records : List Cond := .code yX7_records cX7_records 1 (some .int) :: ([.fieldLink RX7 63 "BurnerlineModel" "thrown" "I", .methodLink RX7 168 yX7_kept, .instanceMethod yX7_kept, .selects RX7 yX7_kept yX7_kept, .initialized RX7, .code yX7_kept cX7_kept 1 (some .int), .fieldLink RX7 143 "BurnerlineModel" "changes" "I"] ++ wsX70)
def wsX7_place : List Cond := .code yX7_place cX7_place 2 (some .int) :: ([.fieldLink RX7 143 "BurnerlineModel" "changes" "I"] ++ wsX70)
def wsX7_tickOf : List Cond := .code yX7_tickOf cX7_tickOf 2 (some .int) :: ([.fieldLink RX7 43 "BurnerlineModel" "changedAt" "[I", .methodLink RX7 168 yX7_kept, .instanceMethod yX7_kept, .selects RX7 yX7_kept yX7_kept, .initialized RX7, .code yX7_kept cX7_kept 1 (some .int), .fieldLink RX7 143 "BurnerlineModel" "changes" "I", .methodLink RX7 70 yX7_asks, .instanceMethod yX7_asks, .selects RX7 yX7_asks yX7_asks, .code yX7_asks cX7_asks 2 (some .boolean), .fieldLink RX7 63 "BurnerlineModel" "thrown" "I", .methodLink RX7 171 yX7_place, .instanceMethod yX7_place, .selects RX7 yX7_place yX7_place, .code yX7_place cX7_place 2 (some .int)] ++ wsX70)
def wsX7_stateOf : List Cond := .code yX7_stateOf cX7_stateOf 2 (some .int) :: ([.fieldLink RX7 47 "BurnerlineModel" "changedTo" "[I", .methodLink RX7 168 yX7_kept, .instanceMethod yX7_kept, .selects RX7 yX7_kept yX7_kept, .initialized RX7, .code yX7_kept cX7_kept 1 (some .int), .fieldLink RX7 143 "BurnerlineModel" "changes" "I", .methodLink RX7 70 yX7_asks, .instanceMethod yX7_asks, .selects RX7 yX7_asks yX7_asks, .code yX7_asks cX7_asks 2 (some .boolean), .fieldLink RX7 63 "BurnerlineModel" "thrown" "I", .methodLink RX7 171 yX7_place, .instanceMethod yX7_place, .selects RX7 yX7_place yX7_place, .code yX7_place cX7_place 2 (some .int)] ++ wsX70)
def wsX7_reasonOf : List Cond := .code yX7_reasonOf cX7_reasonOf 2 (some .int) :: ([.fieldLink RX7 50 "BurnerlineModel" "changedFor" "[I", .methodLink RX7 168 yX7_kept, .instanceMethod yX7_kept, .selects RX7 yX7_kept yX7_kept, .initialized RX7, .code yX7_kept cX7_kept 1 (some .int), .fieldLink RX7 143 "BurnerlineModel" "changes" "I", .methodLink RX7 70 yX7_asks, .instanceMethod yX7_asks, .selects RX7 yX7_asks yX7_asks, .code yX7_asks cX7_asks 2 (some .boolean), .fieldLink RX7 63 "BurnerlineModel" "thrown" "I", .methodLink RX7 171 yX7_place, .instanceMethod yX7_place, .selects RX7 yX7_place yX7_place, .code yX7_place cX7_place 2 (some .int)] ++ wsX70)
def wsX7_packs : List Cond := .code yX7_packs cX7_packs 1 (some .long) :: ([.fieldLink RX7 77 "BurnerlineModel" "state" "I", .fieldLink RX7 100 "BurnerlineModel" "why" "I", .fieldLink RX7 103 "BurnerlineModel" "time" "I", .fieldLink RX7 93 "BurnerlineModel" "air" "I", .fieldLink RX7 90 "BurnerlineModel" "fuel" "I", .fieldLink RX7 106 "BurnerlineModel" "purged" "I", .fieldLink RX7 87 "BurnerlineModel" "seen" "I", .fieldLink RX7 127 "BurnerlineModel" "pilotRow" "I", .fieldLink RX7 133 "BurnerlineModel" "mainRow" "I"] ++ wsX70)
def wsX7_unpacks : List Cond := .code yX7_unpacks cX7_unpacks 3 none :: ([.constantLong RX7 175 (7), .fieldLink RX7 77 "BurnerlineModel" "state" "I", .constantLong RX7 177 (15), .fieldLink RX7 100 "BurnerlineModel" "why" "I", .constantLong RX7 179 (262143), .fieldLink RX7 103 "BurnerlineModel" "time" "I", .constantLong RX7 181 (127), .fieldLink RX7 93 "BurnerlineModel" "air" "I", .fieldLink RX7 90 "BurnerlineModel" "fuel" "I", .constantLong RX7 183 (4095), .fieldLink RX7 106 "BurnerlineModel" "purged" "I", .constantLong RX7 185 (3), .fieldLink RX7 87 "BurnerlineModel" "seen" "I", .fieldLink RX7 127 "BurnerlineModel" "pilotRow" "I", .fieldLink RX7 133 "BurnerlineModel" "mainRow" "I"] ++ wsX70)
def wsX7_adds : List Cond := .code yX7_adds cX7_adds 6 (some .int) :: ([.fieldLink RX7 60 "BurnerlineModel" "then" "[J", .methodLink RX7 187 yX7_packs, .instanceMethod yX7_packs, .selects RX7 yX7_packs yX7_packs, .initialized RX7, .code yX7_packs cX7_packs 1 (some .long), .fieldLink RX7 77 "BurnerlineModel" "state" "I", .fieldLink RX7 100 "BurnerlineModel" "why" "I", .fieldLink RX7 103 "BurnerlineModel" "time" "I", .fieldLink RX7 93 "BurnerlineModel" "air" "I", .fieldLink RX7 90 "BurnerlineModel" "fuel" "I", .fieldLink RX7 106 "BurnerlineModel" "purged" "I", .fieldLink RX7 87 "BurnerlineModel" "seen" "I", .fieldLink RX7 127 "BurnerlineModel" "pilotRow" "I", .fieldLink RX7 133 "BurnerlineModel" "mainRow" "I"] ++ wsX70)
def wsX7_walks_r1 : List Cond := [Cond.fieldLink RX7 191 "BurnerlineModel" "reasons" "I", Cond.fieldLink RX7 56 "BurnerlineModel" "now" "[J", Cond.fieldLink RX7 194 "BurnerlineModel" "states" "I", Cond.fieldLink RX7 77 "BurnerlineModel" "state" "I", Cond.fieldLink RX7 100 "BurnerlineModel" "why" "I", Cond.fieldLink RX7 60 "BurnerlineModel" "then" "[J", Cond.methodLink RX7 187 yX7_packs, Cond.instanceMethod yX7_packs, Cond.selects RX7 yX7_packs yX7_packs, Cond.initialized RX7, Cond.code yX7_packs cX7_packs 1 (some .long), Cond.fieldLink RX7 103 "BurnerlineModel" "time" "I", Cond.fieldLink RX7 93 "BurnerlineModel" "air" "I", Cond.fieldLink RX7 90 "BurnerlineModel" "fuel" "I", Cond.fieldLink RX7 106 "BurnerlineModel" "purged" "I", Cond.fieldLink RX7 87 "BurnerlineModel" "seen" "I", Cond.fieldLink RX7 127 "BurnerlineModel" "pilotRow" "I", Cond.fieldLink RX7 133 "BurnerlineModel" "mainRow" "I", Cond.methodLink RX7 197 yX7_unpacks, Cond.instanceMethod yX7_unpacks, Cond.selects RX7 yX7_unpacks yX7_unpacks, Cond.code yX7_unpacks cX7_unpacks 3 none, Cond.constantLong RX7 175 (7), Cond.constantLong RX7 177 (15)]
def wsX7_walks_r2 : List Cond := [Cond.constantLong RX7 179 (262143), Cond.constantLong RX7 181 (127), Cond.constantLong RX7 183 (4095), Cond.constantLong RX7 185 (3), Cond.methodLink RX7 149 yX7_plays, Cond.instanceMethod yX7_plays, Cond.selects RX7 yX7_plays yX7_plays, Cond.code yX7_plays cX7_plays 2 none, Cond.methodLink RX7 130 yX7_looks, Cond.instanceMethod yX7_looks, Cond.selects RX7 yX7_looks yX7_looks, Cond.code yX7_looks cX7_looks 5 (some .int), Cond.fieldLink RX7 25 "BurnerlineModel" "light" "I", Cond.fieldLink RX7 28 "BurnerlineModel" "none" "I", Cond.methodLink RX7 83 yX7_has, Cond.static yX7_has, Cond.code yX7_has cX7_has 2 (some .boolean), Cond.methodLink RX7 136 yX7_goes, Cond.instanceMethod yX7_goes, Cond.selects RX7 yX7_goes yX7_goes, Cond.code yX7_goes cX7_goes 3 none, Cond.fieldLink RX7 7 "BurnerlineModel" "rate" "I", Cond.fieldLink RX7 37 "BurnerlineModel" "airStep" "I", Cond.fieldLink RX7 40 "BurnerlineModel" "fuelStep" "I"]
def wsX7_walks_r3 : List Cond := [Cond.methodLink RX7 96 yX7_nears, Cond.static yX7_nears, Cond.code yX7_nears cX7_nears 3 (some .int), Cond.methodLink RX7 139 yX7_decides, Cond.instanceMethod yX7_decides, Cond.selects RX7 yX7_decides yX7_decides, Cond.code yX7_decides cX7_decides 3 none, Cond.fieldLink RX7 22 "BurnerlineModel" "longAfter" "I", Cond.methodLink RX7 109 yX7_begins, Cond.instanceMethod yX7_begins, Cond.selects RX7 yX7_begins yX7_begins, Cond.code yX7_begins cX7_begins 3 none, Cond.methodLink RX7 113 yX7_purges, Cond.instanceMethod yX7_purges, Cond.selects RX7 yX7_purges yX7_purges, Cond.code yX7_purges cX7_purges 3 none, Cond.fieldLink RX7 34 "BurnerlineModel" "volume" "I", Cond.fieldLink RX7 13 "BurnerlineModel" "longPurge" "I", Cond.methodLink RX7 117 yX7_lights, Cond.instanceMethod yX7_lights, Cond.selects RX7 yX7_lights yX7_lights, Cond.code yX7_lights cX7_lights 4 none, Cond.fieldLink RX7 16 "BurnerlineModel" "longPilot" "I", Cond.fieldLink RX7 19 "BurnerlineModel" "longMain" "I"]
def wsX7_walks_r4 : List Cond := [Cond.methodLink RX7 123 yX7_lacks, Cond.instanceMethod yX7_lacks, Cond.selects RX7 yX7_lacks yX7_lacks, Cond.code yX7_lacks cX7_lacks 2 (some .boolean), Cond.methodLink RX7 120 yX7_runs, Cond.instanceMethod yX7_runs, Cond.selects RX7 yX7_runs yX7_runs, Cond.code yX7_runs cX7_runs 3 none, Cond.fieldLink RX7 31 "BurnerlineModel" "check" "I", Cond.methodLink RX7 201 yX7_adds, Cond.instanceMethod yX7_adds, Cond.selects RX7 yX7_adds yX7_adds, Cond.code yX7_adds cX7_adds 6 (some .int)]
def wsX7_walks : List Cond := .code yX7_walks cX7_walks 10 (some .int) :: ((wsX7_walks_r1 ++ (wsX7_walks_r2 ++ (wsX7_walks_r3 ++ wsX7_walks_r4))) ++ wsX70)
def wsX7_couldBe_r1 : List Cond := [Cond.methodLink RX7 66 yX7_in, Cond.static yX7_in, Cond.initialized RX7, Cond.code yX7_in cX7_in 3 (some .boolean), Cond.methodLink RX7 70 yX7_asks, Cond.instanceMethod yX7_asks, Cond.selects RX7 yX7_asks yX7_asks, Cond.code yX7_asks cX7_asks 2 (some .boolean), Cond.fieldLink RX7 63 "BurnerlineModel" "thrown" "I", Cond.methodLink RX7 204 yX7_walks, Cond.instanceMethod yX7_walks, Cond.selects RX7 yX7_walks yX7_walks, Cond.code yX7_walks cX7_walks 10 (some .int), Cond.fieldLink RX7 191 "BurnerlineModel" "reasons" "I", Cond.fieldLink RX7 56 "BurnerlineModel" "now" "[J", Cond.fieldLink RX7 194 "BurnerlineModel" "states" "I", Cond.fieldLink RX7 77 "BurnerlineModel" "state" "I", Cond.fieldLink RX7 100 "BurnerlineModel" "why" "I", Cond.fieldLink RX7 60 "BurnerlineModel" "then" "[J", Cond.methodLink RX7 187 yX7_packs, Cond.instanceMethod yX7_packs, Cond.selects RX7 yX7_packs yX7_packs, Cond.code yX7_packs cX7_packs 1 (some .long), Cond.fieldLink RX7 103 "BurnerlineModel" "time" "I"]
def wsX7_couldBe_r2 : List Cond := [Cond.fieldLink RX7 93 "BurnerlineModel" "air" "I", Cond.fieldLink RX7 90 "BurnerlineModel" "fuel" "I", Cond.fieldLink RX7 106 "BurnerlineModel" "purged" "I", Cond.fieldLink RX7 87 "BurnerlineModel" "seen" "I", Cond.fieldLink RX7 127 "BurnerlineModel" "pilotRow" "I", Cond.fieldLink RX7 133 "BurnerlineModel" "mainRow" "I", Cond.methodLink RX7 197 yX7_unpacks, Cond.instanceMethod yX7_unpacks, Cond.selects RX7 yX7_unpacks yX7_unpacks, Cond.code yX7_unpacks cX7_unpacks 3 none, Cond.constantLong RX7 175 (7), Cond.constantLong RX7 177 (15), Cond.constantLong RX7 179 (262143), Cond.constantLong RX7 181 (127), Cond.constantLong RX7 183 (4095), Cond.constantLong RX7 185 (3), Cond.methodLink RX7 149 yX7_plays, Cond.instanceMethod yX7_plays, Cond.selects RX7 yX7_plays yX7_plays, Cond.code yX7_plays cX7_plays 2 none, Cond.methodLink RX7 130 yX7_looks, Cond.instanceMethod yX7_looks, Cond.selects RX7 yX7_looks yX7_looks, Cond.code yX7_looks cX7_looks 5 (some .int)]
def wsX7_couldBe_r3 : List Cond := [Cond.fieldLink RX7 25 "BurnerlineModel" "light" "I", Cond.fieldLink RX7 28 "BurnerlineModel" "none" "I", Cond.methodLink RX7 83 yX7_has, Cond.static yX7_has, Cond.code yX7_has cX7_has 2 (some .boolean), Cond.methodLink RX7 136 yX7_goes, Cond.instanceMethod yX7_goes, Cond.selects RX7 yX7_goes yX7_goes, Cond.code yX7_goes cX7_goes 3 none, Cond.fieldLink RX7 7 "BurnerlineModel" "rate" "I", Cond.fieldLink RX7 37 "BurnerlineModel" "airStep" "I", Cond.fieldLink RX7 40 "BurnerlineModel" "fuelStep" "I", Cond.methodLink RX7 96 yX7_nears, Cond.static yX7_nears, Cond.code yX7_nears cX7_nears 3 (some .int), Cond.methodLink RX7 139 yX7_decides, Cond.instanceMethod yX7_decides, Cond.selects RX7 yX7_decides yX7_decides, Cond.code yX7_decides cX7_decides 3 none, Cond.fieldLink RX7 22 "BurnerlineModel" "longAfter" "I", Cond.methodLink RX7 109 yX7_begins, Cond.instanceMethod yX7_begins, Cond.selects RX7 yX7_begins yX7_begins, Cond.code yX7_begins cX7_begins 3 none]
def wsX7_couldBe_r4 : List Cond := [Cond.methodLink RX7 113 yX7_purges, Cond.instanceMethod yX7_purges, Cond.selects RX7 yX7_purges yX7_purges, Cond.code yX7_purges cX7_purges 3 none, Cond.fieldLink RX7 34 "BurnerlineModel" "volume" "I", Cond.fieldLink RX7 13 "BurnerlineModel" "longPurge" "I", Cond.methodLink RX7 117 yX7_lights, Cond.instanceMethod yX7_lights, Cond.selects RX7 yX7_lights yX7_lights, Cond.code yX7_lights cX7_lights 4 none, Cond.fieldLink RX7 16 "BurnerlineModel" "longPilot" "I", Cond.fieldLink RX7 19 "BurnerlineModel" "longMain" "I", Cond.methodLink RX7 123 yX7_lacks, Cond.instanceMethod yX7_lacks, Cond.selects RX7 yX7_lacks yX7_lacks, Cond.code yX7_lacks cX7_lacks 2 (some .boolean), Cond.methodLink RX7 120 yX7_runs, Cond.instanceMethod yX7_runs, Cond.selects RX7 yX7_runs yX7_runs, Cond.code yX7_runs cX7_runs 3 none, Cond.fieldLink RX7 31 "BurnerlineModel" "check" "I", Cond.methodLink RX7 201 yX7_adds, Cond.instanceMethod yX7_adds, Cond.selects RX7 yX7_adds yX7_adds]
def wsX7_couldBe_r5 : List Cond := [Cond.code yX7_adds cX7_adds 6 (some .int)]
def wsX7_couldBe : List Cond := .code yX7_couldBe cX7_couldBe 3 (some .boolean) :: ((wsX7_couldBe_r1 ++ (wsX7_couldBe_r2 ++ (wsX7_couldBe_r3 ++ (wsX7_couldBe_r4 ++ wsX7_couldBe_r5)))) ++ wsX70)
def wsX7_reasonsAhead_r1 : List Cond := [Cond.fieldLink RX7 191 "BurnerlineModel" "reasons" "I", Cond.methodLink RX7 66 yX7_in, Cond.static yX7_in, Cond.initialized RX7, Cond.code yX7_in cX7_in 3 (some .boolean), Cond.methodLink RX7 70 yX7_asks, Cond.instanceMethod yX7_asks, Cond.selects RX7 yX7_asks yX7_asks, Cond.code yX7_asks cX7_asks 2 (some .boolean), Cond.fieldLink RX7 63 "BurnerlineModel" "thrown" "I", Cond.methodLink RX7 204 yX7_walks, Cond.instanceMethod yX7_walks, Cond.selects RX7 yX7_walks yX7_walks, Cond.code yX7_walks cX7_walks 10 (some .int), Cond.fieldLink RX7 56 "BurnerlineModel" "now" "[J", Cond.fieldLink RX7 194 "BurnerlineModel" "states" "I", Cond.fieldLink RX7 77 "BurnerlineModel" "state" "I", Cond.fieldLink RX7 100 "BurnerlineModel" "why" "I", Cond.fieldLink RX7 60 "BurnerlineModel" "then" "[J", Cond.methodLink RX7 187 yX7_packs, Cond.instanceMethod yX7_packs, Cond.selects RX7 yX7_packs yX7_packs, Cond.code yX7_packs cX7_packs 1 (some .long), Cond.fieldLink RX7 103 "BurnerlineModel" "time" "I"]
def wsX7_reasonsAhead_r2 : List Cond := [Cond.fieldLink RX7 93 "BurnerlineModel" "air" "I", Cond.fieldLink RX7 90 "BurnerlineModel" "fuel" "I", Cond.fieldLink RX7 106 "BurnerlineModel" "purged" "I", Cond.fieldLink RX7 87 "BurnerlineModel" "seen" "I", Cond.fieldLink RX7 127 "BurnerlineModel" "pilotRow" "I", Cond.fieldLink RX7 133 "BurnerlineModel" "mainRow" "I", Cond.methodLink RX7 197 yX7_unpacks, Cond.instanceMethod yX7_unpacks, Cond.selects RX7 yX7_unpacks yX7_unpacks, Cond.code yX7_unpacks cX7_unpacks 3 none, Cond.constantLong RX7 175 (7), Cond.constantLong RX7 177 (15), Cond.constantLong RX7 179 (262143), Cond.constantLong RX7 181 (127), Cond.constantLong RX7 183 (4095), Cond.constantLong RX7 185 (3), Cond.methodLink RX7 149 yX7_plays, Cond.instanceMethod yX7_plays, Cond.selects RX7 yX7_plays yX7_plays, Cond.code yX7_plays cX7_plays 2 none, Cond.methodLink RX7 130 yX7_looks, Cond.instanceMethod yX7_looks, Cond.selects RX7 yX7_looks yX7_looks, Cond.code yX7_looks cX7_looks 5 (some .int)]
def wsX7_reasonsAhead_r3 : List Cond := [Cond.fieldLink RX7 25 "BurnerlineModel" "light" "I", Cond.fieldLink RX7 28 "BurnerlineModel" "none" "I", Cond.methodLink RX7 83 yX7_has, Cond.static yX7_has, Cond.code yX7_has cX7_has 2 (some .boolean), Cond.methodLink RX7 136 yX7_goes, Cond.instanceMethod yX7_goes, Cond.selects RX7 yX7_goes yX7_goes, Cond.code yX7_goes cX7_goes 3 none, Cond.fieldLink RX7 7 "BurnerlineModel" "rate" "I", Cond.fieldLink RX7 37 "BurnerlineModel" "airStep" "I", Cond.fieldLink RX7 40 "BurnerlineModel" "fuelStep" "I", Cond.methodLink RX7 96 yX7_nears, Cond.static yX7_nears, Cond.code yX7_nears cX7_nears 3 (some .int), Cond.methodLink RX7 139 yX7_decides, Cond.instanceMethod yX7_decides, Cond.selects RX7 yX7_decides yX7_decides, Cond.code yX7_decides cX7_decides 3 none, Cond.fieldLink RX7 22 "BurnerlineModel" "longAfter" "I", Cond.methodLink RX7 109 yX7_begins, Cond.instanceMethod yX7_begins, Cond.selects RX7 yX7_begins yX7_begins, Cond.code yX7_begins cX7_begins 3 none]
def wsX7_reasonsAhead_r4 : List Cond := [Cond.methodLink RX7 113 yX7_purges, Cond.instanceMethod yX7_purges, Cond.selects RX7 yX7_purges yX7_purges, Cond.code yX7_purges cX7_purges 3 none, Cond.fieldLink RX7 34 "BurnerlineModel" "volume" "I", Cond.fieldLink RX7 13 "BurnerlineModel" "longPurge" "I", Cond.methodLink RX7 117 yX7_lights, Cond.instanceMethod yX7_lights, Cond.selects RX7 yX7_lights yX7_lights, Cond.code yX7_lights cX7_lights 4 none, Cond.fieldLink RX7 16 "BurnerlineModel" "longPilot" "I", Cond.fieldLink RX7 19 "BurnerlineModel" "longMain" "I", Cond.methodLink RX7 123 yX7_lacks, Cond.instanceMethod yX7_lacks, Cond.selects RX7 yX7_lacks yX7_lacks, Cond.code yX7_lacks cX7_lacks 2 (some .boolean), Cond.methodLink RX7 120 yX7_runs, Cond.instanceMethod yX7_runs, Cond.selects RX7 yX7_runs yX7_runs, Cond.code yX7_runs cX7_runs 3 none, Cond.fieldLink RX7 31 "BurnerlineModel" "check" "I", Cond.methodLink RX7 201 yX7_adds, Cond.instanceMethod yX7_adds, Cond.selects RX7 yX7_adds yX7_adds]
def wsX7_reasonsAhead_r5 : List Cond := [Cond.code yX7_adds cX7_adds 6 (some .int)]
def wsX7_reasonsAhead : List Cond := .code yX7_reasonsAhead cX7_reasonsAhead 2 (some .int) :: ((wsX7_reasonsAhead_r1 ++ (wsX7_reasonsAhead_r2 ++ (wsX7_reasonsAhead_r3 ++ (wsX7_reasonsAhead_r4 ++ wsX7_reasonsAhead_r5)))) ++ wsX70)
def wsX7_toPilot_r1 : List Cond := [Cond.fieldLink RX7 63 "BurnerlineModel" "thrown" "I", Cond.fieldLink RX7 77 "BurnerlineModel" "state" "I", Cond.fieldLink RX7 74 "BurnerlineModel" "signals" "I", Cond.methodLink RX7 187 yX7_packs, Cond.instanceMethod yX7_packs, Cond.selects RX7 yX7_packs yX7_packs, Cond.initialized RX7, Cond.code yX7_packs cX7_packs 1 (some .long), Cond.fieldLink RX7 100 "BurnerlineModel" "why" "I", Cond.fieldLink RX7 103 "BurnerlineModel" "time" "I", Cond.fieldLink RX7 93 "BurnerlineModel" "air" "I", Cond.fieldLink RX7 90 "BurnerlineModel" "fuel" "I", Cond.fieldLink RX7 106 "BurnerlineModel" "purged" "I", Cond.fieldLink RX7 87 "BurnerlineModel" "seen" "I", Cond.fieldLink RX7 127 "BurnerlineModel" "pilotRow" "I", Cond.fieldLink RX7 133 "BurnerlineModel" "mainRow" "I", Cond.methodLink RX7 149 yX7_plays, Cond.instanceMethod yX7_plays, Cond.selects RX7 yX7_plays yX7_plays, Cond.code yX7_plays cX7_plays 2 none, Cond.methodLink RX7 130 yX7_looks, Cond.instanceMethod yX7_looks, Cond.selects RX7 yX7_looks yX7_looks, Cond.code yX7_looks cX7_looks 5 (some .int)]
def wsX7_toPilot_r2 : List Cond := [Cond.fieldLink RX7 25 "BurnerlineModel" "light" "I", Cond.fieldLink RX7 28 "BurnerlineModel" "none" "I", Cond.methodLink RX7 83 yX7_has, Cond.static yX7_has, Cond.code yX7_has cX7_has 2 (some .boolean), Cond.methodLink RX7 136 yX7_goes, Cond.instanceMethod yX7_goes, Cond.selects RX7 yX7_goes yX7_goes, Cond.code yX7_goes cX7_goes 3 none, Cond.fieldLink RX7 7 "BurnerlineModel" "rate" "I", Cond.fieldLink RX7 37 "BurnerlineModel" "airStep" "I", Cond.fieldLink RX7 40 "BurnerlineModel" "fuelStep" "I", Cond.methodLink RX7 96 yX7_nears, Cond.static yX7_nears, Cond.code yX7_nears cX7_nears 3 (some .int), Cond.methodLink RX7 139 yX7_decides, Cond.instanceMethod yX7_decides, Cond.selects RX7 yX7_decides yX7_decides, Cond.code yX7_decides cX7_decides 3 none, Cond.fieldLink RX7 22 "BurnerlineModel" "longAfter" "I", Cond.methodLink RX7 109 yX7_begins, Cond.instanceMethod yX7_begins, Cond.selects RX7 yX7_begins yX7_begins, Cond.code yX7_begins cX7_begins 3 none]
def wsX7_toPilot_r3 : List Cond := [Cond.methodLink RX7 113 yX7_purges, Cond.instanceMethod yX7_purges, Cond.selects RX7 yX7_purges yX7_purges, Cond.code yX7_purges cX7_purges 3 none, Cond.fieldLink RX7 34 "BurnerlineModel" "volume" "I", Cond.fieldLink RX7 13 "BurnerlineModel" "longPurge" "I", Cond.methodLink RX7 117 yX7_lights, Cond.instanceMethod yX7_lights, Cond.selects RX7 yX7_lights yX7_lights, Cond.code yX7_lights cX7_lights 4 none, Cond.fieldLink RX7 16 "BurnerlineModel" "longPilot" "I", Cond.fieldLink RX7 19 "BurnerlineModel" "longMain" "I", Cond.methodLink RX7 123 yX7_lacks, Cond.instanceMethod yX7_lacks, Cond.selects RX7 yX7_lacks yX7_lacks, Cond.code yX7_lacks cX7_lacks 2 (some .boolean), Cond.methodLink RX7 120 yX7_runs, Cond.instanceMethod yX7_runs, Cond.selects RX7 yX7_runs yX7_runs, Cond.code yX7_runs cX7_runs 3 none, Cond.fieldLink RX7 31 "BurnerlineModel" "check" "I", Cond.methodLink RX7 197 yX7_unpacks, Cond.instanceMethod yX7_unpacks, Cond.selects RX7 yX7_unpacks yX7_unpacks]
def wsX7_toPilot_r4 : List Cond := [Cond.code yX7_unpacks cX7_unpacks 3 none, Cond.constantLong RX7 175 (7), Cond.constantLong RX7 177 (15), Cond.constantLong RX7 179 (262143), Cond.constantLong RX7 181 (127), Cond.constantLong RX7 183 (4095), Cond.constantLong RX7 185 (3)]
def wsX7_toPilot : List Cond := .code yX7_toPilot cX7_toPilot 5 (some .int) :: ((wsX7_toPilot_r1 ++ (wsX7_toPilot_r2 ++ (wsX7_toPilot_r3 ++ wsX7_toPilot_r4))) ++ wsX70)
def wsJ9_max_7cf53 : List Cond := .code yJ9_max_7cf53 cJ9_max_7cf53 2 (some .int) :: ([])
def wsJ9_min_7cf53 : List Cond := .code yJ9_min_7cf53 cJ9_min_7cf53 2 (some .int) :: ([])
def wsL_signal : List Cond := .codeWith yL_signal cL_signal 5 (some .int) [(0, 17, 20, 13)] :: ([.classLink RL 13 "java/lang/IndexOutOfBoundsException", .methodLink RL 7 yX6_signal, .instanceMethod yX6_signal, .selects RX6 yX6_signal yX6_signal, .initialized RX6, .code yX6_signal cX6_signal 5 (some .boolean), .classLink RX6 48 "java/lang/IndexOutOfBoundsException", .initialized "java/lang/IndexOutOfBoundsException", .fieldLink RX6 55 "Burnerline" "signals" "I", .methodLink RX6 59 yX6_isOn, .static yX6_isOn, .code yX6_isOn cX6_isOn 2 (some .boolean)] ++ wsX60 ++ (vx_atS RX6 52 "java/lang/IndexOutOfBoundsException" ["java/lang/RuntimeException", "java/lang/Exception"]).filter goodWord)
def wsL_setRate : List Cond := .codeWith yL_setRate cL_setRate 4 (some .int) [(0, 9, 12, 19)] :: ([.classLink RL 19 "java/lang/IllegalArgumentException", .methodLink RL 15 yX6_setRate, .instanceMethod yX6_setRate, .selects RX6 yX6_setRate yX6_setRate, .initialized RX6, .code yX6_setRate cX6_setRate 3 (some .int), .classLink RX6 67 "java/lang/IllegalArgumentException", .initialized "java/lang/IllegalArgumentException", .fieldLink RX6 12 "Burnerline" "settings" "LBurnerline$Settings;", .methodLink RX6 63 yX6_isOutside, .static yX6_isOutside, .code yX6_isOutside cX6_isOutside 3 (some .boolean)] ++ wsX60 ++ wsX50 ++ (vx_atS RX6 71 "java/lang/IllegalArgumentException" ["java/lang/RuntimeException", "java/lang/Exception"]).filter goodWord)
def wsL_setTimes : List Cond := .codeWith yL_setTimes cL_setTimes 6 (some .int) [(0, 9, 12, 19), (0, 9, 16, 25)] :: ([.classLink RL 19 "java/lang/IllegalArgumentException", .classLink RL 25 "java/lang/IllegalStateException", .methodLink RL 21 yX6_setTimes, .instanceMethod yX6_setTimes, .selects RX6 yX6_setTimes yX6_setTimes, .initialized RX6, .code yX6_setTimes cX6_setTimes 5 none, .classLink RX6 67 "java/lang/IllegalArgumentException", .initialized "java/lang/IllegalArgumentException", .fieldLink RX6 12 "Burnerline" "settings" "LBurnerline$Settings;", .methodLink RX6 63 yX6_isOutside, .static yX6_isOutside, .code yX6_isOutside cX6_isOutside 3 (some .boolean), .methodLink RX6 77 yX6_refuseUnlessOff, .instanceMethod yX6_refuseUnlessOff, .selects RX6 yX6_refuseUnlessOff yX6_refuseUnlessOff, .code yX6_refuseUnlessOff cX6_refuseUnlessOff 1 none, .classLink RX6 133 "java/lang/IllegalStateException", .initialized "java/lang/IllegalStateException", .fieldLink RX6 21 "Burnerline" "furnace" "LBurnerline$Furnace;"] ++ wsX60 ++ wsX50 ++ wsX20 ++ (vx_atS RX6 71 "java/lang/IllegalArgumentException" ["java/lang/RuntimeException", "java/lang/Exception"]).filter goodWord ++ (vx_atS RX6 137 "java/lang/IllegalStateException" ["java/lang/RuntimeException", "java/lang/Exception"]).filter goodWord)
def wsL_setEyes : List Cond := .codeWith yL_setEyes cL_setEyes 5 (some .int) [(0, 7, 10, 19), (0, 7, 14, 25)] :: ([.classLink RL 19 "java/lang/IllegalArgumentException", .classLink RL 25 "java/lang/IllegalStateException", .methodLink RL 27 yX6_setEyes, .instanceMethod yX6_setEyes, .selects RX6 yX6_setEyes yX6_setEyes, .initialized RX6, .code yX6_setEyes cX6_setEyes 4 none, .classLink RX6 67 "java/lang/IllegalArgumentException", .initialized "java/lang/IllegalArgumentException", .fieldLink RX6 12 "Burnerline" "settings" "LBurnerline$Settings;", .methodLink RX6 63 yX6_isOutside, .static yX6_isOutside, .code yX6_isOutside cX6_isOutside 3 (some .boolean), .methodLink RX6 77 yX6_refuseUnlessOff, .instanceMethod yX6_refuseUnlessOff, .selects RX6 yX6_refuseUnlessOff yX6_refuseUnlessOff, .code yX6_refuseUnlessOff cX6_refuseUnlessOff 1 none, .classLink RX6 133 "java/lang/IllegalStateException", .initialized "java/lang/IllegalStateException", .fieldLink RX6 21 "Burnerline" "furnace" "LBurnerline$Furnace;"] ++ wsX60 ++ wsX50 ++ wsX20 ++ (vx_atS RX6 71 "java/lang/IllegalArgumentException" ["java/lang/RuntimeException", "java/lang/Exception"]).filter goodWord ++ (vx_atS RX6 137 "java/lang/IllegalStateException" ["java/lang/RuntimeException", "java/lang/Exception"]).filter goodWord)
def wsL_setFurnace : List Cond := .codeWith yL_setFurnace cL_setFurnace 5 (some .int) [(0, 7, 10, 19), (0, 7, 14, 25)] :: ([.classLink RL 19 "java/lang/IllegalArgumentException", .classLink RL 25 "java/lang/IllegalStateException", .methodLink RL 31 yX6_setFurnace, .instanceMethod yX6_setFurnace, .selects RX6 yX6_setFurnace yX6_setFurnace, .initialized RX6, .code yX6_setFurnace cX6_setFurnace 4 none, .classLink RX6 67 "java/lang/IllegalArgumentException", .initialized "java/lang/IllegalArgumentException", .fieldLink RX6 12 "Burnerline" "settings" "LBurnerline$Settings;", .methodLink RX6 63 yX6_isOutside, .static yX6_isOutside, .code yX6_isOutside cX6_isOutside 3 (some .boolean), .methodLink RX6 77 yX6_refuseUnlessOff, .instanceMethod yX6_refuseUnlessOff, .selects RX6 yX6_refuseUnlessOff yX6_refuseUnlessOff, .code yX6_refuseUnlessOff cX6_refuseUnlessOff 1 none, .classLink RX6 133 "java/lang/IllegalStateException", .initialized "java/lang/IllegalStateException", .fieldLink RX6 21 "Burnerline" "furnace" "LBurnerline$Furnace;"] ++ wsX60 ++ wsX50 ++ wsX20 ++ (vx_atS RX6 71 "java/lang/IllegalArgumentException" ["java/lang/RuntimeException", "java/lang/Exception"]).filter goodWord ++ (vx_atS RX6 137 "java/lang/IllegalStateException" ["java/lang/RuntimeException", "java/lang/Exception"]).filter goodWord)
def wsL_poll_r1 : List Cond := [Cond.classLink RL 19 "java/lang/IllegalArgumentException", Cond.methodLink RL 34 yX6_poll, Cond.instanceMethod yX6_poll, Cond.selects RX6 yX6_poll yX6_poll, Cond.initialized RX6, Cond.code yX6_poll cX6_poll 4 (some .int), Cond.classLink RX6 67 "java/lang/IllegalArgumentException", Cond.initialized "java/lang/IllegalArgumentException", Cond.fieldLink RX6 116 "Burnerline" "ticks" "I", Cond.fieldLink RX6 21 "Burnerline" "furnace" "LBurnerline$Furnace;", Cond.fieldLink RX6 55 "Burnerline" "signals" "I", Cond.methodLink RX6 63 yX6_isOutside, Cond.static yX6_isOutside, Cond.code yX6_isOutside cX6_isOutside 3 (some .boolean), Cond.methodLink RX6 119 yX2_tick, Cond.instanceMethod yX2_tick, Cond.selects RX2 yX2_tick yX2_tick, Cond.initialized RX2, Cond.code yX2_tick cX2_tick 4 (some .boolean), Cond.fieldLink RX2 12 "Burnerline$Furnace" "pilotEye" "LBurnerline$Eye;", Cond.fieldLink RX2 18 "Burnerline$Furnace" "mainEye" "LBurnerline$Eye;", Cond.fieldLink RX2 36 "Burnerline$Furnace" "time" "I", Cond.methodLink RX2 58 yX2_isPilotOpen, Cond.instanceMethod yX2_isPilotOpen]
def wsL_poll_r2 : List Cond := [Cond.selects RX2 yX2_isPilotOpen yX2_isPilotOpen, Cond.code yX2_isPilotOpen cX2_isPilotOpen 1 (some .boolean), Cond.fieldLink RX2 29 "Burnerline$Furnace" "state" "I", Cond.methodLink RX2 62 yX2_isMainOpen, Cond.instanceMethod yX2_isMainOpen, Cond.selects RX2 yX2_isMainOpen yX2_isMainOpen, Cond.code yX2_isMainOpen cX2_isMainOpen 1 (some .boolean), Cond.static yX6_isOn, Cond.code yX6_isOn cX6_isOn 2 (some .boolean), Cond.methodLink RX2 69 yX2_look, Cond.instanceMethod yX2_look, Cond.selects RX2 yX2_look yX2_look, Cond.code yX2_look cX2_look 3 none, Cond.fieldLink RX2 21 "Burnerline$Furnace" "settings" "LBurnerline$Settings;", Cond.methodLink RX2 92 yX1_look, Cond.instanceMethod yX1_look, Cond.selects RX1 yX1_look yX1_look, Cond.initialized RX1, Cond.code yX1_look cX1_look 3 none, Cond.fieldLink RX1 7 "Burnerline$Eye" "seesFlame" "Z", Cond.fieldLink RX1 13 "Burnerline$Eye" "row" "I", Cond.methodLink RX2 73 yX2_movePositions, Cond.instanceMethod yX2_movePositions, Cond.selects RX2 yX2_movePositions yX2_movePositions]
def wsL_poll_r3 : List Cond := [Cond.code yX2_movePositions cX2_movePositions 3 none, Cond.fieldLink RX2 39 "Burnerline$Furnace" "air" "I", Cond.fieldLink RX2 42 "Burnerline$Furnace" "fuel" "I", Cond.methodLink RX2 95 yX2_airGoal, Cond.instanceMethod yX2_airGoal, Cond.selects RX2 yX2_airGoal yX2_airGoal, Cond.code yX2_airGoal cX2_airGoal 1 (some .int), Cond.methodLink RX2 115 Lib.Math.max.name, Cond.static Lib.Math.max.name, Cond.initialized "java/lang/Math", Cond.code Lib.Math.max.name Lib.Math.max.code 2 (some .int), Cond.methodLink RX2 99 yX2_fuelGoal, Cond.instanceMethod yX2_fuelGoal, Cond.selects RX2 yX2_fuelGoal yX2_fuelGoal, Cond.code yX2_fuelGoal cX2_fuelGoal 1 (some .int), Cond.methodLink RX2 121 Lib.Math.min.name, Cond.static Lib.Math.min.name, Cond.code Lib.Math.min.name Lib.Math.min.code 2 (some .int), Cond.methodLink RX2 105 yX2_moved, Cond.static yX2_moved, Cond.code yX2_moved cX2_moved 3 (some .int), Cond.methodLink RX2 76 yX2_sequence, Cond.instanceMethod yX2_sequence, Cond.selects RX2 yX2_sequence yX2_sequence]
def wsL_poll_r4 : List Cond := [Cond.code yX2_sequence cX2_sequence 2 (some .boolean), Cond.methodLink RX2 124 yX2_sequenceOff, Cond.instanceMethod yX2_sequenceOff, Cond.selects RX2 yX2_sequenceOff yX2_sequenceOff, Cond.code yX2_sequenceOff cX2_sequenceOff 2 (some .boolean), Cond.methodLink RX2 139 yX2_hasFlame, Cond.instanceMethod yX2_hasFlame, Cond.selects RX2 yX2_hasFlame yX2_hasFlame, Cond.code yX2_hasFlame cX2_hasFlame 1 (some .boolean), Cond.methodLink RX2 142 yX2_lockOut, Cond.instanceMethod yX2_lockOut, Cond.selects RX2 yX2_lockOut yX2_lockOut, Cond.code yX2_lockOut cX2_lockOut 2 (some .boolean), Cond.methodLink RX2 145 yX2_begin, Cond.instanceMethod yX2_begin, Cond.selects RX2 yX2_begin yX2_begin, Cond.code yX2_begin cX2_begin 3 (some .boolean), Cond.fieldLink RX2 33 "Burnerline$Furnace" "reason" "I", Cond.fieldLink RX2 45 "Burnerline$Furnace" "purged" "I", Cond.methodLink RX2 127 yX2_sequencePurge, Cond.instanceMethod yX2_sequencePurge, Cond.selects RX2 yX2_sequencePurge yX2_sequencePurge, Cond.code yX2_sequencePurge cX2_sequencePurge 2 (some .boolean), Cond.methodLink RX2 130 yX2_sequenceLighting]
def wsL_poll_r5 : List Cond := [Cond.instanceMethod yX2_sequenceLighting, Cond.selects RX2 yX2_sequenceLighting yX2_sequenceLighting, Cond.code yX2_sequenceLighting cX2_sequenceLighting 2 (some .boolean), Cond.methodLink RX2 154 yX2_lightPilot, Cond.instanceMethod yX2_lightPilot, Cond.selects RX2 yX2_lightPilot yX2_lightPilot, Cond.code yX2_lightPilot cX2_lightPilot 1 (some .boolean), Cond.methodLink RX2 157 yX2_lightMain, Cond.instanceMethod yX2_lightMain, Cond.selects RX2 yX2_lightMain yX2_lightMain, Cond.code yX2_lightMain cX2_lightMain 1 (some .boolean), Cond.methodLink RX2 133 yX2_sequenceRun, Cond.instanceMethod yX2_sequenceRun, Cond.selects RX2 yX2_sequenceRun yX2_sequenceRun, Cond.code yX2_sequenceRun cX2_sequenceRun 2 (some .boolean), Cond.methodLink RX2 166 yX2_isCheckDue, Cond.instanceMethod yX2_isCheckDue, Cond.selects RX2 yX2_isCheckDue yX2_isCheckDue, Cond.code yX2_isCheckDue cX2_isCheckDue 1 (some .boolean), Cond.methodLink RX2 136 yX2_sequenceAfterPurge, Cond.instanceMethod yX2_sequenceAfterPurge, Cond.selects RX2 yX2_sequenceAfterPurge yX2_sequenceAfterPurge, Cond.code yX2_sequenceAfterPurge cX2_sequenceAfterPurge 1 (some .boolean), Cond.methodLink RX2 80 yX2_countUnlit]
def wsL_poll_r6 : List Cond := [Cond.instanceMethod yX2_countUnlit, Cond.selects RX2 yX2_countUnlit yX2_countUnlit, Cond.code yX2_countUnlit cX2_countUnlit 2 none, Cond.fieldLink RX2 48 "Burnerline$Furnace" "unlit" "I", Cond.fieldLink RX2 51 "Burnerline$Furnace" "longestUnlit" "I", Cond.methodLink RX6 123 yX6_recordChange, Cond.instanceMethod yX6_recordChange, Cond.selects RX6 yX6_recordChange yX6_recordChange, Cond.code yX6_recordChange cX6_recordChange 1 none, Cond.fieldLink RX6 28 "Burnerline" "history" "LBurnerline$History;", Cond.methodLink RX6 232 yX3_add, Cond.instanceMethod yX3_add, Cond.selects RX3 yX3_add yX3_add, Cond.initialized RX3, Cond.code yX3_add cX3_add 4 none, Cond.fieldLink RX3 21 "Burnerline$History" "place" "I", Cond.fieldLink RX3 9 "Burnerline$History" "tickRow" "[I", Cond.fieldLink RX3 15 "Burnerline$History" "stateRow" "[I", Cond.fieldLink RX3 18 "Burnerline$History" "reasonRow" "[I", Cond.fieldLink RX3 25 "Burnerline$History" "kept" "I", Cond.methodLink RX3 28 Lib.Math.min.name, Cond.fieldLink RX3 34 "Burnerline$History" "added" "I"]
def wsL_poll : List Cond := .codeWith yL_poll cL_poll 4 (some .int) [(0, 9, 12, 19)] :: ((wsL_poll_r1 ++ (wsL_poll_r2 ++ (wsL_poll_r3 ++ (wsL_poll_r4 ++ (wsL_poll_r5 ++ wsL_poll_r6))))) ++ wsX60 ++ wsX20 ++ wsX50 ++ wsX10 ++ wsX30 ++ (vx_atS RX6 71 "java/lang/IllegalArgumentException" ["java/lang/RuntimeException", "java/lang/Exception"]).filter goodWord)
def wsL_reset_r1 : List Cond := [Cond.classLink RL 25 "java/lang/IllegalStateException", Cond.methodLink RL 37 yX6_reset, Cond.instanceMethod yX6_reset, Cond.selects RX6 yX6_reset yX6_reset, Cond.initialized RX6, Cond.code yX6_reset cX6_reset 1 (some .int), Cond.classLink RX6 133 "java/lang/IllegalStateException", Cond.initialized "java/lang/IllegalStateException", Cond.fieldLink RX6 21 "Burnerline" "furnace" "LBurnerline$Furnace;", Cond.fieldLink RX6 35 "Burnerline" "resets" "LBurnerline$Resets;", Cond.fieldLink RX6 116 "Burnerline" "ticks" "I", Cond.methodLink RX6 126 yX2_isLockedOut, Cond.instanceMethod yX2_isLockedOut, Cond.selects RX2 yX2_isLockedOut yX2_isLockedOut, Cond.initialized RX2, Cond.code yX2_isLockedOut cX2_isLockedOut 1 (some .boolean), Cond.fieldLink RX2 29 "Burnerline$Furnace" "state" "I", Cond.methodLink RX6 130 yX2_hasFlame, Cond.instanceMethod yX2_hasFlame, Cond.selects RX2 yX2_hasFlame yX2_hasFlame, Cond.code yX2_hasFlame cX2_hasFlame 1 (some .boolean), Cond.fieldLink RX2 12 "Burnerline$Furnace" "pilotEye" "LBurnerline$Eye;", Cond.fieldLink RX2 18 "Burnerline$Furnace" "mainEye" "LBurnerline$Eye;", Cond.methodLink RX6 141 yX4_recent]
def wsL_reset_r2 : List Cond := [Cond.instanceMethod yX4_recent, Cond.selects RX4 yX4_recent yX4_recent, Cond.initialized RX4, Cond.code yX4_recent cX4_recent 2 (some .int), Cond.fieldLink RX4 9 "Burnerline$Resets" "last" "I", Cond.fieldLink RX4 15 "Burnerline$Resets" "second" "I", Cond.fieldLink RX4 18 "Burnerline$Resets" "third" "I", Cond.methodLink RX4 21 yX4_countOf, Cond.static yX4_countOf, Cond.code yX4_countOf cX4_countOf 2 (some .int), Cond.methodLink RX6 147 yX2_begin, Cond.instanceMethod yX2_begin, Cond.selects RX2 yX2_begin yX2_begin, Cond.code yX2_begin cX2_begin 3 (some .boolean), Cond.fieldLink RX2 33 "Burnerline$Furnace" "reason" "I", Cond.fieldLink RX2 36 "Burnerline$Furnace" "time" "I", Cond.fieldLink RX2 45 "Burnerline$Furnace" "purged" "I", Cond.fieldLink RX2 42 "Burnerline$Furnace" "fuel" "I", Cond.methodLink RX2 62 yX2_isMainOpen, Cond.instanceMethod yX2_isMainOpen, Cond.selects RX2 yX2_isMainOpen yX2_isMainOpen, Cond.code yX2_isMainOpen cX2_isMainOpen 1 (some .boolean), Cond.methodLink RX6 123 yX6_recordChange, Cond.instanceMethod yX6_recordChange]
def wsL_reset_r3 : List Cond := [Cond.selects RX6 yX6_recordChange yX6_recordChange, Cond.code yX6_recordChange cX6_recordChange 1 none, Cond.fieldLink RX6 28 "Burnerline" "history" "LBurnerline$History;", Cond.methodLink RX6 232 yX3_add, Cond.instanceMethod yX3_add, Cond.selects RX3 yX3_add yX3_add, Cond.initialized RX3, Cond.code yX3_add cX3_add 4 none, Cond.fieldLink RX3 21 "Burnerline$History" "place" "I", Cond.fieldLink RX3 9 "Burnerline$History" "tickRow" "[I", Cond.fieldLink RX3 15 "Burnerline$History" "stateRow" "[I", Cond.fieldLink RX3 18 "Burnerline$History" "reasonRow" "[I", Cond.fieldLink RX3 25 "Burnerline$History" "kept" "I", Cond.methodLink RX3 28 Lib.Math.min.name, Cond.static Lib.Math.min.name, Cond.initialized "java/lang/Math", Cond.code Lib.Math.min.name Lib.Math.min.code 2 (some .int), Cond.fieldLink RX3 34 "Burnerline$History" "added" "I", Cond.methodLink RX6 150 yX4_add, Cond.instanceMethod yX4_add, Cond.selects RX4 yX4_add yX4_add, Cond.code yX4_add cX4_add 2 none]
def wsL_reset : List Cond := .codeWith yL_reset cL_reset 3 (some .int) [(0, 8, 11, 25)] :: ((wsL_reset_r1 ++ (wsL_reset_r2 ++ wsL_reset_r3)) ++ wsX60 ++ wsX20 ++ wsX10 ++ wsX40 ++ wsX30 ++ (vx_atS RX6 137 "java/lang/IllegalStateException" ["java/lang/RuntimeException", "java/lang/Exception"]).filter goodWord)
def wsL_tickOf : List Cond := .codeWith yL_tickOf cL_tickOf 4 (some .int) [(0, 9, 12, 13)] :: ([.classLink RL 13 "java/lang/IndexOutOfBoundsException", .methodLink RL 41 yX6_tickOf, .instanceMethod yX6_tickOf, .selects RX6 yX6_tickOf yX6_tickOf, .initialized RX6, .code yX6_tickOf cX6_tickOf 2 (some .int), .classLink RX6 48 "java/lang/IndexOutOfBoundsException", .initialized "java/lang/IndexOutOfBoundsException", .fieldLink RX6 28 "Burnerline" "history" "LBurnerline$History;", .methodLink RX6 200 yX3_has, .instanceMethod yX3_has, .selects RX3 yX3_has yX3_has, .initialized RX3, .code yX3_has cX3_has 2 (some .boolean), .fieldLink RX3 25 "Burnerline$History" "kept" "I", .methodLink RX6 209 yX3_read, .instanceMethod yX3_read, .selects RX3 yX3_read yX3_read, .code yX3_read cX3_read 4 (some .int), .fieldLink RX3 21 "Burnerline$History" "place" "I"] ++ wsX60 ++ wsX30 ++ (vx_atS RX6 52 "java/lang/IndexOutOfBoundsException" ["java/lang/RuntimeException", "java/lang/Exception"]).filter goodWord)
def wsL_stateOf : List Cond := .codeWith yL_stateOf cL_stateOf 4 (some .int) [(0, 9, 12, 13)] :: ([.classLink RL 13 "java/lang/IndexOutOfBoundsException", .methodLink RL 44 yX6_stateOf, .instanceMethod yX6_stateOf, .selects RX6 yX6_stateOf yX6_stateOf, .initialized RX6, .code yX6_stateOf cX6_stateOf 2 (some .int), .classLink RX6 48 "java/lang/IndexOutOfBoundsException", .initialized "java/lang/IndexOutOfBoundsException", .fieldLink RX6 28 "Burnerline" "history" "LBurnerline$History;", .methodLink RX6 200 yX3_has, .instanceMethod yX3_has, .selects RX3 yX3_has yX3_has, .initialized RX3, .code yX3_has cX3_has 2 (some .boolean), .fieldLink RX3 25 "Burnerline$History" "kept" "I", .methodLink RX6 209 yX3_read, .instanceMethod yX3_read, .selects RX3 yX3_read yX3_read, .code yX3_read cX3_read 4 (some .int), .fieldLink RX3 21 "Burnerline$History" "place" "I"] ++ wsX60 ++ wsX30 ++ (vx_atS RX6 52 "java/lang/IndexOutOfBoundsException" ["java/lang/RuntimeException", "java/lang/Exception"]).filter goodWord)
def wsL_reasonOf : List Cond := .codeWith yL_reasonOf cL_reasonOf 4 (some .int) [(0, 9, 12, 13)] :: ([.classLink RL 13 "java/lang/IndexOutOfBoundsException", .methodLink RL 47 yX6_reasonOf, .instanceMethod yX6_reasonOf, .selects RX6 yX6_reasonOf yX6_reasonOf, .initialized RX6, .code yX6_reasonOf cX6_reasonOf 2 (some .int), .classLink RX6 48 "java/lang/IndexOutOfBoundsException", .initialized "java/lang/IndexOutOfBoundsException", .fieldLink RX6 28 "Burnerline" "history" "LBurnerline$History;", .methodLink RX6 200 yX3_has, .instanceMethod yX3_has, .selects RX3 yX3_has yX3_has, .initialized RX3, .code yX3_has cX3_has 2 (some .boolean), .fieldLink RX3 25 "Burnerline$History" "kept" "I", .methodLink RX6 209 yX3_read, .instanceMethod yX3_read, .selects RX3 yX3_read yX3_read, .code yX3_read cX3_read 4 (some .int), .fieldLink RX3 21 "Burnerline$History" "place" "I"] ++ wsX60 ++ wsX30 ++ (vx_atS RX6 52 "java/lang/IndexOutOfBoundsException" ["java/lang/RuntimeException", "java/lang/Exception"]).filter goodWord)
def wsL_couldBe_r1 : List Cond := [Cond.classLink RL 19 "java/lang/IllegalArgumentException", Cond.methodLink RL 50 yX6_couldBe, Cond.instanceMethod yX6_couldBe, Cond.selects RX6 yX6_couldBe yX6_couldBe, Cond.initialized RX6, Cond.code yX6_couldBe cX6_couldBe 3 (some .boolean), Cond.classLink RX6 67 "java/lang/IllegalArgumentException", Cond.initialized "java/lang/IllegalArgumentException", Cond.fieldLink RX6 44 "Burnerline" "ahead" "LBurnerline$Ahead;", Cond.fieldLink RX6 21 "Burnerline" "furnace" "LBurnerline$Furnace;", Cond.methodLink RX6 63 yX6_isOutside, Cond.static yX6_isOutside, Cond.code yX6_isOutside cX6_isOutside 3 (some .boolean), Cond.methodLink RX6 221 yX6_walk, Cond.static yX6_walk, Cond.code yX6_walk cX6_walk 7 (some .int), Cond.methodLink RX6 235 yX6_tellingSignals, Cond.static yX6_tellingSignals, Cond.code yX6_tellingSignals cX6_tellingSignals 1 (some .int), Cond.methodLink RX6 226 yX2_copyFrom, Cond.instanceMethod yX2_copyFrom, Cond.selects RX2 yX2_copyFrom yX2_copyFrom, Cond.initialized RX2, Cond.code yX2_copyFrom cX2_copyFrom 2 none]
def wsL_couldBe_r2 : List Cond := [Cond.fieldLink RX2 12 "Burnerline$Furnace" "pilotEye" "LBurnerline$Eye;", Cond.fieldLink RX2 18 "Burnerline$Furnace" "mainEye" "LBurnerline$Eye;", Cond.fieldLink RX2 29 "Burnerline$Furnace" "state" "I", Cond.fieldLink RX2 33 "Burnerline$Furnace" "reason" "I", Cond.fieldLink RX2 36 "Burnerline$Furnace" "time" "I", Cond.fieldLink RX2 39 "Burnerline$Furnace" "air" "I", Cond.fieldLink RX2 42 "Burnerline$Furnace" "fuel" "I", Cond.fieldLink RX2 45 "Burnerline$Furnace" "purged" "I", Cond.fieldLink RX2 48 "Burnerline$Furnace" "unlit" "I", Cond.fieldLink RX2 51 "Burnerline$Furnace" "longestUnlit" "I", Cond.methodLink RX2 25 yX1_copyFrom, Cond.instanceMethod yX1_copyFrom, Cond.selects RX1 yX1_copyFrom yX1_copyFrom, Cond.initialized RX1, Cond.code yX1_copyFrom cX1_copyFrom 2 none, Cond.fieldLink RX1 7 "Burnerline$Eye" "seesFlame" "Z", Cond.fieldLink RX1 13 "Burnerline$Eye" "row" "I", Cond.methodLink RX6 119 yX2_tick, Cond.instanceMethod yX2_tick, Cond.selects RX2 yX2_tick yX2_tick, Cond.code yX2_tick cX2_tick 4 (some .boolean), Cond.methodLink RX2 58 yX2_isPilotOpen, Cond.instanceMethod yX2_isPilotOpen, Cond.selects RX2 yX2_isPilotOpen yX2_isPilotOpen]
def wsL_couldBe_r3 : List Cond := [Cond.code yX2_isPilotOpen cX2_isPilotOpen 1 (some .boolean), Cond.methodLink RX2 62 yX2_isMainOpen, Cond.instanceMethod yX2_isMainOpen, Cond.selects RX2 yX2_isMainOpen yX2_isMainOpen, Cond.code yX2_isMainOpen cX2_isMainOpen 1 (some .boolean), Cond.static yX6_isOn, Cond.code yX6_isOn cX6_isOn 2 (some .boolean), Cond.methodLink RX2 69 yX2_look, Cond.instanceMethod yX2_look, Cond.selects RX2 yX2_look yX2_look, Cond.code yX2_look cX2_look 3 none, Cond.fieldLink RX2 21 "Burnerline$Furnace" "settings" "LBurnerline$Settings;", Cond.methodLink RX2 92 yX1_look, Cond.instanceMethod yX1_look, Cond.selects RX1 yX1_look yX1_look, Cond.code yX1_look cX1_look 3 none, Cond.methodLink RX2 73 yX2_movePositions, Cond.instanceMethod yX2_movePositions, Cond.selects RX2 yX2_movePositions yX2_movePositions, Cond.code yX2_movePositions cX2_movePositions 3 none, Cond.methodLink RX2 95 yX2_airGoal, Cond.instanceMethod yX2_airGoal, Cond.selects RX2 yX2_airGoal yX2_airGoal, Cond.code yX2_airGoal cX2_airGoal 1 (some .int)]
def wsL_couldBe_r4 : List Cond := [Cond.methodLink RX2 115 Lib.Math.max.name, Cond.static Lib.Math.max.name, Cond.initialized "java/lang/Math", Cond.code Lib.Math.max.name Lib.Math.max.code 2 (some .int), Cond.methodLink RX2 99 yX2_fuelGoal, Cond.instanceMethod yX2_fuelGoal, Cond.selects RX2 yX2_fuelGoal yX2_fuelGoal, Cond.code yX2_fuelGoal cX2_fuelGoal 1 (some .int), Cond.methodLink RX2 121 Lib.Math.min.name, Cond.static Lib.Math.min.name, Cond.code Lib.Math.min.name Lib.Math.min.code 2 (some .int), Cond.methodLink RX2 105 yX2_moved, Cond.static yX2_moved, Cond.code yX2_moved cX2_moved 3 (some .int), Cond.methodLink RX2 76 yX2_sequence, Cond.instanceMethod yX2_sequence, Cond.selects RX2 yX2_sequence yX2_sequence, Cond.code yX2_sequence cX2_sequence 2 (some .boolean), Cond.methodLink RX2 124 yX2_sequenceOff, Cond.instanceMethod yX2_sequenceOff, Cond.selects RX2 yX2_sequenceOff yX2_sequenceOff, Cond.code yX2_sequenceOff cX2_sequenceOff 2 (some .boolean), Cond.methodLink RX2 139 yX2_hasFlame, Cond.instanceMethod yX2_hasFlame]
def wsL_couldBe_r5 : List Cond := [Cond.selects RX2 yX2_hasFlame yX2_hasFlame, Cond.code yX2_hasFlame cX2_hasFlame 1 (some .boolean), Cond.methodLink RX2 142 yX2_lockOut, Cond.instanceMethod yX2_lockOut, Cond.selects RX2 yX2_lockOut yX2_lockOut, Cond.code yX2_lockOut cX2_lockOut 2 (some .boolean), Cond.methodLink RX2 145 yX2_begin, Cond.instanceMethod yX2_begin, Cond.selects RX2 yX2_begin yX2_begin, Cond.code yX2_begin cX2_begin 3 (some .boolean), Cond.methodLink RX2 127 yX2_sequencePurge, Cond.instanceMethod yX2_sequencePurge, Cond.selects RX2 yX2_sequencePurge yX2_sequencePurge, Cond.code yX2_sequencePurge cX2_sequencePurge 2 (some .boolean), Cond.methodLink RX2 130 yX2_sequenceLighting, Cond.instanceMethod yX2_sequenceLighting, Cond.selects RX2 yX2_sequenceLighting yX2_sequenceLighting, Cond.code yX2_sequenceLighting cX2_sequenceLighting 2 (some .boolean), Cond.methodLink RX2 154 yX2_lightPilot, Cond.instanceMethod yX2_lightPilot, Cond.selects RX2 yX2_lightPilot yX2_lightPilot, Cond.code yX2_lightPilot cX2_lightPilot 1 (some .boolean), Cond.methodLink RX2 157 yX2_lightMain, Cond.instanceMethod yX2_lightMain]
def wsL_couldBe_r6 : List Cond := [Cond.selects RX2 yX2_lightMain yX2_lightMain, Cond.code yX2_lightMain cX2_lightMain 1 (some .boolean), Cond.methodLink RX2 133 yX2_sequenceRun, Cond.instanceMethod yX2_sequenceRun, Cond.selects RX2 yX2_sequenceRun yX2_sequenceRun, Cond.code yX2_sequenceRun cX2_sequenceRun 2 (some .boolean), Cond.methodLink RX2 166 yX2_isCheckDue, Cond.instanceMethod yX2_isCheckDue, Cond.selects RX2 yX2_isCheckDue yX2_isCheckDue, Cond.code yX2_isCheckDue cX2_isCheckDue 1 (some .boolean), Cond.methodLink RX2 136 yX2_sequenceAfterPurge, Cond.instanceMethod yX2_sequenceAfterPurge, Cond.selects RX2 yX2_sequenceAfterPurge yX2_sequenceAfterPurge, Cond.code yX2_sequenceAfterPurge cX2_sequenceAfterPurge 1 (some .boolean), Cond.methodLink RX2 80 yX2_countUnlit, Cond.instanceMethod yX2_countUnlit, Cond.selects RX2 yX2_countUnlit yX2_countUnlit, Cond.code yX2_countUnlit cX2_countUnlit 2 none, Cond.methodLink RX6 238 yX6_foundAt, Cond.static yX6_foundAt, Cond.code yX6_foundAt cX6_foundAt 2 (some .int), Cond.methodLink RX6 126 yX2_isLockedOut, Cond.instanceMethod yX2_isLockedOut, Cond.selects RX2 yX2_isLockedOut yX2_isLockedOut]
def wsL_couldBe_r7 : List Cond := [Cond.code yX2_isLockedOut cX2_isLockedOut 1 (some .boolean), Cond.methodLink RX6 59 yX6_isOn]
def wsL_couldBe : List Cond := .codeWith yL_couldBe cL_couldBe 5 (some .int) [(0, 17, 20, 19)] :: ((wsL_couldBe_r1 ++ (wsL_couldBe_r2 ++ (wsL_couldBe_r3 ++ (wsL_couldBe_r4 ++ (wsL_couldBe_r5 ++ (wsL_couldBe_r6 ++ wsL_couldBe_r7)))))) ++ wsX60 ++ wsX20 ++ wsX00 ++ wsX10 ++ wsX50 ++ (vx_atS RX6 71 "java/lang/IllegalArgumentException" ["java/lang/RuntimeException", "java/lang/Exception"]).filter goodWord)
def wsL_reasonsAhead_r1 : List Cond := [Cond.classLink RL 19 "java/lang/IllegalArgumentException", Cond.methodLink RL 54 yX6_reasonsAhead, Cond.instanceMethod yX6_reasonsAhead, Cond.selects RX6 yX6_reasonsAhead yX6_reasonsAhead, Cond.initialized RX6, Cond.code yX6_reasonsAhead cX6_reasonsAhead 2 (some .int), Cond.classLink RX6 67 "java/lang/IllegalArgumentException", Cond.initialized "java/lang/IllegalArgumentException", Cond.fieldLink RX6 21 "Burnerline" "furnace" "LBurnerline$Furnace;", Cond.fieldLink RX6 44 "Burnerline" "ahead" "LBurnerline$Ahead;", Cond.methodLink RX6 63 yX6_isOutside, Cond.static yX6_isOutside, Cond.code yX6_isOutside cX6_isOutside 3 (some .boolean), Cond.methodLink RX6 126 yX2_isLockedOut, Cond.instanceMethod yX2_isLockedOut, Cond.selects RX2 yX2_isLockedOut yX2_isLockedOut, Cond.initialized RX2, Cond.code yX2_isLockedOut cX2_isLockedOut 1 (some .boolean), Cond.fieldLink RX2 29 "Burnerline$Furnace" "state" "I", Cond.methodLink RX6 221 yX6_walk, Cond.static yX6_walk, Cond.code yX6_walk cX6_walk 7 (some .int), Cond.methodLink RX6 235 yX6_tellingSignals, Cond.static yX6_tellingSignals]
def wsL_reasonsAhead_r2 : List Cond := [Cond.code yX6_tellingSignals cX6_tellingSignals 1 (some .int), Cond.methodLink RX6 226 yX2_copyFrom, Cond.instanceMethod yX2_copyFrom, Cond.selects RX2 yX2_copyFrom yX2_copyFrom, Cond.code yX2_copyFrom cX2_copyFrom 2 none, Cond.fieldLink RX2 12 "Burnerline$Furnace" "pilotEye" "LBurnerline$Eye;", Cond.fieldLink RX2 18 "Burnerline$Furnace" "mainEye" "LBurnerline$Eye;", Cond.fieldLink RX2 33 "Burnerline$Furnace" "reason" "I", Cond.fieldLink RX2 36 "Burnerline$Furnace" "time" "I", Cond.fieldLink RX2 39 "Burnerline$Furnace" "air" "I", Cond.fieldLink RX2 42 "Burnerline$Furnace" "fuel" "I", Cond.fieldLink RX2 45 "Burnerline$Furnace" "purged" "I", Cond.fieldLink RX2 48 "Burnerline$Furnace" "unlit" "I", Cond.fieldLink RX2 51 "Burnerline$Furnace" "longestUnlit" "I", Cond.methodLink RX2 25 yX1_copyFrom, Cond.instanceMethod yX1_copyFrom, Cond.selects RX1 yX1_copyFrom yX1_copyFrom, Cond.initialized RX1, Cond.code yX1_copyFrom cX1_copyFrom 2 none, Cond.fieldLink RX1 7 "Burnerline$Eye" "seesFlame" "Z", Cond.fieldLink RX1 13 "Burnerline$Eye" "row" "I", Cond.methodLink RX6 119 yX2_tick, Cond.instanceMethod yX2_tick, Cond.selects RX2 yX2_tick yX2_tick]
def wsL_reasonsAhead_r3 : List Cond := [Cond.code yX2_tick cX2_tick 4 (some .boolean), Cond.methodLink RX2 58 yX2_isPilotOpen, Cond.instanceMethod yX2_isPilotOpen, Cond.selects RX2 yX2_isPilotOpen yX2_isPilotOpen, Cond.code yX2_isPilotOpen cX2_isPilotOpen 1 (some .boolean), Cond.methodLink RX2 62 yX2_isMainOpen, Cond.instanceMethod yX2_isMainOpen, Cond.selects RX2 yX2_isMainOpen yX2_isMainOpen, Cond.code yX2_isMainOpen cX2_isMainOpen 1 (some .boolean), Cond.static yX6_isOn, Cond.code yX6_isOn cX6_isOn 2 (some .boolean), Cond.methodLink RX2 69 yX2_look, Cond.instanceMethod yX2_look, Cond.selects RX2 yX2_look yX2_look, Cond.code yX2_look cX2_look 3 none, Cond.fieldLink RX2 21 "Burnerline$Furnace" "settings" "LBurnerline$Settings;", Cond.methodLink RX2 92 yX1_look, Cond.instanceMethod yX1_look, Cond.selects RX1 yX1_look yX1_look, Cond.code yX1_look cX1_look 3 none, Cond.methodLink RX2 73 yX2_movePositions, Cond.instanceMethod yX2_movePositions, Cond.selects RX2 yX2_movePositions yX2_movePositions, Cond.code yX2_movePositions cX2_movePositions 3 none]
def wsL_reasonsAhead_r4 : List Cond := [Cond.methodLink RX2 95 yX2_airGoal, Cond.instanceMethod yX2_airGoal, Cond.selects RX2 yX2_airGoal yX2_airGoal, Cond.code yX2_airGoal cX2_airGoal 1 (some .int), Cond.methodLink RX2 115 Lib.Math.max.name, Cond.static Lib.Math.max.name, Cond.initialized "java/lang/Math", Cond.code Lib.Math.max.name Lib.Math.max.code 2 (some .int), Cond.methodLink RX2 99 yX2_fuelGoal, Cond.instanceMethod yX2_fuelGoal, Cond.selects RX2 yX2_fuelGoal yX2_fuelGoal, Cond.code yX2_fuelGoal cX2_fuelGoal 1 (some .int), Cond.methodLink RX2 121 Lib.Math.min.name, Cond.static Lib.Math.min.name, Cond.code Lib.Math.min.name Lib.Math.min.code 2 (some .int), Cond.methodLink RX2 105 yX2_moved, Cond.static yX2_moved, Cond.code yX2_moved cX2_moved 3 (some .int), Cond.methodLink RX2 76 yX2_sequence, Cond.instanceMethod yX2_sequence, Cond.selects RX2 yX2_sequence yX2_sequence, Cond.code yX2_sequence cX2_sequence 2 (some .boolean), Cond.methodLink RX2 124 yX2_sequenceOff, Cond.instanceMethod yX2_sequenceOff]
def wsL_reasonsAhead_r5 : List Cond := [Cond.selects RX2 yX2_sequenceOff yX2_sequenceOff, Cond.code yX2_sequenceOff cX2_sequenceOff 2 (some .boolean), Cond.methodLink RX2 139 yX2_hasFlame, Cond.instanceMethod yX2_hasFlame, Cond.selects RX2 yX2_hasFlame yX2_hasFlame, Cond.code yX2_hasFlame cX2_hasFlame 1 (some .boolean), Cond.methodLink RX2 142 yX2_lockOut, Cond.instanceMethod yX2_lockOut, Cond.selects RX2 yX2_lockOut yX2_lockOut, Cond.code yX2_lockOut cX2_lockOut 2 (some .boolean), Cond.methodLink RX2 145 yX2_begin, Cond.instanceMethod yX2_begin, Cond.selects RX2 yX2_begin yX2_begin, Cond.code yX2_begin cX2_begin 3 (some .boolean), Cond.methodLink RX2 127 yX2_sequencePurge, Cond.instanceMethod yX2_sequencePurge, Cond.selects RX2 yX2_sequencePurge yX2_sequencePurge, Cond.code yX2_sequencePurge cX2_sequencePurge 2 (some .boolean), Cond.methodLink RX2 130 yX2_sequenceLighting, Cond.instanceMethod yX2_sequenceLighting, Cond.selects RX2 yX2_sequenceLighting yX2_sequenceLighting, Cond.code yX2_sequenceLighting cX2_sequenceLighting 2 (some .boolean), Cond.methodLink RX2 154 yX2_lightPilot, Cond.instanceMethod yX2_lightPilot]
def wsL_reasonsAhead_r6 : List Cond := [Cond.selects RX2 yX2_lightPilot yX2_lightPilot, Cond.code yX2_lightPilot cX2_lightPilot 1 (some .boolean), Cond.methodLink RX2 157 yX2_lightMain, Cond.instanceMethod yX2_lightMain, Cond.selects RX2 yX2_lightMain yX2_lightMain, Cond.code yX2_lightMain cX2_lightMain 1 (some .boolean), Cond.methodLink RX2 133 yX2_sequenceRun, Cond.instanceMethod yX2_sequenceRun, Cond.selects RX2 yX2_sequenceRun yX2_sequenceRun, Cond.code yX2_sequenceRun cX2_sequenceRun 2 (some .boolean), Cond.methodLink RX2 166 yX2_isCheckDue, Cond.instanceMethod yX2_isCheckDue, Cond.selects RX2 yX2_isCheckDue yX2_isCheckDue, Cond.code yX2_isCheckDue cX2_isCheckDue 1 (some .boolean), Cond.methodLink RX2 136 yX2_sequenceAfterPurge, Cond.instanceMethod yX2_sequenceAfterPurge, Cond.selects RX2 yX2_sequenceAfterPurge yX2_sequenceAfterPurge, Cond.code yX2_sequenceAfterPurge cX2_sequenceAfterPurge 1 (some .boolean), Cond.methodLink RX2 80 yX2_countUnlit, Cond.instanceMethod yX2_countUnlit, Cond.selects RX2 yX2_countUnlit yX2_countUnlit, Cond.code yX2_countUnlit cX2_countUnlit 2 none, Cond.methodLink RX6 238 yX6_foundAt, Cond.static yX6_foundAt]
def wsL_reasonsAhead_r7 : List Cond := [Cond.code yX6_foundAt cX6_foundAt 2 (some .int)]
def wsL_reasonsAhead : List Cond := .codeWith yL_reasonsAhead cL_reasonsAhead 4 (some .int) [(0, 9, 12, 19)] :: ((wsL_reasonsAhead_r1 ++ (wsL_reasonsAhead_r2 ++ (wsL_reasonsAhead_r3 ++ (wsL_reasonsAhead_r4 ++ (wsL_reasonsAhead_r5 ++ (wsL_reasonsAhead_r6 ++ wsL_reasonsAhead_r7)))))) ++ wsX60 ++ wsX20 ++ wsX00 ++ wsX10 ++ wsX50 ++ (vx_atS RX6 71 "java/lang/IllegalArgumentException" ["java/lang/RuntimeException", "java/lang/Exception"]).filter goodWord)
def wsL_law0_r1 : List Cond := [Cond.classLink RL 8 RX6, Cond.instantiable RX6 7, Cond.initialized RX6, Cond.classLink RL 58 RX7, Cond.instantiable RX7 35, Cond.initialized RX7, Cond.arrayClass .long, Cond.methodLink RL 57 yX6_init, Cond.instanceMethod yX6_init, Cond.code yX6_init cX6_init 1 none, Cond.methodLink RX6 3 objectInit, Cond.instanceMethod objectInit, Cond.code objectInit ⟨#[0xb1]⟩ 1 none, Cond.classLink RX6 9 RX5, Cond.instantiable RX5 11, Cond.initialized RX5, Cond.fieldLink RX6 12 "Burnerline" "settings" "LBurnerline$Settings;", Cond.classLink RX6 16 RX2, Cond.instantiable RX2 11, Cond.initialized RX2, Cond.fieldLink RX6 21 "Burnerline" "furnace" "LBurnerline$Furnace;", Cond.classLink RX6 25 RX3, Cond.instantiable RX3 6, Cond.initialized RX3]
def wsL_law0_r2 : List Cond := [Cond.fieldLink RX6 28 "Burnerline" "history" "LBurnerline$History;", Cond.classLink RX6 32 RX4, Cond.instantiable RX4 3, Cond.initialized RX4, Cond.fieldLink RX6 35 "Burnerline" "resets" "LBurnerline$Resets;", Cond.classLink RX6 39 RX0, Cond.instantiable RX0 2, Cond.initialized RX0, Cond.fieldLink RX6 44 "Burnerline" "ahead" "LBurnerline$Ahead;", Cond.instanceMethod yX5_init, Cond.code yX5_init cX5_init 1 none, Cond.methodLink RX5 1 objectInit, Cond.fieldLink RX5 7 "Burnerline$Settings" "rate" "I", Cond.fieldLink RX5 13 "Burnerline$Settings" "longestPurge" "I", Cond.fieldLink RX5 16 "Burnerline$Settings" "longestPilot" "I", Cond.fieldLink RX5 19 "Burnerline$Settings" "longestMain" "I", Cond.fieldLink RX5 22 "Burnerline$Settings" "afterPurge" "I", Cond.fieldLink RX5 25 "Burnerline$Settings" "ticksToLight" "I", Cond.fieldLink RX5 28 "Burnerline$Settings" "ticksToNone" "I", Cond.fieldLink RX5 31 "Burnerline$Settings" "ticksToCheck" "I", Cond.fieldLink RX5 34 "Burnerline$Settings" "volume" "I", Cond.fieldLink RX5 37 "Burnerline$Settings" "airStep" "I", Cond.fieldLink RX5 40 "Burnerline$Settings" "fuelStep" "I", Cond.methodLink RX6 18 yX2_init]
def wsL_law0_r3 : List Cond := [Cond.instanceMethod yX2_init, Cond.code yX2_init cX2_init 2 none, Cond.methodLink RX2 3 objectInit, Cond.classLink RX2 9 RX1, Cond.instantiable RX1 2, Cond.initialized RX1, Cond.fieldLink RX2 12 "Burnerline$Furnace" "pilotEye" "LBurnerline$Eye;", Cond.fieldLink RX2 18 "Burnerline$Furnace" "mainEye" "LBurnerline$Eye;", Cond.fieldLink RX2 21 "Burnerline$Furnace" "settings" "LBurnerline$Settings;", Cond.instanceMethod yX1_init, Cond.code yX1_init cX1_init 1 none, Cond.methodLink RX1 1 objectInit, Cond.instanceMethod yX3_init, Cond.code yX3_init cX3_init 1 none, Cond.methodLink RX3 3 objectInit, Cond.arrayClass .int, Cond.fieldLink RX3 9 "Burnerline$History" "tickRow" "[I", Cond.fieldLink RX3 15 "Burnerline$History" "stateRow" "[I", Cond.fieldLink RX3 18 "Burnerline$History" "reasonRow" "[I", Cond.instanceMethod yX4_init, Cond.code yX4_init cX4_init 1 none, Cond.methodLink RX4 3 objectInit, Cond.fieldLink RX4 9 "Burnerline$Resets" "last" "I", Cond.fieldLink RX4 15 "Burnerline$Resets" "second" "I"]
def wsL_law0_r4 : List Cond := [Cond.fieldLink RX4 18 "Burnerline$Resets" "third" "I", Cond.methodLink RX6 41 yX0_init, Cond.instanceMethod yX0_init, Cond.code yX0_init cX0_init 3 none, Cond.methodLink RX0 1 objectInit, Cond.classLink RX0 7 RX2, Cond.fieldLink RX0 12 "Burnerline$Ahead" "furnace" "LBurnerline$Furnace;", Cond.fieldLink RX0 18 "Burnerline$Ahead" "next" "LBurnerline$Ahead;", Cond.methodLink RX0 9 yX2_init, Cond.methodLink RL 60 yX7_init, Cond.instanceMethod yX7_init, Cond.code yX7_init cX7_init 1 none, Cond.methodLink RX7 1 objectInit, Cond.fieldLink RX7 7 "BurnerlineModel" "rate" "I", Cond.fieldLink RX7 13 "BurnerlineModel" "longPurge" "I", Cond.fieldLink RX7 16 "BurnerlineModel" "longPilot" "I", Cond.fieldLink RX7 19 "BurnerlineModel" "longMain" "I", Cond.fieldLink RX7 22 "BurnerlineModel" "longAfter" "I", Cond.fieldLink RX7 25 "BurnerlineModel" "light" "I", Cond.fieldLink RX7 28 "BurnerlineModel" "none" "I", Cond.fieldLink RX7 31 "BurnerlineModel" "check" "I", Cond.fieldLink RX7 34 "BurnerlineModel" "volume" "I", Cond.fieldLink RX7 37 "BurnerlineModel" "airStep" "I", Cond.fieldLink RX7 40 "BurnerlineModel" "fuelStep" "I"]
def wsL_law0_r5 : List Cond := [Cond.fieldLink RX7 43 "BurnerlineModel" "changedAt" "[I", Cond.fieldLink RX7 47 "BurnerlineModel" "changedTo" "[I", Cond.fieldLink RX7 50 "BurnerlineModel" "changedFor" "[I", Cond.fieldLink RX7 53 "BurnerlineModel" "resetAt" "[I", Cond.fieldLink RX7 56 "BurnerlineModel" "now" "[J", Cond.fieldLink RX7 60 "BurnerlineModel" "then" "[J", Cond.methodLink RL 61 yL_signal, Cond.static yL_signal, Cond.initialized RL, Cond.codeWith yL_signal cL_signal 5 (some .int) [(0, 17, 20, 13)], Cond.classLink RL 13 "java/lang/IndexOutOfBoundsException", Cond.methodLink RL 7 yX6_signal, Cond.instanceMethod yX6_signal, Cond.selects RX6 yX6_signal yX6_signal, Cond.code yX6_signal cX6_signal 5 (some .boolean), Cond.classLink RX6 48 "java/lang/IndexOutOfBoundsException", Cond.initialized "java/lang/IndexOutOfBoundsException", Cond.fieldLink RX6 55 "Burnerline" "signals" "I", Cond.methodLink RX6 59 yX6_isOn, Cond.static yX6_isOn, Cond.code yX6_isOn cX6_isOn 2 (some .boolean), Cond.methodLink RL 66 yX7_signal, Cond.instanceMethod yX7_signal, Cond.selects RX7 yX7_signal yX7_signal]
def wsL_law0_r6 : List Cond := [Cond.code yX7_signal cX7_signal 4 (some .boolean), Cond.fieldLink RX7 74 "BurnerlineModel" "signals" "I", Cond.methodLink RX7 66 yX7_in, Cond.static yX7_in, Cond.code yX7_in cX7_in 3 (some .boolean), Cond.methodLink RX7 70 yX7_asks, Cond.instanceMethod yX7_asks, Cond.selects RX7 yX7_asks yX7_asks, Cond.code yX7_asks cX7_asks 2 (some .boolean), Cond.fieldLink RX7 63 "BurnerlineModel" "thrown" "I", Cond.methodLink RL 67 yX7_thrown, Cond.instanceMethod yX7_thrown, Cond.selects RX7 yX7_thrown yX7_thrown, Cond.code yX7_thrown cX7_thrown 1 (some .int), Cond.methodLink RL 70 yL_setRate, Cond.static yL_setRate, Cond.codeWith yL_setRate cL_setRate 4 (some .int) [(0, 9, 12, 19)], Cond.classLink RL 19 "java/lang/IllegalArgumentException", Cond.methodLink RL 15 yX6_setRate, Cond.instanceMethod yX6_setRate, Cond.selects RX6 yX6_setRate yX6_setRate, Cond.code yX6_setRate cX6_setRate 3 (some .int), Cond.classLink RX6 67 "java/lang/IllegalArgumentException", Cond.initialized "java/lang/IllegalArgumentException"]
def wsL_law0_r7 : List Cond := [Cond.methodLink RX6 63 yX6_isOutside, Cond.static yX6_isOutside, Cond.code yX6_isOutside cX6_isOutside 3 (some .boolean), Cond.methodLink RL 73 yX7_setRate, Cond.instanceMethod yX7_setRate, Cond.selects RX7 yX7_setRate yX7_setRate, Cond.code yX7_setRate cX7_setRate 3 (some .int), Cond.methodLink RL 74 yL_setTimes, Cond.static yL_setTimes, Cond.codeWith yL_setTimes cL_setTimes 6 (some .int) [(0, 9, 12, 19), (0, 9, 16, 25)], Cond.classLink RL 25 "java/lang/IllegalStateException", Cond.methodLink RL 21 yX6_setTimes, Cond.instanceMethod yX6_setTimes, Cond.selects RX6 yX6_setTimes yX6_setTimes, Cond.code yX6_setTimes cX6_setTimes 5 none, Cond.methodLink RX6 77 yX6_refuseUnlessOff, Cond.instanceMethod yX6_refuseUnlessOff, Cond.selects RX6 yX6_refuseUnlessOff yX6_refuseUnlessOff, Cond.code yX6_refuseUnlessOff cX6_refuseUnlessOff 1 none, Cond.classLink RX6 133 "java/lang/IllegalStateException", Cond.initialized "java/lang/IllegalStateException", Cond.methodLink RL 77 yX7_setTimes, Cond.instanceMethod yX7_setTimes, Cond.selects RX7 yX7_setTimes yX7_setTimes]
def wsL_law0_r8 : List Cond := [Cond.code yX7_setTimes cX7_setTimes 5 none, Cond.methodLink RX7 80 yX7_asksSetting, Cond.instanceMethod yX7_asksSetting, Cond.selects RX7 yX7_asksSetting yX7_asksSetting, Cond.code yX7_asksSetting cX7_asksSetting 2 (some .boolean), Cond.fieldLink RX7 77 "BurnerlineModel" "state" "I", Cond.methodLink RL 78 yL_setEyes, Cond.static yL_setEyes, Cond.codeWith yL_setEyes cL_setEyes 5 (some .int) [(0, 7, 10, 19), (0, 7, 14, 25)], Cond.methodLink RL 27 yX6_setEyes, Cond.instanceMethod yX6_setEyes, Cond.selects RX6 yX6_setEyes yX6_setEyes, Cond.code yX6_setEyes cX6_setEyes 4 none, Cond.methodLink RL 81 yX7_setEyes, Cond.instanceMethod yX7_setEyes, Cond.selects RX7 yX7_setEyes yX7_setEyes, Cond.code yX7_setEyes cX7_setEyes 4 none, Cond.methodLink RL 82 yL_setFurnace, Cond.static yL_setFurnace, Cond.codeWith yL_setFurnace cL_setFurnace 5 (some .int) [(0, 7, 10, 19), (0, 7, 14, 25)], Cond.methodLink RL 31 yX6_setFurnace, Cond.instanceMethod yX6_setFurnace, Cond.selects RX6 yX6_setFurnace yX6_setFurnace, Cond.code yX6_setFurnace cX6_setFurnace 4 none]
def wsL_law0_r9 : List Cond := [Cond.methodLink RL 84 yX7_setFurnace, Cond.instanceMethod yX7_setFurnace, Cond.selects RX7 yX7_setFurnace yX7_setFurnace, Cond.code yX7_setFurnace cX7_setFurnace 4 none, Cond.methodLink RL 85 yL_poll, Cond.static yL_poll, Cond.codeWith yL_poll cL_poll 4 (some .int) [(0, 9, 12, 19)], Cond.methodLink RL 34 yX6_poll, Cond.instanceMethod yX6_poll, Cond.selects RX6 yX6_poll yX6_poll, Cond.code yX6_poll cX6_poll 4 (some .int), Cond.fieldLink RX6 116 "Burnerline" "ticks" "I", Cond.methodLink RX6 119 yX2_tick, Cond.instanceMethod yX2_tick, Cond.selects RX2 yX2_tick yX2_tick, Cond.code yX2_tick cX2_tick 4 (some .boolean), Cond.fieldLink RX2 36 "Burnerline$Furnace" "time" "I", Cond.methodLink RX2 58 yX2_isPilotOpen, Cond.instanceMethod yX2_isPilotOpen, Cond.selects RX2 yX2_isPilotOpen yX2_isPilotOpen, Cond.code yX2_isPilotOpen cX2_isPilotOpen 1 (some .boolean), Cond.fieldLink RX2 29 "Burnerline$Furnace" "state" "I", Cond.methodLink RX2 62 yX2_isMainOpen, Cond.instanceMethod yX2_isMainOpen]
def wsL_law0_r10 : List Cond := [Cond.selects RX2 yX2_isMainOpen yX2_isMainOpen, Cond.code yX2_isMainOpen cX2_isMainOpen 1 (some .boolean), Cond.methodLink RX2 69 yX2_look, Cond.instanceMethod yX2_look, Cond.selects RX2 yX2_look yX2_look, Cond.code yX2_look cX2_look 3 none, Cond.methodLink RX2 92 yX1_look, Cond.instanceMethod yX1_look, Cond.selects RX1 yX1_look yX1_look, Cond.code yX1_look cX1_look 3 none, Cond.fieldLink RX1 7 "Burnerline$Eye" "seesFlame" "Z", Cond.fieldLink RX1 13 "Burnerline$Eye" "row" "I", Cond.methodLink RX2 73 yX2_movePositions, Cond.instanceMethod yX2_movePositions, Cond.selects RX2 yX2_movePositions yX2_movePositions, Cond.code yX2_movePositions cX2_movePositions 3 none, Cond.fieldLink RX2 39 "Burnerline$Furnace" "air" "I", Cond.fieldLink RX2 42 "Burnerline$Furnace" "fuel" "I", Cond.methodLink RX2 95 yX2_airGoal, Cond.instanceMethod yX2_airGoal, Cond.selects RX2 yX2_airGoal yX2_airGoal, Cond.code yX2_airGoal cX2_airGoal 1 (some .int), Cond.methodLink RX2 115 Lib.Math.max.name, Cond.static Lib.Math.max.name]
def wsL_law0_r11 : List Cond := [Cond.initialized "java/lang/Math", Cond.code Lib.Math.max.name Lib.Math.max.code 2 (some .int), Cond.methodLink RX2 99 yX2_fuelGoal, Cond.instanceMethod yX2_fuelGoal, Cond.selects RX2 yX2_fuelGoal yX2_fuelGoal, Cond.code yX2_fuelGoal cX2_fuelGoal 1 (some .int), Cond.methodLink RX2 121 Lib.Math.min.name, Cond.static Lib.Math.min.name, Cond.code Lib.Math.min.name Lib.Math.min.code 2 (some .int), Cond.methodLink RX2 105 yX2_moved, Cond.static yX2_moved, Cond.code yX2_moved cX2_moved 3 (some .int), Cond.methodLink RX2 76 yX2_sequence, Cond.instanceMethod yX2_sequence, Cond.selects RX2 yX2_sequence yX2_sequence, Cond.code yX2_sequence cX2_sequence 2 (some .boolean), Cond.methodLink RX2 124 yX2_sequenceOff, Cond.instanceMethod yX2_sequenceOff, Cond.selects RX2 yX2_sequenceOff yX2_sequenceOff, Cond.code yX2_sequenceOff cX2_sequenceOff 2 (some .boolean), Cond.methodLink RX2 139 yX2_hasFlame, Cond.instanceMethod yX2_hasFlame, Cond.selects RX2 yX2_hasFlame yX2_hasFlame, Cond.code yX2_hasFlame cX2_hasFlame 1 (some .boolean)]
def wsL_law0_r12 : List Cond := [Cond.methodLink RX2 142 yX2_lockOut, Cond.instanceMethod yX2_lockOut, Cond.selects RX2 yX2_lockOut yX2_lockOut, Cond.code yX2_lockOut cX2_lockOut 2 (some .boolean), Cond.methodLink RX2 145 yX2_begin, Cond.instanceMethod yX2_begin, Cond.selects RX2 yX2_begin yX2_begin, Cond.code yX2_begin cX2_begin 3 (some .boolean), Cond.fieldLink RX2 33 "Burnerline$Furnace" "reason" "I", Cond.fieldLink RX2 45 "Burnerline$Furnace" "purged" "I", Cond.methodLink RX2 127 yX2_sequencePurge, Cond.instanceMethod yX2_sequencePurge, Cond.selects RX2 yX2_sequencePurge yX2_sequencePurge, Cond.code yX2_sequencePurge cX2_sequencePurge 2 (some .boolean), Cond.methodLink RX2 130 yX2_sequenceLighting, Cond.instanceMethod yX2_sequenceLighting, Cond.selects RX2 yX2_sequenceLighting yX2_sequenceLighting, Cond.code yX2_sequenceLighting cX2_sequenceLighting 2 (some .boolean), Cond.methodLink RX2 154 yX2_lightPilot, Cond.instanceMethod yX2_lightPilot, Cond.selects RX2 yX2_lightPilot yX2_lightPilot, Cond.code yX2_lightPilot cX2_lightPilot 1 (some .boolean), Cond.methodLink RX2 157 yX2_lightMain, Cond.instanceMethod yX2_lightMain]
def wsL_law0_r13 : List Cond := [Cond.selects RX2 yX2_lightMain yX2_lightMain, Cond.code yX2_lightMain cX2_lightMain 1 (some .boolean), Cond.methodLink RX2 133 yX2_sequenceRun, Cond.instanceMethod yX2_sequenceRun, Cond.selects RX2 yX2_sequenceRun yX2_sequenceRun, Cond.code yX2_sequenceRun cX2_sequenceRun 2 (some .boolean), Cond.methodLink RX2 166 yX2_isCheckDue, Cond.instanceMethod yX2_isCheckDue, Cond.selects RX2 yX2_isCheckDue yX2_isCheckDue, Cond.code yX2_isCheckDue cX2_isCheckDue 1 (some .boolean), Cond.methodLink RX2 136 yX2_sequenceAfterPurge, Cond.instanceMethod yX2_sequenceAfterPurge, Cond.selects RX2 yX2_sequenceAfterPurge yX2_sequenceAfterPurge, Cond.code yX2_sequenceAfterPurge cX2_sequenceAfterPurge 1 (some .boolean), Cond.methodLink RX2 80 yX2_countUnlit, Cond.instanceMethod yX2_countUnlit, Cond.selects RX2 yX2_countUnlit yX2_countUnlit, Cond.code yX2_countUnlit cX2_countUnlit 2 none, Cond.fieldLink RX2 48 "Burnerline$Furnace" "unlit" "I", Cond.fieldLink RX2 51 "Burnerline$Furnace" "longestUnlit" "I", Cond.methodLink RX6 123 yX6_recordChange, Cond.instanceMethod yX6_recordChange, Cond.selects RX6 yX6_recordChange yX6_recordChange, Cond.code yX6_recordChange cX6_recordChange 1 none]
def wsL_law0_r14 : List Cond := [Cond.methodLink RX6 232 yX3_add, Cond.instanceMethod yX3_add, Cond.selects RX3 yX3_add yX3_add, Cond.code yX3_add cX3_add 4 none, Cond.fieldLink RX3 21 "Burnerline$History" "place" "I", Cond.fieldLink RX3 25 "Burnerline$History" "kept" "I", Cond.methodLink RX3 28 Lib.Math.min.name, Cond.fieldLink RX3 34 "Burnerline$History" "added" "I", Cond.methodLink RL 87 yX7_poll, Cond.instanceMethod yX7_poll, Cond.selects RX7 yX7_poll yX7_poll, Cond.code yX7_poll cX7_poll 5 (some .int), Cond.fieldLink RX7 143 "BurnerlineModel" "changes" "I", Cond.fieldLink RX7 146 "BurnerlineModel" "ticks" "I", Cond.fieldLink RX7 87 "BurnerlineModel" "seen" "I", Cond.fieldLink RX7 155 "BurnerlineModel" "unlit" "I", Cond.fieldLink RX7 158 "BurnerlineModel" "longestUnlit" "I", Cond.methodLink RX7 149 yX7_plays, Cond.instanceMethod yX7_plays, Cond.selects RX7 yX7_plays yX7_plays, Cond.code yX7_plays cX7_plays 2 none, Cond.fieldLink RX7 127 "BurnerlineModel" "pilotRow" "I", Cond.fieldLink RX7 133 "BurnerlineModel" "mainRow" "I", Cond.fieldLink RX7 103 "BurnerlineModel" "time" "I"]
def wsL_law0_r15 : List Cond := [Cond.methodLink RX7 130 yX7_looks, Cond.instanceMethod yX7_looks, Cond.selects RX7 yX7_looks yX7_looks, Cond.code yX7_looks cX7_looks 5 (some .int), Cond.methodLink RX7 83 yX7_has, Cond.static yX7_has, Cond.code yX7_has cX7_has 2 (some .boolean), Cond.methodLink RX7 136 yX7_goes, Cond.instanceMethod yX7_goes, Cond.selects RX7 yX7_goes yX7_goes, Cond.code yX7_goes cX7_goes 3 none, Cond.fieldLink RX7 90 "BurnerlineModel" "fuel" "I", Cond.fieldLink RX7 93 "BurnerlineModel" "air" "I", Cond.methodLink RX7 96 yX7_nears, Cond.static yX7_nears, Cond.code yX7_nears cX7_nears 3 (some .int), Cond.methodLink RX7 139 yX7_decides, Cond.instanceMethod yX7_decides, Cond.selects RX7 yX7_decides yX7_decides, Cond.code yX7_decides cX7_decides 3 none, Cond.methodLink RX7 109 yX7_begins, Cond.instanceMethod yX7_begins, Cond.selects RX7 yX7_begins yX7_begins, Cond.code yX7_begins cX7_begins 3 none]
def wsL_law0_r16 : List Cond := [Cond.fieldLink RX7 100 "BurnerlineModel" "why" "I", Cond.fieldLink RX7 106 "BurnerlineModel" "purged" "I", Cond.methodLink RX7 113 yX7_purges, Cond.instanceMethod yX7_purges, Cond.selects RX7 yX7_purges yX7_purges, Cond.code yX7_purges cX7_purges 3 none, Cond.methodLink RX7 117 yX7_lights, Cond.instanceMethod yX7_lights, Cond.selects RX7 yX7_lights yX7_lights, Cond.code yX7_lights cX7_lights 4 none, Cond.methodLink RX7 123 yX7_lacks, Cond.instanceMethod yX7_lacks, Cond.selects RX7 yX7_lacks yX7_lacks, Cond.code yX7_lacks cX7_lacks 2 (some .boolean), Cond.methodLink RX7 120 yX7_runs, Cond.instanceMethod yX7_runs, Cond.selects RX7 yX7_runs yX7_runs, Cond.code yX7_runs cX7_runs 3 none, Cond.methodLink RX7 152 yX7_notes, Cond.instanceMethod yX7_notes, Cond.selects RX7 yX7_notes yX7_notes, Cond.code yX7_notes cX7_notes 1 none, Cond.methodLink RL 88 yL_reset, Cond.static yL_reset]
def wsL_law0_r17 : List Cond := [Cond.codeWith yL_reset cL_reset 3 (some .int) [(0, 8, 11, 25)], Cond.methodLink RL 37 yX6_reset, Cond.instanceMethod yX6_reset, Cond.selects RX6 yX6_reset yX6_reset, Cond.code yX6_reset cX6_reset 1 (some .int), Cond.methodLink RX6 126 yX2_isLockedOut, Cond.instanceMethod yX2_isLockedOut, Cond.selects RX2 yX2_isLockedOut yX2_isLockedOut, Cond.code yX2_isLockedOut cX2_isLockedOut 1 (some .boolean), Cond.methodLink RX6 130 yX2_hasFlame, Cond.methodLink RX6 141 yX4_recent, Cond.instanceMethod yX4_recent, Cond.selects RX4 yX4_recent yX4_recent, Cond.code yX4_recent cX4_recent 2 (some .int), Cond.methodLink RX4 21 yX4_countOf, Cond.static yX4_countOf, Cond.code yX4_countOf cX4_countOf 2 (some .int), Cond.methodLink RX6 147 yX2_begin, Cond.methodLink RX6 150 yX4_add, Cond.instanceMethod yX4_add, Cond.selects RX4 yX4_add yX4_add, Cond.code yX4_add cX4_add 2 none, Cond.methodLink RL 91 yX7_reset, Cond.instanceMethod yX7_reset]
def wsL_law0_r18 : List Cond := [Cond.selects RX7 yX7_reset yX7_reset, Cond.code yX7_reset cX7_reset 1 (some .int), Cond.fieldLink RX7 161 "BurnerlineModel" "resets" "I", Cond.methodLink RX7 164 yX7_recentResets, Cond.instanceMethod yX7_recentResets, Cond.selects RX7 yX7_recentResets yX7_recentResets, Cond.code yX7_recentResets cX7_recentResets 3 (some .int), Cond.methodLink RL 92 yX6_ticks, Cond.instanceMethod yX6_ticks, Cond.selects RX6 yX6_ticks yX6_ticks, Cond.code yX6_ticks cX6_ticks 1 (some .int), Cond.methodLink RL 95 yX7_ticks, Cond.instanceMethod yX7_ticks, Cond.selects RX7 yX7_ticks yX7_ticks, Cond.code yX7_ticks cX7_ticks 1 (some .int), Cond.methodLink RL 96 yX6_state, Cond.instanceMethod yX6_state, Cond.selects RX6 yX6_state yX6_state, Cond.code yX6_state cX6_state 1 (some .int), Cond.methodLink RL 99 yX7_state, Cond.instanceMethod yX7_state, Cond.selects RX7 yX7_state yX7_state, Cond.code yX7_state cX7_state 1 (some .int), Cond.methodLink RL 100 yX6_reason]
def wsL_law0_r19 : List Cond := [Cond.instanceMethod yX6_reason, Cond.selects RX6 yX6_reason yX6_reason, Cond.code yX6_reason cX6_reason 1 (some .int), Cond.methodLink RL 103 yX7_reason, Cond.instanceMethod yX7_reason, Cond.selects RX7 yX7_reason yX7_reason, Cond.code yX7_reason cX7_reason 1 (some .int), Cond.methodLink RL 104 yX6_time, Cond.instanceMethod yX6_time, Cond.selects RX6 yX6_time yX6_time, Cond.code yX6_time cX6_time 1 (some .int), Cond.methodLink RL 107 yX7_time, Cond.instanceMethod yX7_time, Cond.selects RX7 yX7_time yX7_time, Cond.code yX7_time cX7_time 1 (some .int), Cond.methodLink RL 108 yX6_isOpen, Cond.instanceMethod yX6_isOpen, Cond.selects RX6 yX6_isOpen yX6_isOpen, Cond.code yX6_isOpen cX6_isOpen 2 (some .boolean), Cond.methodLink RX6 160 yX2_isMainOpen, Cond.methodLink RX6 163 yX2_isPilotOpen, Cond.methodLink RL 112 yX7_isOpen, Cond.instanceMethod yX7_isOpen, Cond.selects RX7 yX7_isOpen yX7_isOpen]
def wsL_law0_r20 : List Cond := [Cond.code yX7_isOpen cX7_isOpen 2 (some .boolean), Cond.methodLink RL 113 yX6_sees, Cond.instanceMethod yX6_sees, Cond.selects RX6 yX6_sees yX6_sees, Cond.code yX6_sees cX6_sees 2 (some .boolean), Cond.methodLink RL 116 yX7_sees, Cond.instanceMethod yX7_sees, Cond.selects RX7 yX7_sees yX7_sees, Cond.code yX7_sees cX7_sees 2 (some .boolean), Cond.methodLink RL 117 yX6_air, Cond.instanceMethod yX6_air, Cond.selects RX6 yX6_air yX6_air, Cond.code yX6_air cX6_air 1 (some .int), Cond.methodLink RL 120 yX7_air, Cond.instanceMethod yX7_air, Cond.selects RX7 yX7_air yX7_air, Cond.code yX7_air cX7_air 1 (some .int), Cond.methodLink RL 121 yX6_fuel, Cond.instanceMethod yX6_fuel, Cond.selects RX6 yX6_fuel yX6_fuel, Cond.code yX6_fuel cX6_fuel 1 (some .int), Cond.methodLink RL 124 yX7_fuel, Cond.instanceMethod yX7_fuel, Cond.selects RX7 yX7_fuel yX7_fuel]
def wsL_law0_r21 : List Cond := [Cond.code yX7_fuel cX7_fuel 1 (some .int), Cond.methodLink RL 125 yX6_purged, Cond.instanceMethod yX6_purged, Cond.selects RX6 yX6_purged yX6_purged, Cond.code yX6_purged cX6_purged 1 (some .int), Cond.methodLink RL 128 yX7_purged, Cond.instanceMethod yX7_purged, Cond.selects RX7 yX7_purged yX7_purged, Cond.code yX7_purged cX7_purged 1 (some .int), Cond.methodLink RL 129 yX6_unlit, Cond.instanceMethod yX6_unlit, Cond.selects RX6 yX6_unlit yX6_unlit, Cond.code yX6_unlit cX6_unlit 1 (some .int), Cond.methodLink RL 132 yX7_unlit, Cond.instanceMethod yX7_unlit, Cond.selects RX7 yX7_unlit yX7_unlit, Cond.code yX7_unlit cX7_unlit 1 (some .int), Cond.methodLink RL 133 yX6_longestUnlit, Cond.instanceMethod yX6_longestUnlit, Cond.selects RX6 yX6_longestUnlit yX6_longestUnlit, Cond.code yX6_longestUnlit cX6_longestUnlit 1 (some .int), Cond.methodLink RL 136 yX7_longestUnlit, Cond.instanceMethod yX7_longestUnlit, Cond.selects RX7 yX7_longestUnlit yX7_longestUnlit]
def wsL_law0_r22 : List Cond := [Cond.code yX7_longestUnlit cX7_longestUnlit 1 (some .int), Cond.methodLink RL 137 yX6_changes, Cond.instanceMethod yX6_changes, Cond.selects RX6 yX6_changes yX6_changes, Cond.code yX6_changes cX6_changes 1 (some .int), Cond.methodLink RL 140 yX7_changes, Cond.instanceMethod yX7_changes, Cond.selects RX7 yX7_changes yX7_changes, Cond.code yX7_changes cX7_changes 1 (some .int), Cond.methodLink RL 141 yX6_records, Cond.instanceMethod yX6_records, Cond.selects RX6 yX6_records yX6_records, Cond.code yX6_records cX6_records 1 (some .int), Cond.methodLink RL 144 yX7_records, Cond.instanceMethod yX7_records, Cond.selects RX7 yX7_records yX7_records, Cond.code yX7_records cX7_records 1 (some .int), Cond.methodLink RX7 168 yX7_kept, Cond.instanceMethod yX7_kept, Cond.selects RX7 yX7_kept yX7_kept, Cond.code yX7_kept cX7_kept 1 (some .int), Cond.methodLink RL 145 yL_tickOf, Cond.static yL_tickOf, Cond.codeWith yL_tickOf cL_tickOf 4 (some .int) [(0, 9, 12, 13)]]
def wsL_law0_r23 : List Cond := [Cond.methodLink RL 41 yX6_tickOf, Cond.instanceMethod yX6_tickOf, Cond.selects RX6 yX6_tickOf yX6_tickOf, Cond.code yX6_tickOf cX6_tickOf 2 (some .int), Cond.methodLink RX6 200 yX3_has, Cond.instanceMethod yX3_has, Cond.selects RX3 yX3_has yX3_has, Cond.code yX3_has cX3_has 2 (some .boolean), Cond.methodLink RX6 209 yX3_read, Cond.instanceMethod yX3_read, Cond.selects RX3 yX3_read yX3_read, Cond.code yX3_read cX3_read 4 (some .int), Cond.methodLink RL 147 yX7_tickOf, Cond.instanceMethod yX7_tickOf, Cond.selects RX7 yX7_tickOf yX7_tickOf, Cond.code yX7_tickOf cX7_tickOf 2 (some .int), Cond.methodLink RX7 171 yX7_place, Cond.instanceMethod yX7_place, Cond.selects RX7 yX7_place yX7_place, Cond.code yX7_place cX7_place 2 (some .int), Cond.methodLink RL 148 yL_stateOf, Cond.static yL_stateOf, Cond.codeWith yL_stateOf cL_stateOf 4 (some .int) [(0, 9, 12, 13)], Cond.methodLink RL 44 yX6_stateOf]
def wsL_law0_r24 : List Cond := [Cond.instanceMethod yX6_stateOf, Cond.selects RX6 yX6_stateOf yX6_stateOf, Cond.code yX6_stateOf cX6_stateOf 2 (some .int), Cond.methodLink RL 150 yX7_stateOf, Cond.instanceMethod yX7_stateOf, Cond.selects RX7 yX7_stateOf yX7_stateOf, Cond.code yX7_stateOf cX7_stateOf 2 (some .int), Cond.methodLink RL 151 yL_reasonOf, Cond.static yL_reasonOf, Cond.codeWith yL_reasonOf cL_reasonOf 4 (some .int) [(0, 9, 12, 13)], Cond.methodLink RL 47 yX6_reasonOf, Cond.instanceMethod yX6_reasonOf, Cond.selects RX6 yX6_reasonOf yX6_reasonOf, Cond.code yX6_reasonOf cX6_reasonOf 2 (some .int), Cond.methodLink RL 153 yX7_reasonOf, Cond.instanceMethod yX7_reasonOf, Cond.selects RX7 yX7_reasonOf yX7_reasonOf, Cond.code yX7_reasonOf cX7_reasonOf 2 (some .int), Cond.methodLink RL 154 yL_couldBe, Cond.static yL_couldBe, Cond.codeWith yL_couldBe cL_couldBe 5 (some .int) [(0, 17, 20, 19)], Cond.methodLink RL 50 yX6_couldBe, Cond.instanceMethod yX6_couldBe, Cond.selects RX6 yX6_couldBe yX6_couldBe]
def wsL_law0_r25 : List Cond := [Cond.code yX6_couldBe cX6_couldBe 3 (some .boolean), Cond.methodLink RX6 221 yX6_walk, Cond.static yX6_walk, Cond.code yX6_walk cX6_walk 7 (some .int), Cond.methodLink RX6 235 yX6_tellingSignals, Cond.static yX6_tellingSignals, Cond.code yX6_tellingSignals cX6_tellingSignals 1 (some .int), Cond.methodLink RX6 226 yX2_copyFrom, Cond.instanceMethod yX2_copyFrom, Cond.selects RX2 yX2_copyFrom yX2_copyFrom, Cond.code yX2_copyFrom cX2_copyFrom 2 none, Cond.methodLink RX2 25 yX1_copyFrom, Cond.instanceMethod yX1_copyFrom, Cond.selects RX1 yX1_copyFrom yX1_copyFrom, Cond.code yX1_copyFrom cX1_copyFrom 2 none, Cond.methodLink RX6 238 yX6_foundAt, Cond.static yX6_foundAt, Cond.code yX6_foundAt cX6_foundAt 2 (some .int), Cond.methodLink RL 157 yX7_couldBe, Cond.instanceMethod yX7_couldBe, Cond.selects RX7 yX7_couldBe yX7_couldBe, Cond.code yX7_couldBe cX7_couldBe 3 (some .boolean), Cond.methodLink RX7 204 yX7_walks, Cond.instanceMethod yX7_walks]
def wsL_law0_r26 : List Cond := [Cond.selects RX7 yX7_walks yX7_walks, Cond.code yX7_walks cX7_walks 10 (some .int), Cond.fieldLink RX7 191 "BurnerlineModel" "reasons" "I", Cond.fieldLink RX7 194 "BurnerlineModel" "states" "I", Cond.methodLink RX7 187 yX7_packs, Cond.instanceMethod yX7_packs, Cond.selects RX7 yX7_packs yX7_packs, Cond.code yX7_packs cX7_packs 1 (some .long), Cond.methodLink RX7 197 yX7_unpacks, Cond.instanceMethod yX7_unpacks, Cond.selects RX7 yX7_unpacks yX7_unpacks, Cond.code yX7_unpacks cX7_unpacks 3 none, Cond.constantLong RX7 175 (7), Cond.constantLong RX7 177 (15), Cond.constantLong RX7 179 (262143), Cond.constantLong RX7 181 (127), Cond.constantLong RX7 183 (4095), Cond.constantLong RX7 185 (3), Cond.methodLink RX7 201 yX7_adds, Cond.instanceMethod yX7_adds, Cond.selects RX7 yX7_adds yX7_adds, Cond.code yX7_adds cX7_adds 6 (some .int), Cond.methodLink RL 158 yL_reasonsAhead, Cond.static yL_reasonsAhead]
def wsL_law0_r27 : List Cond := [Cond.codeWith yL_reasonsAhead cL_reasonsAhead 4 (some .int) [(0, 9, 12, 19)], Cond.methodLink RL 54 yX6_reasonsAhead, Cond.instanceMethod yX6_reasonsAhead, Cond.selects RX6 yX6_reasonsAhead yX6_reasonsAhead, Cond.code yX6_reasonsAhead cX6_reasonsAhead 2 (some .int), Cond.methodLink RL 160 yX7_reasonsAhead, Cond.instanceMethod yX7_reasonsAhead, Cond.selects RX7 yX7_reasonsAhead yX7_reasonsAhead, Cond.code yX7_reasonsAhead cX7_reasonsAhead 2 (some .int), Cond.methodLink RL 161 yX6_toPilot, Cond.instanceMethod yX6_toPilot, Cond.selects RX6 yX6_toPilot yX6_toPilot, Cond.code yX6_toPilot cX6_toPilot 3 (some .int), Cond.methodLink RL 164 yX7_toPilot, Cond.instanceMethod yX7_toPilot, Cond.selects RX7 yX7_toPilot yX7_toPilot, Cond.code yX7_toPilot cX7_toPilot 5 (some .int)]
def wsL_law0 : List Cond := (wsL_law0_r1 ++ (wsL_law0_r2 ++ (wsL_law0_r3 ++ (wsL_law0_r4 ++ (wsL_law0_r5 ++ (wsL_law0_r6 ++ (wsL_law0_r7 ++ (wsL_law0_r8 ++ (wsL_law0_r9 ++ (wsL_law0_r10 ++ (wsL_law0_r11 ++ (wsL_law0_r12 ++ (wsL_law0_r13 ++ (wsL_law0_r14 ++ (wsL_law0_r15 ++ (wsL_law0_r16 ++ (wsL_law0_r17 ++ (wsL_law0_r18 ++ (wsL_law0_r19 ++ (wsL_law0_r20 ++ (wsL_law0_r21 ++ (wsL_law0_r22 ++ (wsL_law0_r23 ++ (wsL_law0_r24 ++ (wsL_law0_r25 ++ (wsL_law0_r26 ++ wsL_law0_r27)))))))))))))))))))))))))) ++ wsX60 ++ wsX70 ++ wsX50 ++ wsX20 ++ wsX30 ++ wsX40 ++ wsX00 ++ wsX10 ++ ([] : List Cond)
def wsL_law : List Cond := wsL_law0 ++ (vx_atS RX6 52 "java/lang/IndexOutOfBoundsException" ["java/lang/RuntimeException", "java/lang/Exception"]).filter goodWord ++ (vx_atS RX6 71 "java/lang/IllegalArgumentException" ["java/lang/RuntimeException", "java/lang/Exception"]).filter goodWord ++ (vx_atS RX6 137 "java/lang/IllegalStateException" ["java/lang/RuntimeException", "java/lang/Exception"]).filter goodWord
abbrev vwCl : List vw_C := [(RX0, TX0, 2), (RX1, TX1, 2), (RX2, TX2, 11), (RX3, TX3, 6), (RX4, TX4, 3), (RX5, TX5, 11), (RX6, TX6, 7), (RX7, TX7, 35)]
end
section
set_option maxRecDepth 20000 in
theorem ggX0_init_X2_init : GoodIn wsX0_init wsX2_init := goodIn_r _ [11, 12, 2, 3, 13, 14, 15, 16, 17, 18, 19, 20, 21, 35, 36, 22, 23, 24, 25, 26, 27, 28, 29, 30, 31, 32] (by decide +kernel) (by decide +kernel)
set_option maxRecDepth 20000 in
theorem gX0_init_X2_init : GoodIn wsX0_init (wsX2_init) := ggX0_init_X2_init
theorem dX0_init_0 : decode cX0_init 0 = .ok (.aload_n 0, 1) := by decide +kernel
theorem dX0_init_1 : decode cX0_init 1 = .ok (.invokespecial 1, 3) := by decide +kernel
theorem dX0_init_4 : decode cX0_init 4 = .ok (.aload_n 0, 1) := by decide +kernel
theorem dX0_init_5 : decode cX0_init 5 = .ok (.new 7, 3) := by decide +kernel
theorem dX0_init_8 : decode cX0_init 8 = .ok (.dup, 1) := by decide +kernel
theorem dX0_init_9 : decode cX0_init 9 = .ok (.aload_n 1, 1) := by decide +kernel
theorem dX0_init_10 : decode cX0_init 10 = .ok (.invokespecial 9, 3) := by decide +kernel
theorem dX0_init_13 : decode cX0_init 13 = .ok (.putfield 12, 3) := by decide +kernel
theorem dX0_init_16 : decode cX0_init 16 = .ok (.aload_n 0, 1) := by decide +kernel
theorem dX0_init_17 : decode cX0_init 17 = .ok (.aload_n 2, 1) := by decide +kernel
theorem dX0_init_18 : decode cX0_init 18 = .ok (.putfield 18, 3) := by decide +kernel
theorem dX0_init_21 : decode cX0_init 21 = .ok (.return_, 1) := by decide +kernel
theorem dX1_init_0 : decode cX1_init 0 = .ok (.aload_n 0, 1) := by decide +kernel
theorem dX1_init_1 : decode cX1_init 1 = .ok (.invokespecial 1, 3) := by decide +kernel
theorem dX1_init_4 : decode cX1_init 4 = .ok (.return_, 1) := by decide +kernel
theorem dX1_copyFrom_0 : decode cX1_copyFrom 0 = .ok (.aload_n 0, 1) := by decide +kernel
theorem dX1_copyFrom_1 : decode cX1_copyFrom 1 = .ok (.aload_n 1, 1) := by decide +kernel
theorem dX1_copyFrom_2 : decode cX1_copyFrom 2 = .ok (.getfield 7, 3) := by decide +kernel
theorem dX1_copyFrom_5 : decode cX1_copyFrom 5 = .ok (.putfield 7, 3) := by decide +kernel
theorem dX1_copyFrom_8 : decode cX1_copyFrom 8 = .ok (.aload_n 0, 1) := by decide +kernel
theorem dX1_copyFrom_9 : decode cX1_copyFrom 9 = .ok (.aload_n 1, 1) := by decide +kernel
theorem dX1_copyFrom_10 : decode cX1_copyFrom 10 = .ok (.getfield 13, 3) := by decide +kernel
theorem dX1_copyFrom_13 : decode cX1_copyFrom 13 = .ok (.putfield 13, 3) := by decide +kernel
theorem dX1_copyFrom_16 : decode cX1_copyFrom 16 = .ok (.return_, 1) := by decide +kernel
theorem dX1_look_0 : decode cX1_look 0 = .ok (.iload_n 1, 1) := by decide +kernel
theorem dX1_look_1 : decode cX1_look 1 = .ok (.aload_n 0, 1) := by decide +kernel
theorem dX1_look_2 : decode cX1_look 2 = .ok (.getfield 7, 3) := by decide +kernel
theorem dX1_look_5 : decode cX1_look 5 = .ok (.if_icmp .ne 9, 3) := by decide +kernel
theorem dX1_look_8 : decode cX1_look 8 = .ok (.aload_n 0, 1) := by decide +kernel
theorem dX1_look_9 : decode cX1_look 9 = .ok (.iconst 0, 1) := by decide +kernel
theorem dX1_look_10 : decode cX1_look 10 = .ok (.putfield 13, 3) := by decide +kernel
theorem dX1_look_13 : decode cX1_look 13 = .ok (.return_, 1) := by decide +kernel
theorem dX1_look_14 : decode cX1_look 14 = .ok (.aload_n 0, 1) := by decide +kernel
theorem dX1_look_15 : decode cX1_look 15 = .ok (.dup, 1) := by decide +kernel
theorem dX1_look_16 : decode cX1_look 16 = .ok (.getfield 13, 3) := by decide +kernel
theorem dX1_look_19 : decode cX1_look 19 = .ok (.iconst 1, 1) := by decide +kernel
theorem dX1_look_20 : decode cX1_look 20 = .ok (.iadd, 1) := by decide +kernel
theorem dX1_look_21 : decode cX1_look 21 = .ok (.putfield 13, 3) := by decide +kernel
theorem dX1_look_24 : decode cX1_look 24 = .ok (.aload_n 0, 1) := by decide +kernel
theorem dX1_look_25 : decode cX1_look 25 = .ok (.getfield 13, 3) := by decide +kernel
theorem dX1_look_28 : decode cX1_look 28 = .ok (.iload_n 2, 1) := by decide +kernel
theorem dX1_look_29 : decode cX1_look 29 = .ok (.if_icmp .lt 13, 3) := by decide +kernel
theorem dX1_look_32 : decode cX1_look 32 = .ok (.aload_n 0, 1) := by decide +kernel
theorem dX1_look_33 : decode cX1_look 33 = .ok (.iload_n 1, 1) := by decide +kernel
theorem dX1_look_34 : decode cX1_look 34 = .ok (.putfield 7, 3) := by decide +kernel
theorem dX1_look_37 : decode cX1_look 37 = .ok (.aload_n 0, 1) := by decide +kernel
theorem dX1_look_38 : decode cX1_look 38 = .ok (.iconst 0, 1) := by decide +kernel
theorem dX1_look_39 : decode cX1_look 39 = .ok (.putfield 13, 3) := by decide +kernel
theorem dX1_look_42 : decode cX1_look 42 = .ok (.return_, 1) := by decide +kernel
set_option maxRecDepth 20000 in
theorem ggX2_init_X1_init : GoodIn wsX2_init wsX1_init := goodIn_r _ [11, 12, 2, 3] (by decide +kernel) (by decide +kernel)
set_option maxRecDepth 20000 in
theorem gX2_init_X1_init_n11 : GoodIn wsX2_init (wsX1_init) := ggX2_init_X1_init
theorem dX2_init_0 : decode cX2_init 0 = .ok (.aload_n 0, 1) := by decide +kernel
theorem dX2_init_1 : decode cX2_init 1 = .ok (.invokespecial 3, 3) := by decide +kernel
theorem dX2_init_4 : decode cX2_init 4 = .ok (.aload_n 0, 1) := by decide +kernel
theorem dX2_init_5 : decode cX2_init 5 = .ok (.new 9, 3) := by decide +kernel
theorem dX2_init_8 : decode cX2_init 8 = .ok (.dup, 1) := by decide +kernel
theorem dX2_init_9 : decode cX2_init 9 = .ok (.invokespecial 11, 3) := by decide +kernel
theorem dX2_init_12 : decode cX2_init 12 = .ok (.putfield 12, 3) := by decide +kernel
theorem dX2_init_15 : decode cX2_init 15 = .ok (.aload_n 0, 1) := by decide +kernel
theorem dX2_init_16 : decode cX2_init 16 = .ok (.new 9, 3) := by decide +kernel
theorem dX2_init_19 : decode cX2_init 19 = .ok (.dup, 1) := by decide +kernel
theorem dX2_init_20 : decode cX2_init 20 = .ok (.invokespecial 11, 3) := by decide +kernel
theorem dX2_init_23 : decode cX2_init 23 = .ok (.putfield 18, 3) := by decide +kernel
theorem dX2_init_26 : decode cX2_init 26 = .ok (.aload_n 0, 1) := by decide +kernel
theorem dX2_init_27 : decode cX2_init 27 = .ok (.aload_n 1, 1) := by decide +kernel
theorem dX2_init_28 : decode cX2_init 28 = .ok (.putfield 21, 3) := by decide +kernel
theorem dX2_init_31 : decode cX2_init 31 = .ok (.return_, 1) := by decide +kernel
set_option maxRecDepth 20000 in
theorem ggX2_copyFrom_X1_copyFrom : GoodIn wsX2_copyFrom wsX1_copyFrom := goodIn_r _ [15, 16, 17, 29, 30] (by decide +kernel) (by decide +kernel)
set_option maxRecDepth 20000 in
theorem gX2_copyFrom_X1_copyFrom : GoodIn wsX2_copyFrom (wsV RX2 25 RX1 yX1_copyFrom wsX1_copyFrom) := goodIn_app (goodIn_of _ (by decide +kernel)) ggX2_copyFrom_X1_copyFrom
theorem dX2_copyFrom_0 : decode cX2_copyFrom 0 = .ok (.aload_n 0, 1) := by decide +kernel
theorem dX2_copyFrom_1 : decode cX2_copyFrom 1 = .ok (.getfield 12, 3) := by decide +kernel
theorem dX2_copyFrom_4 : decode cX2_copyFrom 4 = .ok (.aload_n 1, 1) := by decide +kernel
theorem dX2_copyFrom_5 : decode cX2_copyFrom 5 = .ok (.getfield 12, 3) := by decide +kernel
theorem dX2_copyFrom_8 : decode cX2_copyFrom 8 = .ok (.invokevirtual 25, 3) := by decide +kernel
theorem dX2_copyFrom_11 : decode cX2_copyFrom 11 = .ok (.aload_n 0, 1) := by decide +kernel
theorem dX2_copyFrom_12 : decode cX2_copyFrom 12 = .ok (.getfield 18, 3) := by decide +kernel
theorem dX2_copyFrom_15 : decode cX2_copyFrom 15 = .ok (.aload_n 1, 1) := by decide +kernel
theorem dX2_copyFrom_16 : decode cX2_copyFrom 16 = .ok (.getfield 18, 3) := by decide +kernel
theorem dX2_copyFrom_19 : decode cX2_copyFrom 19 = .ok (.invokevirtual 25, 3) := by decide +kernel
theorem dX2_copyFrom_22 : decode cX2_copyFrom 22 = .ok (.aload_n 0, 1) := by decide +kernel
theorem dX2_copyFrom_23 : decode cX2_copyFrom 23 = .ok (.aload_n 1, 1) := by decide +kernel
theorem dX2_copyFrom_24 : decode cX2_copyFrom 24 = .ok (.getfield 29, 3) := by decide +kernel
theorem dX2_copyFrom_27 : decode cX2_copyFrom 27 = .ok (.putfield 29, 3) := by decide +kernel
theorem dX2_copyFrom_30 : decode cX2_copyFrom 30 = .ok (.aload_n 0, 1) := by decide +kernel
theorem dX2_copyFrom_31 : decode cX2_copyFrom 31 = .ok (.aload_n 1, 1) := by decide +kernel
theorem dX2_copyFrom_32 : decode cX2_copyFrom 32 = .ok (.getfield 33, 3) := by decide +kernel
theorem dX2_copyFrom_35 : decode cX2_copyFrom 35 = .ok (.putfield 33, 3) := by decide +kernel
theorem dX2_copyFrom_38 : decode cX2_copyFrom 38 = .ok (.aload_n 0, 1) := by decide +kernel
theorem dX2_copyFrom_39 : decode cX2_copyFrom 39 = .ok (.aload_n 1, 1) := by decide +kernel
theorem dX2_copyFrom_40 : decode cX2_copyFrom 40 = .ok (.getfield 36, 3) := by decide +kernel
theorem dX2_copyFrom_43 : decode cX2_copyFrom 43 = .ok (.putfield 36, 3) := by decide +kernel
theorem dX2_copyFrom_46 : decode cX2_copyFrom 46 = .ok (.aload_n 0, 1) := by decide +kernel
theorem dX2_copyFrom_47 : decode cX2_copyFrom 47 = .ok (.aload_n 1, 1) := by decide +kernel
theorem dX2_copyFrom_48 : decode cX2_copyFrom 48 = .ok (.getfield 39, 3) := by decide +kernel
theorem dX2_copyFrom_51 : decode cX2_copyFrom 51 = .ok (.putfield 39, 3) := by decide +kernel
theorem dX2_copyFrom_54 : decode cX2_copyFrom 54 = .ok (.aload_n 0, 1) := by decide +kernel
theorem dX2_copyFrom_55 : decode cX2_copyFrom 55 = .ok (.aload_n 1, 1) := by decide +kernel
theorem dX2_copyFrom_56 : decode cX2_copyFrom 56 = .ok (.getfield 42, 3) := by decide +kernel
theorem dX2_copyFrom_59 : decode cX2_copyFrom 59 = .ok (.putfield 42, 3) := by decide +kernel
theorem dX2_copyFrom_62 : decode cX2_copyFrom 62 = .ok (.aload_n 0, 1) := by decide +kernel
theorem dX2_copyFrom_63 : decode cX2_copyFrom 63 = .ok (.aload_n 1, 1) := by decide +kernel
theorem dX2_copyFrom_64 : decode cX2_copyFrom 64 = .ok (.getfield 45, 3) := by decide +kernel
theorem dX2_copyFrom_67 : decode cX2_copyFrom 67 = .ok (.putfield 45, 3) := by decide +kernel
theorem dX2_copyFrom_70 : decode cX2_copyFrom 70 = .ok (.aload_n 0, 1) := by decide +kernel
theorem dX2_copyFrom_71 : decode cX2_copyFrom 71 = .ok (.aload_n 1, 1) := by decide +kernel
theorem dX2_copyFrom_72 : decode cX2_copyFrom 72 = .ok (.getfield 48, 3) := by decide +kernel
theorem dX2_copyFrom_75 : decode cX2_copyFrom 75 = .ok (.putfield 48, 3) := by decide +kernel
theorem dX2_copyFrom_78 : decode cX2_copyFrom 78 = .ok (.aload_n 0, 1) := by decide +kernel
theorem dX2_copyFrom_79 : decode cX2_copyFrom 79 = .ok (.aload_n 1, 1) := by decide +kernel
theorem dX2_copyFrom_80 : decode cX2_copyFrom 80 = .ok (.getfield 51, 3) := by decide +kernel
theorem dX2_copyFrom_83 : decode cX2_copyFrom 83 = .ok (.putfield 51, 3) := by decide +kernel
theorem dX2_copyFrom_86 : decode cX2_copyFrom 86 = .ok (.return_, 1) := by decide +kernel
theorem dX2_hasFlame_0 : decode cX2_hasFlame 0 = .ok (.aload_n 0, 1) := by decide +kernel
theorem dX2_hasFlame_1 : decode cX2_hasFlame 1 = .ok (.getfield 12, 3) := by decide +kernel
theorem dX2_hasFlame_4 : decode cX2_hasFlame 4 = .ok (.getfield 54, 3) := by decide +kernel
theorem dX2_hasFlame_7 : decode cX2_hasFlame 7 = .ok (.ifCond .ne 13, 3) := by decide +kernel
theorem dX2_hasFlame_10 : decode cX2_hasFlame 10 = .ok (.aload_n 0, 1) := by decide +kernel
theorem dX2_hasFlame_11 : decode cX2_hasFlame 11 = .ok (.getfield 18, 3) := by decide +kernel
theorem dX2_hasFlame_14 : decode cX2_hasFlame 14 = .ok (.getfield 54, 3) := by decide +kernel
theorem dX2_hasFlame_17 : decode cX2_hasFlame 17 = .ok (.ifCond .eq 7, 3) := by decide +kernel
theorem dX2_hasFlame_20 : decode cX2_hasFlame 20 = .ok (.iconst 1, 1) := by decide +kernel
theorem dX2_hasFlame_21 : decode cX2_hasFlame 21 = .ok (.goto 4, 3) := by decide +kernel
theorem dX2_hasFlame_24 : decode cX2_hasFlame 24 = .ok (.iconst 0, 1) := by decide +kernel
theorem dX2_hasFlame_25 : decode cX2_hasFlame 25 = .ok (.ireturn, 1) := by decide +kernel
theorem dX2_isLockedOut_0 : decode cX2_isLockedOut 0 = .ok (.aload_n 0, 1) := by decide +kernel
theorem dX2_isLockedOut_1 : decode cX2_isLockedOut 1 = .ok (.getfield 29, 3) := by decide +kernel
theorem dX2_isLockedOut_4 : decode cX2_isLockedOut 4 = .ok (.bipush 6, 2) := by decide +kernel
theorem dX2_isLockedOut_6 : decode cX2_isLockedOut 6 = .ok (.if_icmp .ne 7, 3) := by decide +kernel
theorem dX2_isLockedOut_9 : decode cX2_isLockedOut 9 = .ok (.iconst 1, 1) := by decide +kernel
theorem dX2_isLockedOut_10 : decode cX2_isLockedOut 10 = .ok (.goto 4, 3) := by decide +kernel
theorem dX2_isLockedOut_13 : decode cX2_isLockedOut 13 = .ok (.iconst 0, 1) := by decide +kernel
theorem dX2_isLockedOut_14 : decode cX2_isLockedOut 14 = .ok (.ireturn, 1) := by decide +kernel
theorem dX2_isPilotOpen_0 : decode cX2_isPilotOpen 0 = .ok (.aload_n 0, 1) := by decide +kernel
theorem dX2_isPilotOpen_1 : decode cX2_isPilotOpen 1 = .ok (.getfield 29, 3) := by decide +kernel
theorem dX2_isPilotOpen_4 : decode cX2_isPilotOpen 4 = .ok (.iconst 2, 1) := by decide +kernel
theorem dX2_isPilotOpen_5 : decode cX2_isPilotOpen 5 = .ok (.if_icmp .eq 11, 3) := by decide +kernel
theorem dX2_isPilotOpen_8 : decode cX2_isPilotOpen 8 = .ok (.aload_n 0, 1) := by decide +kernel
theorem dX2_isPilotOpen_9 : decode cX2_isPilotOpen 9 = .ok (.getfield 29, 3) := by decide +kernel
theorem dX2_isPilotOpen_12 : decode cX2_isPilotOpen 12 = .ok (.iconst 3, 1) := by decide +kernel
theorem dX2_isPilotOpen_13 : decode cX2_isPilotOpen 13 = .ok (.if_icmp .ne 7, 3) := by decide +kernel
theorem dX2_isPilotOpen_16 : decode cX2_isPilotOpen 16 = .ok (.iconst 1, 1) := by decide +kernel
theorem dX2_isPilotOpen_17 : decode cX2_isPilotOpen 17 = .ok (.goto 4, 3) := by decide +kernel
theorem dX2_isPilotOpen_20 : decode cX2_isPilotOpen 20 = .ok (.iconst 0, 1) := by decide +kernel
theorem dX2_isPilotOpen_21 : decode cX2_isPilotOpen 21 = .ok (.ireturn, 1) := by decide +kernel
theorem dX2_isMainOpen_0 : decode cX2_isMainOpen 0 = .ok (.aload_n 0, 1) := by decide +kernel
theorem dX2_isMainOpen_1 : decode cX2_isMainOpen 1 = .ok (.getfield 29, 3) := by decide +kernel
theorem dX2_isMainOpen_4 : decode cX2_isMainOpen 4 = .ok (.iconst 3, 1) := by decide +kernel
theorem dX2_isMainOpen_5 : decode cX2_isMainOpen 5 = .ok (.if_icmp .eq 11, 3) := by decide +kernel
theorem dX2_isMainOpen_8 : decode cX2_isMainOpen 8 = .ok (.aload_n 0, 1) := by decide +kernel
theorem dX2_isMainOpen_9 : decode cX2_isMainOpen 9 = .ok (.getfield 29, 3) := by decide +kernel
theorem dX2_isMainOpen_12 : decode cX2_isMainOpen 12 = .ok (.iconst 4, 1) := by decide +kernel
theorem dX2_isMainOpen_13 : decode cX2_isMainOpen 13 = .ok (.if_icmp .ne 7, 3) := by decide +kernel
theorem dX2_isMainOpen_16 : decode cX2_isMainOpen 16 = .ok (.iconst 1, 1) := by decide +kernel
theorem dX2_isMainOpen_17 : decode cX2_isMainOpen 17 = .ok (.goto 4, 3) := by decide +kernel
theorem dX2_isMainOpen_20 : decode cX2_isMainOpen 20 = .ok (.iconst 0, 1) := by decide +kernel
theorem dX2_isMainOpen_21 : decode cX2_isMainOpen 21 = .ok (.ireturn, 1) := by decide +kernel
set_option maxRecDepth 20000 in
theorem ggX2_tick_X2_isPilotOpen : GoodIn wsX2_tick wsX2_isPilotOpen := goodIn_r _ [8, 9, 109, 110, 111, 112, 113, 114, 115, 116, 117, 118, 119] (by decide +kernel) (by decide +kernel)
set_option maxRecDepth 20000 in
theorem gX2_tick_X2_isPilotOpen : GoodIn wsX2_tick (wsV RX2 58 RX2 yX2_isPilotOpen wsX2_isPilotOpen) := goodIn_app (goodIn_of _ (by decide +kernel)) ggX2_tick_X2_isPilotOpen
set_option maxRecDepth 20000 in
theorem ggX2_tick_X2_isMainOpen : GoodIn wsX2_tick wsX2_isMainOpen := goodIn_r _ [13, 9, 109, 110, 111, 112, 113, 114, 115, 116, 117, 118, 119] (by decide +kernel) (by decide +kernel)
set_option maxRecDepth 20000 in
theorem gX2_tick_X2_isMainOpen : GoodIn wsX2_tick (wsV RX2 62 RX2 yX2_isMainOpen wsX2_isMainOpen) := goodIn_app (goodIn_of _ (by decide +kernel)) ggX2_tick_X2_isMainOpen
set_option maxRecDepth 20000 in
theorem ggX2_tick_X6_isOn : GoodIn wsX2_tick wsX6_isOn := goodIn_r _ [16] (by decide +kernel) (by decide +kernel)
set_option maxRecDepth 20000 in
theorem gX2_tick_X6_isOn_n65 : GoodIn wsX2_tick (wsX6_isOn) := ggX2_tick_X6_isOn
set_option maxRecDepth 20000 in
theorem ggX2_tick_X2_look : GoodIn wsX2_tick wsX2_look := goodIn_r _ [20, 21, 22, 23, 24, 25, 26, 27, 28, 109, 110, 111, 112, 113, 114, 115, 116, 117, 118, 119, 120, 121, 122, 123, 124, 125, 126, 127, 128, 129, 130, 131, 132] (by decide +kernel) (by decide +kernel)
set_option maxRecDepth 20000 in
theorem gX2_tick_X2_look : GoodIn wsX2_tick (wsV RX2 69 RX2 yX2_look wsX2_look) := goodIn_app (goodIn_of _ (by decide +kernel)) ggX2_tick_X2_look
set_option maxRecDepth 20000 in
theorem ggX2_tick_X2_movePositions : GoodIn wsX2_tick wsX2_movePositions := goodIn_r _ [32, 33, 21, 34, 35, 36, 37, 7, 38, 9, 39, 40, 41, 42, 43, 44, 45, 46, 47, 48, 49, 50, 51, 52, 10, 11, 12, 13, 109, 110, 111, 112, 113, 114, 115, 116, 117, 118, 119, 120, 121, 122, 123, 124, 125, 126, 127, 128, 129, 130] (by decide +kernel) (by decide +kernel)
set_option maxRecDepth 20000 in
theorem gX2_tick_X2_movePositions : GoodIn wsX2_tick (wsV RX2 73 RX2 yX2_movePositions wsX2_movePositions) := goodIn_app (goodIn_of _ (by decide +kernel)) ggX2_tick_X2_movePositions
set_option maxRecDepth 20000 in
theorem ggX2_tick_X2_sequence : GoodIn wsX2_tick wsX2_sequence := goodIn_r _ [56, 9, 57, 58, 59, 7, 60, 61, 62, 63, 64, 1, 2, 65, 66, 67, 68, 69, 70, 71, 72, 73, 3, 74, 34, 10, 11, 12, 13, 14, 15, 16, 75, 76, 77, 78, 33, 21, 79, 80, 81, 82, 83, 84, 85, 86, 87, 88, 89, 90, 91, 92, 93, 94, 95, 96, 97, 98, 99, 100, 101, 102, 109, 110, 111, 112, 113, 114, 115, 116, 117, 118, 119, 131, 132, 120, 121, 122, 123, 124, 125, 126, 127, 128, 129, 130] (by decide +kernel) (by decide +kernel)
set_option maxRecDepth 20000 in
theorem gX2_tick_X2_sequence : GoodIn wsX2_tick (wsV RX2 76 RX2 yX2_sequence wsX2_sequence) := goodIn_app (goodIn_of _ (by decide +kernel)) ggX2_tick_X2_sequence
set_option maxRecDepth 20000 in
theorem ggX2_tick_X2_countUnlit : GoodIn wsX2_tick wsX2_countUnlit := goodIn_r _ [106, 107, 108, 39, 40, 41, 42, 61, 62, 63, 7, 64, 1, 2, 109, 110, 111, 112, 113, 114, 115, 116, 117, 118, 119, 131, 132] (by decide +kernel) (by decide +kernel)
set_option maxRecDepth 20000 in
theorem gX2_tick_X2_countUnlit : GoodIn wsX2_tick (wsV RX2 80 RX2 yX2_countUnlit wsX2_countUnlit) := goodIn_app (goodIn_of _ (by decide +kernel)) ggX2_tick_X2_countUnlit
theorem dX2_tick_0 : decode cX2_tick 0 = .ok (.aload_n 0, 1) := by decide +kernel
theorem dX2_tick_1 : decode cX2_tick 1 = .ok (.invokevirtual 58, 3) := by decide +kernel
theorem dX2_tick_4 : decode cX2_tick 4 = .ok (.ifCond .ne 10, 3) := by decide +kernel
theorem dX2_tick_7 : decode cX2_tick 7 = .ok (.aload_n 0, 1) := by decide +kernel
theorem dX2_tick_8 : decode cX2_tick 8 = .ok (.invokevirtual 62, 3) := by decide +kernel
theorem dX2_tick_11 : decode cX2_tick 11 = .ok (.ifCond .eq 7, 3) := by decide +kernel
theorem dX2_tick_14 : decode cX2_tick 14 = .ok (.iconst 1, 1) := by decide +kernel
theorem dX2_tick_15 : decode cX2_tick 15 = .ok (.goto 4, 3) := by decide +kernel
theorem dX2_tick_18 : decode cX2_tick 18 = .ok (.iconst 0, 1) := by decide +kernel
theorem dX2_tick_19 : decode cX2_tick 19 = .ok (.istore_n 2, 1) := by decide +kernel
theorem dX2_tick_20 : decode cX2_tick 20 = .ok (.aload_n 0, 1) := by decide +kernel
theorem dX2_tick_21 : decode cX2_tick 21 = .ok (.aload_n 0, 1) := by decide +kernel
theorem dX2_tick_22 : decode cX2_tick 22 = .ok (.getfield 12, 3) := by decide +kernel
theorem dX2_tick_25 : decode cX2_tick 25 = .ok (.iload_n 1, 1) := by decide +kernel
theorem dX2_tick_26 : decode cX2_tick 26 = .ok (.bipush 8, 2) := by decide +kernel
theorem dX2_tick_28 : decode cX2_tick 28 = .ok (.invokestatic 65, 3) := by decide +kernel
theorem dX2_tick_31 : decode cX2_tick 31 = .ok (.invokevirtual 69, 3) := by decide +kernel
theorem dX2_tick_34 : decode cX2_tick 34 = .ok (.aload_n 0, 1) := by decide +kernel
theorem dX2_tick_35 : decode cX2_tick 35 = .ok (.aload_n 0, 1) := by decide +kernel
theorem dX2_tick_36 : decode cX2_tick 36 = .ok (.getfield 18, 3) := by decide +kernel
theorem dX2_tick_39 : decode cX2_tick 39 = .ok (.iload_n 1, 1) := by decide +kernel
theorem dX2_tick_40 : decode cX2_tick 40 = .ok (.bipush 16, 2) := by decide +kernel
theorem dX2_tick_42 : decode cX2_tick 42 = .ok (.invokestatic 65, 3) := by decide +kernel
theorem dX2_tick_45 : decode cX2_tick 45 = .ok (.invokevirtual 69, 3) := by decide +kernel
theorem dX2_tick_48 : decode cX2_tick 48 = .ok (.aload_n 0, 1) := by decide +kernel
theorem dX2_tick_49 : decode cX2_tick 49 = .ok (.invokevirtual 73, 3) := by decide +kernel
theorem dX2_tick_52 : decode cX2_tick 52 = .ok (.aload_n 0, 1) := by decide +kernel
theorem dX2_tick_53 : decode cX2_tick 53 = .ok (.dup, 1) := by decide +kernel
theorem dX2_tick_54 : decode cX2_tick 54 = .ok (.getfield 36, 3) := by decide +kernel
theorem dX2_tick_57 : decode cX2_tick 57 = .ok (.iconst 1, 1) := by decide +kernel
theorem dX2_tick_58 : decode cX2_tick 58 = .ok (.iadd, 1) := by decide +kernel
theorem dX2_tick_59 : decode cX2_tick 59 = .ok (.putfield 36, 3) := by decide +kernel
theorem dX2_tick_62 : decode cX2_tick 62 = .ok (.aload_n 0, 1) := by decide +kernel
theorem dX2_tick_63 : decode cX2_tick 63 = .ok (.iload_n 1, 1) := by decide +kernel
theorem dX2_tick_64 : decode cX2_tick 64 = .ok (.invokevirtual 76, 3) := by decide +kernel
theorem dX2_tick_67 : decode cX2_tick 67 = .ok (.istore_n 3, 1) := by decide +kernel
theorem dX2_tick_68 : decode cX2_tick 68 = .ok (.aload_n 0, 1) := by decide +kernel
theorem dX2_tick_69 : decode cX2_tick 69 = .ok (.iload_n 2, 1) := by decide +kernel
theorem dX2_tick_70 : decode cX2_tick 70 = .ok (.invokevirtual 80, 3) := by decide +kernel
theorem dX2_tick_73 : decode cX2_tick 73 = .ok (.iload_n 3, 1) := by decide +kernel
theorem dX2_tick_74 : decode cX2_tick 74 = .ok (.ireturn, 1) := by decide +kernel
set_option maxRecDepth 20000 in
theorem ggX2_look_X1_look : GoodIn wsX2_look wsX1_look := goodIn_r _ [6, 7, 8, 31, 32] (by decide +kernel) (by decide +kernel)
set_option maxRecDepth 20000 in
theorem gX2_look_X1_look : GoodIn wsX2_look (wsV RX2 92 RX1 yX1_look wsX1_look) := goodIn_app (goodIn_of _ (by decide +kernel)) ggX2_look_X1_look
theorem dX2_look_0 : decode cX2_look 0 = .ok (.aload_n 1, 1) := by decide +kernel
theorem dX2_look_1 : decode cX2_look 1 = .ok (.iload_n 2, 1) := by decide +kernel
theorem dX2_look_2 : decode cX2_look 2 = .ok (.iload_n 2, 1) := by decide +kernel
theorem dX2_look_3 : decode cX2_look 3 = .ok (.ifCond .eq 13, 3) := by decide +kernel
theorem dX2_look_6 : decode cX2_look 6 = .ok (.aload_n 0, 1) := by decide +kernel
theorem dX2_look_7 : decode cX2_look 7 = .ok (.getfield 21, 3) := by decide +kernel
theorem dX2_look_10 : decode cX2_look 10 = .ok (.getfield 84, 3) := by decide +kernel
theorem dX2_look_13 : decode cX2_look 13 = .ok (.goto 10, 3) := by decide +kernel
theorem dX2_look_16 : decode cX2_look 16 = .ok (.aload_n 0, 1) := by decide +kernel
theorem dX2_look_17 : decode cX2_look 17 = .ok (.getfield 21, 3) := by decide +kernel
theorem dX2_look_20 : decode cX2_look 20 = .ok (.getfield 89, 3) := by decide +kernel
theorem dX2_look_23 : decode cX2_look 23 = .ok (.invokevirtual 92, 3) := by decide +kernel
theorem dX2_look_26 : decode cX2_look 26 = .ok (.return_, 1) := by decide +kernel
set_option maxRecDepth 20000 in
theorem ggX2_movePositions_X2_airGoal : GoodIn wsX2_movePositions wsX2_airGoal := goodIn_r _ [8, 9, 2, 3, 10, 11, 12, 13, 28, 29, 30, 31, 32, 33, 34, 35, 36, 37, 38, 39, 40, 41, 42, 43, 44, 45, 46, 47, 48, 49] (by decide +kernel) (by decide +kernel)
set_option maxRecDepth 20000 in
theorem gX2_movePositions_X2_airGoal : GoodIn wsX2_movePositions (wsV RX2 95 RX2 yX2_airGoal wsX2_airGoal) := goodIn_app (goodIn_of _ (by decide +kernel)) ggX2_movePositions_X2_airGoal
set_option maxRecDepth 20000 in
theorem ggX2_movePositions_X2_fuelGoal : GoodIn wsX2_movePositions wsX2_fuelGoal := goodIn_r _ [17, 9, 2, 1, 18, 19, 12, 20, 28, 29, 30, 31, 32, 33, 34, 35, 36, 37, 38, 39, 40, 41, 42, 43, 44, 45, 46, 47, 48, 49] (by decide +kernel) (by decide +kernel)
set_option maxRecDepth 20000 in
theorem gX2_movePositions_X2_fuelGoal : GoodIn wsX2_movePositions (wsV RX2 99 RX2 yX2_fuelGoal wsX2_fuelGoal) := goodIn_app (goodIn_of _ (by decide +kernel)) ggX2_movePositions_X2_fuelGoal
set_option maxRecDepth 20000 in
theorem ggX2_movePositions_X2_moved : GoodIn wsX2_movePositions wsX2_moved := goodIn_r _ [23, 18, 19, 12, 20, 10, 11, 13] (by decide +kernel) (by decide +kernel)
set_option maxRecDepth 20000 in
theorem gX2_movePositions_X2_moved : GoodIn wsX2_movePositions (va_wsS RX2 105 yX2_moved wsX2_moved) := goodIn_app (goodIn_of _ (by decide +kernel)) ggX2_movePositions_X2_moved
set_option maxRecDepth 20000 in
theorem ggX2_movePositions_X2_isMainOpen : GoodIn wsX2_movePositions wsX2_isMainOpen := goodIn_r _ [27, 9, 28, 29, 30, 31, 32, 33, 34, 35, 36, 37, 38] (by decide +kernel) (by decide +kernel)
set_option maxRecDepth 20000 in
theorem gX2_movePositions_X2_isMainOpen : GoodIn wsX2_movePositions (wsV RX2 62 RX2 yX2_isMainOpen wsX2_isMainOpen) := goodIn_app (goodIn_of _ (by decide +kernel)) ggX2_movePositions_X2_isMainOpen
theorem dX2_movePositions_0 : decode cX2_movePositions 0 = .ok (.aload_n 0, 1) := by decide +kernel
theorem dX2_movePositions_1 : decode cX2_movePositions 1 = .ok (.invokevirtual 95, 3) := by decide +kernel
theorem dX2_movePositions_4 : decode cX2_movePositions 4 = .ok (.istore_n 1, 1) := by decide +kernel
theorem dX2_movePositions_5 : decode cX2_movePositions 5 = .ok (.aload_n 0, 1) := by decide +kernel
theorem dX2_movePositions_6 : decode cX2_movePositions 6 = .ok (.invokevirtual 99, 3) := by decide +kernel
theorem dX2_movePositions_9 : decode cX2_movePositions 9 = .ok (.istore_n 2, 1) := by decide +kernel
theorem dX2_movePositions_10 : decode cX2_movePositions 10 = .ok (.aload_n 0, 1) := by decide +kernel
theorem dX2_movePositions_11 : decode cX2_movePositions 11 = .ok (.aload_n 0, 1) := by decide +kernel
theorem dX2_movePositions_12 : decode cX2_movePositions 12 = .ok (.getfield 39, 3) := by decide +kernel
theorem dX2_movePositions_15 : decode cX2_movePositions 15 = .ok (.iload_n 1, 1) := by decide +kernel
theorem dX2_movePositions_16 : decode cX2_movePositions 16 = .ok (.aload_n 0, 1) := by decide +kernel
theorem dX2_movePositions_17 : decode cX2_movePositions 17 = .ok (.getfield 21, 3) := by decide +kernel
theorem dX2_movePositions_20 : decode cX2_movePositions 20 = .ok (.getfield 102, 3) := by decide +kernel
theorem dX2_movePositions_23 : decode cX2_movePositions 23 = .ok (.invokestatic 105, 3) := by decide +kernel
theorem dX2_movePositions_26 : decode cX2_movePositions 26 = .ok (.putfield 39, 3) := by decide +kernel
theorem dX2_movePositions_29 : decode cX2_movePositions 29 = .ok (.aload_n 0, 1) := by decide +kernel
theorem dX2_movePositions_30 : decode cX2_movePositions 30 = .ok (.aload_n 0, 1) := by decide +kernel
theorem dX2_movePositions_31 : decode cX2_movePositions 31 = .ok (.invokevirtual 62, 3) := by decide +kernel
theorem dX2_movePositions_34 : decode cX2_movePositions 34 = .ok (.ifCond .eq 21, 3) := by decide +kernel
theorem dX2_movePositions_37 : decode cX2_movePositions 37 = .ok (.aload_n 0, 1) := by decide +kernel
theorem dX2_movePositions_38 : decode cX2_movePositions 38 = .ok (.getfield 42, 3) := by decide +kernel
theorem dX2_movePositions_41 : decode cX2_movePositions 41 = .ok (.iload_n 2, 1) := by decide +kernel
theorem dX2_movePositions_42 : decode cX2_movePositions 42 = .ok (.aload_n 0, 1) := by decide +kernel
theorem dX2_movePositions_43 : decode cX2_movePositions 43 = .ok (.getfield 21, 3) := by decide +kernel
theorem dX2_movePositions_46 : decode cX2_movePositions 46 = .ok (.getfield 109, 3) := by decide +kernel
theorem dX2_movePositions_49 : decode cX2_movePositions 49 = .ok (.invokestatic 105, 3) := by decide +kernel
theorem dX2_movePositions_52 : decode cX2_movePositions 52 = .ok (.goto 4, 3) := by decide +kernel
theorem dX2_movePositions_55 : decode cX2_movePositions 55 = .ok (.iload_n 2, 1) := by decide +kernel
theorem dX2_movePositions_56 : decode cX2_movePositions 56 = .ok (.putfield 42, 3) := by decide +kernel
theorem dX2_movePositions_59 : decode cX2_movePositions 59 = .ok (.return_, 1) := by decide +kernel
theorem dX2_airGoal_0 : decode cX2_airGoal 0 = .ok (.aload_n 0, 1) := by decide +kernel
theorem dX2_airGoal_1 : decode cX2_airGoal 1 = .ok (.getfield 29, 3) := by decide +kernel
theorem dX2_airGoal_4 : decode cX2_airGoal 4 = .ok (.tableswitch 59 0 4 #[36, 38, 41, 41, 44], 36) := by decide +kernel
theorem dX2_airGoal_40 : decode cX2_airGoal 40 = .ok (.iconst 0, 1) := by decide +kernel
theorem dX2_airGoal_41 : decode cX2_airGoal 41 = .ok (.ireturn, 1) := by decide +kernel
theorem dX2_airGoal_42 : decode cX2_airGoal 42 = .ok (.bipush 100, 2) := by decide +kernel
theorem dX2_airGoal_44 : decode cX2_airGoal 44 = .ok (.ireturn, 1) := by decide +kernel
theorem dX2_airGoal_45 : decode cX2_airGoal 45 = .ok (.bipush 30, 2) := by decide +kernel
theorem dX2_airGoal_47 : decode cX2_airGoal 47 = .ok (.ireturn, 1) := by decide +kernel
theorem dX2_airGoal_48 : decode cX2_airGoal 48 = .ok (.aload_n 0, 1) := by decide +kernel
theorem dX2_airGoal_49 : decode cX2_airGoal 49 = .ok (.getfield 21, 3) := by decide +kernel
theorem dX2_airGoal_52 : decode cX2_airGoal 52 = .ok (.getfield 112, 3) := by decide +kernel
theorem dX2_airGoal_55 : decode cX2_airGoal 55 = .ok (.aload_n 0, 1) := by decide +kernel
theorem dX2_airGoal_56 : decode cX2_airGoal 56 = .ok (.getfield 42, 3) := by decide +kernel
theorem dX2_airGoal_59 : decode cX2_airGoal 59 = .ok (.invokestatic 115, 3) := by decide +kernel
theorem dX2_airGoal_62 : decode cX2_airGoal 62 = .ok (.ireturn, 1) := by decide +kernel
theorem dX2_airGoal_63 : decode cX2_airGoal 63 = .ok (.bipush 60, 2) := by decide +kernel
theorem dX2_airGoal_65 : decode cX2_airGoal 65 = .ok (.ireturn, 1) := by decide +kernel
theorem dX2_fuelGoal_0 : decode cX2_fuelGoal 0 = .ok (.aload_n 0, 1) := by decide +kernel
theorem dX2_fuelGoal_1 : decode cX2_fuelGoal 1 = .ok (.getfield 29, 3) := by decide +kernel
theorem dX2_fuelGoal_4 : decode cX2_fuelGoal 4 = .ok (.lookupswitch 46 #[(3, 28), (4, 31)], 28) := by decide +kernel
theorem dX2_fuelGoal_32 : decode cX2_fuelGoal 32 = .ok (.bipush 20, 2) := by decide +kernel
theorem dX2_fuelGoal_34 : decode cX2_fuelGoal 34 = .ok (.ireturn, 1) := by decide +kernel
theorem dX2_fuelGoal_35 : decode cX2_fuelGoal 35 = .ok (.aload_n 0, 1) := by decide +kernel
theorem dX2_fuelGoal_36 : decode cX2_fuelGoal 36 = .ok (.getfield 21, 3) := by decide +kernel
theorem dX2_fuelGoal_39 : decode cX2_fuelGoal 39 = .ok (.getfield 112, 3) := by decide +kernel
theorem dX2_fuelGoal_42 : decode cX2_fuelGoal 42 = .ok (.aload_n 0, 1) := by decide +kernel
theorem dX2_fuelGoal_43 : decode cX2_fuelGoal 43 = .ok (.getfield 39, 3) := by decide +kernel
theorem dX2_fuelGoal_46 : decode cX2_fuelGoal 46 = .ok (.invokestatic 121, 3) := by decide +kernel
theorem dX2_fuelGoal_49 : decode cX2_fuelGoal 49 = .ok (.ireturn, 1) := by decide +kernel
theorem dX2_fuelGoal_50 : decode cX2_fuelGoal 50 = .ok (.iconst 0, 1) := by decide +kernel
theorem dX2_fuelGoal_51 : decode cX2_fuelGoal 51 = .ok (.ireturn, 1) := by decide +kernel
theorem dX2_moved_0 : decode cX2_moved 0 = .ok (.iload_n 0, 1) := by decide +kernel
theorem dX2_moved_1 : decode cX2_moved 1 = .ok (.iload_n 1, 1) := by decide +kernel
theorem dX2_moved_2 : decode cX2_moved 2 = .ok (.if_icmp .ge 11, 3) := by decide +kernel
theorem dX2_moved_5 : decode cX2_moved 5 = .ok (.iload_n 0, 1) := by decide +kernel
theorem dX2_moved_6 : decode cX2_moved 6 = .ok (.iload_n 2, 1) := by decide +kernel
theorem dX2_moved_7 : decode cX2_moved 7 = .ok (.iadd, 1) := by decide +kernel
theorem dX2_moved_8 : decode cX2_moved 8 = .ok (.iload_n 1, 1) := by decide +kernel
theorem dX2_moved_9 : decode cX2_moved 9 = .ok (.invokestatic 121, 3) := by decide +kernel
theorem dX2_moved_12 : decode cX2_moved 12 = .ok (.ireturn, 1) := by decide +kernel
theorem dX2_moved_13 : decode cX2_moved 13 = .ok (.iload_n 0, 1) := by decide +kernel
theorem dX2_moved_14 : decode cX2_moved 14 = .ok (.iload_n 2, 1) := by decide +kernel
theorem dX2_moved_15 : decode cX2_moved 15 = .ok (.isub, 1) := by decide +kernel
theorem dX2_moved_16 : decode cX2_moved 16 = .ok (.iload_n 1, 1) := by decide +kernel
theorem dX2_moved_17 : decode cX2_moved 17 = .ok (.invokestatic 115, 3) := by decide +kernel
theorem dX2_moved_20 : decode cX2_moved 20 = .ok (.ireturn, 1) := by decide +kernel
set_option maxRecDepth 20000 in
theorem ggX2_sequence_X2_sequenceOff : GoodIn wsX2_sequence wsX2_sequenceOff := goodIn_r _ [6, 7, 8, 9, 5, 10, 11, 12, 13, 14, 15, 16, 17, 18, 19, 20, 1, 21, 22, 23, 24, 25, 26, 27, 28, 29, 30, 31, 62, 63, 64, 65, 66, 67, 68, 69, 70, 71, 72, 73, 74] (by decide +kernel) (by decide +kernel)
set_option maxRecDepth 20000 in
theorem gX2_sequence_X2_sequenceOff : GoodIn wsX2_sequence (wsV RX2 124 RX2 yX2_sequenceOff wsX2_sequenceOff) := goodIn_app (goodIn_of _ (by decide +kernel)) ggX2_sequence_X2_sequenceOff
set_option maxRecDepth 20000 in
theorem ggX2_sequence_X2_sequencePurge : GoodIn wsX2_sequence wsX2_sequencePurge := goodIn_r _ [35, 36, 23, 37, 22, 29, 30, 31, 17, 18, 19, 5, 20, 1, 21, 24, 25, 26, 27, 28, 7, 8, 9, 10, 11, 12, 13, 14, 15, 16, 62, 63, 64, 65, 66, 67, 68, 69, 70, 71, 72, 75, 76, 77, 78, 79, 80, 81, 82, 83, 84, 85, 73, 74] (by decide +kernel) (by decide +kernel)
set_option maxRecDepth 20000 in
theorem gX2_sequence_X2_sequencePurge : GoodIn wsX2_sequence (wsV RX2 127 RX2 yX2_sequencePurge wsX2_sequencePurge) := goodIn_app (goodIn_of _ (by decide +kernel)) ggX2_sequence_X2_sequencePurge
set_option maxRecDepth 20000 in
theorem ggX2_sequence_X2_sequenceLighting : GoodIn wsX2_sequence wsX2_sequenceLighting := goodIn_r _ [41, 1, 29, 30, 31, 13, 14, 15, 5, 16, 17, 18, 19, 20, 21, 22, 23, 24, 25, 26, 27, 28, 42, 43, 44, 45, 11, 37, 46, 47, 48, 49, 12, 62, 63, 64, 65, 66, 67, 68, 69, 70, 71, 72, 73, 74, 75, 76, 77, 78, 79, 80, 81, 82, 83, 84, 85] (by decide +kernel) (by decide +kernel)
set_option maxRecDepth 20000 in
theorem gX2_sequence_X2_sequenceLighting : GoodIn wsX2_sequence (wsV RX2 130 RX2 yX2_sequenceLighting wsX2_sequenceLighting) := goodIn_app (goodIn_of _ (by decide +kernel)) ggX2_sequence_X2_sequenceLighting
set_option maxRecDepth 20000 in
theorem ggX2_sequence_X2_sequenceRun : GoodIn wsX2_sequence wsX2_sequenceRun := goodIn_r _ [53, 12, 29, 30, 31, 13, 14, 15, 5, 16, 17, 18, 19, 20, 1, 21, 22, 23, 24, 25, 26, 27, 28, 54, 55, 56, 57, 37, 62, 63, 64, 65, 66, 67, 68, 69, 70, 71, 72, 73, 74, 75, 76, 77, 78, 79, 80, 81, 82, 83, 84, 85] (by decide +kernel) (by decide +kernel)
set_option maxRecDepth 20000 in
theorem gX2_sequence_X2_sequenceRun : GoodIn wsX2_sequence (wsV RX2 133 RX2 yX2_sequenceRun wsX2_sequenceRun) := goodIn_app (goodIn_of _ (by decide +kernel)) ggX2_sequence_X2_sequenceRun
set_option maxRecDepth 20000 in
theorem ggX2_sequence_X2_sequenceAfterPurge : GoodIn wsX2_sequence wsX2_sequenceAfterPurge := goodIn_r _ [61, 22, 37, 7, 8, 9, 5, 10, 11, 12, 13, 14, 15, 16, 17, 18, 19, 20, 1, 21, 23, 24, 25, 26, 27, 28, 62, 63, 64, 65, 66, 67, 68, 69, 70, 71, 72, 75, 76, 77, 78, 79, 80, 81, 82, 83, 84, 85, 73, 74] (by decide +kernel) (by decide +kernel)
set_option maxRecDepth 20000 in
theorem gX2_sequence_X2_sequenceAfterPurge : GoodIn wsX2_sequence (wsV RX2 136 RX2 yX2_sequenceAfterPurge wsX2_sequenceAfterPurge) := goodIn_app (goodIn_of _ (by decide +kernel)) ggX2_sequence_X2_sequenceAfterPurge
theorem dX2_sequence_0 : decode cX2_sequence 0 = .ok (.aload_n 0, 1) := by decide +kernel
theorem dX2_sequence_1 : decode cX2_sequence 1 = .ok (.getfield 29, 3) := by decide +kernel
theorem dX2_sequence_4 : decode cX2_sequence 4 = .ok (.tableswitch 69 0 5 #[40, 46, 52, 52, 58, 64], 40) := by decide +kernel
theorem dX2_sequence_44 : decode cX2_sequence 44 = .ok (.aload_n 0, 1) := by decide +kernel
theorem dX2_sequence_45 : decode cX2_sequence 45 = .ok (.iload_n 1, 1) := by decide +kernel
theorem dX2_sequence_46 : decode cX2_sequence 46 = .ok (.invokevirtual 124, 3) := by decide +kernel
theorem dX2_sequence_49 : decode cX2_sequence 49 = .ok (.ireturn, 1) := by decide +kernel
theorem dX2_sequence_50 : decode cX2_sequence 50 = .ok (.aload_n 0, 1) := by decide +kernel
theorem dX2_sequence_51 : decode cX2_sequence 51 = .ok (.iload_n 1, 1) := by decide +kernel
theorem dX2_sequence_52 : decode cX2_sequence 52 = .ok (.invokevirtual 127, 3) := by decide +kernel
theorem dX2_sequence_55 : decode cX2_sequence 55 = .ok (.ireturn, 1) := by decide +kernel
theorem dX2_sequence_56 : decode cX2_sequence 56 = .ok (.aload_n 0, 1) := by decide +kernel
theorem dX2_sequence_57 : decode cX2_sequence 57 = .ok (.iload_n 1, 1) := by decide +kernel
theorem dX2_sequence_58 : decode cX2_sequence 58 = .ok (.invokevirtual 130, 3) := by decide +kernel
theorem dX2_sequence_61 : decode cX2_sequence 61 = .ok (.ireturn, 1) := by decide +kernel
theorem dX2_sequence_62 : decode cX2_sequence 62 = .ok (.aload_n 0, 1) := by decide +kernel
theorem dX2_sequence_63 : decode cX2_sequence 63 = .ok (.iload_n 1, 1) := by decide +kernel
theorem dX2_sequence_64 : decode cX2_sequence 64 = .ok (.invokevirtual 133, 3) := by decide +kernel
theorem dX2_sequence_67 : decode cX2_sequence 67 = .ok (.ireturn, 1) := by decide +kernel
theorem dX2_sequence_68 : decode cX2_sequence 68 = .ok (.aload_n 0, 1) := by decide +kernel
theorem dX2_sequence_69 : decode cX2_sequence 69 = .ok (.invokevirtual 136, 3) := by decide +kernel
theorem dX2_sequence_72 : decode cX2_sequence 72 = .ok (.ireturn, 1) := by decide +kernel
theorem dX2_sequence_73 : decode cX2_sequence 73 = .ok (.iconst 0, 1) := by decide +kernel
theorem dX2_sequence_74 : decode cX2_sequence 74 = .ok (.ireturn, 1) := by decide +kernel
set_option maxRecDepth 20000 in
theorem ggX2_sequenceOff_X2_hasFlame : GoodIn wsX2_sequenceOff wsX2_hasFlame := goodIn_r _ [5, 6, 7, 28, 29, 30, 31, 32, 33, 34, 35, 36, 37, 38, 39, 40] (by decide +kernel) (by decide +kernel)
set_option maxRecDepth 20000 in
theorem gX2_sequenceOff_X2_hasFlame : GoodIn wsX2_sequenceOff (wsV RX2 139 RX2 yX2_hasFlame wsX2_hasFlame) := goodIn_app (goodIn_of _ (by decide +kernel)) ggX2_sequenceOff_X2_hasFlame
set_option maxRecDepth 20000 in
theorem ggX2_sequenceOff_X2_lockOut : GoodIn wsX2_sequenceOff wsX2_lockOut := goodIn_r _ [11, 12, 13, 14, 4, 15, 16, 17, 18, 19, 20, 21, 22, 23, 24, 28, 29, 30, 31, 32, 33, 34, 35, 36, 37, 38] (by decide +kernel) (by decide +kernel)
set_option maxRecDepth 20000 in
theorem gX2_sequenceOff_X2_lockOut : GoodIn wsX2_sequenceOff (wsV RX2 142 RX2 yX2_lockOut wsX2_lockOut) := goodIn_app (goodIn_of _ (by decide +kernel)) ggX2_sequenceOff_X2_lockOut
set_option maxRecDepth 20000 in
theorem ggX2_sequenceOff_X6_isOn : GoodIn wsX2_sequenceOff wsX6_isOn := goodIn_r _ [27] (by decide +kernel) (by decide +kernel)
set_option maxRecDepth 20000 in
theorem gX2_sequenceOff_X6_isOn_n65 : GoodIn wsX2_sequenceOff (wsX6_isOn) := ggX2_sequenceOff_X6_isOn
set_option maxRecDepth 20000 in
theorem ggX2_sequenceOff_X2_begin : GoodIn wsX2_sequenceOff wsX2_begin := goodIn_r _ [15, 16, 17, 18, 19, 20, 21, 22, 23, 4, 24, 28, 29, 30, 31, 32, 33, 34, 35, 36, 37, 38] (by decide +kernel) (by decide +kernel)
set_option maxRecDepth 20000 in
theorem gX2_sequenceOff_X2_begin : GoodIn wsX2_sequenceOff (wsV RX2 145 RX2 yX2_begin wsX2_begin) := goodIn_app (goodIn_of _ (by decide +kernel)) ggX2_sequenceOff_X2_begin
theorem dX2_sequenceOff_0 : decode cX2_sequenceOff 0 = .ok (.aload_n 0, 1) := by decide +kernel
theorem dX2_sequenceOff_1 : decode cX2_sequenceOff 1 = .ok (.invokevirtual 139, 3) := by decide +kernel
theorem dX2_sequenceOff_4 : decode cX2_sequenceOff 4 = .ok (.ifCond .eq 9, 3) := by decide +kernel
theorem dX2_sequenceOff_7 : decode cX2_sequenceOff 7 = .ok (.aload_n 0, 1) := by decide +kernel
theorem dX2_sequenceOff_8 : decode cX2_sequenceOff 8 = .ok (.iconst 3, 1) := by decide +kernel
theorem dX2_sequenceOff_9 : decode cX2_sequenceOff 9 = .ok (.invokevirtual 142, 3) := by decide +kernel
theorem dX2_sequenceOff_12 : decode cX2_sequenceOff 12 = .ok (.ireturn, 1) := by decide +kernel
theorem dX2_sequenceOff_13 : decode cX2_sequenceOff 13 = .ok (.iload_n 1, 1) := by decide +kernel
theorem dX2_sequenceOff_14 : decode cX2_sequenceOff 14 = .ok (.iconst 1, 1) := by decide +kernel
theorem dX2_sequenceOff_15 : decode cX2_sequenceOff 15 = .ok (.invokestatic 65, 3) := by decide +kernel
theorem dX2_sequenceOff_18 : decode cX2_sequenceOff 18 = .ok (.ifCond .eq 16, 3) := by decide +kernel
theorem dX2_sequenceOff_21 : decode cX2_sequenceOff 21 = .ok (.aload_n 0, 1) := by decide +kernel
theorem dX2_sequenceOff_22 : decode cX2_sequenceOff 22 = .ok (.iconst 1, 1) := by decide +kernel
theorem dX2_sequenceOff_23 : decode cX2_sequenceOff 23 = .ok (.iconst 0, 1) := by decide +kernel
theorem dX2_sequenceOff_24 : decode cX2_sequenceOff 24 = .ok (.invokevirtual 145, 3) := by decide +kernel
theorem dX2_sequenceOff_27 : decode cX2_sequenceOff 27 = .ok (.ifCond .eq 7, 3) := by decide +kernel
theorem dX2_sequenceOff_30 : decode cX2_sequenceOff 30 = .ok (.iconst 1, 1) := by decide +kernel
theorem dX2_sequenceOff_31 : decode cX2_sequenceOff 31 = .ok (.goto 4, 3) := by decide +kernel
theorem dX2_sequenceOff_34 : decode cX2_sequenceOff 34 = .ok (.iconst 0, 1) := by decide +kernel
theorem dX2_sequenceOff_35 : decode cX2_sequenceOff 35 = .ok (.ireturn, 1) := by decide +kernel
set_option maxRecDepth 20000 in
theorem ggX2_sequencePurge_X6_isOn : GoodIn wsX2_sequencePurge wsX6_isOn := goodIn_r _ [7] (by decide +kernel) (by decide +kernel)
set_option maxRecDepth 20000 in
theorem gX2_sequencePurge_X6_isOn_n65 : GoodIn wsX2_sequencePurge (wsX6_isOn) := ggX2_sequencePurge_X6_isOn
set_option maxRecDepth 20000 in
theorem ggX2_sequencePurge_X2_begin : GoodIn wsX2_sequencePurge wsX2_begin := goodIn_r _ [12, 13, 14, 4, 2, 15, 16, 17, 18, 11, 19, 30, 31, 32, 33, 34, 35, 36, 37, 38, 39, 40] (by decide +kernel) (by decide +kernel)
set_option maxRecDepth 20000 in
theorem gX2_sequencePurge_X2_begin : GoodIn wsX2_sequencePurge (wsV RX2 145 RX2 yX2_begin wsX2_begin) := goodIn_app (goodIn_of _ (by decide +kernel)) ggX2_sequencePurge_X2_begin
set_option maxRecDepth 20000 in
theorem ggX2_sequencePurge_X2_hasFlame : GoodIn wsX2_sequencePurge wsX2_hasFlame := goodIn_r _ [23, 24, 25, 30, 31, 32, 33, 34, 35, 36, 37, 38, 39, 40, 52, 53] (by decide +kernel) (by decide +kernel)
set_option maxRecDepth 20000 in
theorem gX2_sequencePurge_X2_hasFlame : GoodIn wsX2_sequencePurge (wsV RX2 139 RX2 yX2_hasFlame wsX2_hasFlame) := goodIn_app (goodIn_of _ (by decide +kernel)) ggX2_sequencePurge_X2_hasFlame
set_option maxRecDepth 20000 in
theorem ggX2_sequencePurge_X2_lockOut : GoodIn wsX2_sequencePurge wsX2_lockOut := goodIn_r _ [29, 8, 9, 10, 11, 12, 13, 14, 4, 2, 15, 16, 17, 18, 19, 30, 31, 32, 33, 34, 35, 36, 37, 38, 39, 40] (by decide +kernel) (by decide +kernel)
set_option maxRecDepth 20000 in
theorem gX2_sequencePurge_X2_lockOut : GoodIn wsX2_sequencePurge (wsV RX2 142 RX2 yX2_lockOut wsX2_lockOut) := goodIn_app (goodIn_of _ (by decide +kernel)) ggX2_sequencePurge_X2_lockOut
theorem dX2_sequencePurge_0 : decode cX2_sequencePurge 0 = .ok (.iload_n 1, 1) := by decide +kernel
theorem dX2_sequencePurge_1 : decode cX2_sequencePurge 1 = .ok (.iconst 1, 1) := by decide +kernel
theorem dX2_sequencePurge_2 : decode cX2_sequencePurge 2 = .ok (.invokestatic 65, 3) := by decide +kernel
theorem dX2_sequencePurge_5 : decode cX2_sequencePurge 5 = .ok (.ifCond .ne 10, 3) := by decide +kernel
theorem dX2_sequencePurge_8 : decode cX2_sequencePurge 8 = .ok (.aload_n 0, 1) := by decide +kernel
theorem dX2_sequencePurge_9 : decode cX2_sequencePurge 9 = .ok (.iconst 0, 1) := by decide +kernel
theorem dX2_sequencePurge_10 : decode cX2_sequencePurge 10 = .ok (.iconst 0, 1) := by decide +kernel
theorem dX2_sequencePurge_11 : decode cX2_sequencePurge 11 = .ok (.invokevirtual 145, 3) := by decide +kernel
theorem dX2_sequencePurge_14 : decode cX2_sequencePurge 14 = .ok (.ireturn, 1) := by decide +kernel
theorem dX2_sequencePurge_15 : decode cX2_sequencePurge 15 = .ok (.aload_n 0, 1) := by decide +kernel
theorem dX2_sequencePurge_16 : decode cX2_sequencePurge 16 = .ok (.invokevirtual 139, 3) := by decide +kernel
theorem dX2_sequencePurge_19 : decode cX2_sequencePurge 19 = .ok (.ifCond .eq 9, 3) := by decide +kernel
theorem dX2_sequencePurge_22 : decode cX2_sequencePurge 22 = .ok (.aload_n 0, 1) := by decide +kernel
theorem dX2_sequencePurge_23 : decode cX2_sequencePurge 23 = .ok (.iconst 3, 1) := by decide +kernel
theorem dX2_sequencePurge_24 : decode cX2_sequencePurge 24 = .ok (.invokevirtual 142, 3) := by decide +kernel
theorem dX2_sequencePurge_27 : decode cX2_sequencePurge 27 = .ok (.ireturn, 1) := by decide +kernel
theorem dX2_sequencePurge_28 : decode cX2_sequencePurge 28 = .ok (.aload_n 0, 1) := by decide +kernel
theorem dX2_sequencePurge_29 : decode cX2_sequencePurge 29 = .ok (.iload_n 1, 1) := by decide +kernel
theorem dX2_sequencePurge_30 : decode cX2_sequencePurge 30 = .ok (.iconst 2, 1) := by decide +kernel
theorem dX2_sequencePurge_31 : decode cX2_sequencePurge 31 = .ok (.invokestatic 65, 3) := by decide +kernel
theorem dX2_sequencePurge_34 : decode cX2_sequencePurge 34 = .ok (.ifCond .eq 24, 3) := by decide +kernel
theorem dX2_sequencePurge_37 : decode cX2_sequencePurge 37 = .ok (.aload_n 0, 1) := by decide +kernel
theorem dX2_sequencePurge_38 : decode cX2_sequencePurge 38 = .ok (.getfield 39, 3) := by decide +kernel
theorem dX2_sequencePurge_41 : decode cX2_sequencePurge 41 = .ok (.bipush 70, 2) := by decide +kernel
theorem dX2_sequencePurge_43 : decode cX2_sequencePurge 43 = .ok (.if_icmp .lt 15, 3) := by decide +kernel
theorem dX2_sequencePurge_46 : decode cX2_sequencePurge 46 = .ok (.aload_n 0, 1) := by decide +kernel
theorem dX2_sequencePurge_47 : decode cX2_sequencePurge 47 = .ok (.getfield 45, 3) := by decide +kernel
theorem dX2_sequencePurge_50 : decode cX2_sequencePurge 50 = .ok (.aload_n 0, 1) := by decide +kernel
theorem dX2_sequencePurge_51 : decode cX2_sequencePurge 51 = .ok (.getfield 39, 3) := by decide +kernel
theorem dX2_sequencePurge_54 : decode cX2_sequencePurge 54 = .ok (.iadd, 1) := by decide +kernel
theorem dX2_sequencePurge_55 : decode cX2_sequencePurge 55 = .ok (.goto 4, 3) := by decide +kernel
theorem dX2_sequencePurge_58 : decode cX2_sequencePurge 58 = .ok (.iconst 0, 1) := by decide +kernel
theorem dX2_sequencePurge_59 : decode cX2_sequencePurge 59 = .ok (.putfield 45, 3) := by decide +kernel
theorem dX2_sequencePurge_62 : decode cX2_sequencePurge 62 = .ok (.aload_n 0, 1) := by decide +kernel
theorem dX2_sequencePurge_63 : decode cX2_sequencePurge 63 = .ok (.getfield 45, 3) := by decide +kernel
theorem dX2_sequencePurge_66 : decode cX2_sequencePurge 66 = .ok (.iconst 4, 1) := by decide +kernel
theorem dX2_sequencePurge_67 : decode cX2_sequencePurge 67 = .ok (.aload_n 0, 1) := by decide +kernel
theorem dX2_sequencePurge_68 : decode cX2_sequencePurge 68 = .ok (.getfield 21, 3) := by decide +kernel
theorem dX2_sequencePurge_71 : decode cX2_sequencePurge 71 = .ok (.getfield 148, 3) := by decide +kernel
theorem dX2_sequencePurge_74 : decode cX2_sequencePurge 74 = .ok (.imul, 1) := by decide +kernel
theorem dX2_sequencePurge_75 : decode cX2_sequencePurge 75 = .ok (.if_icmp .lt 10, 3) := by decide +kernel
theorem dX2_sequencePurge_78 : decode cX2_sequencePurge 78 = .ok (.aload_n 0, 1) := by decide +kernel
theorem dX2_sequencePurge_79 : decode cX2_sequencePurge 79 = .ok (.iconst 2, 1) := by decide +kernel
theorem dX2_sequencePurge_80 : decode cX2_sequencePurge 80 = .ok (.iconst 0, 1) := by decide +kernel
theorem dX2_sequencePurge_81 : decode cX2_sequencePurge 81 = .ok (.invokevirtual 145, 3) := by decide +kernel
theorem dX2_sequencePurge_84 : decode cX2_sequencePurge 84 = .ok (.ireturn, 1) := by decide +kernel
theorem dX2_sequencePurge_85 : decode cX2_sequencePurge 85 = .ok (.aload_n 0, 1) := by decide +kernel
theorem dX2_sequencePurge_86 : decode cX2_sequencePurge 86 = .ok (.getfield 36, 3) := by decide +kernel
theorem dX2_sequencePurge_89 : decode cX2_sequencePurge 89 = .ok (.aload_n 0, 1) := by decide +kernel
theorem dX2_sequencePurge_90 : decode cX2_sequencePurge 90 = .ok (.getfield 21, 3) := by decide +kernel
theorem dX2_sequencePurge_93 : decode cX2_sequencePurge 93 = .ok (.getfield 151, 3) := by decide +kernel
theorem dX2_sequencePurge_96 : decode cX2_sequencePurge 96 = .ok (.if_icmp .lt 16, 3) := by decide +kernel
theorem dX2_sequencePurge_99 : decode cX2_sequencePurge 99 = .ok (.aload_n 0, 1) := by decide +kernel
theorem dX2_sequencePurge_100 : decode cX2_sequencePurge 100 = .ok (.bipush 7, 2) := by decide +kernel
theorem dX2_sequencePurge_102 : decode cX2_sequencePurge 102 = .ok (.invokevirtual 142, 3) := by decide +kernel
theorem dX2_sequencePurge_105 : decode cX2_sequencePurge 105 = .ok (.ifCond .eq 7, 3) := by decide +kernel
theorem dX2_sequencePurge_108 : decode cX2_sequencePurge 108 = .ok (.iconst 1, 1) := by decide +kernel
theorem dX2_sequencePurge_109 : decode cX2_sequencePurge 109 = .ok (.goto 4, 3) := by decide +kernel
theorem dX2_sequencePurge_112 : decode cX2_sequencePurge 112 = .ok (.iconst 0, 1) := by decide +kernel
theorem dX2_sequencePurge_113 : decode cX2_sequencePurge 113 = .ok (.ireturn, 1) := by decide +kernel
set_option maxRecDepth 20000 in
theorem ggX2_sequenceLighting_X6_isOn : GoodIn wsX2_sequenceLighting wsX6_isOn := goodIn_r _ [4] (by decide +kernel) (by decide +kernel)
set_option maxRecDepth 20000 in
theorem gX2_sequenceLighting_X6_isOn_n65 : GoodIn wsX2_sequenceLighting (wsX6_isOn) := ggX2_sequenceLighting_X6_isOn
set_option maxRecDepth 20000 in
theorem ggX2_sequenceLighting_X2_lockOut : GoodIn wsX2_sequenceLighting wsX2_lockOut := goodIn_r _ [9, 10, 11, 12, 8, 13, 1, 14, 15, 16, 17, 18, 19, 20, 21, 33, 34, 35, 36, 37, 38, 39, 40, 41, 42, 43] (by decide +kernel) (by decide +kernel)
set_option maxRecDepth 20000 in
theorem gX2_sequenceLighting_X2_lockOut : GoodIn wsX2_sequenceLighting (wsV RX2 142 RX2 yX2_lockOut wsX2_lockOut) := goodIn_app (goodIn_of _ (by decide +kernel)) ggX2_sequenceLighting_X2_lockOut
set_option maxRecDepth 20000 in
theorem ggX2_sequenceLighting_X2_begin : GoodIn wsX2_sequenceLighting wsX2_begin := goodIn_r _ [13, 1, 14, 15, 16, 17, 18, 19, 20, 8, 21, 33, 34, 35, 36, 37, 38, 39, 40, 41, 42, 43] (by decide +kernel) (by decide +kernel)
set_option maxRecDepth 20000 in
theorem gX2_sequenceLighting_X2_begin : GoodIn wsX2_sequenceLighting (wsV RX2 145 RX2 yX2_begin wsX2_begin) := goodIn_app (goodIn_of _ (by decide +kernel)) ggX2_sequenceLighting_X2_begin
set_option maxRecDepth 20000 in
theorem ggX2_sequenceLighting_X2_lightPilot : GoodIn wsX2_sequenceLighting wsX2_lightPilot := goodIn_r _ [25, 26, 15, 27, 10, 11, 12, 8, 13, 1, 14, 16, 17, 18, 19, 20, 21, 5, 6, 7, 9, 33, 34, 35, 36, 37, 38, 39, 40, 41, 42, 43, 44, 45, 46, 47, 48, 49, 50, 51, 52, 53, 54, 55, 56] (by decide +kernel) (by decide +kernel)
set_option maxRecDepth 20000 in
theorem gX2_sequenceLighting_X2_lightPilot : GoodIn wsX2_sequenceLighting (wsV RX2 154 RX2 yX2_lightPilot wsX2_lightPilot) := goodIn_app (goodIn_of _ (by decide +kernel)) ggX2_sequenceLighting_X2_lightPilot
set_option maxRecDepth 20000 in
theorem ggX2_sequenceLighting_X2_lightMain : GoodIn wsX2_sequenceLighting wsX2_lightMain := goodIn_r _ [31, 32, 15, 27, 10, 11, 12, 8, 13, 1, 14, 16, 17, 18, 19, 20, 21, 5, 6, 7, 9, 33, 34, 35, 36, 37, 38, 39, 40, 41, 42, 43, 44, 45, 46, 47, 48, 49, 50, 51, 52, 53, 54, 55, 56] (by decide +kernel) (by decide +kernel)
set_option maxRecDepth 20000 in
theorem gX2_sequenceLighting_X2_lightMain : GoodIn wsX2_sequenceLighting (wsV RX2 157 RX2 yX2_lightMain wsX2_lightMain) := goodIn_app (goodIn_of _ (by decide +kernel)) ggX2_sequenceLighting_X2_lightMain
theorem dX2_sequenceLighting_0 : decode cX2_sequenceLighting 0 = .ok (.iload_n 1, 1) := by decide +kernel
theorem dX2_sequenceLighting_1 : decode cX2_sequenceLighting 1 = .ok (.iconst 2, 1) := by decide +kernel
theorem dX2_sequenceLighting_2 : decode cX2_sequenceLighting 2 = .ok (.invokestatic 65, 3) := by decide +kernel
theorem dX2_sequenceLighting_5 : decode cX2_sequenceLighting 5 = .ok (.ifCond .ne 9, 3) := by decide +kernel
theorem dX2_sequenceLighting_8 : decode cX2_sequenceLighting 8 = .ok (.aload_n 0, 1) := by decide +kernel
theorem dX2_sequenceLighting_9 : decode cX2_sequenceLighting 9 = .ok (.iconst 1, 1) := by decide +kernel
theorem dX2_sequenceLighting_10 : decode cX2_sequenceLighting 10 = .ok (.invokevirtual 142, 3) := by decide +kernel
theorem dX2_sequenceLighting_13 : decode cX2_sequenceLighting 13 = .ok (.ireturn, 1) := by decide +kernel
theorem dX2_sequenceLighting_14 : decode cX2_sequenceLighting 14 = .ok (.iload_n 1, 1) := by decide +kernel
theorem dX2_sequenceLighting_15 : decode cX2_sequenceLighting 15 = .ok (.iconst 4, 1) := by decide +kernel
theorem dX2_sequenceLighting_16 : decode cX2_sequenceLighting 16 = .ok (.invokestatic 65, 3) := by decide +kernel
theorem dX2_sequenceLighting_19 : decode cX2_sequenceLighting 19 = .ok (.ifCond .ne 9, 3) := by decide +kernel
theorem dX2_sequenceLighting_22 : decode cX2_sequenceLighting 22 = .ok (.aload_n 0, 1) := by decide +kernel
theorem dX2_sequenceLighting_23 : decode cX2_sequenceLighting 23 = .ok (.iconst 2, 1) := by decide +kernel
theorem dX2_sequenceLighting_24 : decode cX2_sequenceLighting 24 = .ok (.invokevirtual 142, 3) := by decide +kernel
theorem dX2_sequenceLighting_27 : decode cX2_sequenceLighting 27 = .ok (.ireturn, 1) := by decide +kernel
theorem dX2_sequenceLighting_28 : decode cX2_sequenceLighting 28 = .ok (.iload_n 1, 1) := by decide +kernel
theorem dX2_sequenceLighting_29 : decode cX2_sequenceLighting 29 = .ok (.iconst 1, 1) := by decide +kernel
theorem dX2_sequenceLighting_30 : decode cX2_sequenceLighting 30 = .ok (.invokestatic 65, 3) := by decide +kernel
theorem dX2_sequenceLighting_33 : decode cX2_sequenceLighting 33 = .ok (.ifCond .ne 10, 3) := by decide +kernel
theorem dX2_sequenceLighting_36 : decode cX2_sequenceLighting 36 = .ok (.aload_n 0, 1) := by decide +kernel
theorem dX2_sequenceLighting_37 : decode cX2_sequenceLighting 37 = .ok (.iconst 5, 1) := by decide +kernel
theorem dX2_sequenceLighting_38 : decode cX2_sequenceLighting 38 = .ok (.iconst 0, 1) := by decide +kernel
theorem dX2_sequenceLighting_39 : decode cX2_sequenceLighting 39 = .ok (.invokevirtual 145, 3) := by decide +kernel
theorem dX2_sequenceLighting_42 : decode cX2_sequenceLighting 42 = .ok (.ireturn, 1) := by decide +kernel
theorem dX2_sequenceLighting_43 : decode cX2_sequenceLighting 43 = .ok (.aload_n 0, 1) := by decide +kernel
theorem dX2_sequenceLighting_44 : decode cX2_sequenceLighting 44 = .ok (.getfield 29, 3) := by decide +kernel
theorem dX2_sequenceLighting_47 : decode cX2_sequenceLighting 47 = .ok (.iconst 2, 1) := by decide +kernel
theorem dX2_sequenceLighting_48 : decode cX2_sequenceLighting 48 = .ok (.if_icmp .ne 10, 3) := by decide +kernel
theorem dX2_sequenceLighting_51 : decode cX2_sequenceLighting 51 = .ok (.aload_n 0, 1) := by decide +kernel
theorem dX2_sequenceLighting_52 : decode cX2_sequenceLighting 52 = .ok (.invokevirtual 154, 3) := by decide +kernel
theorem dX2_sequenceLighting_55 : decode cX2_sequenceLighting 55 = .ok (.goto 7, 3) := by decide +kernel
theorem dX2_sequenceLighting_58 : decode cX2_sequenceLighting 58 = .ok (.aload_n 0, 1) := by decide +kernel
theorem dX2_sequenceLighting_59 : decode cX2_sequenceLighting 59 = .ok (.invokevirtual 157, 3) := by decide +kernel
theorem dX2_sequenceLighting_62 : decode cX2_sequenceLighting 62 = .ok (.ireturn, 1) := by decide +kernel
set_option maxRecDepth 20000 in
theorem ggX2_lightPilot_X2_begin : GoodIn wsX2_lightPilot wsX2_begin := goodIn_r _ [8, 9, 10, 2, 11, 12, 13, 14, 15, 7, 16, 21, 22, 23, 24, 25, 26, 27, 28, 29, 30, 31] (by decide +kernel) (by decide +kernel)
set_option maxRecDepth 20000 in
theorem gX2_lightPilot_X2_begin : GoodIn wsX2_lightPilot (wsV RX2 145 RX2 yX2_begin wsX2_begin) := goodIn_app (goodIn_of _ (by decide +kernel)) ggX2_lightPilot_X2_begin
set_option maxRecDepth 20000 in
theorem ggX2_lightPilot_X2_lockOut : GoodIn wsX2_lightPilot wsX2_lockOut := goodIn_r _ [20, 4, 5, 6, 7, 8, 9, 10, 2, 11, 12, 13, 14, 15, 16, 21, 22, 23, 24, 25, 26, 27, 28, 29, 30, 31] (by decide +kernel) (by decide +kernel)
set_option maxRecDepth 20000 in
theorem gX2_lightPilot_X2_lockOut : GoodIn wsX2_lightPilot (wsV RX2 142 RX2 yX2_lockOut wsX2_lockOut) := goodIn_app (goodIn_of _ (by decide +kernel)) ggX2_lightPilot_X2_lockOut
theorem dX2_lightPilot_0 : decode cX2_lightPilot 0 = .ok (.aload_n 0, 1) := by decide +kernel
theorem dX2_lightPilot_1 : decode cX2_lightPilot 1 = .ok (.getfield 12, 3) := by decide +kernel
theorem dX2_lightPilot_4 : decode cX2_lightPilot 4 = .ok (.getfield 54, 3) := by decide +kernel
theorem dX2_lightPilot_7 : decode cX2_lightPilot 7 = .ok (.ifCond .eq 10, 3) := by decide +kernel
theorem dX2_lightPilot_10 : decode cX2_lightPilot 10 = .ok (.aload_n 0, 1) := by decide +kernel
theorem dX2_lightPilot_11 : decode cX2_lightPilot 11 = .ok (.iconst 3, 1) := by decide +kernel
theorem dX2_lightPilot_12 : decode cX2_lightPilot 12 = .ok (.iconst 0, 1) := by decide +kernel
theorem dX2_lightPilot_13 : decode cX2_lightPilot 13 = .ok (.invokevirtual 145, 3) := by decide +kernel
theorem dX2_lightPilot_16 : decode cX2_lightPilot 16 = .ok (.ireturn, 1) := by decide +kernel
theorem dX2_lightPilot_17 : decode cX2_lightPilot 17 = .ok (.aload_n 0, 1) := by decide +kernel
theorem dX2_lightPilot_18 : decode cX2_lightPilot 18 = .ok (.getfield 36, 3) := by decide +kernel
theorem dX2_lightPilot_21 : decode cX2_lightPilot 21 = .ok (.aload_n 0, 1) := by decide +kernel
theorem dX2_lightPilot_22 : decode cX2_lightPilot 22 = .ok (.getfield 21, 3) := by decide +kernel
theorem dX2_lightPilot_25 : decode cX2_lightPilot 25 = .ok (.getfield 160, 3) := by decide +kernel
theorem dX2_lightPilot_28 : decode cX2_lightPilot 28 = .ok (.if_icmp .lt 15, 3) := by decide +kernel
theorem dX2_lightPilot_31 : decode cX2_lightPilot 31 = .ok (.aload_n 0, 1) := by decide +kernel
theorem dX2_lightPilot_32 : decode cX2_lightPilot 32 = .ok (.iconst 4, 1) := by decide +kernel
theorem dX2_lightPilot_33 : decode cX2_lightPilot 33 = .ok (.invokevirtual 142, 3) := by decide +kernel
theorem dX2_lightPilot_36 : decode cX2_lightPilot 36 = .ok (.ifCond .eq 7, 3) := by decide +kernel
theorem dX2_lightPilot_39 : decode cX2_lightPilot 39 = .ok (.iconst 1, 1) := by decide +kernel
theorem dX2_lightPilot_40 : decode cX2_lightPilot 40 = .ok (.goto 4, 3) := by decide +kernel
theorem dX2_lightPilot_43 : decode cX2_lightPilot 43 = .ok (.iconst 0, 1) := by decide +kernel
theorem dX2_lightPilot_44 : decode cX2_lightPilot 44 = .ok (.ireturn, 1) := by decide +kernel
set_option maxRecDepth 20000 in
theorem ggX2_lightMain_X2_begin : GoodIn wsX2_lightMain wsX2_begin := goodIn_r _ [8, 9, 10, 2, 11, 12, 13, 14, 15, 7, 16, 21, 22, 23, 24, 25, 26, 27, 28, 29, 30, 31] (by decide +kernel) (by decide +kernel)
set_option maxRecDepth 20000 in
theorem gX2_lightMain_X2_begin : GoodIn wsX2_lightMain (wsV RX2 145 RX2 yX2_begin wsX2_begin) := goodIn_app (goodIn_of _ (by decide +kernel)) ggX2_lightMain_X2_begin
set_option maxRecDepth 20000 in
theorem ggX2_lightMain_X2_lockOut : GoodIn wsX2_lightMain wsX2_lockOut := goodIn_r _ [20, 4, 5, 6, 7, 8, 9, 10, 2, 11, 12, 13, 14, 15, 16, 21, 22, 23, 24, 25, 26, 27, 28, 29, 30, 31] (by decide +kernel) (by decide +kernel)
set_option maxRecDepth 20000 in
theorem gX2_lightMain_X2_lockOut : GoodIn wsX2_lightMain (wsV RX2 142 RX2 yX2_lockOut wsX2_lockOut) := goodIn_app (goodIn_of _ (by decide +kernel)) ggX2_lightMain_X2_lockOut
theorem dX2_lightMain_0 : decode cX2_lightMain 0 = .ok (.aload_n 0, 1) := by decide +kernel
theorem dX2_lightMain_1 : decode cX2_lightMain 1 = .ok (.getfield 18, 3) := by decide +kernel
theorem dX2_lightMain_4 : decode cX2_lightMain 4 = .ok (.getfield 54, 3) := by decide +kernel
theorem dX2_lightMain_7 : decode cX2_lightMain 7 = .ok (.ifCond .eq 10, 3) := by decide +kernel
theorem dX2_lightMain_10 : decode cX2_lightMain 10 = .ok (.aload_n 0, 1) := by decide +kernel
theorem dX2_lightMain_11 : decode cX2_lightMain 11 = .ok (.iconst 4, 1) := by decide +kernel
theorem dX2_lightMain_12 : decode cX2_lightMain 12 = .ok (.iconst 0, 1) := by decide +kernel
theorem dX2_lightMain_13 : decode cX2_lightMain 13 = .ok (.invokevirtual 145, 3) := by decide +kernel
theorem dX2_lightMain_16 : decode cX2_lightMain 16 = .ok (.ireturn, 1) := by decide +kernel
theorem dX2_lightMain_17 : decode cX2_lightMain 17 = .ok (.aload_n 0, 1) := by decide +kernel
theorem dX2_lightMain_18 : decode cX2_lightMain 18 = .ok (.getfield 36, 3) := by decide +kernel
theorem dX2_lightMain_21 : decode cX2_lightMain 21 = .ok (.aload_n 0, 1) := by decide +kernel
theorem dX2_lightMain_22 : decode cX2_lightMain 22 = .ok (.getfield 21, 3) := by decide +kernel
theorem dX2_lightMain_25 : decode cX2_lightMain 25 = .ok (.getfield 163, 3) := by decide +kernel
theorem dX2_lightMain_28 : decode cX2_lightMain 28 = .ok (.if_icmp .lt 15, 3) := by decide +kernel
theorem dX2_lightMain_31 : decode cX2_lightMain 31 = .ok (.aload_n 0, 1) := by decide +kernel
theorem dX2_lightMain_32 : decode cX2_lightMain 32 = .ok (.iconst 5, 1) := by decide +kernel
theorem dX2_lightMain_33 : decode cX2_lightMain 33 = .ok (.invokevirtual 142, 3) := by decide +kernel
theorem dX2_lightMain_36 : decode cX2_lightMain 36 = .ok (.ifCond .eq 7, 3) := by decide +kernel
theorem dX2_lightMain_39 : decode cX2_lightMain 39 = .ok (.iconst 1, 1) := by decide +kernel
theorem dX2_lightMain_40 : decode cX2_lightMain 40 = .ok (.goto 4, 3) := by decide +kernel
theorem dX2_lightMain_43 : decode cX2_lightMain 43 = .ok (.iconst 0, 1) := by decide +kernel
theorem dX2_lightMain_44 : decode cX2_lightMain 44 = .ok (.ireturn, 1) := by decide +kernel
set_option maxRecDepth 20000 in
theorem ggX2_sequenceRun_X6_isOn : GoodIn wsX2_sequenceRun wsX6_isOn := goodIn_r _ [4] (by decide +kernel) (by decide +kernel)
set_option maxRecDepth 20000 in
theorem gX2_sequenceRun_X6_isOn_n65 : GoodIn wsX2_sequenceRun (wsX6_isOn) := ggX2_sequenceRun_X6_isOn
set_option maxRecDepth 20000 in
theorem ggX2_sequenceRun_X2_lockOut : GoodIn wsX2_sequenceRun wsX2_lockOut := goodIn_r _ [9, 10, 11, 12, 8, 13, 14, 15, 16, 17, 18, 19, 20, 21, 22, 28, 29, 30, 31, 32, 33, 34, 35, 36, 37, 38] (by decide +kernel) (by decide +kernel)
set_option maxRecDepth 20000 in
theorem gX2_sequenceRun_X2_lockOut : GoodIn wsX2_sequenceRun (wsV RX2 142 RX2 yX2_lockOut wsX2_lockOut) := goodIn_app (goodIn_of _ (by decide +kernel)) ggX2_sequenceRun_X2_lockOut
set_option maxRecDepth 20000 in
theorem ggX2_sequenceRun_X2_isCheckDue : GoodIn wsX2_sequenceRun wsX2_isCheckDue := goodIn_r _ [26, 27, 16, 28, 29, 30, 31, 32, 33, 34, 35, 36, 37, 38, 41, 42, 43, 44, 45, 46, 47, 48, 49, 50, 51] (by decide +kernel) (by decide +kernel)
set_option maxRecDepth 20000 in
theorem gX2_sequenceRun_X2_isCheckDue : GoodIn wsX2_sequenceRun (wsV RX2 166 RX2 yX2_isCheckDue wsX2_isCheckDue) := goodIn_app (goodIn_of _ (by decide +kernel)) ggX2_sequenceRun_X2_isCheckDue
set_option maxRecDepth 20000 in
theorem ggX2_sequenceRun_X2_begin : GoodIn wsX2_sequenceRun wsX2_begin := goodIn_r _ [13, 14, 15, 16, 17, 18, 19, 20, 21, 8, 22, 28, 29, 30, 31, 32, 33, 34, 35, 36, 37, 38] (by decide +kernel) (by decide +kernel)
set_option maxRecDepth 20000 in
theorem gX2_sequenceRun_X2_begin : GoodIn wsX2_sequenceRun (wsV RX2 145 RX2 yX2_begin wsX2_begin) := goodIn_app (goodIn_of _ (by decide +kernel)) ggX2_sequenceRun_X2_begin
theorem dX2_sequenceRun_0 : decode cX2_sequenceRun 0 = .ok (.iload_n 1, 1) := by decide +kernel
theorem dX2_sequenceRun_1 : decode cX2_sequenceRun 1 = .ok (.iconst 2, 1) := by decide +kernel
theorem dX2_sequenceRun_2 : decode cX2_sequenceRun 2 = .ok (.invokestatic 65, 3) := by decide +kernel
theorem dX2_sequenceRun_5 : decode cX2_sequenceRun 5 = .ok (.ifCond .ne 9, 3) := by decide +kernel
theorem dX2_sequenceRun_8 : decode cX2_sequenceRun 8 = .ok (.aload_n 0, 1) := by decide +kernel
theorem dX2_sequenceRun_9 : decode cX2_sequenceRun 9 = .ok (.iconst 1, 1) := by decide +kernel
theorem dX2_sequenceRun_10 : decode cX2_sequenceRun 10 = .ok (.invokevirtual 142, 3) := by decide +kernel
theorem dX2_sequenceRun_13 : decode cX2_sequenceRun 13 = .ok (.ireturn, 1) := by decide +kernel
theorem dX2_sequenceRun_14 : decode cX2_sequenceRun 14 = .ok (.iload_n 1, 1) := by decide +kernel
theorem dX2_sequenceRun_15 : decode cX2_sequenceRun 15 = .ok (.iconst 4, 1) := by decide +kernel
theorem dX2_sequenceRun_16 : decode cX2_sequenceRun 16 = .ok (.invokestatic 65, 3) := by decide +kernel
theorem dX2_sequenceRun_19 : decode cX2_sequenceRun 19 = .ok (.ifCond .ne 9, 3) := by decide +kernel
theorem dX2_sequenceRun_22 : decode cX2_sequenceRun 22 = .ok (.aload_n 0, 1) := by decide +kernel
theorem dX2_sequenceRun_23 : decode cX2_sequenceRun 23 = .ok (.iconst 2, 1) := by decide +kernel
theorem dX2_sequenceRun_24 : decode cX2_sequenceRun 24 = .ok (.invokevirtual 142, 3) := by decide +kernel
theorem dX2_sequenceRun_27 : decode cX2_sequenceRun 27 = .ok (.ireturn, 1) := by decide +kernel
theorem dX2_sequenceRun_28 : decode cX2_sequenceRun 28 = .ok (.aload_n 0, 1) := by decide +kernel
theorem dX2_sequenceRun_29 : decode cX2_sequenceRun 29 = .ok (.getfield 18, 3) := by decide +kernel
theorem dX2_sequenceRun_32 : decode cX2_sequenceRun 32 = .ok (.getfield 54, 3) := by decide +kernel
theorem dX2_sequenceRun_35 : decode cX2_sequenceRun 35 = .ok (.ifCond .ne 10, 3) := by decide +kernel
theorem dX2_sequenceRun_38 : decode cX2_sequenceRun 38 = .ok (.aload_n 0, 1) := by decide +kernel
theorem dX2_sequenceRun_39 : decode cX2_sequenceRun 39 = .ok (.bipush 6, 2) := by decide +kernel
theorem dX2_sequenceRun_41 : decode cX2_sequenceRun 41 = .ok (.invokevirtual 142, 3) := by decide +kernel
theorem dX2_sequenceRun_44 : decode cX2_sequenceRun 44 = .ok (.ireturn, 1) := by decide +kernel
theorem dX2_sequenceRun_45 : decode cX2_sequenceRun 45 = .ok (.aload_n 0, 1) := by decide +kernel
theorem dX2_sequenceRun_46 : decode cX2_sequenceRun 46 = .ok (.invokevirtual 166, 3) := by decide +kernel
theorem dX2_sequenceRun_49 : decode cX2_sequenceRun 49 = .ok (.ifCond .eq 19, 3) := by decide +kernel
theorem dX2_sequenceRun_52 : decode cX2_sequenceRun 52 = .ok (.iload_n 1, 1) := by decide +kernel
theorem dX2_sequenceRun_53 : decode cX2_sequenceRun 53 = .ok (.bipush 32, 2) := by decide +kernel
theorem dX2_sequenceRun_55 : decode cX2_sequenceRun 55 = .ok (.invokestatic 65, 3) := by decide +kernel
theorem dX2_sequenceRun_58 : decode cX2_sequenceRun 58 = .ok (.ifCond .ne 10, 3) := by decide +kernel
theorem dX2_sequenceRun_61 : decode cX2_sequenceRun 61 = .ok (.aload_n 0, 1) := by decide +kernel
theorem dX2_sequenceRun_62 : decode cX2_sequenceRun 62 = .ok (.bipush 8, 2) := by decide +kernel
theorem dX2_sequenceRun_64 : decode cX2_sequenceRun 64 = .ok (.invokevirtual 142, 3) := by decide +kernel
theorem dX2_sequenceRun_67 : decode cX2_sequenceRun 67 = .ok (.ireturn, 1) := by decide +kernel
theorem dX2_sequenceRun_68 : decode cX2_sequenceRun 68 = .ok (.iload_n 1, 1) := by decide +kernel
theorem dX2_sequenceRun_69 : decode cX2_sequenceRun 69 = .ok (.iconst 1, 1) := by decide +kernel
theorem dX2_sequenceRun_70 : decode cX2_sequenceRun 70 = .ok (.invokestatic 65, 3) := by decide +kernel
theorem dX2_sequenceRun_73 : decode cX2_sequenceRun 73 = .ok (.ifCond .ne 16, 3) := by decide +kernel
theorem dX2_sequenceRun_76 : decode cX2_sequenceRun 76 = .ok (.aload_n 0, 1) := by decide +kernel
theorem dX2_sequenceRun_77 : decode cX2_sequenceRun 77 = .ok (.iconst 5, 1) := by decide +kernel
theorem dX2_sequenceRun_78 : decode cX2_sequenceRun 78 = .ok (.iconst 0, 1) := by decide +kernel
theorem dX2_sequenceRun_79 : decode cX2_sequenceRun 79 = .ok (.invokevirtual 145, 3) := by decide +kernel
theorem dX2_sequenceRun_82 : decode cX2_sequenceRun 82 = .ok (.ifCond .eq 7, 3) := by decide +kernel
theorem dX2_sequenceRun_85 : decode cX2_sequenceRun 85 = .ok (.iconst 1, 1) := by decide +kernel
theorem dX2_sequenceRun_86 : decode cX2_sequenceRun 86 = .ok (.goto 4, 3) := by decide +kernel
theorem dX2_sequenceRun_89 : decode cX2_sequenceRun 89 = .ok (.iconst 0, 1) := by decide +kernel
theorem dX2_sequenceRun_90 : decode cX2_sequenceRun 90 = .ok (.ireturn, 1) := by decide +kernel
theorem dX2_isCheckDue_0 : decode cX2_isCheckDue 0 = .ok (.aload_n 0, 1) := by decide +kernel
theorem dX2_isCheckDue_1 : decode cX2_isCheckDue 1 = .ok (.getfield 21, 3) := by decide +kernel
theorem dX2_isCheckDue_4 : decode cX2_isCheckDue 4 = .ok (.getfield 169, 3) := by decide +kernel
theorem dX2_isCheckDue_7 : decode cX2_isCheckDue 7 = .ok (.ifCond .le 22, 3) := by decide +kernel
theorem dX2_isCheckDue_10 : decode cX2_isCheckDue 10 = .ok (.aload_n 0, 1) := by decide +kernel
theorem dX2_isCheckDue_11 : decode cX2_isCheckDue 11 = .ok (.getfield 36, 3) := by decide +kernel
theorem dX2_isCheckDue_14 : decode cX2_isCheckDue 14 = .ok (.aload_n 0, 1) := by decide +kernel
theorem dX2_isCheckDue_15 : decode cX2_isCheckDue 15 = .ok (.getfield 21, 3) := by decide +kernel
theorem dX2_isCheckDue_18 : decode cX2_isCheckDue 18 = .ok (.getfield 169, 3) := by decide +kernel
theorem dX2_isCheckDue_21 : decode cX2_isCheckDue 21 = .ok (.irem, 1) := by decide +kernel
theorem dX2_isCheckDue_22 : decode cX2_isCheckDue 22 = .ok (.ifCond .ne 7, 3) := by decide +kernel
theorem dX2_isCheckDue_25 : decode cX2_isCheckDue 25 = .ok (.iconst 1, 1) := by decide +kernel
theorem dX2_isCheckDue_26 : decode cX2_isCheckDue 26 = .ok (.goto 4, 3) := by decide +kernel
theorem dX2_isCheckDue_29 : decode cX2_isCheckDue 29 = .ok (.iconst 0, 1) := by decide +kernel
theorem dX2_isCheckDue_30 : decode cX2_isCheckDue 30 = .ok (.ireturn, 1) := by decide +kernel
set_option maxRecDepth 20000 in
theorem ggX2_sequenceAfterPurge_X2_hasFlame : GoodIn wsX2_sequenceAfterPurge wsX2_hasFlame := goodIn_r _ [7, 8, 9, 26, 27, 28, 29, 30, 31, 32, 33, 34, 35, 36, 48, 49] (by decide +kernel) (by decide +kernel)
set_option maxRecDepth 20000 in
theorem gX2_sequenceAfterPurge_X2_hasFlame : GoodIn wsX2_sequenceAfterPurge (wsV RX2 139 RX2 yX2_hasFlame wsX2_hasFlame) := goodIn_app (goodIn_of _ (by decide +kernel)) ggX2_sequenceAfterPurge_X2_hasFlame
set_option maxRecDepth 20000 in
theorem ggX2_sequenceAfterPurge_X2_lockOut : GoodIn wsX2_sequenceAfterPurge wsX2_lockOut := goodIn_r _ [13, 14, 15, 16, 6, 17, 18, 19, 1, 20, 21, 22, 23, 24, 25, 26, 27, 28, 29, 30, 31, 32, 33, 34, 35, 36] (by decide +kernel) (by decide +kernel)
set_option maxRecDepth 20000 in
theorem gX2_sequenceAfterPurge_X2_lockOut : GoodIn wsX2_sequenceAfterPurge (wsV RX2 142 RX2 yX2_lockOut wsX2_lockOut) := goodIn_app (goodIn_of _ (by decide +kernel)) ggX2_sequenceAfterPurge_X2_lockOut
set_option maxRecDepth 20000 in
theorem ggX2_sequenceAfterPurge_X2_begin : GoodIn wsX2_sequenceAfterPurge wsX2_begin := goodIn_r _ [17, 18, 19, 1, 20, 21, 22, 23, 24, 6, 25, 26, 27, 28, 29, 30, 31, 32, 33, 34, 35, 36] (by decide +kernel) (by decide +kernel)
set_option maxRecDepth 20000 in
theorem gX2_sequenceAfterPurge_X2_begin : GoodIn wsX2_sequenceAfterPurge (wsV RX2 145 RX2 yX2_begin wsX2_begin) := goodIn_app (goodIn_of _ (by decide +kernel)) ggX2_sequenceAfterPurge_X2_begin
theorem dX2_sequenceAfterPurge_0 : decode cX2_sequenceAfterPurge 0 = .ok (.aload_n 0, 1) := by decide +kernel
theorem dX2_sequenceAfterPurge_1 : decode cX2_sequenceAfterPurge 1 = .ok (.getfield 36, 3) := by decide +kernel
theorem dX2_sequenceAfterPurge_4 : decode cX2_sequenceAfterPurge 4 = .ok (.aload_n 0, 1) := by decide +kernel
theorem dX2_sequenceAfterPurge_5 : decode cX2_sequenceAfterPurge 5 = .ok (.getfield 21, 3) := by decide +kernel
theorem dX2_sequenceAfterPurge_8 : decode cX2_sequenceAfterPurge 8 = .ok (.getfield 172, 3) := by decide +kernel
theorem dX2_sequenceAfterPurge_11 : decode cX2_sequenceAfterPurge 11 = .ok (.if_icmp .ge 5, 3) := by decide +kernel
theorem dX2_sequenceAfterPurge_14 : decode cX2_sequenceAfterPurge 14 = .ok (.iconst 0, 1) := by decide +kernel
theorem dX2_sequenceAfterPurge_15 : decode cX2_sequenceAfterPurge 15 = .ok (.ireturn, 1) := by decide +kernel
theorem dX2_sequenceAfterPurge_16 : decode cX2_sequenceAfterPurge 16 = .ok (.aload_n 0, 1) := by decide +kernel
theorem dX2_sequenceAfterPurge_17 : decode cX2_sequenceAfterPurge 17 = .ok (.invokevirtual 139, 3) := by decide +kernel
theorem dX2_sequenceAfterPurge_20 : decode cX2_sequenceAfterPurge 20 = .ok (.ifCond .eq 11, 3) := by decide +kernel
theorem dX2_sequenceAfterPurge_23 : decode cX2_sequenceAfterPurge 23 = .ok (.aload_n 0, 1) := by decide +kernel
theorem dX2_sequenceAfterPurge_24 : decode cX2_sequenceAfterPurge 24 = .ok (.iconst 3, 1) := by decide +kernel
theorem dX2_sequenceAfterPurge_25 : decode cX2_sequenceAfterPurge 25 = .ok (.invokevirtual 142, 3) := by decide +kernel
theorem dX2_sequenceAfterPurge_28 : decode cX2_sequenceAfterPurge 28 = .ok (.goto 9, 3) := by decide +kernel
theorem dX2_sequenceAfterPurge_31 : decode cX2_sequenceAfterPurge 31 = .ok (.aload_n 0, 1) := by decide +kernel
theorem dX2_sequenceAfterPurge_32 : decode cX2_sequenceAfterPurge 32 = .ok (.iconst 0, 1) := by decide +kernel
theorem dX2_sequenceAfterPurge_33 : decode cX2_sequenceAfterPurge 33 = .ok (.iconst 0, 1) := by decide +kernel
theorem dX2_sequenceAfterPurge_34 : decode cX2_sequenceAfterPurge 34 = .ok (.invokevirtual 145, 3) := by decide +kernel
theorem dX2_sequenceAfterPurge_37 : decode cX2_sequenceAfterPurge 37 = .ok (.ireturn, 1) := by decide +kernel
set_option maxRecDepth 20000 in
theorem ggX2_lockOut_X2_begin : GoodIn wsX2_lockOut wsX2_begin := goodIn_r _ [5, 6, 7, 8, 9, 10, 11, 12, 13, 4, 14, 15, 16, 17, 18, 19, 20, 21, 22, 23, 24, 25] (by decide +kernel) (by decide +kernel)
set_option maxRecDepth 20000 in
theorem gX2_lockOut_X2_begin : GoodIn wsX2_lockOut (wsV RX2 145 RX2 yX2_begin wsX2_begin) := goodIn_app (goodIn_of _ (by decide +kernel)) ggX2_lockOut_X2_begin
theorem dX2_lockOut_0 : decode cX2_lockOut 0 = .ok (.aload_n 0, 1) := by decide +kernel
theorem dX2_lockOut_1 : decode cX2_lockOut 1 = .ok (.bipush 6, 2) := by decide +kernel
theorem dX2_lockOut_3 : decode cX2_lockOut 3 = .ok (.iload_n 1, 1) := by decide +kernel
theorem dX2_lockOut_4 : decode cX2_lockOut 4 = .ok (.invokevirtual 145, 3) := by decide +kernel
theorem dX2_lockOut_7 : decode cX2_lockOut 7 = .ok (.ireturn, 1) := by decide +kernel
set_option maxRecDepth 20000 in
theorem ggX2_begin_X2_isMainOpen : GoodIn wsX2_begin wsX2_isMainOpen := goodIn_r _ [10, 1, 11, 12, 13, 14, 15, 16, 17, 18, 19, 20, 21] (by decide +kernel) (by decide +kernel)
set_option maxRecDepth 20000 in
theorem gX2_begin_X2_isMainOpen : GoodIn wsX2_begin (wsV RX2 62 RX2 yX2_isMainOpen wsX2_isMainOpen) := goodIn_app (goodIn_of _ (by decide +kernel)) ggX2_begin_X2_isMainOpen
theorem dX2_begin_0 : decode cX2_begin 0 = .ok (.aload_n 0, 1) := by decide +kernel
theorem dX2_begin_1 : decode cX2_begin 1 = .ok (.iload_n 1, 1) := by decide +kernel
theorem dX2_begin_2 : decode cX2_begin 2 = .ok (.putfield 29, 3) := by decide +kernel
theorem dX2_begin_5 : decode cX2_begin 5 = .ok (.aload_n 0, 1) := by decide +kernel
theorem dX2_begin_6 : decode cX2_begin 6 = .ok (.iload_n 2, 1) := by decide +kernel
theorem dX2_begin_7 : decode cX2_begin 7 = .ok (.putfield 33, 3) := by decide +kernel
theorem dX2_begin_10 : decode cX2_begin 10 = .ok (.aload_n 0, 1) := by decide +kernel
theorem dX2_begin_11 : decode cX2_begin 11 = .ok (.iconst 0, 1) := by decide +kernel
theorem dX2_begin_12 : decode cX2_begin 12 = .ok (.putfield 36, 3) := by decide +kernel
theorem dX2_begin_15 : decode cX2_begin 15 = .ok (.aload_n 0, 1) := by decide +kernel
theorem dX2_begin_16 : decode cX2_begin 16 = .ok (.iconst 0, 1) := by decide +kernel
theorem dX2_begin_17 : decode cX2_begin 17 = .ok (.putfield 45, 3) := by decide +kernel
theorem dX2_begin_20 : decode cX2_begin 20 = .ok (.aload_n 0, 1) := by decide +kernel
theorem dX2_begin_21 : decode cX2_begin 21 = .ok (.invokevirtual 62, 3) := by decide +kernel
theorem dX2_begin_24 : decode cX2_begin 24 = .ok (.ifCond .ne 8, 3) := by decide +kernel
theorem dX2_begin_27 : decode cX2_begin 27 = .ok (.aload_n 0, 1) := by decide +kernel
theorem dX2_begin_28 : decode cX2_begin 28 = .ok (.iconst 0, 1) := by decide +kernel
theorem dX2_begin_29 : decode cX2_begin 29 = .ok (.putfield 42, 3) := by decide +kernel
theorem dX2_begin_32 : decode cX2_begin 32 = .ok (.iconst 1, 1) := by decide +kernel
theorem dX2_begin_33 : decode cX2_begin 33 = .ok (.ireturn, 1) := by decide +kernel
set_option maxRecDepth 20000 in
theorem ggX2_countUnlit_X2_hasFlame : GoodIn wsX2_countUnlit wsX2_hasFlame := goodIn_r _ [11, 12, 13, 14, 15, 16, 17, 18, 19, 20, 21, 22, 23, 24, 25, 26] (by decide +kernel) (by decide +kernel)
set_option maxRecDepth 20000 in
theorem gX2_countUnlit_X2_hasFlame : GoodIn wsX2_countUnlit (wsV RX2 139 RX2 yX2_hasFlame wsX2_hasFlame) := goodIn_app (goodIn_of _ (by decide +kernel)) ggX2_countUnlit_X2_hasFlame
theorem dX2_countUnlit_0 : decode cX2_countUnlit 0 = .ok (.aload_n 0, 1) := by decide +kernel
theorem dX2_countUnlit_1 : decode cX2_countUnlit 1 = .ok (.iload_n 1, 1) := by decide +kernel
theorem dX2_countUnlit_2 : decode cX2_countUnlit 2 = .ok (.ifCond .eq 19, 3) := by decide +kernel
theorem dX2_countUnlit_5 : decode cX2_countUnlit 5 = .ok (.aload_n 0, 1) := by decide +kernel
theorem dX2_countUnlit_6 : decode cX2_countUnlit 6 = .ok (.invokevirtual 139, 3) := by decide +kernel
theorem dX2_countUnlit_9 : decode cX2_countUnlit 9 = .ok (.ifCond .ne 12, 3) := by decide +kernel
theorem dX2_countUnlit_12 : decode cX2_countUnlit 12 = .ok (.aload_n 0, 1) := by decide +kernel
theorem dX2_countUnlit_13 : decode cX2_countUnlit 13 = .ok (.getfield 48, 3) := by decide +kernel
theorem dX2_countUnlit_16 : decode cX2_countUnlit 16 = .ok (.iconst 1, 1) := by decide +kernel
theorem dX2_countUnlit_17 : decode cX2_countUnlit 17 = .ok (.iadd, 1) := by decide +kernel
theorem dX2_countUnlit_18 : decode cX2_countUnlit 18 = .ok (.goto 4, 3) := by decide +kernel
theorem dX2_countUnlit_21 : decode cX2_countUnlit 21 = .ok (.iconst 0, 1) := by decide +kernel
theorem dX2_countUnlit_22 : decode cX2_countUnlit 22 = .ok (.putfield 48, 3) := by decide +kernel
theorem dX2_countUnlit_25 : decode cX2_countUnlit 25 = .ok (.aload_n 0, 1) := by decide +kernel
theorem dX2_countUnlit_26 : decode cX2_countUnlit 26 = .ok (.aload_n 0, 1) := by decide +kernel
theorem dX2_countUnlit_27 : decode cX2_countUnlit 27 = .ok (.getfield 51, 3) := by decide +kernel
theorem dX2_countUnlit_30 : decode cX2_countUnlit 30 = .ok (.aload_n 0, 1) := by decide +kernel
theorem dX2_countUnlit_31 : decode cX2_countUnlit 31 = .ok (.getfield 48, 3) := by decide +kernel
theorem dX2_countUnlit_34 : decode cX2_countUnlit 34 = .ok (.invokestatic 115, 3) := by decide +kernel
theorem dX2_countUnlit_37 : decode cX2_countUnlit 37 = .ok (.putfield 51, 3) := by decide +kernel
theorem dX2_countUnlit_40 : decode cX2_countUnlit 40 = .ok (.return_, 1) := by decide +kernel
theorem dX3_init_0 : decode cX3_init 0 = .ok (.aload_n 0, 1) := by decide +kernel
theorem dX3_init_1 : decode cX3_init 1 = .ok (.invokespecial 3, 3) := by decide +kernel
theorem dX3_init_4 : decode cX3_init 4 = .ok (.aload_n 0, 1) := by decide +kernel
theorem dX3_init_5 : decode cX3_init 5 = .ok (.bipush 100, 2) := by decide +kernel
theorem dX3_init_7 : decode cX3_init 7 = .ok (.newarray .int, 2) := by decide +kernel
theorem dX3_init_9 : decode cX3_init 9 = .ok (.putfield 9, 3) := by decide +kernel
theorem dX3_init_12 : decode cX3_init 12 = .ok (.aload_n 0, 1) := by decide +kernel
theorem dX3_init_13 : decode cX3_init 13 = .ok (.bipush 100, 2) := by decide +kernel
theorem dX3_init_15 : decode cX3_init 15 = .ok (.newarray .int, 2) := by decide +kernel
theorem dX3_init_17 : decode cX3_init 17 = .ok (.putfield 15, 3) := by decide +kernel
theorem dX3_init_20 : decode cX3_init 20 = .ok (.aload_n 0, 1) := by decide +kernel
theorem dX3_init_21 : decode cX3_init 21 = .ok (.bipush 100, 2) := by decide +kernel
theorem dX3_init_23 : decode cX3_init 23 = .ok (.newarray .int, 2) := by decide +kernel
theorem dX3_init_25 : decode cX3_init 25 = .ok (.putfield 18, 3) := by decide +kernel
theorem dX3_init_28 : decode cX3_init 28 = .ok (.return_, 1) := by decide +kernel
theorem dX3_add_0 : decode cX3_add 0 = .ok (.aload_n 0, 1) := by decide +kernel
theorem dX3_add_1 : decode cX3_add 1 = .ok (.getfield 21, 3) := by decide +kernel
theorem dX3_add_4 : decode cX3_add 4 = .ok (.ifCond .lt 12, 3) := by decide +kernel
theorem dX3_add_7 : decode cX3_add 7 = .ok (.aload_n 0, 1) := by decide +kernel
theorem dX3_add_8 : decode cX3_add 8 = .ok (.getfield 21, 3) := by decide +kernel
theorem dX3_add_11 : decode cX3_add 11 = .ok (.bipush 100, 2) := by decide +kernel
theorem dX3_add_13 : decode cX3_add 13 = .ok (.if_icmp .lt 8, 3) := by decide +kernel
theorem dX3_add_16 : decode cX3_add 16 = .ok (.aload_n 0, 1) := by decide +kernel
theorem dX3_add_17 : decode cX3_add 17 = .ok (.iconst 0, 1) := by decide +kernel
theorem dX3_add_18 : decode cX3_add 18 = .ok (.putfield 21, 3) := by decide +kernel
theorem dX3_add_21 : decode cX3_add 21 = .ok (.aload_n 0, 1) := by decide +kernel
theorem dX3_add_22 : decode cX3_add 22 = .ok (.getfield 9, 3) := by decide +kernel
theorem dX3_add_25 : decode cX3_add 25 = .ok (.aload_n 0, 1) := by decide +kernel
theorem dX3_add_26 : decode cX3_add 26 = .ok (.getfield 21, 3) := by decide +kernel
theorem dX3_add_29 : decode cX3_add 29 = .ok (.iload_n 1, 1) := by decide +kernel
theorem dX3_add_30 : decode cX3_add 30 = .ok (.iastore, 1) := by decide +kernel
theorem dX3_add_31 : decode cX3_add 31 = .ok (.aload_n 0, 1) := by decide +kernel
theorem dX3_add_32 : decode cX3_add 32 = .ok (.getfield 15, 3) := by decide +kernel
theorem dX3_add_35 : decode cX3_add 35 = .ok (.aload_n 0, 1) := by decide +kernel
theorem dX3_add_36 : decode cX3_add 36 = .ok (.getfield 21, 3) := by decide +kernel
theorem dX3_add_39 : decode cX3_add 39 = .ok (.iload_n 2, 1) := by decide +kernel
theorem dX3_add_40 : decode cX3_add 40 = .ok (.iastore, 1) := by decide +kernel
theorem dX3_add_41 : decode cX3_add 41 = .ok (.aload_n 0, 1) := by decide +kernel
theorem dX3_add_42 : decode cX3_add 42 = .ok (.getfield 18, 3) := by decide +kernel
theorem dX3_add_45 : decode cX3_add 45 = .ok (.aload_n 0, 1) := by decide +kernel
theorem dX3_add_46 : decode cX3_add 46 = .ok (.getfield 21, 3) := by decide +kernel
theorem dX3_add_49 : decode cX3_add 49 = .ok (.iload_n 3, 1) := by decide +kernel
theorem dX3_add_50 : decode cX3_add 50 = .ok (.iastore, 1) := by decide +kernel
theorem dX3_add_51 : decode cX3_add 51 = .ok (.aload_n 0, 1) := by decide +kernel
theorem dX3_add_52 : decode cX3_add 52 = .ok (.dup, 1) := by decide +kernel
theorem dX3_add_53 : decode cX3_add 53 = .ok (.getfield 21, 3) := by decide +kernel
theorem dX3_add_56 : decode cX3_add 56 = .ok (.iconst 1, 1) := by decide +kernel
theorem dX3_add_57 : decode cX3_add 57 = .ok (.iadd, 1) := by decide +kernel
theorem dX3_add_58 : decode cX3_add 58 = .ok (.putfield 21, 3) := by decide +kernel
theorem dX3_add_61 : decode cX3_add 61 = .ok (.aload_n 0, 1) := by decide +kernel
theorem dX3_add_62 : decode cX3_add 62 = .ok (.aload_n 0, 1) := by decide +kernel
theorem dX3_add_63 : decode cX3_add 63 = .ok (.getfield 25, 3) := by decide +kernel
theorem dX3_add_66 : decode cX3_add 66 = .ok (.iconst 1, 1) := by decide +kernel
theorem dX3_add_67 : decode cX3_add 67 = .ok (.iadd, 1) := by decide +kernel
theorem dX3_add_68 : decode cX3_add 68 = .ok (.bipush 100, 2) := by decide +kernel
theorem dX3_add_70 : decode cX3_add 70 = .ok (.invokestatic 28, 3) := by decide +kernel
theorem dX3_add_73 : decode cX3_add 73 = .ok (.putfield 25, 3) := by decide +kernel
theorem dX3_add_76 : decode cX3_add 76 = .ok (.aload_n 0, 1) := by decide +kernel
theorem dX3_add_77 : decode cX3_add 77 = .ok (.dup, 1) := by decide +kernel
theorem dX3_add_78 : decode cX3_add 78 = .ok (.getfield 34, 3) := by decide +kernel
theorem dX3_add_81 : decode cX3_add 81 = .ok (.iconst 1, 1) := by decide +kernel
theorem dX3_add_82 : decode cX3_add 82 = .ok (.iadd, 1) := by decide +kernel
theorem dX3_add_83 : decode cX3_add 83 = .ok (.putfield 34, 3) := by decide +kernel
theorem dX3_add_86 : decode cX3_add 86 = .ok (.return_, 1) := by decide +kernel
theorem dX3_has_0 : decode cX3_has 0 = .ok (.iload_n 1, 1) := by decide +kernel
theorem dX3_has_1 : decode cX3_has 1 = .ok (.ifCond .lt 15, 3) := by decide +kernel
theorem dX3_has_4 : decode cX3_has 4 = .ok (.iload_n 1, 1) := by decide +kernel
theorem dX3_has_5 : decode cX3_has 5 = .ok (.aload_n 0, 1) := by decide +kernel
theorem dX3_has_6 : decode cX3_has 6 = .ok (.getfield 25, 3) := by decide +kernel
theorem dX3_has_9 : decode cX3_has 9 = .ok (.if_icmp .ge 7, 3) := by decide +kernel
theorem dX3_has_12 : decode cX3_has 12 = .ok (.iconst 1, 1) := by decide +kernel
theorem dX3_has_13 : decode cX3_has 13 = .ok (.goto 4, 3) := by decide +kernel
theorem dX3_has_16 : decode cX3_has 16 = .ok (.iconst 0, 1) := by decide +kernel
theorem dX3_has_17 : decode cX3_has 17 = .ok (.ireturn, 1) := by decide +kernel
theorem dX3_read_0 : decode cX3_read 0 = .ok (.aload_n 0, 1) := by decide +kernel
theorem dX3_read_1 : decode cX3_read 1 = .ok (.getfield 21, 3) := by decide +kernel
theorem dX3_read_4 : decode cX3_read 4 = .ok (.iconst 1, 1) := by decide +kernel
theorem dX3_read_5 : decode cX3_read 5 = .ok (.isub, 1) := by decide +kernel
theorem dX3_read_6 : decode cX3_read 6 = .ok (.iload_n 2, 1) := by decide +kernel
theorem dX3_read_7 : decode cX3_read 7 = .ok (.isub, 1) := by decide +kernel
theorem dX3_read_8 : decode cX3_read 8 = .ok (.istore_n 3, 1) := by decide +kernel
theorem dX3_read_9 : decode cX3_read 9 = .ok (.iload_n 3, 1) := by decide +kernel
theorem dX3_read_10 : decode cX3_read 10 = .ok (.ifCond .ge 6, 3) := by decide +kernel
theorem dX3_read_13 : decode cX3_read 13 = .ok (.iinc 3 100, 3) := by decide +kernel
theorem dX3_read_16 : decode cX3_read 16 = .ok (.iload_n 3, 1) := by decide +kernel
theorem dX3_read_17 : decode cX3_read 17 = .ok (.ifCond .lt 15, 3) := by decide +kernel
theorem dX3_read_20 : decode cX3_read 20 = .ok (.iload_n 3, 1) := by decide +kernel
theorem dX3_read_21 : decode cX3_read 21 = .ok (.aload_n 1, 1) := by decide +kernel
theorem dX3_read_22 : decode cX3_read 22 = .ok (.arraylength, 1) := by decide +kernel
theorem dX3_read_23 : decode cX3_read 23 = .ok (.if_icmp .ge 9, 3) := by decide +kernel
theorem dX3_read_26 : decode cX3_read 26 = .ok (.aload_n 1, 1) := by decide +kernel
theorem dX3_read_27 : decode cX3_read 27 = .ok (.iload_n 3, 1) := by decide +kernel
theorem dX3_read_28 : decode cX3_read 28 = .ok (.iaload, 1) := by decide +kernel
theorem dX3_read_29 : decode cX3_read 29 = .ok (.goto 4, 3) := by decide +kernel
theorem dX3_read_32 : decode cX3_read 32 = .ok (.iconst (-1), 1) := by decide +kernel
theorem dX3_read_33 : decode cX3_read 33 = .ok (.ireturn, 1) := by decide +kernel
theorem dX4_init_0 : decode cX4_init 0 = .ok (.aload_n 0, 1) := by decide +kernel
theorem dX4_init_1 : decode cX4_init 1 = .ok (.invokespecial 3, 3) := by decide +kernel
theorem dX4_init_4 : decode cX4_init 4 = .ok (.aload_n 0, 1) := by decide +kernel
theorem dX4_init_5 : decode cX4_init 5 = .ok (.bipush (-100), 2) := by decide +kernel
theorem dX4_init_7 : decode cX4_init 7 = .ok (.putfield 9, 3) := by decide +kernel
theorem dX4_init_10 : decode cX4_init 10 = .ok (.aload_n 0, 1) := by decide +kernel
theorem dX4_init_11 : decode cX4_init 11 = .ok (.bipush (-100), 2) := by decide +kernel
theorem dX4_init_13 : decode cX4_init 13 = .ok (.putfield 15, 3) := by decide +kernel
theorem dX4_init_16 : decode cX4_init 16 = .ok (.aload_n 0, 1) := by decide +kernel
theorem dX4_init_17 : decode cX4_init 17 = .ok (.bipush (-100), 2) := by decide +kernel
theorem dX4_init_19 : decode cX4_init 19 = .ok (.putfield 18, 3) := by decide +kernel
theorem dX4_init_22 : decode cX4_init 22 = .ok (.return_, 1) := by decide +kernel
theorem dX4_add_0 : decode cX4_add 0 = .ok (.aload_n 0, 1) := by decide +kernel
theorem dX4_add_1 : decode cX4_add 1 = .ok (.aload_n 0, 1) := by decide +kernel
theorem dX4_add_2 : decode cX4_add 2 = .ok (.getfield 15, 3) := by decide +kernel
theorem dX4_add_5 : decode cX4_add 5 = .ok (.putfield 18, 3) := by decide +kernel
theorem dX4_add_8 : decode cX4_add 8 = .ok (.aload_n 0, 1) := by decide +kernel
theorem dX4_add_9 : decode cX4_add 9 = .ok (.aload_n 0, 1) := by decide +kernel
theorem dX4_add_10 : decode cX4_add 10 = .ok (.getfield 9, 3) := by decide +kernel
theorem dX4_add_13 : decode cX4_add 13 = .ok (.putfield 15, 3) := by decide +kernel
theorem dX4_add_16 : decode cX4_add 16 = .ok (.aload_n 0, 1) := by decide +kernel
theorem dX4_add_17 : decode cX4_add 17 = .ok (.iload_n 1, 1) := by decide +kernel
theorem dX4_add_18 : decode cX4_add 18 = .ok (.putfield 9, 3) := by decide +kernel
theorem dX4_add_21 : decode cX4_add 21 = .ok (.return_, 1) := by decide +kernel
set_option maxRecDepth 20000 in
theorem ggX4_recent_X4_countOf : GoodIn wsX4_recent wsX4_countOf := goodIn_r _ [7] (by decide +kernel) (by decide +kernel)
set_option maxRecDepth 20000 in
theorem gX4_recent_X4_countOf : GoodIn wsX4_recent (va_wsS RX4 21 yX4_countOf wsX4_countOf) := goodIn_app (goodIn_of _ (by decide +kernel)) ggX4_recent_X4_countOf
theorem dX4_recent_0 : decode cX4_recent 0 = .ok (.aload_n 0, 1) := by decide +kernel
theorem dX4_recent_1 : decode cX4_recent 1 = .ok (.getfield 9, 3) := by decide +kernel
theorem dX4_recent_4 : decode cX4_recent 4 = .ok (.iload_n 1, 1) := by decide +kernel
theorem dX4_recent_5 : decode cX4_recent 5 = .ok (.invokestatic 21, 3) := by decide +kernel
theorem dX4_recent_8 : decode cX4_recent 8 = .ok (.aload_n 0, 1) := by decide +kernel
theorem dX4_recent_9 : decode cX4_recent 9 = .ok (.getfield 15, 3) := by decide +kernel
theorem dX4_recent_12 : decode cX4_recent 12 = .ok (.iload_n 1, 1) := by decide +kernel
theorem dX4_recent_13 : decode cX4_recent 13 = .ok (.invokestatic 21, 3) := by decide +kernel
theorem dX4_recent_16 : decode cX4_recent 16 = .ok (.iadd, 1) := by decide +kernel
theorem dX4_recent_17 : decode cX4_recent 17 = .ok (.aload_n 0, 1) := by decide +kernel
theorem dX4_recent_18 : decode cX4_recent 18 = .ok (.getfield 18, 3) := by decide +kernel
theorem dX4_recent_21 : decode cX4_recent 21 = .ok (.iload_n 1, 1) := by decide +kernel
theorem dX4_recent_22 : decode cX4_recent 22 = .ok (.invokestatic 21, 3) := by decide +kernel
theorem dX4_recent_25 : decode cX4_recent 25 = .ok (.iadd, 1) := by decide +kernel
theorem dX4_recent_26 : decode cX4_recent 26 = .ok (.ireturn, 1) := by decide +kernel
theorem dX4_countOf_0 : decode cX4_countOf 0 = .ok (.iload_n 1, 1) := by decide +kernel
theorem dX4_countOf_1 : decode cX4_countOf 1 = .ok (.iload_n 0, 1) := by decide +kernel
theorem dX4_countOf_2 : decode cX4_countOf 2 = .ok (.isub, 1) := by decide +kernel
theorem dX4_countOf_3 : decode cX4_countOf 3 = .ok (.bipush 100, 2) := by decide +kernel
theorem dX4_countOf_5 : decode cX4_countOf 5 = .ok (.if_icmp .ge 7, 3) := by decide +kernel
theorem dX4_countOf_8 : decode cX4_countOf 8 = .ok (.iconst 1, 1) := by decide +kernel
theorem dX4_countOf_9 : decode cX4_countOf 9 = .ok (.goto 4, 3) := by decide +kernel
theorem dX4_countOf_12 : decode cX4_countOf 12 = .ok (.iconst 0, 1) := by decide +kernel
theorem dX4_countOf_13 : decode cX4_countOf 13 = .ok (.ireturn, 1) := by decide +kernel
theorem dX5_init_0 : decode cX5_init 0 = .ok (.aload_n 0, 1) := by decide +kernel
theorem dX5_init_1 : decode cX5_init 1 = .ok (.invokespecial 1, 3) := by decide +kernel
theorem dX5_init_4 : decode cX5_init 4 = .ok (.aload_n 0, 1) := by decide +kernel
theorem dX5_init_5 : decode cX5_init 5 = .ok (.bipush 50, 2) := by decide +kernel
theorem dX5_init_7 : decode cX5_init 7 = .ok (.putfield 7, 3) := by decide +kernel
theorem dX5_init_10 : decode cX5_init 10 = .ok (.aload_n 0, 1) := by decide +kernel
theorem dX5_init_11 : decode cX5_init 11 = .ok (.bipush 60, 2) := by decide +kernel
theorem dX5_init_13 : decode cX5_init 13 = .ok (.putfield 13, 3) := by decide +kernel
theorem dX5_init_16 : decode cX5_init 16 = .ok (.aload_n 0, 1) := by decide +kernel
theorem dX5_init_17 : decode cX5_init 17 = .ok (.bipush 10, 2) := by decide +kernel
theorem dX5_init_19 : decode cX5_init 19 = .ok (.putfield 16, 3) := by decide +kernel
theorem dX5_init_22 : decode cX5_init 22 = .ok (.aload_n 0, 1) := by decide +kernel
theorem dX5_init_23 : decode cX5_init 23 = .ok (.iconst 5, 1) := by decide +kernel
theorem dX5_init_24 : decode cX5_init 24 = .ok (.putfield 19, 3) := by decide +kernel
theorem dX5_init_27 : decode cX5_init 27 = .ok (.aload_n 0, 1) := by decide +kernel
theorem dX5_init_28 : decode cX5_init 28 = .ok (.bipush 15, 2) := by decide +kernel
theorem dX5_init_30 : decode cX5_init 30 = .ok (.putfield 22, 3) := by decide +kernel
theorem dX5_init_33 : decode cX5_init 33 = .ok (.aload_n 0, 1) := by decide +kernel
theorem dX5_init_34 : decode cX5_init 34 = .ok (.iconst 2, 1) := by decide +kernel
theorem dX5_init_35 : decode cX5_init 35 = .ok (.putfield 25, 3) := by decide +kernel
theorem dX5_init_38 : decode cX5_init 38 = .ok (.aload_n 0, 1) := by decide +kernel
theorem dX5_init_39 : decode cX5_init 39 = .ok (.iconst 3, 1) := by decide +kernel
theorem dX5_init_40 : decode cX5_init 40 = .ok (.putfield 28, 3) := by decide +kernel
theorem dX5_init_43 : decode cX5_init 43 = .ok (.aload_n 0, 1) := by decide +kernel
theorem dX5_init_44 : decode cX5_init 44 = .ok (.bipush 30, 2) := by decide +kernel
theorem dX5_init_46 : decode cX5_init 46 = .ok (.putfield 31, 3) := by decide +kernel
theorem dX5_init_49 : decode cX5_init 49 = .ok (.aload_n 0, 1) := by decide +kernel
theorem dX5_init_50 : decode cX5_init 50 = .ok (.sipush 200, 3) := by decide +kernel
theorem dX5_init_53 : decode cX5_init 53 = .ok (.putfield 34, 3) := by decide +kernel
theorem dX5_init_56 : decode cX5_init 56 = .ok (.aload_n 0, 1) := by decide +kernel
theorem dX5_init_57 : decode cX5_init 57 = .ok (.bipush 20, 2) := by decide +kernel
theorem dX5_init_59 : decode cX5_init 59 = .ok (.putfield 37, 3) := by decide +kernel
theorem dX5_init_62 : decode cX5_init 62 = .ok (.aload_n 0, 1) := by decide +kernel
theorem dX5_init_63 : decode cX5_init 63 = .ok (.bipush 10, 2) := by decide +kernel
theorem dX5_init_65 : decode cX5_init 65 = .ok (.putfield 40, 3) := by decide +kernel
theorem dX5_init_68 : decode cX5_init 68 = .ok (.return_, 1) := by decide +kernel
set_option maxRecDepth 20000 in
theorem ggX6_init_X5_init : GoodIn wsX6_init wsX5_init := goodIn_r _ [25, 26, 2, 3, 27, 28, 29, 30, 31, 32, 33, 34, 35, 36, 37, 72, 73, 74, 75, 76, 77, 78, 79, 80, 81, 82] (by decide +kernel) (by decide +kernel)
set_option maxRecDepth 20000 in
theorem gX6_init_X5_init_n11 : GoodIn wsX6_init (wsX5_init) := ggX6_init_X5_init
set_option maxRecDepth 20000 in
theorem ggX6_init_X2_init : GoodIn wsX6_init wsX2_init := goodIn_r _ [40, 41, 2, 3, 42, 43, 44, 45, 46, 47, 48, 49, 50, 112, 113, 90, 91, 92, 93, 94, 95, 96, 97, 98, 99, 100] (by decide +kernel) (by decide +kernel)
set_option maxRecDepth 20000 in
theorem gX6_init_X2_init : GoodIn wsX6_init (wsX2_init) := ggX6_init_X2_init
set_option maxRecDepth 20000 in
theorem ggX6_init_X3_init : GoodIn wsX6_init wsX3_init := goodIn_r _ [52, 53, 2, 3, 54, 55, 56, 57, 101, 102, 103, 104, 105, 106] (by decide +kernel) (by decide +kernel)
set_option maxRecDepth 20000 in
theorem gX6_init_X3_init_n27 : GoodIn wsX6_init (wsX3_init) := ggX6_init_X3_init
set_option maxRecDepth 20000 in
theorem ggX6_init_X4_init : GoodIn wsX6_init wsX4_init := goodIn_r _ [59, 60, 2, 3, 61, 62, 63, 107, 108, 109] (by decide +kernel) (by decide +kernel)
set_option maxRecDepth 20000 in
theorem gX6_init_X4_init_n34 : GoodIn wsX6_init (wsX4_init) := ggX6_init_X4_init
set_option maxRecDepth 20000 in
theorem ggX6_init_X0_init : GoodIn wsX6_init wsX0_init := goodIn_r _ [66, 67, 2, 3, 68, 9, 10, 69, 70, 71, 39, 40, 41, 42, 43, 44, 45, 46, 47, 48, 49, 50, 90, 91, 92, 93, 94, 95, 96, 97, 98, 99, 100, 110, 111, 112, 113] (by decide +kernel) (by decide +kernel)
set_option maxRecDepth 20000 in
theorem gX6_init_X0_init : GoodIn wsX6_init (wsX0_init) := ggX6_init_X0_init
theorem dX6_init_0 : decode cX6_init 0 = .ok (.aload_n 0, 1) := by decide +kernel
theorem dX6_init_1 : decode cX6_init 1 = .ok (.invokespecial 3, 3) := by decide +kernel
theorem dX6_init_4 : decode cX6_init 4 = .ok (.aload_n 0, 1) := by decide +kernel
theorem dX6_init_5 : decode cX6_init 5 = .ok (.new 9, 3) := by decide +kernel
theorem dX6_init_8 : decode cX6_init 8 = .ok (.dup, 1) := by decide +kernel
theorem dX6_init_9 : decode cX6_init 9 = .ok (.invokespecial 11, 3) := by decide +kernel
theorem dX6_init_12 : decode cX6_init 12 = .ok (.putfield 12, 3) := by decide +kernel
theorem dX6_init_15 : decode cX6_init 15 = .ok (.aload_n 0, 1) := by decide +kernel
theorem dX6_init_16 : decode cX6_init 16 = .ok (.new 16, 3) := by decide +kernel
theorem dX6_init_19 : decode cX6_init 19 = .ok (.dup, 1) := by decide +kernel
theorem dX6_init_20 : decode cX6_init 20 = .ok (.aload_n 0, 1) := by decide +kernel
theorem dX6_init_21 : decode cX6_init 21 = .ok (.getfield 12, 3) := by decide +kernel
theorem dX6_init_24 : decode cX6_init 24 = .ok (.invokespecial 18, 3) := by decide +kernel
theorem dX6_init_27 : decode cX6_init 27 = .ok (.putfield 21, 3) := by decide +kernel
theorem dX6_init_30 : decode cX6_init 30 = .ok (.aload_n 0, 1) := by decide +kernel
theorem dX6_init_31 : decode cX6_init 31 = .ok (.new 25, 3) := by decide +kernel
theorem dX6_init_34 : decode cX6_init 34 = .ok (.dup, 1) := by decide +kernel
theorem dX6_init_35 : decode cX6_init 35 = .ok (.invokespecial 27, 3) := by decide +kernel
theorem dX6_init_38 : decode cX6_init 38 = .ok (.putfield 28, 3) := by decide +kernel
theorem dX6_init_41 : decode cX6_init 41 = .ok (.aload_n 0, 1) := by decide +kernel
theorem dX6_init_42 : decode cX6_init 42 = .ok (.new 32, 3) := by decide +kernel
theorem dX6_init_45 : decode cX6_init 45 = .ok (.dup, 1) := by decide +kernel
theorem dX6_init_46 : decode cX6_init 46 = .ok (.invokespecial 34, 3) := by decide +kernel
theorem dX6_init_49 : decode cX6_init 49 = .ok (.putfield 35, 3) := by decide +kernel
theorem dX6_init_52 : decode cX6_init 52 = .ok (.aload_n 0, 1) := by decide +kernel
theorem dX6_init_53 : decode cX6_init 53 = .ok (.new 39, 3) := by decide +kernel
theorem dX6_init_56 : decode cX6_init 56 = .ok (.dup, 1) := by decide +kernel
theorem dX6_init_57 : decode cX6_init 57 = .ok (.aload_n 0, 1) := by decide +kernel
theorem dX6_init_58 : decode cX6_init 58 = .ok (.getfield 12, 3) := by decide +kernel
theorem dX6_init_61 : decode cX6_init 61 = .ok (.new 39, 3) := by decide +kernel
theorem dX6_init_64 : decode cX6_init 64 = .ok (.dup, 1) := by decide +kernel
theorem dX6_init_65 : decode cX6_init 65 = .ok (.aload_n 0, 1) := by decide +kernel
theorem dX6_init_66 : decode cX6_init 66 = .ok (.getfield 12, 3) := by decide +kernel
theorem dX6_init_69 : decode cX6_init 69 = .ok (.new 39, 3) := by decide +kernel
theorem dX6_init_72 : decode cX6_init 72 = .ok (.dup, 1) := by decide +kernel
theorem dX6_init_73 : decode cX6_init 73 = .ok (.aload_n 0, 1) := by decide +kernel
theorem dX6_init_74 : decode cX6_init 74 = .ok (.getfield 12, 3) := by decide +kernel
theorem dX6_init_77 : decode cX6_init 77 = .ok (.aconst_null, 1) := by decide +kernel
theorem dX6_init_78 : decode cX6_init 78 = .ok (.invokespecial 41, 3) := by decide +kernel
theorem dX6_init_81 : decode cX6_init 81 = .ok (.invokespecial 41, 3) := by decide +kernel
theorem dX6_init_84 : decode cX6_init 84 = .ok (.invokespecial 41, 3) := by decide +kernel
theorem dX6_init_87 : decode cX6_init 87 = .ok (.putfield 44, 3) := by decide +kernel
theorem dX6_init_90 : decode cX6_init 90 = .ok (.return_, 1) := by decide +kernel
set_option maxRecDepth 20000 in
theorem ggX6_signal_X6_isOn : GoodIn wsX6_signal wsX6_isOn := goodIn_r _ [7] (by decide +kernel) (by decide +kernel)
set_option maxRecDepth 20000 in
theorem gX6_signal_X6_isOn : GoodIn wsX6_signal (va_wsS RX6 59 yX6_isOn wsX6_isOn) := goodIn_app (goodIn_of _ (by decide +kernel)) ggX6_signal_X6_isOn
theorem dX6_signal_0 : decode cX6_signal 0 = .ok (.iload_n 1, 1) := by decide +kernel
theorem dX6_signal_1 : decode cX6_signal 1 = .ok (.ifCond .lt 9, 3) := by decide +kernel
theorem dX6_signal_4 : decode cX6_signal 4 = .ok (.iload_n 1, 1) := by decide +kernel
theorem dX6_signal_5 : decode cX6_signal 5 = .ok (.bipush 6, 2) := by decide +kernel
theorem dX6_signal_7 : decode cX6_signal 7 = .ok (.if_icmp .lt 13, 3) := by decide +kernel
theorem dX6_signal_10 : decode cX6_signal 10 = .ok (.new 48, 3) := by decide +kernel
theorem dX6_signal_13 : decode cX6_signal 13 = .ok (.dup, 1) := by decide +kernel
theorem dX6_signal_14 : decode cX6_signal 14 = .ok (.ldc 50, 2) := by decide +kernel
theorem dX6_signal_16 : decode cX6_signal 16 = .ok (.invokespecial 52, 3) := by decide +kernel
theorem dX6_signal_19 : decode cX6_signal 19 = .ok (.athrow, 1) := by decide +kernel
theorem dX6_signal_20 : decode cX6_signal 20 = .ok (.iconst 1, 1) := by decide +kernel
theorem dX6_signal_21 : decode cX6_signal 21 = .ok (.iload_n 1, 1) := by decide +kernel
theorem dX6_signal_22 : decode cX6_signal 22 = .ok (.ishl, 1) := by decide +kernel
theorem dX6_signal_23 : decode cX6_signal 23 = .ok (.istore_n 3, 1) := by decide +kernel
theorem dX6_signal_24 : decode cX6_signal 24 = .ok (.aload_n 0, 1) := by decide +kernel
theorem dX6_signal_25 : decode cX6_signal 25 = .ok (.getfield 55, 3) := by decide +kernel
theorem dX6_signal_28 : decode cX6_signal 28 = .ok (.iload_n 3, 1) := by decide +kernel
theorem dX6_signal_29 : decode cX6_signal 29 = .ok (.invokestatic 59, 3) := by decide +kernel
theorem dX6_signal_32 : decode cX6_signal 32 = .ok (.istore 4, 2) := by decide +kernel
theorem dX6_signal_34 : decode cX6_signal 34 = .ok (.aload_n 0, 1) := by decide +kernel
theorem dX6_signal_35 : decode cX6_signal 35 = .ok (.iload_n 2, 1) := by decide +kernel
theorem dX6_signal_36 : decode cX6_signal 36 = .ok (.ifCond .eq 12, 3) := by decide +kernel
theorem dX6_signal_39 : decode cX6_signal 39 = .ok (.aload_n 0, 1) := by decide +kernel
theorem dX6_signal_40 : decode cX6_signal 40 = .ok (.getfield 55, 3) := by decide +kernel
theorem dX6_signal_43 : decode cX6_signal 43 = .ok (.iload_n 3, 1) := by decide +kernel
theorem dX6_signal_44 : decode cX6_signal 44 = .ok (.ior, 1) := by decide +kernel
theorem dX6_signal_45 : decode cX6_signal 45 = .ok (.goto 11, 3) := by decide +kernel
theorem dX6_signal_48 : decode cX6_signal 48 = .ok (.aload_n 0, 1) := by decide +kernel
theorem dX6_signal_49 : decode cX6_signal 49 = .ok (.getfield 55, 3) := by decide +kernel
theorem dX6_signal_52 : decode cX6_signal 52 = .ok (.iload_n 3, 1) := by decide +kernel
theorem dX6_signal_53 : decode cX6_signal 53 = .ok (.iconst (-1), 1) := by decide +kernel
theorem dX6_signal_54 : decode cX6_signal 54 = .ok (.ixor, 1) := by decide +kernel
theorem dX6_signal_55 : decode cX6_signal 55 = .ok (.iand, 1) := by decide +kernel
theorem dX6_signal_56 : decode cX6_signal 56 = .ok (.putfield 55, 3) := by decide +kernel
theorem dX6_signal_59 : decode cX6_signal 59 = .ok (.iload 4, 2) := by decide +kernel
theorem dX6_signal_61 : decode cX6_signal 61 = .ok (.ireturn, 1) := by decide +kernel
set_option maxRecDepth 20000 in
theorem ggX6_setRate_X6_isOutside : GoodIn wsX6_setRate wsX6_isOutside := goodIn_r _ [7] (by decide +kernel) (by decide +kernel)
set_option maxRecDepth 20000 in
theorem gX6_setRate_X6_isOutside : GoodIn wsX6_setRate (va_wsS RX6 63 yX6_isOutside wsX6_isOutside) := goodIn_app (goodIn_of _ (by decide +kernel)) ggX6_setRate_X6_isOutside
theorem dX6_setRate_0 : decode cX6_setRate 0 = .ok (.iload_n 1, 1) := by decide +kernel
theorem dX6_setRate_1 : decode cX6_setRate 1 = .ok (.bipush 20, 2) := by decide +kernel
theorem dX6_setRate_3 : decode cX6_setRate 3 = .ok (.bipush 100, 2) := by decide +kernel
theorem dX6_setRate_5 : decode cX6_setRate 5 = .ok (.invokestatic 63, 3) := by decide +kernel
theorem dX6_setRate_8 : decode cX6_setRate 8 = .ok (.ifCond .eq 13, 3) := by decide +kernel
theorem dX6_setRate_11 : decode cX6_setRate 11 = .ok (.new 67, 3) := by decide +kernel
theorem dX6_setRate_14 : decode cX6_setRate 14 = .ok (.dup, 1) := by decide +kernel
theorem dX6_setRate_15 : decode cX6_setRate 15 = .ok (.ldc 69, 2) := by decide +kernel
theorem dX6_setRate_17 : decode cX6_setRate 17 = .ok (.invokespecial 71, 3) := by decide +kernel
theorem dX6_setRate_20 : decode cX6_setRate 20 = .ok (.athrow, 1) := by decide +kernel
theorem dX6_setRate_21 : decode cX6_setRate 21 = .ok (.aload_n 0, 1) := by decide +kernel
theorem dX6_setRate_22 : decode cX6_setRate 22 = .ok (.getfield 12, 3) := by decide +kernel
theorem dX6_setRate_25 : decode cX6_setRate 25 = .ok (.getfield 72, 3) := by decide +kernel
theorem dX6_setRate_28 : decode cX6_setRate 28 = .ok (.istore_n 2, 1) := by decide +kernel
theorem dX6_setRate_29 : decode cX6_setRate 29 = .ok (.aload_n 0, 1) := by decide +kernel
theorem dX6_setRate_30 : decode cX6_setRate 30 = .ok (.getfield 12, 3) := by decide +kernel
theorem dX6_setRate_33 : decode cX6_setRate 33 = .ok (.iload_n 1, 1) := by decide +kernel
theorem dX6_setRate_34 : decode cX6_setRate 34 = .ok (.putfield 72, 3) := by decide +kernel
theorem dX6_setRate_37 : decode cX6_setRate 37 = .ok (.iload_n 2, 1) := by decide +kernel
theorem dX6_setRate_38 : decode cX6_setRate 38 = .ok (.ireturn, 1) := by decide +kernel
set_option maxRecDepth 20000 in
theorem ggX6_setTimes_X6_isOutside : GoodIn wsX6_setTimes wsX6_isOutside := goodIn_r _ [7] (by decide +kernel) (by decide +kernel)
set_option maxRecDepth 20000 in
theorem gX6_setTimes_X6_isOutside : GoodIn wsX6_setTimes (va_wsS RX6 63 yX6_isOutside wsX6_isOutside) := goodIn_app (goodIn_of _ (by decide +kernel)) ggX6_setTimes_X6_isOutside
set_option maxRecDepth 20000 in
theorem ggX6_setTimes_X6_refuseUnlessOff : GoodIn wsX6_setTimes wsX6_refuseUnlessOff := goodIn_ca (goodIn_r _ [11, 12, 13, 14, 15, 16, 17, 18, 19, 20, 21, 33, 34, 35, 36, 37, 38, 39, 40, 41, 42, 43] (by decide +kernel) (by decide +kernel)) (goodIn_sub (fun _ h => List.mem_cons_of_mem _ (List.mem_append_right _ h)) (by decide +kernel))
set_option maxRecDepth 20000 in
theorem gX6_setTimes_X6_refuseUnlessOff : GoodIn wsX6_setTimes (wsV RX6 77 RX6 yX6_refuseUnlessOff wsX6_refuseUnlessOff) := goodIn_app (goodIn_of _ (by decide +kernel)) ggX6_setTimes_X6_refuseUnlessOff
theorem dX6_setTimes_0 : decode cX6_setTimes 0 = .ok (.iload_n 1, 1) := by decide +kernel
theorem dX6_setTimes_1 : decode cX6_setTimes 1 = .ok (.iconst 1, 1) := by decide +kernel
theorem dX6_setTimes_2 : decode cX6_setTimes 2 = .ok (.sipush 200, 3) := by decide +kernel
theorem dX6_setTimes_5 : decode cX6_setTimes 5 = .ok (.invokestatic 63, 3) := by decide +kernel
theorem dX6_setTimes_8 : decode cX6_setTimes 8 = .ok (.ifCond .ne 34, 3) := by decide +kernel
theorem dX6_setTimes_11 : decode cX6_setTimes 11 = .ok (.iload_n 2, 1) := by decide +kernel
theorem dX6_setTimes_12 : decode cX6_setTimes 12 = .ok (.iconst 1, 1) := by decide +kernel
theorem dX6_setTimes_13 : decode cX6_setTimes 13 = .ok (.bipush 30, 2) := by decide +kernel
theorem dX6_setTimes_15 : decode cX6_setTimes 15 = .ok (.invokestatic 63, 3) := by decide +kernel
theorem dX6_setTimes_18 : decode cX6_setTimes 18 = .ok (.ifCond .ne 24, 3) := by decide +kernel
theorem dX6_setTimes_21 : decode cX6_setTimes 21 = .ok (.iload_n 3, 1) := by decide +kernel
theorem dX6_setTimes_22 : decode cX6_setTimes 22 = .ok (.iconst 1, 1) := by decide +kernel
theorem dX6_setTimes_23 : decode cX6_setTimes 23 = .ok (.bipush 30, 2) := by decide +kernel
theorem dX6_setTimes_25 : decode cX6_setTimes 25 = .ok (.invokestatic 63, 3) := by decide +kernel
theorem dX6_setTimes_28 : decode cX6_setTimes 28 = .ok (.ifCond .ne 14, 3) := by decide +kernel
theorem dX6_setTimes_31 : decode cX6_setTimes 31 = .ok (.iload 4, 2) := by decide +kernel
theorem dX6_setTimes_33 : decode cX6_setTimes 33 = .ok (.iconst 1, 1) := by decide +kernel
theorem dX6_setTimes_34 : decode cX6_setTimes 34 = .ok (.bipush 60, 2) := by decide +kernel
theorem dX6_setTimes_36 : decode cX6_setTimes 36 = .ok (.invokestatic 63, 3) := by decide +kernel
theorem dX6_setTimes_39 : decode cX6_setTimes 39 = .ok (.ifCond .eq 13, 3) := by decide +kernel
theorem dX6_setTimes_42 : decode cX6_setTimes 42 = .ok (.new 67, 3) := by decide +kernel
theorem dX6_setTimes_45 : decode cX6_setTimes 45 = .ok (.dup, 1) := by decide +kernel
theorem dX6_setTimes_46 : decode cX6_setTimes 46 = .ok (.ldc 75, 2) := by decide +kernel
theorem dX6_setTimes_48 : decode cX6_setTimes 48 = .ok (.invokespecial 71, 3) := by decide +kernel
theorem dX6_setTimes_51 : decode cX6_setTimes 51 = .ok (.athrow, 1) := by decide +kernel
theorem dX6_setTimes_52 : decode cX6_setTimes 52 = .ok (.aload_n 0, 1) := by decide +kernel
theorem dX6_setTimes_53 : decode cX6_setTimes 53 = .ok (.invokevirtual 77, 3) := by decide +kernel
theorem dX6_setTimes_56 : decode cX6_setTimes 56 = .ok (.aload_n 0, 1) := by decide +kernel
theorem dX6_setTimes_57 : decode cX6_setTimes 57 = .ok (.getfield 12, 3) := by decide +kernel
theorem dX6_setTimes_60 : decode cX6_setTimes 60 = .ok (.iload_n 1, 1) := by decide +kernel
theorem dX6_setTimes_61 : decode cX6_setTimes 61 = .ok (.putfield 80, 3) := by decide +kernel
theorem dX6_setTimes_64 : decode cX6_setTimes 64 = .ok (.aload_n 0, 1) := by decide +kernel
theorem dX6_setTimes_65 : decode cX6_setTimes 65 = .ok (.getfield 12, 3) := by decide +kernel
theorem dX6_setTimes_68 : decode cX6_setTimes 68 = .ok (.iload_n 2, 1) := by decide +kernel
theorem dX6_setTimes_69 : decode cX6_setTimes 69 = .ok (.putfield 83, 3) := by decide +kernel
theorem dX6_setTimes_72 : decode cX6_setTimes 72 = .ok (.aload_n 0, 1) := by decide +kernel
theorem dX6_setTimes_73 : decode cX6_setTimes 73 = .ok (.getfield 12, 3) := by decide +kernel
theorem dX6_setTimes_76 : decode cX6_setTimes 76 = .ok (.iload_n 3, 1) := by decide +kernel
theorem dX6_setTimes_77 : decode cX6_setTimes 77 = .ok (.putfield 86, 3) := by decide +kernel
theorem dX6_setTimes_80 : decode cX6_setTimes 80 = .ok (.aload_n 0, 1) := by decide +kernel
theorem dX6_setTimes_81 : decode cX6_setTimes 81 = .ok (.getfield 12, 3) := by decide +kernel
theorem dX6_setTimes_84 : decode cX6_setTimes 84 = .ok (.iload 4, 2) := by decide +kernel
theorem dX6_setTimes_86 : decode cX6_setTimes 86 = .ok (.putfield 89, 3) := by decide +kernel
theorem dX6_setTimes_89 : decode cX6_setTimes 89 = .ok (.return_, 1) := by decide +kernel
set_option maxRecDepth 20000 in
theorem ggX6_setEyes_X6_isOutside : GoodIn wsX6_setEyes wsX6_isOutside := goodIn_r _ [7] (by decide +kernel) (by decide +kernel)
set_option maxRecDepth 20000 in
theorem gX6_setEyes_X6_isOutside : GoodIn wsX6_setEyes (va_wsS RX6 63 yX6_isOutside wsX6_isOutside) := goodIn_app (goodIn_of _ (by decide +kernel)) ggX6_setEyes_X6_isOutside
set_option maxRecDepth 20000 in
theorem ggX6_setEyes_X6_refuseUnlessOff : GoodIn wsX6_setEyes wsX6_refuseUnlessOff := goodIn_ca (goodIn_r _ [11, 12, 13, 14, 15, 16, 17, 18, 19, 20, 21, 33, 34, 35, 36, 37, 38, 39, 40, 41, 42, 43] (by decide +kernel) (by decide +kernel)) (goodIn_sub (fun _ h => List.mem_cons_of_mem _ (List.mem_append_right _ h)) (by decide +kernel))
set_option maxRecDepth 20000 in
theorem gX6_setEyes_X6_refuseUnlessOff : GoodIn wsX6_setEyes (wsV RX6 77 RX6 yX6_refuseUnlessOff wsX6_refuseUnlessOff) := goodIn_app (goodIn_of _ (by decide +kernel)) ggX6_setEyes_X6_refuseUnlessOff
theorem dX6_setEyes_0 : decode cX6_setEyes 0 = .ok (.iload_n 1, 1) := by decide +kernel
theorem dX6_setEyes_1 : decode cX6_setEyes 1 = .ok (.iconst 1, 1) := by decide +kernel
theorem dX6_setEyes_2 : decode cX6_setEyes 2 = .ok (.iconst 5, 1) := by decide +kernel
theorem dX6_setEyes_3 : decode cX6_setEyes 3 = .ok (.invokestatic 63, 3) := by decide +kernel
theorem dX6_setEyes_6 : decode cX6_setEyes 6 = .ok (.ifCond .ne 22, 3) := by decide +kernel
theorem dX6_setEyes_9 : decode cX6_setEyes 9 = .ok (.iload_n 2, 1) := by decide +kernel
theorem dX6_setEyes_10 : decode cX6_setEyes 10 = .ok (.iconst 1, 1) := by decide +kernel
theorem dX6_setEyes_11 : decode cX6_setEyes 11 = .ok (.iconst 5, 1) := by decide +kernel
theorem dX6_setEyes_12 : decode cX6_setEyes 12 = .ok (.invokestatic 63, 3) := by decide +kernel
theorem dX6_setEyes_15 : decode cX6_setEyes 15 = .ok (.ifCond .ne 13, 3) := by decide +kernel
theorem dX6_setEyes_18 : decode cX6_setEyes 18 = .ok (.iload_n 3, 1) := by decide +kernel
theorem dX6_setEyes_19 : decode cX6_setEyes 19 = .ok (.iconst 5, 1) := by decide +kernel
theorem dX6_setEyes_20 : decode cX6_setEyes 20 = .ok (.bipush 100, 2) := by decide +kernel
theorem dX6_setEyes_22 : decode cX6_setEyes 22 = .ok (.invokestatic 63, 3) := by decide +kernel
theorem dX6_setEyes_25 : decode cX6_setEyes 25 = .ok (.ifCond .eq 13, 3) := by decide +kernel
theorem dX6_setEyes_28 : decode cX6_setEyes 28 = .ok (.new 67, 3) := by decide +kernel
theorem dX6_setEyes_31 : decode cX6_setEyes 31 = .ok (.dup, 1) := by decide +kernel
theorem dX6_setEyes_32 : decode cX6_setEyes 32 = .ok (.ldc 92, 2) := by decide +kernel
theorem dX6_setEyes_34 : decode cX6_setEyes 34 = .ok (.invokespecial 71, 3) := by decide +kernel
theorem dX6_setEyes_37 : decode cX6_setEyes 37 = .ok (.athrow, 1) := by decide +kernel
theorem dX6_setEyes_38 : decode cX6_setEyes 38 = .ok (.aload_n 0, 1) := by decide +kernel
theorem dX6_setEyes_39 : decode cX6_setEyes 39 = .ok (.invokevirtual 77, 3) := by decide +kernel
theorem dX6_setEyes_42 : decode cX6_setEyes 42 = .ok (.aload_n 0, 1) := by decide +kernel
theorem dX6_setEyes_43 : decode cX6_setEyes 43 = .ok (.getfield 12, 3) := by decide +kernel
theorem dX6_setEyes_46 : decode cX6_setEyes 46 = .ok (.iload_n 1, 1) := by decide +kernel
theorem dX6_setEyes_47 : decode cX6_setEyes 47 = .ok (.putfield 94, 3) := by decide +kernel
theorem dX6_setEyes_50 : decode cX6_setEyes 50 = .ok (.aload_n 0, 1) := by decide +kernel
theorem dX6_setEyes_51 : decode cX6_setEyes 51 = .ok (.getfield 12, 3) := by decide +kernel
theorem dX6_setEyes_54 : decode cX6_setEyes 54 = .ok (.iload_n 2, 1) := by decide +kernel
theorem dX6_setEyes_55 : decode cX6_setEyes 55 = .ok (.putfield 97, 3) := by decide +kernel
theorem dX6_setEyes_58 : decode cX6_setEyes 58 = .ok (.aload_n 0, 1) := by decide +kernel
theorem dX6_setEyes_59 : decode cX6_setEyes 59 = .ok (.getfield 12, 3) := by decide +kernel
theorem dX6_setEyes_62 : decode cX6_setEyes 62 = .ok (.iload_n 3, 1) := by decide +kernel
theorem dX6_setEyes_63 : decode cX6_setEyes 63 = .ok (.putfield 100, 3) := by decide +kernel
theorem dX6_setEyes_66 : decode cX6_setEyes 66 = .ok (.return_, 1) := by decide +kernel
set_option maxRecDepth 20000 in
theorem ggX6_setFurnace_X6_isOutside : GoodIn wsX6_setFurnace wsX6_isOutside := goodIn_r _ [7] (by decide +kernel) (by decide +kernel)
set_option maxRecDepth 20000 in
theorem gX6_setFurnace_X6_isOutside : GoodIn wsX6_setFurnace (va_wsS RX6 63 yX6_isOutside wsX6_isOutside) := goodIn_app (goodIn_of _ (by decide +kernel)) ggX6_setFurnace_X6_isOutside
set_option maxRecDepth 20000 in
theorem ggX6_setFurnace_X6_refuseUnlessOff : GoodIn wsX6_setFurnace wsX6_refuseUnlessOff := goodIn_ca (goodIn_r _ [11, 12, 13, 14, 15, 16, 17, 18, 19, 20, 21, 33, 34, 35, 36, 37, 38, 39, 40, 41, 42, 43] (by decide +kernel) (by decide +kernel)) (goodIn_sub (fun _ h => List.mem_cons_of_mem _ (List.mem_append_right _ h)) (by decide +kernel))
set_option maxRecDepth 20000 in
theorem gX6_setFurnace_X6_refuseUnlessOff : GoodIn wsX6_setFurnace (wsV RX6 77 RX6 yX6_refuseUnlessOff wsX6_refuseUnlessOff) := goodIn_app (goodIn_of _ (by decide +kernel)) ggX6_setFurnace_X6_refuseUnlessOff
theorem dX6_setFurnace_0 : decode cX6_setFurnace 0 = .ok (.iload_n 1, 1) := by decide +kernel
theorem dX6_setFurnace_1 : decode cX6_setFurnace 1 = .ok (.iconst 1, 1) := by decide +kernel
theorem dX6_setFurnace_2 : decode cX6_setFurnace 2 = .ok (.sipush 500, 3) := by decide +kernel
theorem dX6_setFurnace_5 : decode cX6_setFurnace 5 = .ok (.invokestatic 63, 3) := by decide +kernel
theorem dX6_setFurnace_8 : decode cX6_setFurnace 8 = .ok (.ifCond .ne 23, 3) := by decide +kernel
theorem dX6_setFurnace_11 : decode cX6_setFurnace 11 = .ok (.iload_n 2, 1) := by decide +kernel
theorem dX6_setFurnace_12 : decode cX6_setFurnace 12 = .ok (.iconst 1, 1) := by decide +kernel
theorem dX6_setFurnace_13 : decode cX6_setFurnace 13 = .ok (.bipush 50, 2) := by decide +kernel
theorem dX6_setFurnace_15 : decode cX6_setFurnace 15 = .ok (.invokestatic 63, 3) := by decide +kernel
theorem dX6_setFurnace_18 : decode cX6_setFurnace 18 = .ok (.ifCond .ne 13, 3) := by decide +kernel
theorem dX6_setFurnace_21 : decode cX6_setFurnace 21 = .ok (.iload_n 3, 1) := by decide +kernel
theorem dX6_setFurnace_22 : decode cX6_setFurnace 22 = .ok (.iconst 1, 1) := by decide +kernel
theorem dX6_setFurnace_23 : decode cX6_setFurnace 23 = .ok (.bipush 50, 2) := by decide +kernel
theorem dX6_setFurnace_25 : decode cX6_setFurnace 25 = .ok (.invokestatic 63, 3) := by decide +kernel
theorem dX6_setFurnace_28 : decode cX6_setFurnace 28 = .ok (.ifCond .eq 13, 3) := by decide +kernel
theorem dX6_setFurnace_31 : decode cX6_setFurnace 31 = .ok (.new 67, 3) := by decide +kernel
theorem dX6_setFurnace_34 : decode cX6_setFurnace 34 = .ok (.dup, 1) := by decide +kernel
theorem dX6_setFurnace_35 : decode cX6_setFurnace 35 = .ok (.ldc 103, 2) := by decide +kernel
theorem dX6_setFurnace_37 : decode cX6_setFurnace 37 = .ok (.invokespecial 71, 3) := by decide +kernel
theorem dX6_setFurnace_40 : decode cX6_setFurnace 40 = .ok (.athrow, 1) := by decide +kernel
theorem dX6_setFurnace_41 : decode cX6_setFurnace 41 = .ok (.aload_n 0, 1) := by decide +kernel
theorem dX6_setFurnace_42 : decode cX6_setFurnace 42 = .ok (.invokevirtual 77, 3) := by decide +kernel
theorem dX6_setFurnace_45 : decode cX6_setFurnace 45 = .ok (.aload_n 0, 1) := by decide +kernel
theorem dX6_setFurnace_46 : decode cX6_setFurnace 46 = .ok (.getfield 12, 3) := by decide +kernel
theorem dX6_setFurnace_49 : decode cX6_setFurnace 49 = .ok (.iload_n 1, 1) := by decide +kernel
theorem dX6_setFurnace_50 : decode cX6_setFurnace 50 = .ok (.putfield 105, 3) := by decide +kernel
theorem dX6_setFurnace_53 : decode cX6_setFurnace 53 = .ok (.aload_n 0, 1) := by decide +kernel
theorem dX6_setFurnace_54 : decode cX6_setFurnace 54 = .ok (.getfield 12, 3) := by decide +kernel
theorem dX6_setFurnace_57 : decode cX6_setFurnace 57 = .ok (.iload_n 2, 1) := by decide +kernel
theorem dX6_setFurnace_58 : decode cX6_setFurnace 58 = .ok (.putfield 108, 3) := by decide +kernel
theorem dX6_setFurnace_61 : decode cX6_setFurnace 61 = .ok (.aload_n 0, 1) := by decide +kernel
theorem dX6_setFurnace_62 : decode cX6_setFurnace 62 = .ok (.getfield 12, 3) := by decide +kernel
theorem dX6_setFurnace_65 : decode cX6_setFurnace 65 = .ok (.iload_n 3, 1) := by decide +kernel
theorem dX6_setFurnace_66 : decode cX6_setFurnace 66 = .ok (.putfield 111, 3) := by decide +kernel
theorem dX6_setFurnace_69 : decode cX6_setFurnace 69 = .ok (.return_, 1) := by decide +kernel
set_option maxRecDepth 20000 in
theorem ggX6_poll_X6_isOutside : GoodIn wsX6_poll wsX6_isOutside := goodIn_r _ [9] (by decide +kernel) (by decide +kernel)
set_option maxRecDepth 20000 in
theorem gX6_poll_X6_isOutside : GoodIn wsX6_poll (va_wsS RX6 63 yX6_isOutside wsX6_isOutside) := goodIn_app (goodIn_of _ (by decide +kernel)) ggX6_poll_X6_isOutside
set_option maxRecDepth 20000 in
theorem ggX6_poll_X2_tick : GoodIn wsX6_poll wsX2_tick := goodIn_r _ [14, 15, 16, 17, 18, 19, 20, 13, 21, 22, 23, 24, 25, 26, 27, 8, 28, 29, 30, 31, 32, 33, 34, 35, 36, 37, 38, 39, 40, 41, 42, 43, 44, 45, 46, 47, 48, 49, 50, 51, 52, 53, 54, 55, 56, 57, 58, 59, 60, 61, 62, 63, 64, 65, 66, 67, 68, 69, 70, 71, 72, 73, 74, 75, 76, 77, 78, 79, 80, 81, 82, 83, 84, 85, 86, 87, 88, 89, 90, 91, 92, 93, 94, 95, 96, 97, 98, 99, 100, 101, 102, 103, 104, 105, 106, 107, 108, 109, 110, 111, 112, 113, 114, 115, 116, 117, 118, 119, 120, 145, 146, 147, 148, 149, 150, 151, 152, 153, 154, 155, 156, 157, 158, 159, 160, 161, 162, 163, 164, 165, 166, 167, 168] (by decide +kernel) (by decide +kernel)
set_option maxRecDepth 20000 in
theorem gX6_poll_X2_tick : GoodIn wsX6_poll (wsV RX6 119 RX2 yX2_tick wsX2_tick) := goodIn_app (goodIn_of _ (by decide +kernel)) ggX6_poll_X2_tick
set_option maxRecDepth 20000 in
theorem ggX6_poll_X6_recordChange : GoodIn wsX6_poll wsX6_recordChange := goodIn_r _ [124, 125, 3, 4, 126, 127, 128, 129, 130, 131, 132, 133, 134, 135, 136, 60, 53, 61, 137, 138, 139, 140, 141, 142, 143, 144, 145, 146, 147, 148, 149, 150, 151, 152, 153, 154, 155, 169, 170, 171, 172, 173, 174] (by decide +kernel) (by decide +kernel)
set_option maxRecDepth 20000 in
theorem gX6_poll_X6_recordChange : GoodIn wsX6_poll (wsV RX6 123 RX6 yX6_recordChange wsX6_recordChange) := goodIn_app (goodIn_of _ (by decide +kernel)) ggX6_poll_X6_recordChange
theorem dX6_poll_0 : decode cX6_poll 0 = .ok (.iload_n 1, 1) := by decide +kernel
theorem dX6_poll_1 : decode cX6_poll 1 = .ok (.iconst 1, 1) := by decide +kernel
theorem dX6_poll_2 : decode cX6_poll 2 = .ok (.sipush 200, 3) := by decide +kernel
theorem dX6_poll_5 : decode cX6_poll 5 = .ok (.invokestatic 63, 3) := by decide +kernel
theorem dX6_poll_8 : decode cX6_poll 8 = .ok (.ifCond .eq 13, 3) := by decide +kernel
theorem dX6_poll_11 : decode cX6_poll 11 = .ok (.new 67, 3) := by decide +kernel
theorem dX6_poll_14 : decode cX6_poll 14 = .ok (.dup, 1) := by decide +kernel
theorem dX6_poll_15 : decode cX6_poll 15 = .ok (.ldc 114, 2) := by decide +kernel
theorem dX6_poll_17 : decode cX6_poll 17 = .ok (.invokespecial 71, 3) := by decide +kernel
theorem dX6_poll_20 : decode cX6_poll 20 = .ok (.athrow, 1) := by decide +kernel
theorem dX6_poll_21 : decode cX6_poll 21 = .ok (.iconst 0, 1) := by decide +kernel
theorem dX6_poll_22 : decode cX6_poll 22 = .ok (.istore_n 2, 1) := by decide +kernel
theorem dX6_poll_23 : decode cX6_poll 23 = .ok (.iconst 0, 1) := by decide +kernel
theorem dX6_poll_24 : decode cX6_poll 24 = .ok (.istore_n 3, 1) := by decide +kernel
theorem dX6_poll_25 : decode cX6_poll 25 = .ok (.iload_n 3, 1) := by decide +kernel
theorem dX6_poll_26 : decode cX6_poll 26 = .ok (.iload_n 1, 1) := by decide +kernel
theorem dX6_poll_27 : decode cX6_poll 27 = .ok (.if_icmp .ge 40, 3) := by decide +kernel
theorem dX6_poll_30 : decode cX6_poll 30 = .ok (.aload_n 0, 1) := by decide +kernel
theorem dX6_poll_31 : decode cX6_poll 31 = .ok (.dup, 1) := by decide +kernel
theorem dX6_poll_32 : decode cX6_poll 32 = .ok (.getfield 116, 3) := by decide +kernel
theorem dX6_poll_35 : decode cX6_poll 35 = .ok (.iconst 1, 1) := by decide +kernel
theorem dX6_poll_36 : decode cX6_poll 36 = .ok (.iadd, 1) := by decide +kernel
theorem dX6_poll_37 : decode cX6_poll 37 = .ok (.putfield 116, 3) := by decide +kernel
theorem dX6_poll_40 : decode cX6_poll 40 = .ok (.aload_n 0, 1) := by decide +kernel
theorem dX6_poll_41 : decode cX6_poll 41 = .ok (.getfield 21, 3) := by decide +kernel
theorem dX6_poll_44 : decode cX6_poll 44 = .ok (.aload_n 0, 1) := by decide +kernel
theorem dX6_poll_45 : decode cX6_poll 45 = .ok (.getfield 55, 3) := by decide +kernel
theorem dX6_poll_48 : decode cX6_poll 48 = .ok (.invokevirtual 119, 3) := by decide +kernel
theorem dX6_poll_51 : decode cX6_poll 51 = .ok (.ifCond .eq 10, 3) := by decide +kernel
theorem dX6_poll_54 : decode cX6_poll 54 = .ok (.aload_n 0, 1) := by decide +kernel
theorem dX6_poll_55 : decode cX6_poll 55 = .ok (.invokevirtual 123, 3) := by decide +kernel
theorem dX6_poll_58 : decode cX6_poll 58 = .ok (.iinc 2 1, 3) := by decide +kernel
theorem dX6_poll_61 : decode cX6_poll 61 = .ok (.iinc 3 1, 3) := by decide +kernel
theorem dX6_poll_64 : decode cX6_poll 64 = .ok (.goto (-39), 3) := by decide +kernel
theorem dX6_poll_67 : decode cX6_poll 67 = .ok (.iload_n 2, 1) := by decide +kernel
theorem dX6_poll_68 : decode cX6_poll 68 = .ok (.ireturn, 1) := by decide +kernel
set_option maxRecDepth 20000 in
theorem ggX6_reset_X2_isLockedOut : GoodIn wsX6_reset wsX2_isLockedOut := goodIn_r _ [10, 11, 73, 74, 75, 76, 77, 78, 79, 80, 81, 82, 83] (by decide +kernel) (by decide +kernel)
set_option maxRecDepth 20000 in
theorem gX6_reset_X2_isLockedOut : GoodIn wsX6_reset (wsV RX6 126 RX2 yX2_isLockedOut wsX2_isLockedOut) := goodIn_app (goodIn_of _ (by decide +kernel)) ggX6_reset_X2_isLockedOut
set_option maxRecDepth 20000 in
theorem ggX6_reset_X2_hasFlame : GoodIn wsX6_reset wsX2_hasFlame := goodIn_r _ [15, 16, 17, 73, 74, 75, 76, 77, 78, 79, 80, 81, 82, 83, 84, 85] (by decide +kernel) (by decide +kernel)
set_option maxRecDepth 20000 in
theorem gX6_reset_X2_hasFlame : GoodIn wsX6_reset (wsV RX6 130 RX2 yX2_hasFlame wsX2_hasFlame) := goodIn_app (goodIn_of _ (by decide +kernel)) ggX6_reset_X2_hasFlame
set_option maxRecDepth 20000 in
theorem ggX6_reset_X4_recent : GoodIn wsX6_reset wsX4_recent := goodIn_r _ [22, 23, 24, 25, 26, 27, 21, 28, 86, 87, 88] (by decide +kernel) (by decide +kernel)
set_option maxRecDepth 20000 in
theorem gX6_reset_X4_recent : GoodIn wsX6_reset (wsV RX6 141 RX4 yX4_recent wsX4_recent) := goodIn_app (goodIn_of _ (by decide +kernel)) ggX6_reset_X4_recent
set_option maxRecDepth 20000 in
theorem ggX6_reset_X2_begin : GoodIn wsX6_reset wsX2_begin := goodIn_r _ [32, 11, 33, 34, 35, 36, 37, 38, 39, 9, 40, 73, 74, 75, 76, 77, 78, 79, 80, 81, 82, 83] (by decide +kernel) (by decide +kernel)
set_option maxRecDepth 20000 in
theorem gX6_reset_X2_begin : GoodIn wsX6_reset (wsV RX6 147 RX2 yX2_begin wsX2_begin) := goodIn_app (goodIn_of _ (by decide +kernel)) ggX6_reset_X2_begin
set_option maxRecDepth 20000 in
theorem ggX6_reset_X6_recordChange : GoodIn wsX6_reset wsX6_recordChange := goodIn_r _ [45, 46, 5, 3, 47, 48, 49, 50, 51, 52, 53, 54, 55, 56, 57, 58, 59, 60, 61, 66, 67, 68, 69, 70, 71, 72, 73, 74, 75, 76, 77, 78, 79, 80, 81, 82, 83, 89, 90, 91, 92, 93, 94] (by decide +kernel) (by decide +kernel)
set_option maxRecDepth 20000 in
theorem gX6_reset_X6_recordChange : GoodIn wsX6_reset (wsV RX6 123 RX6 yX6_recordChange wsX6_recordChange) := goodIn_app (goodIn_of _ (by decide +kernel)) ggX6_reset_X6_recordChange
set_option maxRecDepth 20000 in
theorem ggX6_reset_X4_add : GoodIn wsX6_reset wsX4_add := goodIn_r _ [65, 24, 25, 23, 86, 87, 88] (by decide +kernel) (by decide +kernel)
set_option maxRecDepth 20000 in
theorem gX6_reset_X4_add : GoodIn wsX6_reset (wsV RX6 150 RX4 yX4_add wsX4_add) := goodIn_app (goodIn_of _ (by decide +kernel)) ggX6_reset_X4_add
theorem dX6_reset_0 : decode cX6_reset 0 = .ok (.aload_n 0, 1) := by decide +kernel
theorem dX6_reset_1 : decode cX6_reset 1 = .ok (.getfield 21, 3) := by decide +kernel
theorem dX6_reset_4 : decode cX6_reset 4 = .ok (.invokevirtual 126, 3) := by decide +kernel
theorem dX6_reset_7 : decode cX6_reset 7 = .ok (.ifCond .eq 13, 3) := by decide +kernel
theorem dX6_reset_10 : decode cX6_reset 10 = .ok (.aload_n 0, 1) := by decide +kernel
theorem dX6_reset_11 : decode cX6_reset 11 = .ok (.getfield 21, 3) := by decide +kernel
theorem dX6_reset_14 : decode cX6_reset 14 = .ok (.invokevirtual 130, 3) := by decide +kernel
theorem dX6_reset_17 : decode cX6_reset 17 = .ok (.ifCond .eq 13, 3) := by decide +kernel
theorem dX6_reset_20 : decode cX6_reset 20 = .ok (.new 133, 3) := by decide +kernel
theorem dX6_reset_23 : decode cX6_reset 23 = .ok (.dup, 1) := by decide +kernel
theorem dX6_reset_24 : decode cX6_reset 24 = .ok (.ldc 135, 2) := by decide +kernel
theorem dX6_reset_26 : decode cX6_reset 26 = .ok (.invokespecial 137, 3) := by decide +kernel
theorem dX6_reset_29 : decode cX6_reset 29 = .ok (.athrow, 1) := by decide +kernel
theorem dX6_reset_30 : decode cX6_reset 30 = .ok (.aload_n 0, 1) := by decide +kernel
theorem dX6_reset_31 : decode cX6_reset 31 = .ok (.getfield 21, 3) := by decide +kernel
theorem dX6_reset_34 : decode cX6_reset 34 = .ok (.getfield 138, 3) := by decide +kernel
theorem dX6_reset_37 : decode cX6_reset 37 = .ok (.iconst 5, 1) := by decide +kernel
theorem dX6_reset_38 : decode cX6_reset 38 = .ok (.if_icmp .lt 18, 3) := by decide +kernel
theorem dX6_reset_41 : decode cX6_reset 41 = .ok (.aload_n 0, 1) := by decide +kernel
theorem dX6_reset_42 : decode cX6_reset 42 = .ok (.getfield 35, 3) := by decide +kernel
theorem dX6_reset_45 : decode cX6_reset 45 = .ok (.aload_n 0, 1) := by decide +kernel
theorem dX6_reset_46 : decode cX6_reset 46 = .ok (.getfield 116, 3) := by decide +kernel
theorem dX6_reset_49 : decode cX6_reset 49 = .ok (.invokevirtual 141, 3) := by decide +kernel
theorem dX6_reset_52 : decode cX6_reset 52 = .ok (.iconst 3, 1) := by decide +kernel
theorem dX6_reset_53 : decode cX6_reset 53 = .ok (.if_icmp .lt 13, 3) := by decide +kernel
theorem dX6_reset_56 : decode cX6_reset 56 = .ok (.new 133, 3) := by decide +kernel
theorem dX6_reset_59 : decode cX6_reset 59 = .ok (.dup, 1) := by decide +kernel
theorem dX6_reset_60 : decode cX6_reset 60 = .ok (.ldc 145, 2) := by decide +kernel
theorem dX6_reset_62 : decode cX6_reset 62 = .ok (.invokespecial 137, 3) := by decide +kernel
theorem dX6_reset_65 : decode cX6_reset 65 = .ok (.athrow, 1) := by decide +kernel
theorem dX6_reset_66 : decode cX6_reset 66 = .ok (.aload_n 0, 1) := by decide +kernel
theorem dX6_reset_67 : decode cX6_reset 67 = .ok (.getfield 21, 3) := by decide +kernel
theorem dX6_reset_70 : decode cX6_reset 70 = .ok (.iconst 0, 1) := by decide +kernel
theorem dX6_reset_71 : decode cX6_reset 71 = .ok (.iconst 0, 1) := by decide +kernel
theorem dX6_reset_72 : decode cX6_reset 72 = .ok (.invokevirtual 147, 3) := by decide +kernel
theorem dX6_reset_75 : decode cX6_reset 75 = .ok (.pop, 1) := by decide +kernel
theorem dX6_reset_76 : decode cX6_reset 76 = .ok (.aload_n 0, 1) := by decide +kernel
theorem dX6_reset_77 : decode cX6_reset 77 = .ok (.invokevirtual 123, 3) := by decide +kernel
theorem dX6_reset_80 : decode cX6_reset 80 = .ok (.aload_n 0, 1) := by decide +kernel
theorem dX6_reset_81 : decode cX6_reset 81 = .ok (.getfield 35, 3) := by decide +kernel
theorem dX6_reset_84 : decode cX6_reset 84 = .ok (.aload_n 0, 1) := by decide +kernel
theorem dX6_reset_85 : decode cX6_reset 85 = .ok (.getfield 116, 3) := by decide +kernel
theorem dX6_reset_88 : decode cX6_reset 88 = .ok (.invokevirtual 150, 3) := by decide +kernel
theorem dX6_reset_91 : decode cX6_reset 91 = .ok (.aload_n 0, 1) := by decide +kernel
theorem dX6_reset_92 : decode cX6_reset 92 = .ok (.getfield 35, 3) := by decide +kernel
theorem dX6_reset_95 : decode cX6_reset 95 = .ok (.aload_n 0, 1) := by decide +kernel
theorem dX6_reset_96 : decode cX6_reset 96 = .ok (.getfield 116, 3) := by decide +kernel
theorem dX6_reset_99 : decode cX6_reset 99 = .ok (.invokevirtual 141, 3) := by decide +kernel
theorem dX6_reset_102 : decode cX6_reset 102 = .ok (.ireturn, 1) := by decide +kernel
theorem dX6_ticks_0 : decode cX6_ticks 0 = .ok (.aload_n 0, 1) := by decide +kernel
theorem dX6_ticks_1 : decode cX6_ticks 1 = .ok (.getfield 116, 3) := by decide +kernel
theorem dX6_ticks_4 : decode cX6_ticks 4 = .ok (.ireturn, 1) := by decide +kernel
theorem dX6_state_0 : decode cX6_state 0 = .ok (.aload_n 0, 1) := by decide +kernel
theorem dX6_state_1 : decode cX6_state 1 = .ok (.getfield 21, 3) := by decide +kernel
theorem dX6_state_4 : decode cX6_state 4 = .ok (.getfield 154, 3) := by decide +kernel
theorem dX6_state_7 : decode cX6_state 7 = .ok (.ireturn, 1) := by decide +kernel
theorem dX6_reason_0 : decode cX6_reason 0 = .ok (.aload_n 0, 1) := by decide +kernel
theorem dX6_reason_1 : decode cX6_reason 1 = .ok (.getfield 21, 3) := by decide +kernel
theorem dX6_reason_4 : decode cX6_reason 4 = .ok (.getfield 157, 3) := by decide +kernel
theorem dX6_reason_7 : decode cX6_reason 7 = .ok (.ireturn, 1) := by decide +kernel
theorem dX6_time_0 : decode cX6_time 0 = .ok (.aload_n 0, 1) := by decide +kernel
theorem dX6_time_1 : decode cX6_time 1 = .ok (.getfield 21, 3) := by decide +kernel
theorem dX6_time_4 : decode cX6_time 4 = .ok (.getfield 138, 3) := by decide +kernel
theorem dX6_time_7 : decode cX6_time 7 = .ok (.ireturn, 1) := by decide +kernel
set_option maxRecDepth 20000 in
theorem ggX6_isOpen_X2_isMainOpen : GoodIn wsX6_isOpen wsX2_isMainOpen := goodIn_r _ [6, 7, 19, 20, 21, 22, 23, 24, 25, 26, 27, 28, 29] (by decide +kernel) (by decide +kernel)
set_option maxRecDepth 20000 in
theorem gX6_isOpen_X2_isMainOpen : GoodIn wsX6_isOpen (wsV RX6 160 RX2 yX2_isMainOpen wsX2_isMainOpen) := goodIn_app (goodIn_of _ (by decide +kernel)) ggX6_isOpen_X2_isMainOpen
set_option maxRecDepth 20000 in
theorem ggX6_isOpen_X2_isPilotOpen : GoodIn wsX6_isOpen wsX2_isPilotOpen := goodIn_r _ [11, 7, 19, 20, 21, 22, 23, 24, 25, 26, 27, 28, 29] (by decide +kernel) (by decide +kernel)
set_option maxRecDepth 20000 in
theorem gX6_isOpen_X2_isPilotOpen : GoodIn wsX6_isOpen (wsV RX6 163 RX2 yX2_isPilotOpen wsX2_isPilotOpen) := goodIn_app (goodIn_of _ (by decide +kernel)) ggX6_isOpen_X2_isPilotOpen
theorem dX6_isOpen_0 : decode cX6_isOpen 0 = .ok (.iload_n 1, 1) := by decide +kernel
theorem dX6_isOpen_1 : decode cX6_isOpen 1 = .ok (.ifCond .eq 13, 3) := by decide +kernel
theorem dX6_isOpen_4 : decode cX6_isOpen 4 = .ok (.aload_n 0, 1) := by decide +kernel
theorem dX6_isOpen_5 : decode cX6_isOpen 5 = .ok (.getfield 21, 3) := by decide +kernel
theorem dX6_isOpen_8 : decode cX6_isOpen 8 = .ok (.invokevirtual 160, 3) := by decide +kernel
theorem dX6_isOpen_11 : decode cX6_isOpen 11 = .ok (.goto 10, 3) := by decide +kernel
theorem dX6_isOpen_14 : decode cX6_isOpen 14 = .ok (.aload_n 0, 1) := by decide +kernel
theorem dX6_isOpen_15 : decode cX6_isOpen 15 = .ok (.getfield 21, 3) := by decide +kernel
theorem dX6_isOpen_18 : decode cX6_isOpen 18 = .ok (.invokevirtual 163, 3) := by decide +kernel
theorem dX6_isOpen_21 : decode cX6_isOpen 21 = .ok (.ireturn, 1) := by decide +kernel
theorem dX6_sees_0 : decode cX6_sees 0 = .ok (.iload_n 1, 1) := by decide +kernel
theorem dX6_sees_1 : decode cX6_sees 1 = .ok (.ifCond .eq 16, 3) := by decide +kernel
theorem dX6_sees_4 : decode cX6_sees 4 = .ok (.aload_n 0, 1) := by decide +kernel
theorem dX6_sees_5 : decode cX6_sees 5 = .ok (.getfield 21, 3) := by decide +kernel
theorem dX6_sees_8 : decode cX6_sees 8 = .ok (.getfield 166, 3) := by decide +kernel
theorem dX6_sees_11 : decode cX6_sees 11 = .ok (.getfield 170, 3) := by decide +kernel
theorem dX6_sees_14 : decode cX6_sees 14 = .ok (.goto 13, 3) := by decide +kernel
theorem dX6_sees_17 : decode cX6_sees 17 = .ok (.aload_n 0, 1) := by decide +kernel
theorem dX6_sees_18 : decode cX6_sees 18 = .ok (.getfield 21, 3) := by decide +kernel
theorem dX6_sees_21 : decode cX6_sees 21 = .ok (.getfield 176, 3) := by decide +kernel
theorem dX6_sees_24 : decode cX6_sees 24 = .ok (.getfield 170, 3) := by decide +kernel
theorem dX6_sees_27 : decode cX6_sees 27 = .ok (.ireturn, 1) := by decide +kernel
theorem dX6_air_0 : decode cX6_air 0 = .ok (.aload_n 0, 1) := by decide +kernel
theorem dX6_air_1 : decode cX6_air 1 = .ok (.getfield 21, 3) := by decide +kernel
theorem dX6_air_4 : decode cX6_air 4 = .ok (.getfield 179, 3) := by decide +kernel
theorem dX6_air_7 : decode cX6_air 7 = .ok (.ireturn, 1) := by decide +kernel
theorem dX6_fuel_0 : decode cX6_fuel 0 = .ok (.aload_n 0, 1) := by decide +kernel
theorem dX6_fuel_1 : decode cX6_fuel 1 = .ok (.getfield 21, 3) := by decide +kernel
theorem dX6_fuel_4 : decode cX6_fuel 4 = .ok (.getfield 182, 3) := by decide +kernel
theorem dX6_fuel_7 : decode cX6_fuel 7 = .ok (.ireturn, 1) := by decide +kernel
theorem dX6_purged_0 : decode cX6_purged 0 = .ok (.aload_n 0, 1) := by decide +kernel
theorem dX6_purged_1 : decode cX6_purged 1 = .ok (.getfield 21, 3) := by decide +kernel
theorem dX6_purged_4 : decode cX6_purged 4 = .ok (.getfield 185, 3) := by decide +kernel
theorem dX6_purged_7 : decode cX6_purged 7 = .ok (.ireturn, 1) := by decide +kernel
theorem dX6_unlit_0 : decode cX6_unlit 0 = .ok (.aload_n 0, 1) := by decide +kernel
theorem dX6_unlit_1 : decode cX6_unlit 1 = .ok (.getfield 21, 3) := by decide +kernel
theorem dX6_unlit_4 : decode cX6_unlit 4 = .ok (.getfield 188, 3) := by decide +kernel
theorem dX6_unlit_7 : decode cX6_unlit 7 = .ok (.ireturn, 1) := by decide +kernel
theorem dX6_longestUnlit_0 : decode cX6_longestUnlit 0 = .ok (.aload_n 0, 1) := by decide +kernel
theorem dX6_longestUnlit_1 : decode cX6_longestUnlit 1 = .ok (.getfield 21, 3) := by decide +kernel
theorem dX6_longestUnlit_4 : decode cX6_longestUnlit 4 = .ok (.getfield 191, 3) := by decide +kernel
theorem dX6_longestUnlit_7 : decode cX6_longestUnlit 7 = .ok (.ireturn, 1) := by decide +kernel
theorem dX6_changes_0 : decode cX6_changes 0 = .ok (.aload_n 0, 1) := by decide +kernel
theorem dX6_changes_1 : decode cX6_changes 1 = .ok (.getfield 28, 3) := by decide +kernel
theorem dX6_changes_4 : decode cX6_changes 4 = .ok (.getfield 194, 3) := by decide +kernel
theorem dX6_changes_7 : decode cX6_changes 7 = .ok (.ireturn, 1) := by decide +kernel
theorem dX6_records_0 : decode cX6_records 0 = .ok (.aload_n 0, 1) := by decide +kernel
theorem dX6_records_1 : decode cX6_records 1 = .ok (.getfield 28, 3) := by decide +kernel
theorem dX6_records_4 : decode cX6_records 4 = .ok (.getfield 197, 3) := by decide +kernel
theorem dX6_records_7 : decode cX6_records 7 = .ok (.ireturn, 1) := by decide +kernel
set_option maxRecDepth 20000 in
theorem ggX6_tickOf_X3_has : GoodIn wsX6_tickOf wsX3_has := goodIn_r _ [8, 9, 22, 23, 24, 25, 26, 27] (by decide +kernel) (by decide +kernel)
set_option maxRecDepth 20000 in
theorem gX6_tickOf_X3_has : GoodIn wsX6_tickOf (wsV RX6 200 RX3 yX3_has wsX3_has) := goodIn_app (goodIn_of _ (by decide +kernel)) ggX6_tickOf_X3_has
set_option maxRecDepth 20000 in
theorem ggX6_tickOf_X3_read : GoodIn wsX6_tickOf wsX3_read := goodIn_r _ [13, 14, 22, 23, 24, 25, 26, 27] (by decide +kernel) (by decide +kernel)
set_option maxRecDepth 20000 in
theorem gX6_tickOf_X3_read : GoodIn wsX6_tickOf (wsV RX6 209 RX3 yX3_read wsX3_read) := goodIn_app (goodIn_of _ (by decide +kernel)) ggX6_tickOf_X3_read
theorem dX6_tickOf_0 : decode cX6_tickOf 0 = .ok (.aload_n 0, 1) := by decide +kernel
theorem dX6_tickOf_1 : decode cX6_tickOf 1 = .ok (.getfield 28, 3) := by decide +kernel
theorem dX6_tickOf_4 : decode cX6_tickOf 4 = .ok (.iload_n 1, 1) := by decide +kernel
theorem dX6_tickOf_5 : decode cX6_tickOf 5 = .ok (.invokevirtual 200, 3) := by decide +kernel
theorem dX6_tickOf_8 : decode cX6_tickOf 8 = .ok (.ifCond .ne 13, 3) := by decide +kernel
theorem dX6_tickOf_11 : decode cX6_tickOf 11 = .ok (.new 48, 3) := by decide +kernel
theorem dX6_tickOf_14 : decode cX6_tickOf 14 = .ok (.dup, 1) := by decide +kernel
theorem dX6_tickOf_15 : decode cX6_tickOf 15 = .ok (.ldc 203, 2) := by decide +kernel
theorem dX6_tickOf_17 : decode cX6_tickOf 17 = .ok (.invokespecial 52, 3) := by decide +kernel
theorem dX6_tickOf_20 : decode cX6_tickOf 20 = .ok (.athrow, 1) := by decide +kernel
theorem dX6_tickOf_21 : decode cX6_tickOf 21 = .ok (.aload_n 0, 1) := by decide +kernel
theorem dX6_tickOf_22 : decode cX6_tickOf 22 = .ok (.getfield 28, 3) := by decide +kernel
theorem dX6_tickOf_25 : decode cX6_tickOf 25 = .ok (.aload_n 0, 1) := by decide +kernel
theorem dX6_tickOf_26 : decode cX6_tickOf 26 = .ok (.getfield 28, 3) := by decide +kernel
theorem dX6_tickOf_29 : decode cX6_tickOf 29 = .ok (.getfield 205, 3) := by decide +kernel
theorem dX6_tickOf_32 : decode cX6_tickOf 32 = .ok (.iload_n 1, 1) := by decide +kernel
theorem dX6_tickOf_33 : decode cX6_tickOf 33 = .ok (.invokevirtual 209, 3) := by decide +kernel
theorem dX6_tickOf_36 : decode cX6_tickOf 36 = .ok (.ireturn, 1) := by decide +kernel
set_option maxRecDepth 20000 in
theorem ggX6_stateOf_X3_has : GoodIn wsX6_stateOf wsX3_has := goodIn_r _ [8, 9, 22, 23, 24, 25, 26, 27] (by decide +kernel) (by decide +kernel)
set_option maxRecDepth 20000 in
theorem gX6_stateOf_X3_has : GoodIn wsX6_stateOf (wsV RX6 200 RX3 yX3_has wsX3_has) := goodIn_app (goodIn_of _ (by decide +kernel)) ggX6_stateOf_X3_has
set_option maxRecDepth 20000 in
theorem ggX6_stateOf_X3_read : GoodIn wsX6_stateOf wsX3_read := goodIn_r _ [13, 14, 22, 23, 24, 25, 26, 27] (by decide +kernel) (by decide +kernel)
set_option maxRecDepth 20000 in
theorem gX6_stateOf_X3_read : GoodIn wsX6_stateOf (wsV RX6 209 RX3 yX3_read wsX3_read) := goodIn_app (goodIn_of _ (by decide +kernel)) ggX6_stateOf_X3_read
theorem dX6_stateOf_0 : decode cX6_stateOf 0 = .ok (.aload_n 0, 1) := by decide +kernel
theorem dX6_stateOf_1 : decode cX6_stateOf 1 = .ok (.getfield 28, 3) := by decide +kernel
theorem dX6_stateOf_4 : decode cX6_stateOf 4 = .ok (.iload_n 1, 1) := by decide +kernel
theorem dX6_stateOf_5 : decode cX6_stateOf 5 = .ok (.invokevirtual 200, 3) := by decide +kernel
theorem dX6_stateOf_8 : decode cX6_stateOf 8 = .ok (.ifCond .ne 13, 3) := by decide +kernel
theorem dX6_stateOf_11 : decode cX6_stateOf 11 = .ok (.new 48, 3) := by decide +kernel
theorem dX6_stateOf_14 : decode cX6_stateOf 14 = .ok (.dup, 1) := by decide +kernel
theorem dX6_stateOf_15 : decode cX6_stateOf 15 = .ok (.ldc 203, 2) := by decide +kernel
theorem dX6_stateOf_17 : decode cX6_stateOf 17 = .ok (.invokespecial 52, 3) := by decide +kernel
theorem dX6_stateOf_20 : decode cX6_stateOf 20 = .ok (.athrow, 1) := by decide +kernel
theorem dX6_stateOf_21 : decode cX6_stateOf 21 = .ok (.aload_n 0, 1) := by decide +kernel
theorem dX6_stateOf_22 : decode cX6_stateOf 22 = .ok (.getfield 28, 3) := by decide +kernel
theorem dX6_stateOf_25 : decode cX6_stateOf 25 = .ok (.aload_n 0, 1) := by decide +kernel
theorem dX6_stateOf_26 : decode cX6_stateOf 26 = .ok (.getfield 28, 3) := by decide +kernel
theorem dX6_stateOf_29 : decode cX6_stateOf 29 = .ok (.getfield 213, 3) := by decide +kernel
theorem dX6_stateOf_32 : decode cX6_stateOf 32 = .ok (.iload_n 1, 1) := by decide +kernel
theorem dX6_stateOf_33 : decode cX6_stateOf 33 = .ok (.invokevirtual 209, 3) := by decide +kernel
theorem dX6_stateOf_36 : decode cX6_stateOf 36 = .ok (.ireturn, 1) := by decide +kernel
set_option maxRecDepth 20000 in
theorem ggX6_reasonOf_X3_has : GoodIn wsX6_reasonOf wsX3_has := goodIn_r _ [8, 9, 22, 23, 24, 25, 26, 27] (by decide +kernel) (by decide +kernel)
set_option maxRecDepth 20000 in
theorem gX6_reasonOf_X3_has : GoodIn wsX6_reasonOf (wsV RX6 200 RX3 yX3_has wsX3_has) := goodIn_app (goodIn_of _ (by decide +kernel)) ggX6_reasonOf_X3_has
set_option maxRecDepth 20000 in
theorem ggX6_reasonOf_X3_read : GoodIn wsX6_reasonOf wsX3_read := goodIn_r _ [13, 14, 22, 23, 24, 25, 26, 27] (by decide +kernel) (by decide +kernel)
set_option maxRecDepth 20000 in
theorem gX6_reasonOf_X3_read : GoodIn wsX6_reasonOf (wsV RX6 209 RX3 yX3_read wsX3_read) := goodIn_app (goodIn_of _ (by decide +kernel)) ggX6_reasonOf_X3_read
theorem dX6_reasonOf_0 : decode cX6_reasonOf 0 = .ok (.aload_n 0, 1) := by decide +kernel
theorem dX6_reasonOf_1 : decode cX6_reasonOf 1 = .ok (.getfield 28, 3) := by decide +kernel
theorem dX6_reasonOf_4 : decode cX6_reasonOf 4 = .ok (.iload_n 1, 1) := by decide +kernel
theorem dX6_reasonOf_5 : decode cX6_reasonOf 5 = .ok (.invokevirtual 200, 3) := by decide +kernel
theorem dX6_reasonOf_8 : decode cX6_reasonOf 8 = .ok (.ifCond .ne 13, 3) := by decide +kernel
theorem dX6_reasonOf_11 : decode cX6_reasonOf 11 = .ok (.new 48, 3) := by decide +kernel
theorem dX6_reasonOf_14 : decode cX6_reasonOf 14 = .ok (.dup, 1) := by decide +kernel
theorem dX6_reasonOf_15 : decode cX6_reasonOf 15 = .ok (.ldc 203, 2) := by decide +kernel
theorem dX6_reasonOf_17 : decode cX6_reasonOf 17 = .ok (.invokespecial 52, 3) := by decide +kernel
theorem dX6_reasonOf_20 : decode cX6_reasonOf 20 = .ok (.athrow, 1) := by decide +kernel
theorem dX6_reasonOf_21 : decode cX6_reasonOf 21 = .ok (.aload_n 0, 1) := by decide +kernel
theorem dX6_reasonOf_22 : decode cX6_reasonOf 22 = .ok (.getfield 28, 3) := by decide +kernel
theorem dX6_reasonOf_25 : decode cX6_reasonOf 25 = .ok (.aload_n 0, 1) := by decide +kernel
theorem dX6_reasonOf_26 : decode cX6_reasonOf 26 = .ok (.getfield 28, 3) := by decide +kernel
theorem dX6_reasonOf_29 : decode cX6_reasonOf 29 = .ok (.getfield 216, 3) := by decide +kernel
theorem dX6_reasonOf_32 : decode cX6_reasonOf 32 = .ok (.iload_n 1, 1) := by decide +kernel
theorem dX6_reasonOf_33 : decode cX6_reasonOf 33 = .ok (.invokevirtual 209, 3) := by decide +kernel
theorem dX6_reasonOf_36 : decode cX6_reasonOf 36 = .ok (.ireturn, 1) := by decide +kernel
set_option maxRecDepth 20000 in
theorem ggX6_couldBe_X6_isOutside : GoodIn wsX6_couldBe wsX6_isOutside := goodIn_r _ [8] (by decide +kernel) (by decide +kernel)
set_option maxRecDepth 20000 in
theorem gX6_couldBe_X6_isOutside : GoodIn wsX6_couldBe (va_wsS RX6 63 yX6_isOutside wsX6_isOutside) := goodIn_app (goodIn_of _ (by decide +kernel)) ggX6_couldBe_X6_isOutside
set_option maxRecDepth 20000 in
theorem ggX6_couldBe_X6_walk : GoodIn wsX6_couldBe wsX6_walk := goodIn_r _ [11, 12, 13, 7, 14, 15, 16, 17, 18, 19, 20, 21, 22, 23, 24, 25, 26, 27, 28, 29, 30, 31, 32, 33, 34, 35, 36, 37, 38, 39, 40, 41, 42, 43, 44, 45, 46, 47, 48, 49, 50, 51, 52, 53, 54, 55, 56, 57, 58, 59, 60, 61, 62, 63, 64, 65, 66, 67, 68, 69, 70, 71, 72, 73, 74, 75, 76, 77, 78, 79, 80, 81, 82, 83, 84, 85, 86, 87, 88, 89, 90, 91, 92, 93, 94, 95, 96, 97, 98, 99, 100, 101, 102, 103, 104, 105, 106, 107, 108, 109, 110, 111, 112, 113, 114, 115, 116, 117, 118, 119, 120, 121, 122, 123, 124, 125, 126, 127, 128, 129, 130, 131, 132, 133, 134, 135, 136, 137, 138, 139, 140, 9, 10, 149, 150, 151, 152, 153, 154, 155, 156, 157, 158, 159, 160, 161, 162, 163, 164, 165, 166, 167, 168, 169, 170, 171, 172, 173, 174] (by decide +kernel) (by decide +kernel)
set_option maxRecDepth 20000 in
theorem gX6_couldBe_X6_walk : GoodIn wsX6_couldBe (va_wsS RX6 221 yX6_walk wsX6_walk) := goodIn_app (goodIn_of _ (by decide +kernel)) ggX6_couldBe_X6_walk
set_option maxRecDepth 20000 in
theorem ggX6_couldBe_X6_isOn : GoodIn wsX6_couldBe wsX6_isOn := goodIn_r _ [50] (by decide +kernel) (by decide +kernel)
set_option maxRecDepth 20000 in
theorem gX6_couldBe_X6_isOn : GoodIn wsX6_couldBe (va_wsS RX6 59 yX6_isOn wsX6_isOn) := goodIn_app (goodIn_of _ (by decide +kernel)) ggX6_couldBe_X6_isOn
theorem dX6_couldBe_0 : decode cX6_couldBe 0 = .ok (.iload_n 1, 1) := by decide +kernel
theorem dX6_couldBe_1 : decode cX6_couldBe 1 = .ok (.iconst 0, 1) := by decide +kernel
theorem dX6_couldBe_2 : decode cX6_couldBe 2 = .ok (.bipush 6, 2) := by decide +kernel
theorem dX6_couldBe_4 : decode cX6_couldBe 4 = .ok (.invokestatic 63, 3) := by decide +kernel
theorem dX6_couldBe_7 : decode cX6_couldBe 7 = .ok (.ifCond .ne 12, 3) := by decide +kernel
theorem dX6_couldBe_10 : decode cX6_couldBe 10 = .ok (.iload_n 2, 1) := by decide +kernel
theorem dX6_couldBe_11 : decode cX6_couldBe 11 = .ok (.iconst 1, 1) := by decide +kernel
theorem dX6_couldBe_12 : decode cX6_couldBe 12 = .ok (.iconst 3, 1) := by decide +kernel
theorem dX6_couldBe_13 : decode cX6_couldBe 13 = .ok (.invokestatic 63, 3) := by decide +kernel
theorem dX6_couldBe_16 : decode cX6_couldBe 16 = .ok (.ifCond .eq 13, 3) := by decide +kernel
theorem dX6_couldBe_19 : decode cX6_couldBe 19 = .ok (.new 67, 3) := by decide +kernel
theorem dX6_couldBe_22 : decode cX6_couldBe 22 = .ok (.dup, 1) := by decide +kernel
theorem dX6_couldBe_23 : decode cX6_couldBe 23 = .ok (.ldc 219, 2) := by decide +kernel
theorem dX6_couldBe_25 : decode cX6_couldBe 25 = .ok (.invokespecial 71, 3) := by decide +kernel
theorem dX6_couldBe_28 : decode cX6_couldBe 28 = .ok (.athrow, 1) := by decide +kernel
theorem dX6_couldBe_29 : decode cX6_couldBe 29 = .ok (.aload_n 0, 1) := by decide +kernel
theorem dX6_couldBe_30 : decode cX6_couldBe 30 = .ok (.getfield 44, 3) := by decide +kernel
theorem dX6_couldBe_33 : decode cX6_couldBe 33 = .ok (.aload_n 0, 1) := by decide +kernel
theorem dX6_couldBe_34 : decode cX6_couldBe 34 = .ok (.getfield 21, 3) := by decide +kernel
theorem dX6_couldBe_37 : decode cX6_couldBe 37 = .ok (.iload_n 2, 1) := by decide +kernel
theorem dX6_couldBe_38 : decode cX6_couldBe 38 = .ok (.invokestatic 221, 3) := by decide +kernel
theorem dX6_couldBe_41 : decode cX6_couldBe 41 = .ok (.iconst 1, 1) := by decide +kernel
theorem dX6_couldBe_42 : decode cX6_couldBe 42 = .ok (.iload_n 1, 1) := by decide +kernel
theorem dX6_couldBe_43 : decode cX6_couldBe 43 = .ok (.ishl, 1) := by decide +kernel
theorem dX6_couldBe_44 : decode cX6_couldBe 44 = .ok (.invokestatic 59, 3) := by decide +kernel
theorem dX6_couldBe_47 : decode cX6_couldBe 47 = .ok (.ireturn, 1) := by decide +kernel
set_option maxRecDepth 20000 in
theorem ggX6_reasonsAhead_X6_isOutside : GoodIn wsX6_reasonsAhead wsX6_isOutside := goodIn_r _ [8] (by decide +kernel) (by decide +kernel)
set_option maxRecDepth 20000 in
theorem gX6_reasonsAhead_X6_isOutside : GoodIn wsX6_reasonsAhead (va_wsS RX6 63 yX6_isOutside wsX6_isOutside) := goodIn_app (goodIn_of _ (by decide +kernel)) ggX6_reasonsAhead_X6_isOutside
set_option maxRecDepth 20000 in
theorem ggX6_reasonsAhead_X2_isLockedOut : GoodIn wsX6_reasonsAhead wsX2_isLockedOut := goodIn_r _ [13, 14, 148, 149, 150, 151, 152, 153, 154, 155, 156, 157, 158] (by decide +kernel) (by decide +kernel)
set_option maxRecDepth 20000 in
theorem gX6_reasonsAhead_X2_isLockedOut : GoodIn wsX6_reasonsAhead (wsV RX6 126 RX2 yX2_isLockedOut wsX2_isLockedOut) := goodIn_app (goodIn_of _ (by decide +kernel)) ggX6_reasonsAhead_X2_isLockedOut
set_option maxRecDepth 20000 in
theorem ggX6_reasonsAhead_X6_walk : GoodIn wsX6_reasonsAhead wsX6_walk := goodIn_r _ [17, 18, 19, 7, 20, 21, 22, 23, 12, 24, 25, 26, 14, 27, 28, 29, 30, 31, 32, 33, 34, 35, 36, 37, 38, 39, 40, 41, 42, 43, 44, 45, 46, 47, 48, 49, 50, 51, 52, 53, 54, 55, 56, 57, 58, 59, 60, 61, 62, 63, 64, 65, 66, 67, 68, 69, 70, 71, 72, 73, 74, 75, 76, 77, 78, 79, 80, 81, 82, 83, 84, 85, 86, 87, 88, 89, 90, 91, 92, 93, 94, 95, 96, 97, 98, 99, 100, 101, 102, 103, 104, 105, 106, 107, 108, 109, 110, 111, 112, 113, 114, 115, 116, 117, 118, 119, 120, 121, 122, 123, 124, 125, 126, 127, 128, 129, 130, 131, 132, 133, 134, 135, 136, 137, 138, 139, 140, 9, 10, 11, 13, 15, 16, 148, 149, 150, 151, 152, 153, 154, 155, 156, 157, 158, 159, 160, 161, 162, 163, 164, 165, 166, 167, 168, 169, 170, 171, 172, 173] (by decide +kernel) (by decide +kernel)
set_option maxRecDepth 20000 in
theorem gX6_reasonsAhead_X6_walk : GoodIn wsX6_reasonsAhead (va_wsS RX6 221 yX6_walk wsX6_walk) := goodIn_app (goodIn_of _ (by decide +kernel)) ggX6_reasonsAhead_X6_walk
theorem dX6_reasonsAhead_0 : decode cX6_reasonsAhead 0 = .ok (.iload_n 1, 1) := by decide +kernel
theorem dX6_reasonsAhead_1 : decode cX6_reasonsAhead 1 = .ok (.iconst 1, 1) := by decide +kernel
theorem dX6_reasonsAhead_2 : decode cX6_reasonsAhead 2 = .ok (.iconst 3, 1) := by decide +kernel
theorem dX6_reasonsAhead_3 : decode cX6_reasonsAhead 3 = .ok (.invokestatic 63, 3) := by decide +kernel
theorem dX6_reasonsAhead_6 : decode cX6_reasonsAhead 6 = .ok (.ifCond .eq 13, 3) := by decide +kernel
theorem dX6_reasonsAhead_9 : decode cX6_reasonsAhead 9 = .ok (.new 67, 3) := by decide +kernel
theorem dX6_reasonsAhead_12 : decode cX6_reasonsAhead 12 = .ok (.dup, 1) := by decide +kernel
theorem dX6_reasonsAhead_13 : decode cX6_reasonsAhead 13 = .ok (.ldc 114, 2) := by decide +kernel
theorem dX6_reasonsAhead_15 : decode cX6_reasonsAhead 15 = .ok (.invokespecial 71, 3) := by decide +kernel
theorem dX6_reasonsAhead_18 : decode cX6_reasonsAhead 18 = .ok (.athrow, 1) := by decide +kernel
theorem dX6_reasonsAhead_19 : decode cX6_reasonsAhead 19 = .ok (.aload_n 0, 1) := by decide +kernel
theorem dX6_reasonsAhead_20 : decode cX6_reasonsAhead 20 = .ok (.getfield 21, 3) := by decide +kernel
theorem dX6_reasonsAhead_23 : decode cX6_reasonsAhead 23 = .ok (.invokevirtual 126, 3) := by decide +kernel
theorem dX6_reasonsAhead_26 : decode cX6_reasonsAhead 26 = .ok (.ifCond .eq 5, 3) := by decide +kernel
theorem dX6_reasonsAhead_29 : decode cX6_reasonsAhead 29 = .ok (.iconst 0, 1) := by decide +kernel
theorem dX6_reasonsAhead_30 : decode cX6_reasonsAhead 30 = .ok (.ireturn, 1) := by decide +kernel
theorem dX6_reasonsAhead_31 : decode cX6_reasonsAhead 31 = .ok (.aload_n 0, 1) := by decide +kernel
theorem dX6_reasonsAhead_32 : decode cX6_reasonsAhead 32 = .ok (.getfield 44, 3) := by decide +kernel
theorem dX6_reasonsAhead_35 : decode cX6_reasonsAhead 35 = .ok (.aload_n 0, 1) := by decide +kernel
theorem dX6_reasonsAhead_36 : decode cX6_reasonsAhead 36 = .ok (.getfield 21, 3) := by decide +kernel
theorem dX6_reasonsAhead_39 : decode cX6_reasonsAhead 39 = .ok (.iload_n 1, 1) := by decide +kernel
theorem dX6_reasonsAhead_40 : decode cX6_reasonsAhead 40 = .ok (.invokestatic 221, 3) := by decide +kernel
theorem dX6_reasonsAhead_43 : decode cX6_reasonsAhead 43 = .ok (.bipush 8, 2) := by decide +kernel
theorem dX6_reasonsAhead_45 : decode cX6_reasonsAhead 45 = .ok (.ishr, 1) := by decide +kernel
theorem dX6_reasonsAhead_46 : decode cX6_reasonsAhead 46 = .ok (.ireturn, 1) := by decide +kernel
set_option maxRecDepth 20000 in
theorem ggX6_toPilot_X2_isPilotOpen : GoodIn wsX6_toPilot wsX2_isPilotOpen := goodIn_r _ [7, 8, 133, 134, 135, 136, 137, 138, 139, 140, 141, 142, 143] (by decide +kernel) (by decide +kernel)
set_option maxRecDepth 20000 in
theorem gX6_toPilot_X2_isPilotOpen : GoodIn wsX6_toPilot (wsV RX6 163 RX2 yX2_isPilotOpen wsX2_isPilotOpen) := goodIn_app (goodIn_of _ (by decide +kernel)) ggX6_toPilot_X2_isPilotOpen
set_option maxRecDepth 20000 in
theorem ggX6_toPilot_X2_copyFrom : GoodIn wsX6_toPilot wsX2_copyFrom := goodIn_r _ [12, 13, 14, 8, 15, 16, 17, 18, 19, 20, 21, 22, 23, 24, 25, 26, 27, 28, 133, 134, 135, 136, 137, 138, 139, 140, 141, 142, 143, 144, 145] (by decide +kernel) (by decide +kernel)
set_option maxRecDepth 20000 in
theorem gX6_toPilot_X2_copyFrom : GoodIn wsX6_toPilot (wsV RX6 226 RX2 yX2_copyFrom wsX2_copyFrom) := goodIn_app (goodIn_of _ (by decide +kernel)) ggX6_toPilot_X2_copyFrom
set_option maxRecDepth 20000 in
theorem ggX6_toPilot_X2_tick : GoodIn wsX6_toPilot wsX2_tick := goodIn_r _ [32, 13, 14, 16, 33, 4, 5, 6, 7, 8, 34, 35, 36, 37, 38, 39, 40, 41, 42, 43, 44, 45, 46, 47, 48, 25, 49, 27, 28, 50, 51, 52, 53, 17, 18, 54, 55, 56, 57, 58, 59, 60, 61, 62, 63, 64, 65, 66, 67, 68, 69, 70, 71, 72, 73, 74, 75, 76, 77, 78, 79, 80, 81, 82, 83, 84, 85, 86, 87, 88, 89, 90, 91, 15, 19, 92, 93, 94, 95, 96, 97, 98, 99, 100, 101, 102, 103, 104, 105, 106, 107, 108, 109, 110, 111, 112, 113, 114, 115, 116, 117, 118, 119, 120, 121, 122, 123, 20, 21, 133, 134, 135, 136, 137, 138, 139, 140, 141, 142, 143, 146, 147, 148, 149, 150, 151, 152, 153, 154, 155, 156, 144, 145] (by decide +kernel) (by decide +kernel)
set_option maxRecDepth 20000 in
theorem gX6_toPilot_X2_tick : GoodIn wsX6_toPilot (wsV RX6 119 RX2 yX2_tick wsX2_tick) := goodIn_app (goodIn_of _ (by decide +kernel)) ggX6_toPilot_X2_tick
theorem dX6_toPilot_0 : decode cX6_toPilot 0 = .ok (.aload_n 0, 1) := by decide +kernel
theorem dX6_toPilot_1 : decode cX6_toPilot 1 = .ok (.getfield 21, 3) := by decide +kernel
theorem dX6_toPilot_4 : decode cX6_toPilot 4 = .ok (.invokevirtual 163, 3) := by decide +kernel
theorem dX6_toPilot_7 : decode cX6_toPilot 7 = .ok (.ifCond .eq 5, 3) := by decide +kernel
theorem dX6_toPilot_10 : decode cX6_toPilot 10 = .ok (.iconst 0, 1) := by decide +kernel
theorem dX6_toPilot_11 : decode cX6_toPilot 11 = .ok (.ireturn, 1) := by decide +kernel
theorem dX6_toPilot_12 : decode cX6_toPilot 12 = .ok (.aload_n 0, 1) := by decide +kernel
theorem dX6_toPilot_13 : decode cX6_toPilot 13 = .ok (.getfield 44, 3) := by decide +kernel
theorem dX6_toPilot_16 : decode cX6_toPilot 16 = .ok (.getfield 225, 3) := by decide +kernel
theorem dX6_toPilot_19 : decode cX6_toPilot 19 = .ok (.astore_n 1, 1) := by decide +kernel
theorem dX6_toPilot_20 : decode cX6_toPilot 20 = .ok (.aload_n 1, 1) := by decide +kernel
theorem dX6_toPilot_21 : decode cX6_toPilot 21 = .ok (.aload_n 0, 1) := by decide +kernel
theorem dX6_toPilot_22 : decode cX6_toPilot 22 = .ok (.getfield 21, 3) := by decide +kernel
theorem dX6_toPilot_25 : decode cX6_toPilot 25 = .ok (.invokevirtual 226, 3) := by decide +kernel
theorem dX6_toPilot_28 : decode cX6_toPilot 28 = .ok (.iconst 1, 1) := by decide +kernel
theorem dX6_toPilot_29 : decode cX6_toPilot 29 = .ok (.istore_n 2, 1) := by decide +kernel
theorem dX6_toPilot_30 : decode cX6_toPilot 30 = .ok (.iload_n 2, 1) := by decide +kernel
theorem dX6_toPilot_31 : decode cX6_toPilot 31 = .ok (.sipush 300, 3) := by decide +kernel
theorem dX6_toPilot_34 : decode cX6_toPilot 34 = .ok (.if_icmp .gt 25, 3) := by decide +kernel
theorem dX6_toPilot_37 : decode cX6_toPilot 37 = .ok (.aload_n 1, 1) := by decide +kernel
theorem dX6_toPilot_38 : decode cX6_toPilot 38 = .ok (.bipush 7, 2) := by decide +kernel
theorem dX6_toPilot_40 : decode cX6_toPilot 40 = .ok (.invokevirtual 119, 3) := by decide +kernel
theorem dX6_toPilot_43 : decode cX6_toPilot 43 = .ok (.pop, 1) := by decide +kernel
theorem dX6_toPilot_44 : decode cX6_toPilot 44 = .ok (.aload_n 1, 1) := by decide +kernel
theorem dX6_toPilot_45 : decode cX6_toPilot 45 = .ok (.invokevirtual 163, 3) := by decide +kernel
theorem dX6_toPilot_48 : decode cX6_toPilot 48 = .ok (.ifCond .eq 5, 3) := by decide +kernel
theorem dX6_toPilot_51 : decode cX6_toPilot 51 = .ok (.iload_n 2, 1) := by decide +kernel
theorem dX6_toPilot_52 : decode cX6_toPilot 52 = .ok (.ireturn, 1) := by decide +kernel
theorem dX6_toPilot_53 : decode cX6_toPilot 53 = .ok (.iinc 2 1, 3) := by decide +kernel
theorem dX6_toPilot_56 : decode cX6_toPilot 56 = .ok (.goto (-26), 3) := by decide +kernel
theorem dX6_toPilot_59 : decode cX6_toPilot 59 = .ok (.iconst (-1), 1) := by decide +kernel
theorem dX6_toPilot_60 : decode cX6_toPilot 60 = .ok (.ireturn, 1) := by decide +kernel
theorem dX6_isOn_0 : decode cX6_isOn 0 = .ok (.iload_n 0, 1) := by decide +kernel
theorem dX6_isOn_1 : decode cX6_isOn 1 = .ok (.iload_n 1, 1) := by decide +kernel
theorem dX6_isOn_2 : decode cX6_isOn 2 = .ok (.iand, 1) := by decide +kernel
theorem dX6_isOn_3 : decode cX6_isOn 3 = .ok (.ifCond .eq 7, 3) := by decide +kernel
theorem dX6_isOn_6 : decode cX6_isOn 6 = .ok (.iconst 1, 1) := by decide +kernel
theorem dX6_isOn_7 : decode cX6_isOn 7 = .ok (.goto 4, 3) := by decide +kernel
theorem dX6_isOn_10 : decode cX6_isOn 10 = .ok (.iconst 0, 1) := by decide +kernel
theorem dX6_isOn_11 : decode cX6_isOn 11 = .ok (.ireturn, 1) := by decide +kernel
theorem dX6_isOutside_0 : decode cX6_isOutside 0 = .ok (.iload_n 0, 1) := by decide +kernel
theorem dX6_isOutside_1 : decode cX6_isOutside 1 = .ok (.iload_n 1, 1) := by decide +kernel
theorem dX6_isOutside_2 : decode cX6_isOutside 2 = .ok (.if_icmp .lt 8, 3) := by decide +kernel
theorem dX6_isOutside_5 : decode cX6_isOutside 5 = .ok (.iload_n 0, 1) := by decide +kernel
theorem dX6_isOutside_6 : decode cX6_isOutside 6 = .ok (.iload_n 2, 1) := by decide +kernel
theorem dX6_isOutside_7 : decode cX6_isOutside 7 = .ok (.if_icmp .le 7, 3) := by decide +kernel
theorem dX6_isOutside_10 : decode cX6_isOutside 10 = .ok (.iconst 1, 1) := by decide +kernel
theorem dX6_isOutside_11 : decode cX6_isOutside 11 = .ok (.goto 4, 3) := by decide +kernel
theorem dX6_isOutside_14 : decode cX6_isOutside 14 = .ok (.iconst 0, 1) := by decide +kernel
theorem dX6_isOutside_15 : decode cX6_isOutside 15 = .ok (.ireturn, 1) := by decide +kernel
theorem dX6_refuseUnlessOff_0 : decode cX6_refuseUnlessOff 0 = .ok (.aload_n 0, 1) := by decide +kernel
theorem dX6_refuseUnlessOff_1 : decode cX6_refuseUnlessOff 1 = .ok (.getfield 21, 3) := by decide +kernel
theorem dX6_refuseUnlessOff_4 : decode cX6_refuseUnlessOff 4 = .ok (.getfield 154, 3) := by decide +kernel
theorem dX6_refuseUnlessOff_7 : decode cX6_refuseUnlessOff 7 = .ok (.ifCond .eq 13, 3) := by decide +kernel
theorem dX6_refuseUnlessOff_10 : decode cX6_refuseUnlessOff 10 = .ok (.new 133, 3) := by decide +kernel
theorem dX6_refuseUnlessOff_13 : decode cX6_refuseUnlessOff 13 = .ok (.dup, 1) := by decide +kernel
theorem dX6_refuseUnlessOff_14 : decode cX6_refuseUnlessOff 14 = .ok (.ldc 230, 2) := by decide +kernel
theorem dX6_refuseUnlessOff_16 : decode cX6_refuseUnlessOff 16 = .ok (.invokespecial 137, 3) := by decide +kernel
theorem dX6_refuseUnlessOff_19 : decode cX6_refuseUnlessOff 19 = .ok (.athrow, 1) := by decide +kernel
theorem dX6_refuseUnlessOff_20 : decode cX6_refuseUnlessOff 20 = .ok (.return_, 1) := by decide +kernel
set_option maxRecDepth 20000 in
theorem ggX6_recordChange_X3_add : GoodIn wsX6_recordChange wsX3_add := goodIn_r _ [8, 9, 10, 11, 12, 13, 14, 15, 16, 17, 18, 37, 38, 39, 40, 41, 42] (by decide +kernel) (by decide +kernel)
set_option maxRecDepth 20000 in
theorem gX6_recordChange_X3_add : GoodIn wsX6_recordChange (wsV RX6 232 RX3 yX3_add wsX3_add) := goodIn_app (goodIn_of _ (by decide +kernel)) ggX6_recordChange_X3_add
theorem dX6_recordChange_0 : decode cX6_recordChange 0 = .ok (.aload_n 0, 1) := by decide +kernel
theorem dX6_recordChange_1 : decode cX6_recordChange 1 = .ok (.getfield 28, 3) := by decide +kernel
theorem dX6_recordChange_4 : decode cX6_recordChange 4 = .ok (.aload_n 0, 1) := by decide +kernel
theorem dX6_recordChange_5 : decode cX6_recordChange 5 = .ok (.getfield 116, 3) := by decide +kernel
theorem dX6_recordChange_8 : decode cX6_recordChange 8 = .ok (.aload_n 0, 1) := by decide +kernel
theorem dX6_recordChange_9 : decode cX6_recordChange 9 = .ok (.getfield 21, 3) := by decide +kernel
theorem dX6_recordChange_12 : decode cX6_recordChange 12 = .ok (.getfield 154, 3) := by decide +kernel
theorem dX6_recordChange_15 : decode cX6_recordChange 15 = .ok (.aload_n 0, 1) := by decide +kernel
theorem dX6_recordChange_16 : decode cX6_recordChange 16 = .ok (.getfield 21, 3) := by decide +kernel
theorem dX6_recordChange_19 : decode cX6_recordChange 19 = .ok (.getfield 157, 3) := by decide +kernel
theorem dX6_recordChange_22 : decode cX6_recordChange 22 = .ok (.invokevirtual 232, 3) := by decide +kernel
theorem dX6_recordChange_25 : decode cX6_recordChange 25 = .ok (.return_, 1) := by decide +kernel
set_option maxRecDepth 20000 in
theorem ggX6_walk_X6_tellingSignals : GoodIn wsX6_walk wsX6_tellingSignals := goodIn_r _ [4] (by decide +kernel) (by decide +kernel)
set_option maxRecDepth 20000 in
theorem gX6_walk_X6_tellingSignals : GoodIn wsX6_walk (va_wsS RX6 235 yX6_tellingSignals wsX6_tellingSignals) := goodIn_app (goodIn_of _ (by decide +kernel)) ggX6_walk_X6_tellingSignals
set_option maxRecDepth 20000 in
theorem ggX6_walk_X2_copyFrom : GoodIn wsX6_walk wsX2_copyFrom := goodIn_r _ [9, 10, 11, 12, 13, 14, 15, 16, 17, 18, 19, 20, 21, 22, 23, 24, 25, 26, 133, 134, 135, 136, 137, 138, 139, 140, 141, 142, 143, 146, 147] (by decide +kernel) (by decide +kernel)
set_option maxRecDepth 20000 in
theorem gX6_walk_X2_copyFrom : GoodIn wsX6_walk (wsV RX6 226 RX2 yX2_copyFrom wsX2_copyFrom) := goodIn_app (goodIn_of _ (by decide +kernel)) ggX6_walk_X2_copyFrom
set_option maxRecDepth 20000 in
theorem ggX6_walk_X2_tick : GoodIn wsX6_walk wsX2_tick := goodIn_r _ [30, 10, 11, 14, 31, 32, 33, 8, 34, 12, 35, 36, 37, 38, 39, 3, 40, 41, 42, 43, 44, 45, 46, 47, 48, 23, 49, 25, 26, 50, 51, 52, 53, 15, 16, 54, 55, 56, 57, 58, 59, 60, 61, 62, 63, 64, 65, 66, 67, 68, 69, 70, 71, 72, 73, 74, 75, 76, 77, 78, 79, 80, 81, 82, 83, 84, 85, 86, 87, 88, 89, 90, 91, 13, 17, 92, 93, 94, 95, 96, 97, 98, 99, 100, 101, 102, 103, 104, 105, 106, 107, 108, 109, 110, 111, 112, 113, 114, 115, 116, 117, 118, 119, 120, 121, 122, 123, 18, 19, 133, 134, 135, 136, 137, 138, 139, 140, 141, 142, 143, 148, 149, 150, 151, 152, 153, 154, 155, 156, 157, 158, 146, 147] (by decide +kernel) (by decide +kernel)
set_option maxRecDepth 20000 in
theorem gX6_walk_X2_tick : GoodIn wsX6_walk (wsV RX6 119 RX2 yX2_tick wsX2_tick) := goodIn_app (goodIn_of _ (by decide +kernel)) ggX6_walk_X2_tick
set_option maxRecDepth 20000 in
theorem ggX6_walk_X6_foundAt : GoodIn wsX6_walk wsX6_foundAt := goodIn_r _ [126, 127, 128, 129, 8, 130, 12, 133, 134, 135, 136, 137, 138, 139, 140, 141, 142, 143] (by decide +kernel) (by decide +kernel)
set_option maxRecDepth 20000 in
theorem gX6_walk_X6_foundAt : GoodIn wsX6_walk (va_wsS RX6 238 yX6_foundAt wsX6_foundAt) := goodIn_app (goodIn_of _ (by decide +kernel)) ggX6_walk_X6_foundAt
set_option maxRecDepth 20000 in
theorem ggX6_walk_X2_isLockedOut : GoodIn wsX6_walk wsX2_isLockedOut := goodIn_r _ [130, 12, 133, 134, 135, 136, 137, 138, 139, 140, 141, 142, 143] (by decide +kernel) (by decide +kernel)
set_option maxRecDepth 20000 in
theorem gX6_walk_X2_isLockedOut : GoodIn wsX6_walk (wsV RX6 126 RX2 yX2_isLockedOut wsX2_isLockedOut) := goodIn_app (goodIn_of _ (by decide +kernel)) ggX6_walk_X2_isLockedOut
set_option maxRecDepth 20000 in
theorem ggX6_walk_X6_walk : GoodIn wsX6_walk wsX6_walk := goodIn_r _ [0, 1, 2, 3, 4, 5, 6, 7, 8, 9, 10, 11, 12, 13, 14, 15, 16, 17, 18, 19, 20, 21, 22, 23, 24, 25, 26, 27, 28, 29, 30, 31, 32, 33, 34, 35, 36, 37, 38, 39, 40, 41, 42, 43, 44, 45, 46, 47, 48, 49, 50, 51, 52, 53, 54, 55, 56, 57, 58, 59, 60, 61, 62, 63, 64, 65, 66, 67, 68, 69, 70, 71, 72, 73, 74, 75, 76, 77, 78, 79, 80, 81, 82, 83, 84, 85, 86, 87, 88, 89, 90, 91, 92, 93, 94, 95, 96, 97, 98, 99, 100, 101, 102, 103, 104, 105, 106, 107, 108, 109, 110, 111, 112, 113, 114, 115, 116, 117, 118, 119, 120, 121, 122, 123, 124, 125, 126, 127, 128, 129, 130, 131, 132, 133, 134, 135, 136, 137, 138, 139, 140, 141, 142, 143, 144, 145, 146, 147, 148, 149, 150, 151, 152, 153, 154, 155, 156, 157, 158] (by decide +kernel) (by decide +kernel)
set_option maxRecDepth 20000 in
theorem gX6_walk_X6_walk : GoodIn wsX6_walk (va_wsS RX6 221 yX6_walk wsX6_walk) := goodIn_app (goodIn_of _ (by decide +kernel)) ggX6_walk_X6_walk
theorem dX6_walk_0 : decode cX6_walk 0 = .ok (.aload_n 0, 1) := by decide +kernel
theorem dX6_walk_1 : decode cX6_walk 1 = .ok (.ifnull 7, 3) := by decide +kernel
theorem dX6_walk_4 : decode cX6_walk 4 = .ok (.iload_n 2, 1) := by decide +kernel
theorem dX6_walk_5 : decode cX6_walk 5 = .ok (.ifCond .gt 5, 3) := by decide +kernel
theorem dX6_walk_8 : decode cX6_walk 8 = .ok (.iconst 0, 1) := by decide +kernel
theorem dX6_walk_9 : decode cX6_walk 9 = .ok (.ireturn, 1) := by decide +kernel
theorem dX6_walk_10 : decode cX6_walk 10 = .ok (.iconst 0, 1) := by decide +kernel
theorem dX6_walk_11 : decode cX6_walk 11 = .ok (.istore_n 3, 1) := by decide +kernel
theorem dX6_walk_12 : decode cX6_walk 12 = .ok (.aload_n 1, 1) := by decide +kernel
theorem dX6_walk_13 : decode cX6_walk 13 = .ok (.getfield 154, 3) := by decide +kernel
theorem dX6_walk_16 : decode cX6_walk 16 = .ok (.invokestatic 235, 3) := by decide +kernel
theorem dX6_walk_19 : decode cX6_walk 19 = .ok (.istore 4, 2) := by decide +kernel
theorem dX6_walk_21 : decode cX6_walk 21 = .ok (.aload_n 0, 1) := by decide +kernel
theorem dX6_walk_22 : decode cX6_walk 22 = .ok (.getfield 225, 3) := by decide +kernel
theorem dX6_walk_25 : decode cX6_walk 25 = .ok (.astore 5, 2) := by decide +kernel
theorem dX6_walk_27 : decode cX6_walk 27 = .ok (.iconst 0, 1) := by decide +kernel
theorem dX6_walk_28 : decode cX6_walk 28 = .ok (.istore 6, 2) := by decide +kernel
theorem dX6_walk_30 : decode cX6_walk 30 = .ok (.iload 6, 2) := by decide +kernel
theorem dX6_walk_32 : decode cX6_walk 32 = .ok (.bipush 63, 2) := by decide +kernel
theorem dX6_walk_34 : decode cX6_walk 34 = .ok (.if_icmp .gt 64, 3) := by decide +kernel
theorem dX6_walk_37 : decode cX6_walk 37 = .ok (.iload 6, 2) := by decide +kernel
theorem dX6_walk_39 : decode cX6_walk 39 = .ok (.iload 4, 2) := by decide +kernel
theorem dX6_walk_41 : decode cX6_walk 41 = .ok (.iconst (-1), 1) := by decide +kernel
theorem dX6_walk_42 : decode cX6_walk 42 = .ok (.ixor, 1) := by decide +kernel
theorem dX6_walk_43 : decode cX6_walk 43 = .ok (.iand, 1) := by decide +kernel
theorem dX6_walk_44 : decode cX6_walk 44 = .ok (.ifCond .ne 48, 3) := by decide +kernel
theorem dX6_walk_47 : decode cX6_walk 47 = .ok (.aload 5, 2) := by decide +kernel
theorem dX6_walk_49 : decode cX6_walk 49 = .ok (.aload_n 1, 1) := by decide +kernel
theorem dX6_walk_50 : decode cX6_walk 50 = .ok (.invokevirtual 226, 3) := by decide +kernel
theorem dX6_walk_53 : decode cX6_walk 53 = .ok (.aload 5, 2) := by decide +kernel
theorem dX6_walk_55 : decode cX6_walk 55 = .ok (.iload 6, 2) := by decide +kernel
theorem dX6_walk_57 : decode cX6_walk 57 = .ok (.invokevirtual 119, 3) := by decide +kernel
theorem dX6_walk_60 : decode cX6_walk 60 = .ok (.pop, 1) := by decide +kernel
theorem dX6_walk_61 : decode cX6_walk 61 = .ok (.iload_n 3, 1) := by decide +kernel
theorem dX6_walk_62 : decode cX6_walk 62 = .ok (.aload 5, 2) := by decide +kernel
theorem dX6_walk_64 : decode cX6_walk 64 = .ok (.invokestatic 238, 3) := by decide +kernel
theorem dX6_walk_67 : decode cX6_walk 67 = .ok (.ior, 1) := by decide +kernel
theorem dX6_walk_68 : decode cX6_walk 68 = .ok (.istore_n 3, 1) := by decide +kernel
theorem dX6_walk_69 : decode cX6_walk 69 = .ok (.aload 5, 2) := by decide +kernel
theorem dX6_walk_71 : decode cX6_walk 71 = .ok (.invokevirtual 126, 3) := by decide +kernel
theorem dX6_walk_74 : decode cX6_walk 74 = .ok (.ifCond .ne 18, 3) := by decide +kernel
theorem dX6_walk_77 : decode cX6_walk 77 = .ok (.iload_n 3, 1) := by decide +kernel
theorem dX6_walk_78 : decode cX6_walk 78 = .ok (.aload_n 0, 1) := by decide +kernel
theorem dX6_walk_79 : decode cX6_walk 79 = .ok (.getfield 242, 3) := by decide +kernel
theorem dX6_walk_82 : decode cX6_walk 82 = .ok (.aload 5, 2) := by decide +kernel
theorem dX6_walk_84 : decode cX6_walk 84 = .ok (.iload_n 2, 1) := by decide +kernel
theorem dX6_walk_85 : decode cX6_walk 85 = .ok (.iconst 1, 1) := by decide +kernel
theorem dX6_walk_86 : decode cX6_walk 86 = .ok (.isub, 1) := by decide +kernel
theorem dX6_walk_87 : decode cX6_walk 87 = .ok (.invokestatic 221, 3) := by decide +kernel
theorem dX6_walk_90 : decode cX6_walk 90 = .ok (.ior, 1) := by decide +kernel
theorem dX6_walk_91 : decode cX6_walk 91 = .ok (.istore_n 3, 1) := by decide +kernel
theorem dX6_walk_92 : decode cX6_walk 92 = .ok (.iinc 6 1, 3) := by decide +kernel
theorem dX6_walk_95 : decode cX6_walk 95 = .ok (.goto (-65), 3) := by decide +kernel
theorem dX6_walk_98 : decode cX6_walk 98 = .ok (.iload_n 3, 1) := by decide +kernel
theorem dX6_walk_99 : decode cX6_walk 99 = .ok (.ireturn, 1) := by decide +kernel
set_option maxRecDepth 20000 in
theorem ggX6_foundAt_X2_isLockedOut : GoodIn wsX6_foundAt wsX2_isLockedOut := goodIn_r _ [5, 6, 7, 8, 9, 10, 11, 12, 13, 14, 15, 16, 17] (by decide +kernel) (by decide +kernel)
set_option maxRecDepth 20000 in
theorem gX6_foundAt_X2_isLockedOut : GoodIn wsX6_foundAt (wsV RX6 126 RX2 yX2_isLockedOut wsX2_isLockedOut) := goodIn_app (goodIn_of _ (by decide +kernel)) ggX6_foundAt_X2_isLockedOut
theorem dX6_foundAt_0 : decode cX6_foundAt 0 = .ok (.iconst 1, 1) := by decide +kernel
theorem dX6_foundAt_1 : decode cX6_foundAt 1 = .ok (.aload_n 0, 1) := by decide +kernel
theorem dX6_foundAt_2 : decode cX6_foundAt 2 = .ok (.getfield 154, 3) := by decide +kernel
theorem dX6_foundAt_5 : decode cX6_foundAt 5 = .ok (.ishl, 1) := by decide +kernel
theorem dX6_foundAt_6 : decode cX6_foundAt 6 = .ok (.istore_n 1, 1) := by decide +kernel
theorem dX6_foundAt_7 : decode cX6_foundAt 7 = .ok (.aload_n 0, 1) := by decide +kernel
theorem dX6_foundAt_8 : decode cX6_foundAt 8 = .ok (.invokevirtual 126, 3) := by decide +kernel
theorem dX6_foundAt_11 : decode cX6_foundAt 11 = .ok (.ifCond .eq 15, 3) := by decide +kernel
theorem dX6_foundAt_14 : decode cX6_foundAt 14 = .ok (.iload_n 1, 1) := by decide +kernel
theorem dX6_foundAt_15 : decode cX6_foundAt 15 = .ok (.iconst 1, 1) := by decide +kernel
theorem dX6_foundAt_16 : decode cX6_foundAt 16 = .ok (.bipush 8, 2) := by decide +kernel
theorem dX6_foundAt_18 : decode cX6_foundAt 18 = .ok (.aload_n 0, 1) := by decide +kernel
theorem dX6_foundAt_19 : decode cX6_foundAt 19 = .ok (.getfield 157, 3) := by decide +kernel
theorem dX6_foundAt_22 : decode cX6_foundAt 22 = .ok (.iadd, 1) := by decide +kernel
theorem dX6_foundAt_23 : decode cX6_foundAt 23 = .ok (.ishl, 1) := by decide +kernel
theorem dX6_foundAt_24 : decode cX6_foundAt 24 = .ok (.ior, 1) := by decide +kernel
theorem dX6_foundAt_25 : decode cX6_foundAt 25 = .ok (.istore_n 1, 1) := by decide +kernel
theorem dX6_foundAt_26 : decode cX6_foundAt 26 = .ok (.iload_n 1, 1) := by decide +kernel
theorem dX6_foundAt_27 : decode cX6_foundAt 27 = .ok (.ireturn, 1) := by decide +kernel
theorem dX6_tellingSignals_0 : decode cX6_tellingSignals 0 = .ok (.iload_n 0, 1) := by decide +kernel
theorem dX6_tellingSignals_1 : decode cX6_tellingSignals 1 = .ok (.tableswitch 47 0 4 #[35, 38, 41, 41, 44], 35) := by decide +kernel
theorem dX6_tellingSignals_36 : decode cX6_tellingSignals 36 = .ok (.bipush 25, 2) := by decide +kernel
theorem dX6_tellingSignals_38 : decode cX6_tellingSignals 38 = .ok (.ireturn, 1) := by decide +kernel
theorem dX6_tellingSignals_39 : decode cX6_tellingSignals 39 = .ok (.bipush 27, 2) := by decide +kernel
theorem dX6_tellingSignals_41 : decode cX6_tellingSignals 41 = .ok (.ireturn, 1) := by decide +kernel
theorem dX6_tellingSignals_42 : decode cX6_tellingSignals 42 = .ok (.bipush 31, 2) := by decide +kernel
theorem dX6_tellingSignals_44 : decode cX6_tellingSignals 44 = .ok (.ireturn, 1) := by decide +kernel
theorem dX6_tellingSignals_45 : decode cX6_tellingSignals 45 = .ok (.bipush 63, 2) := by decide +kernel
theorem dX6_tellingSignals_47 : decode cX6_tellingSignals 47 = .ok (.ireturn, 1) := by decide +kernel
theorem dX6_tellingSignals_48 : decode cX6_tellingSignals 48 = .ok (.bipush 24, 2) := by decide +kernel
theorem dX6_tellingSignals_50 : decode cX6_tellingSignals 50 = .ok (.ireturn, 1) := by decide +kernel
end
section
theorem dX7_init_0 : decode cX7_init 0 = .ok (.aload_n 0, 1) := by decide +kernel
theorem dX7_init_1 : decode cX7_init 1 = .ok (.invokespecial 1, 3) := by decide +kernel
theorem dX7_init_4 : decode cX7_init 4 = .ok (.aload_n 0, 1) := by decide +kernel
theorem dX7_init_5 : decode cX7_init 5 = .ok (.bipush 50, 2) := by decide +kernel
theorem dX7_init_7 : decode cX7_init 7 = .ok (.putfield 7, 3) := by decide +kernel
theorem dX7_init_10 : decode cX7_init 10 = .ok (.aload_n 0, 1) := by decide +kernel
theorem dX7_init_11 : decode cX7_init 11 = .ok (.bipush 60, 2) := by decide +kernel
theorem dX7_init_13 : decode cX7_init 13 = .ok (.putfield 13, 3) := by decide +kernel
theorem dX7_init_16 : decode cX7_init 16 = .ok (.aload_n 0, 1) := by decide +kernel
theorem dX7_init_17 : decode cX7_init 17 = .ok (.bipush 10, 2) := by decide +kernel
theorem dX7_init_19 : decode cX7_init 19 = .ok (.putfield 16, 3) := by decide +kernel
theorem dX7_init_22 : decode cX7_init 22 = .ok (.aload_n 0, 1) := by decide +kernel
theorem dX7_init_23 : decode cX7_init 23 = .ok (.iconst 5, 1) := by decide +kernel
theorem dX7_init_24 : decode cX7_init 24 = .ok (.putfield 19, 3) := by decide +kernel
theorem dX7_init_27 : decode cX7_init 27 = .ok (.aload_n 0, 1) := by decide +kernel
theorem dX7_init_28 : decode cX7_init 28 = .ok (.bipush 15, 2) := by decide +kernel
theorem dX7_init_30 : decode cX7_init 30 = .ok (.putfield 22, 3) := by decide +kernel
theorem dX7_init_33 : decode cX7_init 33 = .ok (.aload_n 0, 1) := by decide +kernel
theorem dX7_init_34 : decode cX7_init 34 = .ok (.iconst 2, 1) := by decide +kernel
theorem dX7_init_35 : decode cX7_init 35 = .ok (.putfield 25, 3) := by decide +kernel
theorem dX7_init_38 : decode cX7_init 38 = .ok (.aload_n 0, 1) := by decide +kernel
theorem dX7_init_39 : decode cX7_init 39 = .ok (.iconst 3, 1) := by decide +kernel
theorem dX7_init_40 : decode cX7_init 40 = .ok (.putfield 28, 3) := by decide +kernel
theorem dX7_init_43 : decode cX7_init 43 = .ok (.aload_n 0, 1) := by decide +kernel
theorem dX7_init_44 : decode cX7_init 44 = .ok (.bipush 30, 2) := by decide +kernel
theorem dX7_init_46 : decode cX7_init 46 = .ok (.putfield 31, 3) := by decide +kernel
theorem dX7_init_49 : decode cX7_init 49 = .ok (.aload_n 0, 1) := by decide +kernel
theorem dX7_init_50 : decode cX7_init 50 = .ok (.sipush 200, 3) := by decide +kernel
theorem dX7_init_53 : decode cX7_init 53 = .ok (.putfield 34, 3) := by decide +kernel
theorem dX7_init_56 : decode cX7_init 56 = .ok (.aload_n 0, 1) := by decide +kernel
theorem dX7_init_57 : decode cX7_init 57 = .ok (.bipush 20, 2) := by decide +kernel
theorem dX7_init_59 : decode cX7_init 59 = .ok (.putfield 37, 3) := by decide +kernel
theorem dX7_init_62 : decode cX7_init 62 = .ok (.aload_n 0, 1) := by decide +kernel
theorem dX7_init_63 : decode cX7_init 63 = .ok (.bipush 10, 2) := by decide +kernel
theorem dX7_init_65 : decode cX7_init 65 = .ok (.putfield 40, 3) := by decide +kernel
theorem dX7_init_68 : decode cX7_init 68 = .ok (.aload_n 0, 1) := by decide +kernel
theorem dX7_init_69 : decode cX7_init 69 = .ok (.bipush 100, 2) := by decide +kernel
theorem dX7_init_71 : decode cX7_init 71 = .ok (.newarray .int, 2) := by decide +kernel
theorem dX7_init_73 : decode cX7_init 73 = .ok (.putfield 43, 3) := by decide +kernel
theorem dX7_init_76 : decode cX7_init 76 = .ok (.aload_n 0, 1) := by decide +kernel
theorem dX7_init_77 : decode cX7_init 77 = .ok (.bipush 100, 2) := by decide +kernel
theorem dX7_init_79 : decode cX7_init 79 = .ok (.newarray .int, 2) := by decide +kernel
theorem dX7_init_81 : decode cX7_init 81 = .ok (.putfield 47, 3) := by decide +kernel
theorem dX7_init_84 : decode cX7_init 84 = .ok (.aload_n 0, 1) := by decide +kernel
theorem dX7_init_85 : decode cX7_init 85 = .ok (.bipush 100, 2) := by decide +kernel
theorem dX7_init_87 : decode cX7_init 87 = .ok (.newarray .int, 2) := by decide +kernel
theorem dX7_init_89 : decode cX7_init 89 = .ok (.putfield 50, 3) := by decide +kernel
theorem dX7_init_92 : decode cX7_init 92 = .ok (.aload_n 0, 1) := by decide +kernel
theorem dX7_init_93 : decode cX7_init 93 = .ok (.iconst 3, 1) := by decide +kernel
theorem dX7_init_94 : decode cX7_init 94 = .ok (.newarray .int, 2) := by decide +kernel
theorem dX7_init_96 : decode cX7_init 96 = .ok (.putfield 53, 3) := by decide +kernel
theorem dX7_init_99 : decode cX7_init 99 = .ok (.aload_n 0, 1) := by decide +kernel
theorem dX7_init_100 : decode cX7_init 100 = .ok (.sipush 512, 3) := by decide +kernel
theorem dX7_init_103 : decode cX7_init 103 = .ok (.newarray .long, 2) := by decide +kernel
theorem dX7_init_105 : decode cX7_init 105 = .ok (.putfield 56, 3) := by decide +kernel
theorem dX7_init_108 : decode cX7_init 108 = .ok (.aload_n 0, 1) := by decide +kernel
theorem dX7_init_109 : decode cX7_init 109 = .ok (.sipush 512, 3) := by decide +kernel
theorem dX7_init_112 : decode cX7_init 112 = .ok (.newarray .long, 2) := by decide +kernel
theorem dX7_init_114 : decode cX7_init 114 = .ok (.putfield 60, 3) := by decide +kernel
theorem dX7_init_117 : decode cX7_init 117 = .ok (.return_, 1) := by decide +kernel
theorem dX7_thrown_0 : decode cX7_thrown 0 = .ok (.aload_n 0, 1) := by decide +kernel
theorem dX7_thrown_1 : decode cX7_thrown 1 = .ok (.getfield 63, 3) := by decide +kernel
theorem dX7_thrown_4 : decode cX7_thrown 4 = .ok (.ireturn, 1) := by decide +kernel
theorem dX7_asks_0 : decode cX7_asks 0 = .ok (.aload_n 0, 1) := by decide +kernel
theorem dX7_asks_1 : decode cX7_asks 1 = .ok (.iload_n 1, 1) := by decide +kernel
theorem dX7_asks_2 : decode cX7_asks 2 = .ok (.ifCond .eq 7, 3) := by decide +kernel
theorem dX7_asks_5 : decode cX7_asks 5 = .ok (.iconst 0, 1) := by decide +kernel
theorem dX7_asks_6 : decode cX7_asks 6 = .ok (.goto 4, 3) := by decide +kernel
theorem dX7_asks_9 : decode cX7_asks 9 = .ok (.iconst 1, 1) := by decide +kernel
theorem dX7_asks_10 : decode cX7_asks 10 = .ok (.putfield 63, 3) := by decide +kernel
theorem dX7_asks_13 : decode cX7_asks 13 = .ok (.iload_n 1, 1) := by decide +kernel
theorem dX7_asks_14 : decode cX7_asks 14 = .ok (.ireturn, 1) := by decide +kernel
theorem dX7_in_0 : decode cX7_in 0 = .ok (.iload_n 0, 1) := by decide +kernel
theorem dX7_in_1 : decode cX7_in 1 = .ok (.iload_n 1, 1) := by decide +kernel
theorem dX7_in_2 : decode cX7_in 2 = .ok (.if_icmp .lt 12, 3) := by decide +kernel
theorem dX7_in_5 : decode cX7_in 5 = .ok (.iload_n 0, 1) := by decide +kernel
theorem dX7_in_6 : decode cX7_in 6 = .ok (.iload_n 2, 1) := by decide +kernel
theorem dX7_in_7 : decode cX7_in 7 = .ok (.if_icmp .gt 7, 3) := by decide +kernel
theorem dX7_in_10 : decode cX7_in 10 = .ok (.iconst 1, 1) := by decide +kernel
theorem dX7_in_11 : decode cX7_in 11 = .ok (.goto 4, 3) := by decide +kernel
theorem dX7_in_14 : decode cX7_in 14 = .ok (.iconst 0, 1) := by decide +kernel
theorem dX7_in_15 : decode cX7_in 15 = .ok (.ireturn, 1) := by decide +kernel
set_option maxRecDepth 20000 in
theorem ggX7_signal_X7_in : GoodIn wsX7_signal wsX7_in := goodIn_r _ [5] (by decide +kernel) (by decide +kernel)
set_option maxRecDepth 20000 in
theorem gX7_signal_X7_in : GoodIn wsX7_signal (va_wsS RX7 66 yX7_in wsX7_in) := goodIn_app (goodIn_of _ (by decide +kernel)) ggX7_signal_X7_in
set_option maxRecDepth 20000 in
theorem ggX7_signal_X7_asks : GoodIn wsX7_signal wsX7_asks := goodIn_r _ [9, 10, 11, 12, 13, 14, 15, 16, 17, 18, 19, 20, 21, 22, 23, 24, 25, 26, 27, 28, 29, 30, 31, 32, 33, 34, 35, 36, 37, 38, 39, 40, 41, 42, 43, 44, 45] (by decide +kernel) (by decide +kernel)
set_option maxRecDepth 20000 in
theorem gX7_signal_X7_asks : GoodIn wsX7_signal (wsV RX7 70 RX7 yX7_asks wsX7_asks) := goodIn_app (goodIn_of _ (by decide +kernel)) ggX7_signal_X7_asks
theorem dX7_signal_0 : decode cX7_signal 0 = .ok (.aload_n 0, 1) := by decide +kernel
theorem dX7_signal_1 : decode cX7_signal 1 = .ok (.iload_n 1, 1) := by decide +kernel
theorem dX7_signal_2 : decode cX7_signal 2 = .ok (.iconst 0, 1) := by decide +kernel
theorem dX7_signal_3 : decode cX7_signal 3 = .ok (.iconst 5, 1) := by decide +kernel
theorem dX7_signal_4 : decode cX7_signal 4 = .ok (.invokestatic 66, 3) := by decide +kernel
theorem dX7_signal_7 : decode cX7_signal 7 = .ok (.invokevirtual 70, 3) := by decide +kernel
theorem dX7_signal_10 : decode cX7_signal 10 = .ok (.ifCond .ne 5, 3) := by decide +kernel
theorem dX7_signal_13 : decode cX7_signal 13 = .ok (.iconst 0, 1) := by decide +kernel
theorem dX7_signal_14 : decode cX7_signal 14 = .ok (.ireturn, 1) := by decide +kernel
theorem dX7_signal_15 : decode cX7_signal 15 = .ok (.aload_n 0, 1) := by decide +kernel
theorem dX7_signal_16 : decode cX7_signal 16 = .ok (.getfield 74, 3) := by decide +kernel
theorem dX7_signal_19 : decode cX7_signal 19 = .ok (.iload_n 1, 1) := by decide +kernel
theorem dX7_signal_20 : decode cX7_signal 20 = .ok (.ishr, 1) := by decide +kernel
theorem dX7_signal_21 : decode cX7_signal 21 = .ok (.iconst 1, 1) := by decide +kernel
theorem dX7_signal_22 : decode cX7_signal 22 = .ok (.iand, 1) := by decide +kernel
theorem dX7_signal_23 : decode cX7_signal 23 = .ok (.iconst 1, 1) := by decide +kernel
theorem dX7_signal_24 : decode cX7_signal 24 = .ok (.if_icmp .ne 7, 3) := by decide +kernel
theorem dX7_signal_27 : decode cX7_signal 27 = .ok (.iconst 1, 1) := by decide +kernel
theorem dX7_signal_28 : decode cX7_signal 28 = .ok (.goto 4, 3) := by decide +kernel
theorem dX7_signal_31 : decode cX7_signal 31 = .ok (.iconst 0, 1) := by decide +kernel
theorem dX7_signal_32 : decode cX7_signal 32 = .ok (.istore_n 3, 1) := by decide +kernel
theorem dX7_signal_33 : decode cX7_signal 33 = .ok (.aload_n 0, 1) := by decide +kernel
theorem dX7_signal_34 : decode cX7_signal 34 = .ok (.dup, 1) := by decide +kernel
theorem dX7_signal_35 : decode cX7_signal 35 = .ok (.getfield 74, 3) := by decide +kernel
theorem dX7_signal_38 : decode cX7_signal 38 = .ok (.iload_n 2, 1) := by decide +kernel
theorem dX7_signal_39 : decode cX7_signal 39 = .ok (.iload_n 3, 1) := by decide +kernel
theorem dX7_signal_40 : decode cX7_signal 40 = .ok (.if_icmp .ne 7, 3) := by decide +kernel
theorem dX7_signal_43 : decode cX7_signal 43 = .ok (.iconst 0, 1) := by decide +kernel
theorem dX7_signal_44 : decode cX7_signal 44 = .ok (.goto 17, 3) := by decide +kernel
theorem dX7_signal_47 : decode cX7_signal 47 = .ok (.iload_n 2, 1) := by decide +kernel
theorem dX7_signal_48 : decode cX7_signal 48 = .ok (.ifCond .eq 9, 3) := by decide +kernel
theorem dX7_signal_51 : decode cX7_signal 51 = .ok (.iconst 1, 1) := by decide +kernel
theorem dX7_signal_52 : decode cX7_signal 52 = .ok (.iload_n 1, 1) := by decide +kernel
theorem dX7_signal_53 : decode cX7_signal 53 = .ok (.ishl, 1) := by decide +kernel
theorem dX7_signal_54 : decode cX7_signal 54 = .ok (.goto 7, 3) := by decide +kernel
theorem dX7_signal_57 : decode cX7_signal 57 = .ok (.iconst 1, 1) := by decide +kernel
theorem dX7_signal_58 : decode cX7_signal 58 = .ok (.iload_n 1, 1) := by decide +kernel
theorem dX7_signal_59 : decode cX7_signal 59 = .ok (.ishl, 1) := by decide +kernel
theorem dX7_signal_60 : decode cX7_signal 60 = .ok (.ineg, 1) := by decide +kernel
theorem dX7_signal_61 : decode cX7_signal 61 = .ok (.iadd, 1) := by decide +kernel
theorem dX7_signal_62 : decode cX7_signal 62 = .ok (.putfield 74, 3) := by decide +kernel
theorem dX7_signal_65 : decode cX7_signal 65 = .ok (.iload_n 3, 1) := by decide +kernel
theorem dX7_signal_66 : decode cX7_signal 66 = .ok (.ireturn, 1) := by decide +kernel
set_option maxRecDepth 20000 in
theorem ggX7_setRate_X7_in : GoodIn wsX7_setRate wsX7_in := goodIn_r _ [5] (by decide +kernel) (by decide +kernel)
set_option maxRecDepth 20000 in
theorem gX7_setRate_X7_in : GoodIn wsX7_setRate (va_wsS RX7 66 yX7_in wsX7_in) := goodIn_app (goodIn_of _ (by decide +kernel)) ggX7_setRate_X7_in
set_option maxRecDepth 20000 in
theorem ggX7_setRate_X7_asks : GoodIn wsX7_setRate wsX7_asks := goodIn_r _ [9, 10, 11, 12, 13, 14, 15, 16, 17, 18, 19, 20, 21, 22, 23, 24, 25, 26, 27, 28, 29, 30, 31, 32, 33, 34, 35, 36, 37, 38, 39, 40, 41, 42, 43, 44, 45] (by decide +kernel) (by decide +kernel)
set_option maxRecDepth 20000 in
theorem gX7_setRate_X7_asks : GoodIn wsX7_setRate (wsV RX7 70 RX7 yX7_asks wsX7_asks) := goodIn_app (goodIn_of _ (by decide +kernel)) ggX7_setRate_X7_asks
theorem dX7_setRate_0 : decode cX7_setRate 0 = .ok (.aload_n 0, 1) := by decide +kernel
theorem dX7_setRate_1 : decode cX7_setRate 1 = .ok (.iload_n 1, 1) := by decide +kernel
theorem dX7_setRate_2 : decode cX7_setRate 2 = .ok (.bipush 20, 2) := by decide +kernel
theorem dX7_setRate_4 : decode cX7_setRate 4 = .ok (.bipush 100, 2) := by decide +kernel
theorem dX7_setRate_6 : decode cX7_setRate 6 = .ok (.invokestatic 66, 3) := by decide +kernel
theorem dX7_setRate_9 : decode cX7_setRate 9 = .ok (.invokevirtual 70, 3) := by decide +kernel
theorem dX7_setRate_12 : decode cX7_setRate 12 = .ok (.ifCond .ne 5, 3) := by decide +kernel
theorem dX7_setRate_15 : decode cX7_setRate 15 = .ok (.iconst 0, 1) := by decide +kernel
theorem dX7_setRate_16 : decode cX7_setRate 16 = .ok (.ireturn, 1) := by decide +kernel
theorem dX7_setRate_17 : decode cX7_setRate 17 = .ok (.aload_n 0, 1) := by decide +kernel
theorem dX7_setRate_18 : decode cX7_setRate 18 = .ok (.getfield 7, 3) := by decide +kernel
theorem dX7_setRate_21 : decode cX7_setRate 21 = .ok (.istore_n 2, 1) := by decide +kernel
theorem dX7_setRate_22 : decode cX7_setRate 22 = .ok (.aload_n 0, 1) := by decide +kernel
theorem dX7_setRate_23 : decode cX7_setRate 23 = .ok (.iload_n 1, 1) := by decide +kernel
theorem dX7_setRate_24 : decode cX7_setRate 24 = .ok (.putfield 7, 3) := by decide +kernel
theorem dX7_setRate_27 : decode cX7_setRate 27 = .ok (.iload_n 2, 1) := by decide +kernel
theorem dX7_setRate_28 : decode cX7_setRate 28 = .ok (.ireturn, 1) := by decide +kernel
theorem dX7_asksSetting_0 : decode cX7_asksSetting 0 = .ok (.aload_n 0, 1) := by decide +kernel
theorem dX7_asksSetting_1 : decode cX7_asksSetting 1 = .ok (.iload_n 1, 1) := by decide +kernel
theorem dX7_asksSetting_2 : decode cX7_asksSetting 2 = .ok (.ifCond .ne 7, 3) := by decide +kernel
theorem dX7_asksSetting_5 : decode cX7_asksSetting 5 = .ok (.iconst 1, 1) := by decide +kernel
theorem dX7_asksSetting_6 : decode cX7_asksSetting 6 = .ok (.goto 15, 3) := by decide +kernel
theorem dX7_asksSetting_9 : decode cX7_asksSetting 9 = .ok (.aload_n 0, 1) := by decide +kernel
theorem dX7_asksSetting_10 : decode cX7_asksSetting 10 = .ok (.getfield 77, 3) := by decide +kernel
theorem dX7_asksSetting_13 : decode cX7_asksSetting 13 = .ok (.ifCond .eq 7, 3) := by decide +kernel
theorem dX7_asksSetting_16 : decode cX7_asksSetting 16 = .ok (.iconst 2, 1) := by decide +kernel
theorem dX7_asksSetting_17 : decode cX7_asksSetting 17 = .ok (.goto 4, 3) := by decide +kernel
theorem dX7_asksSetting_20 : decode cX7_asksSetting 20 = .ok (.iconst 0, 1) := by decide +kernel
theorem dX7_asksSetting_21 : decode cX7_asksSetting 21 = .ok (.putfield 63, 3) := by decide +kernel
theorem dX7_asksSetting_24 : decode cX7_asksSetting 24 = .ok (.aload_n 0, 1) := by decide +kernel
theorem dX7_asksSetting_25 : decode cX7_asksSetting 25 = .ok (.getfield 63, 3) := by decide +kernel
theorem dX7_asksSetting_28 : decode cX7_asksSetting 28 = .ok (.ifCond .ne 7, 3) := by decide +kernel
theorem dX7_asksSetting_31 : decode cX7_asksSetting 31 = .ok (.iconst 1, 1) := by decide +kernel
theorem dX7_asksSetting_32 : decode cX7_asksSetting 32 = .ok (.goto 4, 3) := by decide +kernel
theorem dX7_asksSetting_35 : decode cX7_asksSetting 35 = .ok (.iconst 0, 1) := by decide +kernel
theorem dX7_asksSetting_36 : decode cX7_asksSetting 36 = .ok (.ireturn, 1) := by decide +kernel
set_option maxRecDepth 20000 in
theorem ggX7_setTimes_X7_in : GoodIn wsX7_setTimes wsX7_in := goodIn_r _ [8] (by decide +kernel) (by decide +kernel)
set_option maxRecDepth 20000 in
theorem gX7_setTimes_X7_in : GoodIn wsX7_setTimes (va_wsS RX7 66 yX7_in wsX7_in) := goodIn_app (goodIn_of _ (by decide +kernel)) ggX7_setTimes_X7_in
set_option maxRecDepth 20000 in
theorem ggX7_setTimes_X7_asksSetting : GoodIn wsX7_setTimes wsX7_asksSetting := goodIn_r _ [12, 13, 14, 15, 16, 17, 18, 19, 20, 21, 22, 23, 24, 25, 26, 27, 28, 29, 30, 31, 32, 33, 34, 35, 36, 37, 38, 39, 40, 41, 42, 43, 44, 45, 46, 47, 48, 49] (by decide +kernel) (by decide +kernel)
set_option maxRecDepth 20000 in
theorem gX7_setTimes_X7_asksSetting : GoodIn wsX7_setTimes (wsV RX7 80 RX7 yX7_asksSetting wsX7_asksSetting) := goodIn_app (goodIn_of _ (by decide +kernel)) ggX7_setTimes_X7_asksSetting
theorem dX7_setTimes_0 : decode cX7_setTimes 0 = .ok (.aload_n 0, 1) := by decide +kernel
theorem dX7_setTimes_1 : decode cX7_setTimes 1 = .ok (.iload_n 1, 1) := by decide +kernel
theorem dX7_setTimes_2 : decode cX7_setTimes 2 = .ok (.iconst 1, 1) := by decide +kernel
theorem dX7_setTimes_3 : decode cX7_setTimes 3 = .ok (.sipush 200, 3) := by decide +kernel
theorem dX7_setTimes_6 : decode cX7_setTimes 6 = .ok (.invokestatic 66, 3) := by decide +kernel
theorem dX7_setTimes_9 : decode cX7_setTimes 9 = .ok (.ifCond .eq 38, 3) := by decide +kernel
theorem dX7_setTimes_12 : decode cX7_setTimes 12 = .ok (.iload_n 2, 1) := by decide +kernel
theorem dX7_setTimes_13 : decode cX7_setTimes 13 = .ok (.iconst 1, 1) := by decide +kernel
theorem dX7_setTimes_14 : decode cX7_setTimes 14 = .ok (.bipush 30, 2) := by decide +kernel
theorem dX7_setTimes_16 : decode cX7_setTimes 16 = .ok (.invokestatic 66, 3) := by decide +kernel
theorem dX7_setTimes_19 : decode cX7_setTimes 19 = .ok (.ifCond .eq 28, 3) := by decide +kernel
theorem dX7_setTimes_22 : decode cX7_setTimes 22 = .ok (.iload_n 3, 1) := by decide +kernel
theorem dX7_setTimes_23 : decode cX7_setTimes 23 = .ok (.iconst 1, 1) := by decide +kernel
theorem dX7_setTimes_24 : decode cX7_setTimes 24 = .ok (.bipush 30, 2) := by decide +kernel
theorem dX7_setTimes_26 : decode cX7_setTimes 26 = .ok (.invokestatic 66, 3) := by decide +kernel
theorem dX7_setTimes_29 : decode cX7_setTimes 29 = .ok (.ifCond .eq 18, 3) := by decide +kernel
theorem dX7_setTimes_32 : decode cX7_setTimes 32 = .ok (.iload 4, 2) := by decide +kernel
theorem dX7_setTimes_34 : decode cX7_setTimes 34 = .ok (.iconst 1, 1) := by decide +kernel
theorem dX7_setTimes_35 : decode cX7_setTimes 35 = .ok (.bipush 60, 2) := by decide +kernel
theorem dX7_setTimes_37 : decode cX7_setTimes 37 = .ok (.invokestatic 66, 3) := by decide +kernel
theorem dX7_setTimes_40 : decode cX7_setTimes 40 = .ok (.ifCond .eq 7, 3) := by decide +kernel
theorem dX7_setTimes_43 : decode cX7_setTimes 43 = .ok (.iconst 1, 1) := by decide +kernel
theorem dX7_setTimes_44 : decode cX7_setTimes 44 = .ok (.goto 4, 3) := by decide +kernel
theorem dX7_setTimes_47 : decode cX7_setTimes 47 = .ok (.iconst 0, 1) := by decide +kernel
theorem dX7_setTimes_48 : decode cX7_setTimes 48 = .ok (.invokevirtual 80, 3) := by decide +kernel
theorem dX7_setTimes_51 : decode cX7_setTimes 51 = .ok (.ifCond .eq 24, 3) := by decide +kernel
theorem dX7_setTimes_54 : decode cX7_setTimes 54 = .ok (.aload_n 0, 1) := by decide +kernel
theorem dX7_setTimes_55 : decode cX7_setTimes 55 = .ok (.iload_n 1, 1) := by decide +kernel
theorem dX7_setTimes_56 : decode cX7_setTimes 56 = .ok (.putfield 13, 3) := by decide +kernel
theorem dX7_setTimes_59 : decode cX7_setTimes 59 = .ok (.aload_n 0, 1) := by decide +kernel
theorem dX7_setTimes_60 : decode cX7_setTimes 60 = .ok (.iload_n 2, 1) := by decide +kernel
theorem dX7_setTimes_61 : decode cX7_setTimes 61 = .ok (.putfield 16, 3) := by decide +kernel
theorem dX7_setTimes_64 : decode cX7_setTimes 64 = .ok (.aload_n 0, 1) := by decide +kernel
theorem dX7_setTimes_65 : decode cX7_setTimes 65 = .ok (.iload_n 3, 1) := by decide +kernel
theorem dX7_setTimes_66 : decode cX7_setTimes 66 = .ok (.putfield 19, 3) := by decide +kernel
theorem dX7_setTimes_69 : decode cX7_setTimes 69 = .ok (.aload_n 0, 1) := by decide +kernel
theorem dX7_setTimes_70 : decode cX7_setTimes 70 = .ok (.iload 4, 2) := by decide +kernel
theorem dX7_setTimes_72 : decode cX7_setTimes 72 = .ok (.putfield 22, 3) := by decide +kernel
theorem dX7_setTimes_75 : decode cX7_setTimes 75 = .ok (.return_, 1) := by decide +kernel
set_option maxRecDepth 20000 in
theorem ggX7_setEyes_X7_in : GoodIn wsX7_setEyes wsX7_in := goodIn_r _ [7] (by decide +kernel) (by decide +kernel)
set_option maxRecDepth 20000 in
theorem gX7_setEyes_X7_in : GoodIn wsX7_setEyes (va_wsS RX7 66 yX7_in wsX7_in) := goodIn_app (goodIn_of _ (by decide +kernel)) ggX7_setEyes_X7_in
set_option maxRecDepth 20000 in
theorem ggX7_setEyes_X7_asksSetting : GoodIn wsX7_setEyes wsX7_asksSetting := goodIn_r _ [11, 12, 13, 14, 15, 16, 17, 18, 19, 20, 21, 22, 23, 24, 25, 26, 27, 28, 29, 30, 31, 32, 33, 34, 35, 36, 37, 38, 39, 40, 41, 42, 43, 44, 45, 46, 47, 48] (by decide +kernel) (by decide +kernel)
set_option maxRecDepth 20000 in
theorem gX7_setEyes_X7_asksSetting : GoodIn wsX7_setEyes (wsV RX7 80 RX7 yX7_asksSetting wsX7_asksSetting) := goodIn_app (goodIn_of _ (by decide +kernel)) ggX7_setEyes_X7_asksSetting
theorem dX7_setEyes_0 : decode cX7_setEyes 0 = .ok (.aload_n 0, 1) := by decide +kernel
theorem dX7_setEyes_1 : decode cX7_setEyes 1 = .ok (.iload_n 1, 1) := by decide +kernel
theorem dX7_setEyes_2 : decode cX7_setEyes 2 = .ok (.iconst 1, 1) := by decide +kernel
theorem dX7_setEyes_3 : decode cX7_setEyes 3 = .ok (.iconst 5, 1) := by decide +kernel
theorem dX7_setEyes_4 : decode cX7_setEyes 4 = .ok (.invokestatic 66, 3) := by decide +kernel
theorem dX7_setEyes_7 : decode cX7_setEyes 7 = .ok (.ifCond .eq 26, 3) := by decide +kernel
theorem dX7_setEyes_10 : decode cX7_setEyes 10 = .ok (.iload_n 2, 1) := by decide +kernel
theorem dX7_setEyes_11 : decode cX7_setEyes 11 = .ok (.iconst 1, 1) := by decide +kernel
theorem dX7_setEyes_12 : decode cX7_setEyes 12 = .ok (.iconst 5, 1) := by decide +kernel
theorem dX7_setEyes_13 : decode cX7_setEyes 13 = .ok (.invokestatic 66, 3) := by decide +kernel
theorem dX7_setEyes_16 : decode cX7_setEyes 16 = .ok (.ifCond .eq 17, 3) := by decide +kernel
theorem dX7_setEyes_19 : decode cX7_setEyes 19 = .ok (.iload_n 3, 1) := by decide +kernel
theorem dX7_setEyes_20 : decode cX7_setEyes 20 = .ok (.iconst 5, 1) := by decide +kernel
theorem dX7_setEyes_21 : decode cX7_setEyes 21 = .ok (.bipush 100, 2) := by decide +kernel
theorem dX7_setEyes_23 : decode cX7_setEyes 23 = .ok (.invokestatic 66, 3) := by decide +kernel
theorem dX7_setEyes_26 : decode cX7_setEyes 26 = .ok (.ifCond .eq 7, 3) := by decide +kernel
theorem dX7_setEyes_29 : decode cX7_setEyes 29 = .ok (.iconst 1, 1) := by decide +kernel
theorem dX7_setEyes_30 : decode cX7_setEyes 30 = .ok (.goto 4, 3) := by decide +kernel
theorem dX7_setEyes_33 : decode cX7_setEyes 33 = .ok (.iconst 0, 1) := by decide +kernel
theorem dX7_setEyes_34 : decode cX7_setEyes 34 = .ok (.invokevirtual 80, 3) := by decide +kernel
theorem dX7_setEyes_37 : decode cX7_setEyes 37 = .ok (.ifCond .eq 18, 3) := by decide +kernel
theorem dX7_setEyes_40 : decode cX7_setEyes 40 = .ok (.aload_n 0, 1) := by decide +kernel
theorem dX7_setEyes_41 : decode cX7_setEyes 41 = .ok (.iload_n 1, 1) := by decide +kernel
theorem dX7_setEyes_42 : decode cX7_setEyes 42 = .ok (.putfield 25, 3) := by decide +kernel
theorem dX7_setEyes_45 : decode cX7_setEyes 45 = .ok (.aload_n 0, 1) := by decide +kernel
theorem dX7_setEyes_46 : decode cX7_setEyes 46 = .ok (.iload_n 2, 1) := by decide +kernel
theorem dX7_setEyes_47 : decode cX7_setEyes 47 = .ok (.putfield 28, 3) := by decide +kernel
theorem dX7_setEyes_50 : decode cX7_setEyes 50 = .ok (.aload_n 0, 1) := by decide +kernel
theorem dX7_setEyes_51 : decode cX7_setEyes 51 = .ok (.iload_n 3, 1) := by decide +kernel
theorem dX7_setEyes_52 : decode cX7_setEyes 52 = .ok (.putfield 31, 3) := by decide +kernel
theorem dX7_setEyes_55 : decode cX7_setEyes 55 = .ok (.return_, 1) := by decide +kernel
set_option maxRecDepth 20000 in
theorem ggX7_setFurnace_X7_in : GoodIn wsX7_setFurnace wsX7_in := goodIn_r _ [7] (by decide +kernel) (by decide +kernel)
set_option maxRecDepth 20000 in
theorem gX7_setFurnace_X7_in : GoodIn wsX7_setFurnace (va_wsS RX7 66 yX7_in wsX7_in) := goodIn_app (goodIn_of _ (by decide +kernel)) ggX7_setFurnace_X7_in
set_option maxRecDepth 20000 in
theorem ggX7_setFurnace_X7_asksSetting : GoodIn wsX7_setFurnace wsX7_asksSetting := goodIn_r _ [11, 12, 13, 14, 15, 16, 17, 18, 19, 20, 21, 22, 23, 24, 25, 26, 27, 28, 29, 30, 31, 32, 33, 34, 35, 36, 37, 38, 39, 40, 41, 42, 43, 44, 45, 46, 47, 48] (by decide +kernel) (by decide +kernel)
set_option maxRecDepth 20000 in
theorem gX7_setFurnace_X7_asksSetting : GoodIn wsX7_setFurnace (wsV RX7 80 RX7 yX7_asksSetting wsX7_asksSetting) := goodIn_app (goodIn_of _ (by decide +kernel)) ggX7_setFurnace_X7_asksSetting
theorem dX7_setFurnace_0 : decode cX7_setFurnace 0 = .ok (.aload_n 0, 1) := by decide +kernel
theorem dX7_setFurnace_1 : decode cX7_setFurnace 1 = .ok (.iload_n 1, 1) := by decide +kernel
theorem dX7_setFurnace_2 : decode cX7_setFurnace 2 = .ok (.iconst 1, 1) := by decide +kernel
theorem dX7_setFurnace_3 : decode cX7_setFurnace 3 = .ok (.sipush 500, 3) := by decide +kernel
theorem dX7_setFurnace_6 : decode cX7_setFurnace 6 = .ok (.invokestatic 66, 3) := by decide +kernel
theorem dX7_setFurnace_9 : decode cX7_setFurnace 9 = .ok (.ifCond .eq 27, 3) := by decide +kernel
theorem dX7_setFurnace_12 : decode cX7_setFurnace 12 = .ok (.iload_n 2, 1) := by decide +kernel
theorem dX7_setFurnace_13 : decode cX7_setFurnace 13 = .ok (.iconst 1, 1) := by decide +kernel
theorem dX7_setFurnace_14 : decode cX7_setFurnace 14 = .ok (.bipush 50, 2) := by decide +kernel
theorem dX7_setFurnace_16 : decode cX7_setFurnace 16 = .ok (.invokestatic 66, 3) := by decide +kernel
theorem dX7_setFurnace_19 : decode cX7_setFurnace 19 = .ok (.ifCond .eq 17, 3) := by decide +kernel
theorem dX7_setFurnace_22 : decode cX7_setFurnace 22 = .ok (.iload_n 3, 1) := by decide +kernel
theorem dX7_setFurnace_23 : decode cX7_setFurnace 23 = .ok (.iconst 1, 1) := by decide +kernel
theorem dX7_setFurnace_24 : decode cX7_setFurnace 24 = .ok (.bipush 50, 2) := by decide +kernel
theorem dX7_setFurnace_26 : decode cX7_setFurnace 26 = .ok (.invokestatic 66, 3) := by decide +kernel
theorem dX7_setFurnace_29 : decode cX7_setFurnace 29 = .ok (.ifCond .eq 7, 3) := by decide +kernel
theorem dX7_setFurnace_32 : decode cX7_setFurnace 32 = .ok (.iconst 1, 1) := by decide +kernel
theorem dX7_setFurnace_33 : decode cX7_setFurnace 33 = .ok (.goto 4, 3) := by decide +kernel
theorem dX7_setFurnace_36 : decode cX7_setFurnace 36 = .ok (.iconst 0, 1) := by decide +kernel
theorem dX7_setFurnace_37 : decode cX7_setFurnace 37 = .ok (.invokevirtual 80, 3) := by decide +kernel
theorem dX7_setFurnace_40 : decode cX7_setFurnace 40 = .ok (.ifCond .eq 18, 3) := by decide +kernel
theorem dX7_setFurnace_43 : decode cX7_setFurnace 43 = .ok (.aload_n 0, 1) := by decide +kernel
theorem dX7_setFurnace_44 : decode cX7_setFurnace 44 = .ok (.iload_n 1, 1) := by decide +kernel
theorem dX7_setFurnace_45 : decode cX7_setFurnace 45 = .ok (.putfield 34, 3) := by decide +kernel
theorem dX7_setFurnace_48 : decode cX7_setFurnace 48 = .ok (.aload_n 0, 1) := by decide +kernel
theorem dX7_setFurnace_49 : decode cX7_setFurnace 49 = .ok (.iload_n 2, 1) := by decide +kernel
theorem dX7_setFurnace_50 : decode cX7_setFurnace 50 = .ok (.putfield 37, 3) := by decide +kernel
theorem dX7_setFurnace_53 : decode cX7_setFurnace 53 = .ok (.aload_n 0, 1) := by decide +kernel
theorem dX7_setFurnace_54 : decode cX7_setFurnace 54 = .ok (.iload_n 3, 1) := by decide +kernel
theorem dX7_setFurnace_55 : decode cX7_setFurnace 55 = .ok (.putfield 40, 3) := by decide +kernel
theorem dX7_setFurnace_58 : decode cX7_setFurnace 58 = .ok (.return_, 1) := by decide +kernel
theorem dX7_has_0 : decode cX7_has 0 = .ok (.iload_n 0, 1) := by decide +kernel
theorem dX7_has_1 : decode cX7_has 1 = .ok (.iload_n 1, 1) := by decide +kernel
theorem dX7_has_2 : decode cX7_has 2 = .ok (.ishr, 1) := by decide +kernel
theorem dX7_has_3 : decode cX7_has 3 = .ok (.iconst 1, 1) := by decide +kernel
theorem dX7_has_4 : decode cX7_has 4 = .ok (.iand, 1) := by decide +kernel
theorem dX7_has_5 : decode cX7_has 5 = .ok (.iconst 1, 1) := by decide +kernel
theorem dX7_has_6 : decode cX7_has 6 = .ok (.if_icmp .ne 7, 3) := by decide +kernel
theorem dX7_has_9 : decode cX7_has 9 = .ok (.iconst 1, 1) := by decide +kernel
theorem dX7_has_10 : decode cX7_has 10 = .ok (.goto 4, 3) := by decide +kernel
theorem dX7_has_13 : decode cX7_has 13 = .ok (.iconst 0, 1) := by decide +kernel
theorem dX7_has_14 : decode cX7_has 14 = .ok (.ireturn, 1) := by decide +kernel
set_option maxRecDepth 20000 in
theorem ggX7_looks_X7_has : GoodIn wsX7_looks wsX7_has := goodIn_r _ [7] (by decide +kernel) (by decide +kernel)
set_option maxRecDepth 20000 in
theorem gX7_looks_X7_has : GoodIn wsX7_looks (va_wsS RX7 83 yX7_has wsX7_has) := goodIn_app (goodIn_of _ (by decide +kernel)) ggX7_looks_X7_has
theorem dX7_looks_0 : decode cX7_looks 0 = .ok (.iload_n 1, 1) := by decide +kernel
theorem dX7_looks_1 : decode cX7_looks 1 = .ok (.iconst 3, 1) := by decide +kernel
theorem dX7_looks_2 : decode cX7_looks 2 = .ok (.iload_n 2, 1) := by decide +kernel
theorem dX7_looks_3 : decode cX7_looks 3 = .ok (.iadd, 1) := by decide +kernel
theorem dX7_looks_4 : decode cX7_looks 4 = .ok (.invokestatic 83, 3) := by decide +kernel
theorem dX7_looks_7 : decode cX7_looks 7 = .ok (.istore 4, 2) := by decide +kernel
theorem dX7_looks_9 : decode cX7_looks 9 = .ok (.iload 4, 2) := by decide +kernel
theorem dX7_looks_11 : decode cX7_looks 11 = .ok (.aload_n 0, 1) := by decide +kernel
theorem dX7_looks_12 : decode cX7_looks 12 = .ok (.getfield 87, 3) := by decide +kernel
theorem dX7_looks_15 : decode cX7_looks 15 = .ok (.iload_n 2, 1) := by decide +kernel
theorem dX7_looks_16 : decode cX7_looks 16 = .ok (.invokestatic 83, 3) := by decide +kernel
theorem dX7_looks_19 : decode cX7_looks 19 = .ok (.if_icmp .ne 5, 3) := by decide +kernel
theorem dX7_looks_22 : decode cX7_looks 22 = .ok (.iconst 0, 1) := by decide +kernel
theorem dX7_looks_23 : decode cX7_looks 23 = .ok (.ireturn, 1) := by decide +kernel
theorem dX7_looks_24 : decode cX7_looks 24 = .ok (.iload_n 3, 1) := by decide +kernel
theorem dX7_looks_25 : decode cX7_looks 25 = .ok (.iconst 1, 1) := by decide +kernel
theorem dX7_looks_26 : decode cX7_looks 26 = .ok (.iadd, 1) := by decide +kernel
theorem dX7_looks_27 : decode cX7_looks 27 = .ok (.iload 4, 2) := by decide +kernel
theorem dX7_looks_29 : decode cX7_looks 29 = .ok (.ifCond .eq 10, 3) := by decide +kernel
theorem dX7_looks_32 : decode cX7_looks 32 = .ok (.aload_n 0, 1) := by decide +kernel
theorem dX7_looks_33 : decode cX7_looks 33 = .ok (.getfield 25, 3) := by decide +kernel
theorem dX7_looks_36 : decode cX7_looks 36 = .ok (.goto 7, 3) := by decide +kernel
theorem dX7_looks_39 : decode cX7_looks 39 = .ok (.aload_n 0, 1) := by decide +kernel
theorem dX7_looks_40 : decode cX7_looks 40 = .ok (.getfield 28, 3) := by decide +kernel
theorem dX7_looks_43 : decode cX7_looks 43 = .ok (.if_icmp .ge 7, 3) := by decide +kernel
theorem dX7_looks_46 : decode cX7_looks 46 = .ok (.iload_n 3, 1) := by decide +kernel
theorem dX7_looks_47 : decode cX7_looks 47 = .ok (.iconst 1, 1) := by decide +kernel
theorem dX7_looks_48 : decode cX7_looks 48 = .ok (.iadd, 1) := by decide +kernel
theorem dX7_looks_49 : decode cX7_looks 49 = .ok (.ireturn, 1) := by decide +kernel
theorem dX7_looks_50 : decode cX7_looks 50 = .ok (.aload_n 0, 1) := by decide +kernel
theorem dX7_looks_51 : decode cX7_looks 51 = .ok (.dup, 1) := by decide +kernel
theorem dX7_looks_52 : decode cX7_looks 52 = .ok (.getfield 87, 3) := by decide +kernel
theorem dX7_looks_55 : decode cX7_looks 55 = .ok (.iload 4, 2) := by decide +kernel
theorem dX7_looks_57 : decode cX7_looks 57 = .ok (.ifCond .eq 9, 3) := by decide +kernel
theorem dX7_looks_60 : decode cX7_looks 60 = .ok (.iconst 1, 1) := by decide +kernel
theorem dX7_looks_61 : decode cX7_looks 61 = .ok (.iload_n 2, 1) := by decide +kernel
theorem dX7_looks_62 : decode cX7_looks 62 = .ok (.ishl, 1) := by decide +kernel
theorem dX7_looks_63 : decode cX7_looks 63 = .ok (.goto 7, 3) := by decide +kernel
theorem dX7_looks_66 : decode cX7_looks 66 = .ok (.iconst 1, 1) := by decide +kernel
theorem dX7_looks_67 : decode cX7_looks 67 = .ok (.iload_n 2, 1) := by decide +kernel
theorem dX7_looks_68 : decode cX7_looks 68 = .ok (.ishl, 1) := by decide +kernel
theorem dX7_looks_69 : decode cX7_looks 69 = .ok (.ineg, 1) := by decide +kernel
theorem dX7_looks_70 : decode cX7_looks 70 = .ok (.iadd, 1) := by decide +kernel
theorem dX7_looks_71 : decode cX7_looks 71 = .ok (.putfield 87, 3) := by decide +kernel
theorem dX7_looks_74 : decode cX7_looks 74 = .ok (.iconst 0, 1) := by decide +kernel
theorem dX7_looks_75 : decode cX7_looks 75 = .ok (.ireturn, 1) := by decide +kernel
theorem dX7_nears_0 : decode cX7_nears 0 = .ok (.iload_n 1, 1) := by decide +kernel
theorem dX7_nears_1 : decode cX7_nears 1 = .ok (.iload_n 0, 1) := by decide +kernel
theorem dX7_nears_2 : decode cX7_nears 2 = .ok (.if_icmp .le 22, 3) := by decide +kernel
theorem dX7_nears_5 : decode cX7_nears 5 = .ok (.iload_n 0, 1) := by decide +kernel
theorem dX7_nears_6 : decode cX7_nears 6 = .ok (.iload_n 1, 1) := by decide +kernel
theorem dX7_nears_7 : decode cX7_nears 7 = .ok (.iload_n 0, 1) := by decide +kernel
theorem dX7_nears_8 : decode cX7_nears 8 = .ok (.isub, 1) := by decide +kernel
theorem dX7_nears_9 : decode cX7_nears 9 = .ok (.iload_n 2, 1) := by decide +kernel
theorem dX7_nears_10 : decode cX7_nears 10 = .ok (.if_icmp .ge 9, 3) := by decide +kernel
theorem dX7_nears_13 : decode cX7_nears 13 = .ok (.iload_n 1, 1) := by decide +kernel
theorem dX7_nears_14 : decode cX7_nears 14 = .ok (.iload_n 0, 1) := by decide +kernel
theorem dX7_nears_15 : decode cX7_nears 15 = .ok (.isub, 1) := by decide +kernel
theorem dX7_nears_16 : decode cX7_nears 16 = .ok (.goto 4, 3) := by decide +kernel
theorem dX7_nears_19 : decode cX7_nears 19 = .ok (.iload_n 2, 1) := by decide +kernel
theorem dX7_nears_20 : decode cX7_nears 20 = .ok (.iadd, 1) := by decide +kernel
theorem dX7_nears_21 : decode cX7_nears 21 = .ok (.goto 19, 3) := by decide +kernel
theorem dX7_nears_24 : decode cX7_nears 24 = .ok (.iload_n 0, 1) := by decide +kernel
theorem dX7_nears_25 : decode cX7_nears 25 = .ok (.iload_n 0, 1) := by decide +kernel
theorem dX7_nears_26 : decode cX7_nears 26 = .ok (.iload_n 1, 1) := by decide +kernel
theorem dX7_nears_27 : decode cX7_nears 27 = .ok (.isub, 1) := by decide +kernel
theorem dX7_nears_28 : decode cX7_nears 28 = .ok (.iload_n 2, 1) := by decide +kernel
theorem dX7_nears_29 : decode cX7_nears 29 = .ok (.if_icmp .ge 9, 3) := by decide +kernel
theorem dX7_nears_32 : decode cX7_nears 32 = .ok (.iload_n 0, 1) := by decide +kernel
theorem dX7_nears_33 : decode cX7_nears 33 = .ok (.iload_n 1, 1) := by decide +kernel
theorem dX7_nears_34 : decode cX7_nears 34 = .ok (.isub, 1) := by decide +kernel
theorem dX7_nears_35 : decode cX7_nears 35 = .ok (.goto 4, 3) := by decide +kernel
theorem dX7_nears_38 : decode cX7_nears 38 = .ok (.iload_n 2, 1) := by decide +kernel
theorem dX7_nears_39 : decode cX7_nears 39 = .ok (.isub, 1) := by decide +kernel
theorem dX7_nears_40 : decode cX7_nears 40 = .ok (.ireturn, 1) := by decide +kernel
set_option maxRecDepth 20000 in
theorem ggX7_goes_X7_nears : GoodIn wsX7_goes wsX7_nears := goodIn_r _ [10] (by decide +kernel) (by decide +kernel)
set_option maxRecDepth 20000 in
theorem gX7_goes_X7_nears : GoodIn wsX7_goes (va_wsS RX7 96 yX7_nears wsX7_nears) := goodIn_app (goodIn_of _ (by decide +kernel)) ggX7_goes_X7_nears
theorem dX7_goes_0 : decode cX7_goes 0 = .ok (.aload_n 0, 1) := by decide +kernel
theorem dX7_goes_1 : decode cX7_goes 1 = .ok (.getfield 77, 3) := by decide +kernel
theorem dX7_goes_4 : decode cX7_goes 4 = .ok (.ifCond .ne 7, 3) := by decide +kernel
theorem dX7_goes_7 : decode cX7_goes 7 = .ok (.iconst 0, 1) := by decide +kernel
theorem dX7_goes_8 : decode cX7_goes 8 = .ok (.goto 72, 3) := by decide +kernel
theorem dX7_goes_11 : decode cX7_goes 11 = .ok (.aload_n 0, 1) := by decide +kernel
theorem dX7_goes_12 : decode cX7_goes 12 = .ok (.getfield 77, 3) := by decide +kernel
theorem dX7_goes_15 : decode cX7_goes 15 = .ok (.iconst 1, 1) := by decide +kernel
theorem dX7_goes_16 : decode cX7_goes 16 = .ok (.if_icmp .ne 8, 3) := by decide +kernel
theorem dX7_goes_19 : decode cX7_goes 19 = .ok (.bipush 100, 2) := by decide +kernel
theorem dX7_goes_21 : decode cX7_goes 21 = .ok (.goto 59, 3) := by decide +kernel
theorem dX7_goes_24 : decode cX7_goes 24 = .ok (.aload_n 0, 1) := by decide +kernel
theorem dX7_goes_25 : decode cX7_goes 25 = .ok (.getfield 77, 3) := by decide +kernel
theorem dX7_goes_28 : decode cX7_goes 28 = .ok (.iconst 2, 1) := by decide +kernel
theorem dX7_goes_29 : decode cX7_goes 29 = .ok (.if_icmp .eq 11, 3) := by decide +kernel
theorem dX7_goes_32 : decode cX7_goes 32 = .ok (.aload_n 0, 1) := by decide +kernel
theorem dX7_goes_33 : decode cX7_goes 33 = .ok (.getfield 77, 3) := by decide +kernel
theorem dX7_goes_36 : decode cX7_goes 36 = .ok (.iconst 3, 1) := by decide +kernel
theorem dX7_goes_37 : decode cX7_goes 37 = .ok (.if_icmp .ne 8, 3) := by decide +kernel
theorem dX7_goes_40 : decode cX7_goes 40 = .ok (.bipush 30, 2) := by decide +kernel
theorem dX7_goes_42 : decode cX7_goes 42 = .ok (.goto 38, 3) := by decide +kernel
theorem dX7_goes_45 : decode cX7_goes 45 = .ok (.aload_n 0, 1) := by decide +kernel
theorem dX7_goes_46 : decode cX7_goes 46 = .ok (.getfield 77, 3) := by decide +kernel
theorem dX7_goes_49 : decode cX7_goes 49 = .ok (.iconst 4, 1) := by decide +kernel
theorem dX7_goes_50 : decode cX7_goes 50 = .ok (.if_icmp .ne 28, 3) := by decide +kernel
theorem dX7_goes_53 : decode cX7_goes 53 = .ok (.aload_n 0, 1) := by decide +kernel
theorem dX7_goes_54 : decode cX7_goes 54 = .ok (.getfield 7, 3) := by decide +kernel
theorem dX7_goes_57 : decode cX7_goes 57 = .ok (.aload_n 0, 1) := by decide +kernel
theorem dX7_goes_58 : decode cX7_goes 58 = .ok (.getfield 90, 3) := by decide +kernel
theorem dX7_goes_61 : decode cX7_goes 61 = .ok (.if_icmp .le 10, 3) := by decide +kernel
theorem dX7_goes_64 : decode cX7_goes 64 = .ok (.aload_n 0, 1) := by decide +kernel
theorem dX7_goes_65 : decode cX7_goes 65 = .ok (.getfield 7, 3) := by decide +kernel
theorem dX7_goes_68 : decode cX7_goes 68 = .ok (.goto 12, 3) := by decide +kernel
theorem dX7_goes_71 : decode cX7_goes 71 = .ok (.aload_n 0, 1) := by decide +kernel
theorem dX7_goes_72 : decode cX7_goes 72 = .ok (.getfield 90, 3) := by decide +kernel
theorem dX7_goes_75 : decode cX7_goes 75 = .ok (.goto 5, 3) := by decide +kernel
theorem dX7_goes_78 : decode cX7_goes 78 = .ok (.bipush 60, 2) := by decide +kernel
theorem dX7_goes_80 : decode cX7_goes 80 = .ok (.istore_n 1, 1) := by decide +kernel
theorem dX7_goes_81 : decode cX7_goes 81 = .ok (.aload_n 0, 1) := by decide +kernel
theorem dX7_goes_82 : decode cX7_goes 82 = .ok (.getfield 77, 3) := by decide +kernel
theorem dX7_goes_85 : decode cX7_goes 85 = .ok (.iconst 3, 1) := by decide +kernel
theorem dX7_goes_86 : decode cX7_goes 86 = .ok (.if_icmp .ne 8, 3) := by decide +kernel
theorem dX7_goes_89 : decode cX7_goes 89 = .ok (.bipush 20, 2) := by decide +kernel
theorem dX7_goes_91 : decode cX7_goes 91 = .ok (.goto 37, 3) := by decide +kernel
theorem dX7_goes_94 : decode cX7_goes 94 = .ok (.aload_n 0, 1) := by decide +kernel
theorem dX7_goes_95 : decode cX7_goes 95 = .ok (.getfield 77, 3) := by decide +kernel
theorem dX7_goes_98 : decode cX7_goes 98 = .ok (.iconst 4, 1) := by decide +kernel
theorem dX7_goes_99 : decode cX7_goes 99 = .ok (.if_icmp .ne 28, 3) := by decide +kernel
theorem dX7_goes_102 : decode cX7_goes 102 = .ok (.aload_n 0, 1) := by decide +kernel
theorem dX7_goes_103 : decode cX7_goes 103 = .ok (.getfield 7, 3) := by decide +kernel
theorem dX7_goes_106 : decode cX7_goes 106 = .ok (.aload_n 0, 1) := by decide +kernel
theorem dX7_goes_107 : decode cX7_goes 107 = .ok (.getfield 93, 3) := by decide +kernel
theorem dX7_goes_110 : decode cX7_goes 110 = .ok (.if_icmp .ge 10, 3) := by decide +kernel
theorem dX7_goes_113 : decode cX7_goes 113 = .ok (.aload_n 0, 1) := by decide +kernel
theorem dX7_goes_114 : decode cX7_goes 114 = .ok (.getfield 7, 3) := by decide +kernel
theorem dX7_goes_117 : decode cX7_goes 117 = .ok (.goto 11, 3) := by decide +kernel
theorem dX7_goes_120 : decode cX7_goes 120 = .ok (.aload_n 0, 1) := by decide +kernel
theorem dX7_goes_121 : decode cX7_goes 121 = .ok (.getfield 93, 3) := by decide +kernel
theorem dX7_goes_124 : decode cX7_goes 124 = .ok (.goto 4, 3) := by decide +kernel
theorem dX7_goes_127 : decode cX7_goes 127 = .ok (.iconst 0, 1) := by decide +kernel
theorem dX7_goes_128 : decode cX7_goes 128 = .ok (.istore_n 2, 1) := by decide +kernel
theorem dX7_goes_129 : decode cX7_goes 129 = .ok (.aload_n 0, 1) := by decide +kernel
theorem dX7_goes_130 : decode cX7_goes 130 = .ok (.aload_n 0, 1) := by decide +kernel
theorem dX7_goes_131 : decode cX7_goes 131 = .ok (.getfield 93, 3) := by decide +kernel
theorem dX7_goes_134 : decode cX7_goes 134 = .ok (.iload_n 1, 1) := by decide +kernel
theorem dX7_goes_135 : decode cX7_goes 135 = .ok (.aload_n 0, 1) := by decide +kernel
theorem dX7_goes_136 : decode cX7_goes 136 = .ok (.getfield 37, 3) := by decide +kernel
theorem dX7_goes_139 : decode cX7_goes 139 = .ok (.invokestatic 96, 3) := by decide +kernel
theorem dX7_goes_142 : decode cX7_goes 142 = .ok (.putfield 93, 3) := by decide +kernel
theorem dX7_goes_145 : decode cX7_goes 145 = .ok (.aload_n 0, 1) := by decide +kernel
theorem dX7_goes_146 : decode cX7_goes 146 = .ok (.aload_n 0, 1) := by decide +kernel
theorem dX7_goes_147 : decode cX7_goes 147 = .ok (.getfield 90, 3) := by decide +kernel
theorem dX7_goes_150 : decode cX7_goes 150 = .ok (.iload_n 2, 1) := by decide +kernel
theorem dX7_goes_151 : decode cX7_goes 151 = .ok (.aload_n 0, 1) := by decide +kernel
theorem dX7_goes_152 : decode cX7_goes 152 = .ok (.getfield 77, 3) := by decide +kernel
theorem dX7_goes_155 : decode cX7_goes 155 = .ok (.iconst 3, 1) := by decide +kernel
theorem dX7_goes_156 : decode cX7_goes 156 = .ok (.if_icmp .eq 11, 3) := by decide +kernel
theorem dX7_goes_159 : decode cX7_goes 159 = .ok (.aload_n 0, 1) := by decide +kernel
theorem dX7_goes_160 : decode cX7_goes 160 = .ok (.getfield 77, 3) := by decide +kernel
theorem dX7_goes_163 : decode cX7_goes 163 = .ok (.iconst 4, 1) := by decide +kernel
theorem dX7_goes_164 : decode cX7_goes 164 = .ok (.if_icmp .ne 10, 3) := by decide +kernel
theorem dX7_goes_167 : decode cX7_goes 167 = .ok (.aload_n 0, 1) := by decide +kernel
theorem dX7_goes_168 : decode cX7_goes 168 = .ok (.getfield 40, 3) := by decide +kernel
theorem dX7_goes_171 : decode cX7_goes 171 = .ok (.goto 5, 3) := by decide +kernel
theorem dX7_goes_174 : decode cX7_goes 174 = .ok (.bipush 100, 2) := by decide +kernel
theorem dX7_goes_176 : decode cX7_goes 176 = .ok (.invokestatic 96, 3) := by decide +kernel
theorem dX7_goes_179 : decode cX7_goes 179 = .ok (.putfield 90, 3) := by decide +kernel
theorem dX7_goes_182 : decode cX7_goes 182 = .ok (.return_, 1) := by decide +kernel
theorem dX7_begins_0 : decode cX7_begins 0 = .ok (.aload_n 0, 1) := by decide +kernel
theorem dX7_begins_1 : decode cX7_begins 1 = .ok (.iload_n 1, 1) := by decide +kernel
theorem dX7_begins_2 : decode cX7_begins 2 = .ok (.putfield 77, 3) := by decide +kernel
theorem dX7_begins_5 : decode cX7_begins 5 = .ok (.aload_n 0, 1) := by decide +kernel
theorem dX7_begins_6 : decode cX7_begins 6 = .ok (.iload_n 2, 1) := by decide +kernel
theorem dX7_begins_7 : decode cX7_begins 7 = .ok (.putfield 100, 3) := by decide +kernel
theorem dX7_begins_10 : decode cX7_begins 10 = .ok (.aload_n 0, 1) := by decide +kernel
theorem dX7_begins_11 : decode cX7_begins 11 = .ok (.iconst 0, 1) := by decide +kernel
theorem dX7_begins_12 : decode cX7_begins 12 = .ok (.putfield 103, 3) := by decide +kernel
theorem dX7_begins_15 : decode cX7_begins 15 = .ok (.aload_n 0, 1) := by decide +kernel
theorem dX7_begins_16 : decode cX7_begins 16 = .ok (.iconst 0, 1) := by decide +kernel
theorem dX7_begins_17 : decode cX7_begins 17 = .ok (.putfield 106, 3) := by decide +kernel
theorem dX7_begins_20 : decode cX7_begins 20 = .ok (.aload_n 0, 1) := by decide +kernel
theorem dX7_begins_21 : decode cX7_begins 21 = .ok (.iload_n 1, 1) := by decide +kernel
theorem dX7_begins_22 : decode cX7_begins 22 = .ok (.iconst 3, 1) := by decide +kernel
theorem dX7_begins_23 : decode cX7_begins 23 = .ok (.if_icmp .eq 8, 3) := by decide +kernel
theorem dX7_begins_26 : decode cX7_begins 26 = .ok (.iload_n 1, 1) := by decide +kernel
theorem dX7_begins_27 : decode cX7_begins 27 = .ok (.iconst 4, 1) := by decide +kernel
theorem dX7_begins_28 : decode cX7_begins 28 = .ok (.if_icmp .ne 10, 3) := by decide +kernel
theorem dX7_begins_31 : decode cX7_begins 31 = .ok (.aload_n 0, 1) := by decide +kernel
theorem dX7_begins_32 : decode cX7_begins 32 = .ok (.getfield 90, 3) := by decide +kernel
theorem dX7_begins_35 : decode cX7_begins 35 = .ok (.goto 4, 3) := by decide +kernel
theorem dX7_begins_38 : decode cX7_begins 38 = .ok (.iconst 0, 1) := by decide +kernel
theorem dX7_begins_39 : decode cX7_begins 39 = .ok (.putfield 90, 3) := by decide +kernel
theorem dX7_begins_42 : decode cX7_begins 42 = .ok (.return_, 1) := by decide +kernel
set_option maxRecDepth 20000 in
theorem ggX7_lacks_X7_has : GoodIn wsX7_lacks wsX7_has := goodIn_r _ [4] (by decide +kernel) (by decide +kernel)
set_option maxRecDepth 20000 in
theorem gX7_lacks_X7_has : GoodIn wsX7_lacks (va_wsS RX7 83 yX7_has wsX7_has) := goodIn_app (goodIn_of _ (by decide +kernel)) ggX7_lacks_X7_has
set_option maxRecDepth 20000 in
theorem ggX7_lacks_X7_begins : GoodIn wsX7_lacks wsX7_begins := goodIn_r _ [8, 9, 10, 11, 12, 13, 14, 15, 16, 17, 18, 19, 20, 21, 22, 23, 24, 25, 26, 27, 28, 29, 30, 31, 32, 33, 34, 35, 36, 37, 38, 39, 40, 41, 42, 43, 44, 45, 46, 47, 48] (by decide +kernel) (by decide +kernel)
set_option maxRecDepth 20000 in
theorem gX7_lacks_X7_begins : GoodIn wsX7_lacks (wsV RX7 109 RX7 yX7_begins wsX7_begins) := goodIn_app (goodIn_of _ (by decide +kernel)) ggX7_lacks_X7_begins
theorem dX7_lacks_0 : decode cX7_lacks 0 = .ok (.iload_n 1, 1) := by decide +kernel
theorem dX7_lacks_1 : decode cX7_lacks 1 = .ok (.iconst 1, 1) := by decide +kernel
theorem dX7_lacks_2 : decode cX7_lacks 2 = .ok (.invokestatic 83, 3) := by decide +kernel
theorem dX7_lacks_5 : decode cX7_lacks 5 = .ok (.ifCond .ne 13, 3) := by decide +kernel
theorem dX7_lacks_8 : decode cX7_lacks 8 = .ok (.aload_n 0, 1) := by decide +kernel
theorem dX7_lacks_9 : decode cX7_lacks 9 = .ok (.bipush 6, 2) := by decide +kernel
theorem dX7_lacks_11 : decode cX7_lacks 11 = .ok (.iconst 1, 1) := by decide +kernel
theorem dX7_lacks_12 : decode cX7_lacks 12 = .ok (.invokevirtual 109, 3) := by decide +kernel
theorem dX7_lacks_15 : decode cX7_lacks 15 = .ok (.goto 23, 3) := by decide +kernel
theorem dX7_lacks_18 : decode cX7_lacks 18 = .ok (.iload_n 1, 1) := by decide +kernel
theorem dX7_lacks_19 : decode cX7_lacks 19 = .ok (.iconst 2, 1) := by decide +kernel
theorem dX7_lacks_20 : decode cX7_lacks 20 = .ok (.invokestatic 83, 3) := by decide +kernel
theorem dX7_lacks_23 : decode cX7_lacks 23 = .ok (.ifCond .ne 13, 3) := by decide +kernel
theorem dX7_lacks_26 : decode cX7_lacks 26 = .ok (.aload_n 0, 1) := by decide +kernel
theorem dX7_lacks_27 : decode cX7_lacks 27 = .ok (.bipush 6, 2) := by decide +kernel
theorem dX7_lacks_29 : decode cX7_lacks 29 = .ok (.iconst 2, 1) := by decide +kernel
theorem dX7_lacks_30 : decode cX7_lacks 30 = .ok (.invokevirtual 109, 3) := by decide +kernel
theorem dX7_lacks_33 : decode cX7_lacks 33 = .ok (.goto 5, 3) := by decide +kernel
theorem dX7_lacks_36 : decode cX7_lacks 36 = .ok (.iconst 0, 1) := by decide +kernel
theorem dX7_lacks_37 : decode cX7_lacks 37 = .ok (.ireturn, 1) := by decide +kernel
theorem dX7_lacks_38 : decode cX7_lacks 38 = .ok (.iconst 1, 1) := by decide +kernel
theorem dX7_lacks_39 : decode cX7_lacks 39 = .ok (.ireturn, 1) := by decide +kernel
set_option maxRecDepth 20000 in
theorem ggX7_decides_X7_has : GoodIn wsX7_decides wsX7_has := goodIn_r _ [8] (by decide +kernel) (by decide +kernel)
set_option maxRecDepth 20000 in
theorem gX7_decides_X7_has : GoodIn wsX7_decides (va_wsS RX7 83 yX7_has wsX7_has) := goodIn_app (goodIn_of _ (by decide +kernel)) ggX7_decides_X7_has
set_option maxRecDepth 20000 in
theorem ggX7_decides_X7_begins : GoodIn wsX7_decides wsX7_begins := goodIn_r _ [12, 1, 13, 3, 14, 15, 38, 39, 40, 41, 42, 43, 44, 45, 46, 47, 48, 49, 50, 51, 52, 53, 54, 55, 56, 57, 58, 59, 60, 61, 62, 63, 64, 65, 66, 67, 68, 69, 70, 71, 72] (by decide +kernel) (by decide +kernel)
set_option maxRecDepth 20000 in
theorem gX7_decides_X7_begins : GoodIn wsX7_decides (wsV RX7 109 RX7 yX7_begins wsX7_begins) := goodIn_app (goodIn_of _ (by decide +kernel)) ggX7_decides_X7_begins
set_option maxRecDepth 20000 in
theorem ggX7_decides_X7_purges : GoodIn wsX7_decides wsX7_purges := goodIn_r _ [19, 2, 20, 14, 21, 3, 22, 9, 10, 11, 7, 12, 1, 13, 15, 5, 6, 8, 38, 39, 40, 41, 42, 43, 44, 45, 46, 47, 48, 49, 50, 51, 52, 53, 54, 55, 56, 57, 58, 59, 60, 61, 62, 63, 64, 65, 66, 67, 68, 69, 70, 71, 72] (by decide +kernel) (by decide +kernel)
set_option maxRecDepth 20000 in
theorem gX7_decides_X7_purges : GoodIn wsX7_decides (wsV RX7 113 RX7 yX7_purges wsX7_purges) := goodIn_app (goodIn_of _ (by decide +kernel)) ggX7_decides_X7_purges
set_option maxRecDepth 20000 in
theorem ggX7_decides_X7_lights : GoodIn wsX7_decides wsX7_lights := goodIn_r _ [26, 1, 2, 3, 27, 28, 29, 30, 31, 7, 32, 5, 6, 8, 9, 10, 11, 12, 13, 14, 15, 38, 39, 40, 41, 42, 43, 44, 45, 46, 47, 48, 49, 50, 51, 52, 53, 54, 55, 56, 57, 58, 59, 60, 61, 62, 63, 64, 65, 66, 67, 68, 69, 70, 71, 72] (by decide +kernel) (by decide +kernel)
set_option maxRecDepth 20000 in
theorem gX7_decides_X7_lights : GoodIn wsX7_decides (wsV RX7 117 RX7 yX7_lights wsX7_lights) := goodIn_app (goodIn_of _ (by decide +kernel)) ggX7_decides_X7_lights
set_option maxRecDepth 20000 in
theorem ggX7_decides_X7_runs : GoodIn wsX7_decides wsX7_runs := goodIn_r _ [36, 2, 3, 37, 29, 30, 31, 7, 32, 5, 6, 8, 9, 10, 11, 12, 1, 13, 14, 15, 38, 39, 40, 41, 42, 43, 44, 45, 46, 47, 48, 49, 50, 51, 52, 53, 54, 55, 56, 57, 58, 59, 60, 61, 62, 63, 64, 65, 66, 67, 68, 69, 70, 71, 72] (by decide +kernel) (by decide +kernel)
set_option maxRecDepth 20000 in
theorem gX7_decides_X7_runs : GoodIn wsX7_decides (wsV RX7 120 RX7 yX7_runs wsX7_runs) := goodIn_app (goodIn_of _ (by decide +kernel)) ggX7_decides_X7_runs
theorem dX7_decides_0 : decode cX7_decides 0 = .ok (.iload_n 1, 1) := by decide +kernel
theorem dX7_decides_1 : decode cX7_decides 1 = .ok (.iconst 0, 1) := by decide +kernel
theorem dX7_decides_2 : decode cX7_decides 2 = .ok (.invokestatic 83, 3) := by decide +kernel
theorem dX7_decides_5 : decode cX7_decides 5 = .ok (.istore_n 2, 1) := by decide +kernel
theorem dX7_decides_6 : decode cX7_decides 6 = .ok (.aload_n 0, 1) := by decide +kernel
theorem dX7_decides_7 : decode cX7_decides 7 = .ok (.getfield 77, 3) := by decide +kernel
theorem dX7_decides_10 : decode cX7_decides 10 = .ok (.ifCond .ne 33, 3) := by decide +kernel
theorem dX7_decides_13 : decode cX7_decides 13 = .ok (.aload_n 0, 1) := by decide +kernel
theorem dX7_decides_14 : decode cX7_decides 14 = .ok (.getfield 87, 3) := by decide +kernel
theorem dX7_decides_17 : decode cX7_decides 17 = .ok (.ifCond .le 13, 3) := by decide +kernel
theorem dX7_decides_20 : decode cX7_decides 20 = .ok (.aload_n 0, 1) := by decide +kernel
theorem dX7_decides_21 : decode cX7_decides 21 = .ok (.bipush 6, 2) := by decide +kernel
theorem dX7_decides_23 : decode cX7_decides 23 = .ok (.iconst 3, 1) := by decide +kernel
theorem dX7_decides_24 : decode cX7_decides 24 = .ok (.invokevirtual 109, 3) := by decide +kernel
theorem dX7_decides_27 : decode cX7_decides 27 = .ok (.goto 123, 3) := by decide +kernel
theorem dX7_decides_30 : decode cX7_decides 30 = .ok (.iload_n 2, 1) := by decide +kernel
theorem dX7_decides_31 : decode cX7_decides 31 = .ok (.ifCond .eq 119, 3) := by decide +kernel
theorem dX7_decides_34 : decode cX7_decides 34 = .ok (.aload_n 0, 1) := by decide +kernel
theorem dX7_decides_35 : decode cX7_decides 35 = .ok (.iconst 1, 1) := by decide +kernel
theorem dX7_decides_36 : decode cX7_decides 36 = .ok (.iconst 0, 1) := by decide +kernel
theorem dX7_decides_37 : decode cX7_decides 37 = .ok (.invokevirtual 109, 3) := by decide +kernel
theorem dX7_decides_40 : decode cX7_decides 40 = .ok (.goto 110, 3) := by decide +kernel
theorem dX7_decides_43 : decode cX7_decides 43 = .ok (.aload_n 0, 1) := by decide +kernel
theorem dX7_decides_44 : decode cX7_decides 44 = .ok (.getfield 77, 3) := by decide +kernel
theorem dX7_decides_47 : decode cX7_decides 47 = .ok (.iconst 1, 1) := by decide +kernel
theorem dX7_decides_48 : decode cX7_decides 48 = .ok (.if_icmp .ne 12, 3) := by decide +kernel
theorem dX7_decides_51 : decode cX7_decides 51 = .ok (.aload_n 0, 1) := by decide +kernel
theorem dX7_decides_52 : decode cX7_decides 52 = .ok (.iload_n 1, 1) := by decide +kernel
theorem dX7_decides_53 : decode cX7_decides 53 = .ok (.iload_n 2, 1) := by decide +kernel
theorem dX7_decides_54 : decode cX7_decides 54 = .ok (.invokevirtual 113, 3) := by decide +kernel
theorem dX7_decides_57 : decode cX7_decides 57 = .ok (.goto 93, 3) := by decide +kernel
theorem dX7_decides_60 : decode cX7_decides 60 = .ok (.aload_n 0, 1) := by decide +kernel
theorem dX7_decides_61 : decode cX7_decides 61 = .ok (.getfield 77, 3) := by decide +kernel
theorem dX7_decides_64 : decode cX7_decides 64 = .ok (.iconst 2, 1) := by decide +kernel
theorem dX7_decides_65 : decode cX7_decides 65 = .ok (.if_icmp .eq 11, 3) := by decide +kernel
theorem dX7_decides_68 : decode cX7_decides 68 = .ok (.aload_n 0, 1) := by decide +kernel
theorem dX7_decides_69 : decode cX7_decides 69 = .ok (.getfield 77, 3) := by decide +kernel
theorem dX7_decides_72 : decode cX7_decides 72 = .ok (.iconst 3, 1) := by decide +kernel
theorem dX7_decides_73 : decode cX7_decides 73 = .ok (.if_icmp .ne 12, 3) := by decide +kernel
theorem dX7_decides_76 : decode cX7_decides 76 = .ok (.aload_n 0, 1) := by decide +kernel
theorem dX7_decides_77 : decode cX7_decides 77 = .ok (.iload_n 1, 1) := by decide +kernel
theorem dX7_decides_78 : decode cX7_decides 78 = .ok (.iload_n 2, 1) := by decide +kernel
theorem dX7_decides_79 : decode cX7_decides 79 = .ok (.invokevirtual 117, 3) := by decide +kernel
theorem dX7_decides_82 : decode cX7_decides 82 = .ok (.goto 68, 3) := by decide +kernel
theorem dX7_decides_85 : decode cX7_decides 85 = .ok (.aload_n 0, 1) := by decide +kernel
theorem dX7_decides_86 : decode cX7_decides 86 = .ok (.getfield 77, 3) := by decide +kernel
theorem dX7_decides_89 : decode cX7_decides 89 = .ok (.iconst 4, 1) := by decide +kernel
theorem dX7_decides_90 : decode cX7_decides 90 = .ok (.if_icmp .ne 12, 3) := by decide +kernel
theorem dX7_decides_93 : decode cX7_decides 93 = .ok (.aload_n 0, 1) := by decide +kernel
theorem dX7_decides_94 : decode cX7_decides 94 = .ok (.iload_n 1, 1) := by decide +kernel
theorem dX7_decides_95 : decode cX7_decides 95 = .ok (.iload_n 2, 1) := by decide +kernel
theorem dX7_decides_96 : decode cX7_decides 96 = .ok (.invokevirtual 120, 3) := by decide +kernel
theorem dX7_decides_99 : decode cX7_decides 99 = .ok (.goto 51, 3) := by decide +kernel
theorem dX7_decides_102 : decode cX7_decides 102 = .ok (.aload_n 0, 1) := by decide +kernel
theorem dX7_decides_103 : decode cX7_decides 103 = .ok (.getfield 77, 3) := by decide +kernel
theorem dX7_decides_106 : decode cX7_decides 106 = .ok (.iconst 5, 1) := by decide +kernel
theorem dX7_decides_107 : decode cX7_decides 107 = .ok (.if_icmp .ne 43, 3) := by decide +kernel
theorem dX7_decides_110 : decode cX7_decides 110 = .ok (.aload_n 0, 1) := by decide +kernel
theorem dX7_decides_111 : decode cX7_decides 111 = .ok (.getfield 103, 3) := by decide +kernel
theorem dX7_decides_114 : decode cX7_decides 114 = .ok (.aload_n 0, 1) := by decide +kernel
theorem dX7_decides_115 : decode cX7_decides 115 = .ok (.getfield 22, 3) := by decide +kernel
theorem dX7_decides_118 : decode cX7_decides 118 = .ok (.if_icmp .lt 32, 3) := by decide +kernel
theorem dX7_decides_121 : decode cX7_decides 121 = .ok (.aload_n 0, 1) := by decide +kernel
theorem dX7_decides_122 : decode cX7_decides 122 = .ok (.aload_n 0, 1) := by decide +kernel
theorem dX7_decides_123 : decode cX7_decides 123 = .ok (.getfield 87, 3) := by decide +kernel
theorem dX7_decides_126 : decode cX7_decides 126 = .ok (.ifCond .le 8, 3) := by decide +kernel
theorem dX7_decides_129 : decode cX7_decides 129 = .ok (.bipush 6, 2) := by decide +kernel
theorem dX7_decides_131 : decode cX7_decides 131 = .ok (.goto 4, 3) := by decide +kernel
theorem dX7_decides_134 : decode cX7_decides 134 = .ok (.iconst 0, 1) := by decide +kernel
theorem dX7_decides_135 : decode cX7_decides 135 = .ok (.aload_n 0, 1) := by decide +kernel
theorem dX7_decides_136 : decode cX7_decides 136 = .ok (.getfield 87, 3) := by decide +kernel
theorem dX7_decides_139 : decode cX7_decides 139 = .ok (.ifCond .le 7, 3) := by decide +kernel
theorem dX7_decides_142 : decode cX7_decides 142 = .ok (.iconst 3, 1) := by decide +kernel
theorem dX7_decides_143 : decode cX7_decides 143 = .ok (.goto 4, 3) := by decide +kernel
theorem dX7_decides_146 : decode cX7_decides 146 = .ok (.iconst 0, 1) := by decide +kernel
theorem dX7_decides_147 : decode cX7_decides 147 = .ok (.invokevirtual 109, 3) := by decide +kernel
theorem dX7_decides_150 : decode cX7_decides 150 = .ok (.return_, 1) := by decide +kernel
set_option maxRecDepth 20000 in
theorem ggX7_purges_X7_begins : GoodIn wsX7_purges wsX7_begins := goodIn_r _ [11, 12, 13, 5, 3, 14, 18, 19, 20, 21, 22, 23, 24, 25, 26, 27, 28, 29, 30, 31, 32, 33, 34, 35, 36, 37, 38, 39, 40, 41, 42, 43, 44, 45, 46, 47, 48, 49, 50, 51, 52] (by decide +kernel) (by decide +kernel)
set_option maxRecDepth 20000 in
theorem gX7_purges_X7_begins : GoodIn wsX7_purges (wsV RX7 109 RX7 yX7_begins wsX7_begins) := goodIn_app (goodIn_of _ (by decide +kernel)) ggX7_purges_X7_begins
set_option maxRecDepth 20000 in
theorem ggX7_purges_X7_has : GoodIn wsX7_purges wsX7_has := goodIn_r _ [17] (by decide +kernel) (by decide +kernel)
set_option maxRecDepth 20000 in
theorem gX7_purges_X7_has : GoodIn wsX7_purges (va_wsS RX7 83 yX7_has wsX7_has) := goodIn_app (goodIn_of _ (by decide +kernel)) ggX7_purges_X7_has
theorem dX7_purges_0 : decode cX7_purges 0 = .ok (.iload_n 2, 1) := by decide +kernel
theorem dX7_purges_1 : decode cX7_purges 1 = .ok (.ifCond .ne 12, 3) := by decide +kernel
theorem dX7_purges_4 : decode cX7_purges 4 = .ok (.aload_n 0, 1) := by decide +kernel
theorem dX7_purges_5 : decode cX7_purges 5 = .ok (.iconst 0, 1) := by decide +kernel
theorem dX7_purges_6 : decode cX7_purges 6 = .ok (.iconst 0, 1) := by decide +kernel
theorem dX7_purges_7 : decode cX7_purges 7 = .ok (.invokevirtual 109, 3) := by decide +kernel
theorem dX7_purges_10 : decode cX7_purges 10 = .ok (.goto 95, 3) := by decide +kernel
theorem dX7_purges_13 : decode cX7_purges 13 = .ok (.aload_n 0, 1) := by decide +kernel
theorem dX7_purges_14 : decode cX7_purges 14 = .ok (.getfield 87, 3) := by decide +kernel
theorem dX7_purges_17 : decode cX7_purges 17 = .ok (.ifCond .le 13, 3) := by decide +kernel
theorem dX7_purges_20 : decode cX7_purges 20 = .ok (.aload_n 0, 1) := by decide +kernel
theorem dX7_purges_21 : decode cX7_purges 21 = .ok (.bipush 6, 2) := by decide +kernel
theorem dX7_purges_23 : decode cX7_purges 23 = .ok (.iconst 3, 1) := by decide +kernel
theorem dX7_purges_24 : decode cX7_purges 24 = .ok (.invokevirtual 109, 3) := by decide +kernel
theorem dX7_purges_27 : decode cX7_purges 27 = .ok (.goto 78, 3) := by decide +kernel
theorem dX7_purges_30 : decode cX7_purges 30 = .ok (.aload_n 0, 1) := by decide +kernel
theorem dX7_purges_31 : decode cX7_purges 31 = .ok (.iload_n 1, 1) := by decide +kernel
theorem dX7_purges_32 : decode cX7_purges 32 = .ok (.iconst 1, 1) := by decide +kernel
theorem dX7_purges_33 : decode cX7_purges 33 = .ok (.invokestatic 83, 3) := by decide +kernel
theorem dX7_purges_36 : decode cX7_purges 36 = .ok (.ifCond .eq 24, 3) := by decide +kernel
theorem dX7_purges_39 : decode cX7_purges 39 = .ok (.aload_n 0, 1) := by decide +kernel
theorem dX7_purges_40 : decode cX7_purges 40 = .ok (.getfield 93, 3) := by decide +kernel
theorem dX7_purges_43 : decode cX7_purges 43 = .ok (.bipush 70, 2) := by decide +kernel
theorem dX7_purges_45 : decode cX7_purges 45 = .ok (.if_icmp .lt 15, 3) := by decide +kernel
theorem dX7_purges_48 : decode cX7_purges 48 = .ok (.aload_n 0, 1) := by decide +kernel
theorem dX7_purges_49 : decode cX7_purges 49 = .ok (.getfield 106, 3) := by decide +kernel
theorem dX7_purges_52 : decode cX7_purges 52 = .ok (.aload_n 0, 1) := by decide +kernel
theorem dX7_purges_53 : decode cX7_purges 53 = .ok (.getfield 93, 3) := by decide +kernel
theorem dX7_purges_56 : decode cX7_purges 56 = .ok (.iadd, 1) := by decide +kernel
theorem dX7_purges_57 : decode cX7_purges 57 = .ok (.goto 4, 3) := by decide +kernel
theorem dX7_purges_60 : decode cX7_purges 60 = .ok (.iconst 0, 1) := by decide +kernel
theorem dX7_purges_61 : decode cX7_purges 61 = .ok (.putfield 106, 3) := by decide +kernel
theorem dX7_purges_64 : decode cX7_purges 64 = .ok (.aload_n 0, 1) := by decide +kernel
theorem dX7_purges_65 : decode cX7_purges 65 = .ok (.getfield 106, 3) := by decide +kernel
theorem dX7_purges_68 : decode cX7_purges 68 = .ok (.iconst 4, 1) := by decide +kernel
theorem dX7_purges_69 : decode cX7_purges 69 = .ok (.aload_n 0, 1) := by decide +kernel
theorem dX7_purges_70 : decode cX7_purges 70 = .ok (.getfield 34, 3) := by decide +kernel
theorem dX7_purges_73 : decode cX7_purges 73 = .ok (.imul, 1) := by decide +kernel
theorem dX7_purges_74 : decode cX7_purges 74 = .ok (.if_icmp .lt 12, 3) := by decide +kernel
theorem dX7_purges_77 : decode cX7_purges 77 = .ok (.aload_n 0, 1) := by decide +kernel
theorem dX7_purges_78 : decode cX7_purges 78 = .ok (.iconst 2, 1) := by decide +kernel
theorem dX7_purges_79 : decode cX7_purges 79 = .ok (.iconst 0, 1) := by decide +kernel
theorem dX7_purges_80 : decode cX7_purges 80 = .ok (.invokevirtual 109, 3) := by decide +kernel
theorem dX7_purges_83 : decode cX7_purges 83 = .ok (.goto 22, 3) := by decide +kernel
theorem dX7_purges_86 : decode cX7_purges 86 = .ok (.aload_n 0, 1) := by decide +kernel
theorem dX7_purges_87 : decode cX7_purges 87 = .ok (.getfield 103, 3) := by decide +kernel
theorem dX7_purges_90 : decode cX7_purges 90 = .ok (.aload_n 0, 1) := by decide +kernel
theorem dX7_purges_91 : decode cX7_purges 91 = .ok (.getfield 13, 3) := by decide +kernel
theorem dX7_purges_94 : decode cX7_purges 94 = .ok (.if_icmp .lt 11, 3) := by decide +kernel
theorem dX7_purges_97 : decode cX7_purges 97 = .ok (.aload_n 0, 1) := by decide +kernel
theorem dX7_purges_98 : decode cX7_purges 98 = .ok (.bipush 6, 2) := by decide +kernel
theorem dX7_purges_100 : decode cX7_purges 100 = .ok (.bipush 7, 2) := by decide +kernel
theorem dX7_purges_102 : decode cX7_purges 102 = .ok (.invokevirtual 109, 3) := by decide +kernel
theorem dX7_purges_105 : decode cX7_purges 105 = .ok (.return_, 1) := by decide +kernel
set_option maxRecDepth 20000 in
theorem ggX7_lights_X7_lacks : GoodIn wsX7_lights wsX7_lacks := goodIn_r _ [10, 11, 12, 9, 13, 14, 15, 16, 17, 1, 18, 3, 19, 20, 21, 22, 23, 24, 25, 26, 27, 28, 29, 30, 31, 32, 33, 34, 35, 36, 37, 38, 39, 40, 41, 42, 43, 44, 45, 46, 47, 48, 49, 50, 51, 52, 53, 54, 55] (by decide +kernel) (by decide +kernel)
set_option maxRecDepth 20000 in
theorem gX7_lights_X7_lacks : GoodIn wsX7_lights (wsV RX7 123 RX7 yX7_lacks wsX7_lacks) := goodIn_app (goodIn_of _ (by decide +kernel)) ggX7_lights_X7_lacks
set_option maxRecDepth 20000 in
theorem ggX7_lights_X7_begins : GoodIn wsX7_lights wsX7_begins := goodIn_r _ [17, 1, 18, 3, 19, 20, 21, 22, 23, 24, 25, 26, 27, 28, 29, 30, 31, 32, 33, 34, 35, 36, 37, 38, 39, 40, 41, 42, 43, 44, 45, 46, 47, 48, 49, 50, 51, 52, 53, 54, 55] (by decide +kernel) (by decide +kernel)
set_option maxRecDepth 20000 in
theorem gX7_lights_X7_begins : GoodIn wsX7_lights (wsV RX7 109 RX7 yX7_begins wsX7_begins) := goodIn_app (goodIn_of _ (by decide +kernel)) ggX7_lights_X7_begins
set_option maxRecDepth 20000 in
theorem ggX7_lights_X7_has : GoodIn wsX7_lights wsX7_has := goodIn_r _ [13] (by decide +kernel) (by decide +kernel)
set_option maxRecDepth 20000 in
theorem gX7_lights_X7_has : GoodIn wsX7_lights (va_wsS RX7 83 yX7_has wsX7_has) := goodIn_app (goodIn_of _ (by decide +kernel)) ggX7_lights_X7_has
theorem dX7_lights_0 : decode cX7_lights 0 = .ok (.aload_n 0, 1) := by decide +kernel
theorem dX7_lights_1 : decode cX7_lights 1 = .ok (.iload_n 1, 1) := by decide +kernel
theorem dX7_lights_2 : decode cX7_lights 2 = .ok (.invokevirtual 123, 3) := by decide +kernel
theorem dX7_lights_5 : decode cX7_lights 5 = .ok (.ifCond .eq 4, 3) := by decide +kernel
theorem dX7_lights_8 : decode cX7_lights 8 = .ok (.return_, 1) := by decide +kernel
theorem dX7_lights_9 : decode cX7_lights 9 = .ok (.aload_n 0, 1) := by decide +kernel
theorem dX7_lights_10 : decode cX7_lights 10 = .ok (.getfield 77, 3) := by decide +kernel
theorem dX7_lights_13 : decode cX7_lights 13 = .ok (.iconst 2, 1) := by decide +kernel
theorem dX7_lights_14 : decode cX7_lights 14 = .ok (.if_icmp .ne 7, 3) := by decide +kernel
theorem dX7_lights_17 : decode cX7_lights 17 = .ok (.iconst 1, 1) := by decide +kernel
theorem dX7_lights_18 : decode cX7_lights 18 = .ok (.goto 4, 3) := by decide +kernel
theorem dX7_lights_21 : decode cX7_lights 21 = .ok (.iconst 0, 1) := by decide +kernel
theorem dX7_lights_22 : decode cX7_lights 22 = .ok (.istore_n 3, 1) := by decide +kernel
theorem dX7_lights_23 : decode cX7_lights 23 = .ok (.iload_n 2, 1) := by decide +kernel
theorem dX7_lights_24 : decode cX7_lights 24 = .ok (.ifCond .ne 12, 3) := by decide +kernel
theorem dX7_lights_27 : decode cX7_lights 27 = .ok (.aload_n 0, 1) := by decide +kernel
theorem dX7_lights_28 : decode cX7_lights 28 = .ok (.iconst 5, 1) := by decide +kernel
theorem dX7_lights_29 : decode cX7_lights 29 = .ok (.iconst 0, 1) := by decide +kernel
theorem dX7_lights_30 : decode cX7_lights 30 = .ok (.invokevirtual 109, 3) := by decide +kernel
theorem dX7_lights_33 : decode cX7_lights 33 = .ok (.goto 76, 3) := by decide +kernel
theorem dX7_lights_36 : decode cX7_lights 36 = .ok (.aload_n 0, 1) := by decide +kernel
theorem dX7_lights_37 : decode cX7_lights 37 = .ok (.getfield 87, 3) := by decide +kernel
theorem dX7_lights_40 : decode cX7_lights 40 = .ok (.iload_n 3, 1) := by decide +kernel
theorem dX7_lights_41 : decode cX7_lights 41 = .ok (.ifCond .eq 7, 3) := by decide +kernel
theorem dX7_lights_44 : decode cX7_lights 44 = .ok (.iconst 0, 1) := by decide +kernel
theorem dX7_lights_45 : decode cX7_lights 45 = .ok (.goto 4, 3) := by decide +kernel
theorem dX7_lights_48 : decode cX7_lights 48 = .ok (.iconst 1, 1) := by decide +kernel
theorem dX7_lights_49 : decode cX7_lights 49 = .ok (.invokestatic 83, 3) := by decide +kernel
theorem dX7_lights_52 : decode cX7_lights 52 = .ok (.ifCond .eq 20, 3) := by decide +kernel
theorem dX7_lights_55 : decode cX7_lights 55 = .ok (.aload_n 0, 1) := by decide +kernel
theorem dX7_lights_56 : decode cX7_lights 56 = .ok (.iload_n 3, 1) := by decide +kernel
theorem dX7_lights_57 : decode cX7_lights 57 = .ok (.ifCond .eq 7, 3) := by decide +kernel
theorem dX7_lights_60 : decode cX7_lights 60 = .ok (.iconst 3, 1) := by decide +kernel
theorem dX7_lights_61 : decode cX7_lights 61 = .ok (.goto 4, 3) := by decide +kernel
theorem dX7_lights_64 : decode cX7_lights 64 = .ok (.iconst 4, 1) := by decide +kernel
theorem dX7_lights_65 : decode cX7_lights 65 = .ok (.iconst 0, 1) := by decide +kernel
theorem dX7_lights_66 : decode cX7_lights 66 = .ok (.invokevirtual 109, 3) := by decide +kernel
theorem dX7_lights_69 : decode cX7_lights 69 = .ok (.goto 40, 3) := by decide +kernel
theorem dX7_lights_72 : decode cX7_lights 72 = .ok (.aload_n 0, 1) := by decide +kernel
theorem dX7_lights_73 : decode cX7_lights 73 = .ok (.getfield 103, 3) := by decide +kernel
theorem dX7_lights_76 : decode cX7_lights 76 = .ok (.iload_n 3, 1) := by decide +kernel
theorem dX7_lights_77 : decode cX7_lights 77 = .ok (.ifCond .eq 10, 3) := by decide +kernel
theorem dX7_lights_80 : decode cX7_lights 80 = .ok (.aload_n 0, 1) := by decide +kernel
theorem dX7_lights_81 : decode cX7_lights 81 = .ok (.getfield 16, 3) := by decide +kernel
theorem dX7_lights_84 : decode cX7_lights 84 = .ok (.goto 7, 3) := by decide +kernel
theorem dX7_lights_87 : decode cX7_lights 87 = .ok (.aload_n 0, 1) := by decide +kernel
theorem dX7_lights_88 : decode cX7_lights 88 = .ok (.getfield 19, 3) := by decide +kernel
theorem dX7_lights_91 : decode cX7_lights 91 = .ok (.if_icmp .lt 18, 3) := by decide +kernel
theorem dX7_lights_94 : decode cX7_lights 94 = .ok (.aload_n 0, 1) := by decide +kernel
theorem dX7_lights_95 : decode cX7_lights 95 = .ok (.bipush 6, 2) := by decide +kernel
theorem dX7_lights_97 : decode cX7_lights 97 = .ok (.iload_n 3, 1) := by decide +kernel
theorem dX7_lights_98 : decode cX7_lights 98 = .ok (.ifCond .eq 7, 3) := by decide +kernel
theorem dX7_lights_101 : decode cX7_lights 101 = .ok (.iconst 4, 1) := by decide +kernel
theorem dX7_lights_102 : decode cX7_lights 102 = .ok (.goto 4, 3) := by decide +kernel
theorem dX7_lights_105 : decode cX7_lights 105 = .ok (.iconst 5, 1) := by decide +kernel
theorem dX7_lights_106 : decode cX7_lights 106 = .ok (.invokevirtual 109, 3) := by decide +kernel
theorem dX7_lights_109 : decode cX7_lights 109 = .ok (.return_, 1) := by decide +kernel
set_option maxRecDepth 20000 in
theorem ggX7_runs_X7_lacks : GoodIn wsX7_runs wsX7_lacks := goodIn_r _ [8, 9, 10, 7, 11, 12, 13, 14, 15, 16, 17, 2, 18, 19, 20, 21, 22, 23, 24, 25, 26, 27, 28, 29, 30, 31, 32, 33, 34, 35, 36, 37, 38, 39, 40, 41, 42, 43, 44, 45, 46, 47, 48, 49, 50, 51, 52, 53, 54] (by decide +kernel) (by decide +kernel)
set_option maxRecDepth 20000 in
theorem gX7_runs_X7_lacks : GoodIn wsX7_runs (wsV RX7 123 RX7 yX7_lacks wsX7_lacks) := goodIn_app (goodIn_of _ (by decide +kernel)) ggX7_runs_X7_lacks
set_option maxRecDepth 20000 in
theorem ggX7_runs_X7_has : GoodIn wsX7_runs wsX7_has := goodIn_r _ [11] (by decide +kernel) (by decide +kernel)
set_option maxRecDepth 20000 in
theorem gX7_runs_X7_has : GoodIn wsX7_runs (va_wsS RX7 83 yX7_has wsX7_has) := goodIn_app (goodIn_of _ (by decide +kernel)) ggX7_runs_X7_has
set_option maxRecDepth 20000 in
theorem ggX7_runs_X7_begins : GoodIn wsX7_runs wsX7_begins := goodIn_r _ [15, 16, 17, 2, 18, 19, 20, 21, 22, 23, 24, 25, 26, 27, 28, 29, 30, 31, 32, 33, 34, 35, 36, 37, 38, 39, 40, 41, 42, 43, 44, 45, 46, 47, 48, 49, 50, 51, 52, 53, 54] (by decide +kernel) (by decide +kernel)
set_option maxRecDepth 20000 in
theorem gX7_runs_X7_begins : GoodIn wsX7_runs (wsV RX7 109 RX7 yX7_begins wsX7_begins) := goodIn_app (goodIn_of _ (by decide +kernel)) ggX7_runs_X7_begins
theorem dX7_runs_0 : decode cX7_runs 0 = .ok (.aload_n 0, 1) := by decide +kernel
theorem dX7_runs_1 : decode cX7_runs 1 = .ok (.iload_n 1, 1) := by decide +kernel
theorem dX7_runs_2 : decode cX7_runs 2 = .ok (.invokevirtual 123, 3) := by decide +kernel
theorem dX7_runs_5 : decode cX7_runs 5 = .ok (.ifCond .eq 4, 3) := by decide +kernel
theorem dX7_runs_8 : decode cX7_runs 8 = .ok (.return_, 1) := by decide +kernel
theorem dX7_runs_9 : decode cX7_runs 9 = .ok (.aload_n 0, 1) := by decide +kernel
theorem dX7_runs_10 : decode cX7_runs 10 = .ok (.getfield 87, 3) := by decide +kernel
theorem dX7_runs_13 : decode cX7_runs 13 = .ok (.iconst 1, 1) := by decide +kernel
theorem dX7_runs_14 : decode cX7_runs 14 = .ok (.invokestatic 83, 3) := by decide +kernel
theorem dX7_runs_17 : decode cX7_runs 17 = .ok (.ifCond .ne 14, 3) := by decide +kernel
theorem dX7_runs_20 : decode cX7_runs 20 = .ok (.aload_n 0, 1) := by decide +kernel
theorem dX7_runs_21 : decode cX7_runs 21 = .ok (.bipush 6, 2) := by decide +kernel
theorem dX7_runs_23 : decode cX7_runs 23 = .ok (.bipush 6, 2) := by decide +kernel
theorem dX7_runs_25 : decode cX7_runs 25 = .ok (.invokevirtual 109, 3) := by decide +kernel
theorem dX7_runs_28 : decode cX7_runs 28 = .ok (.goto 44, 3) := by decide +kernel
theorem dX7_runs_31 : decode cX7_runs 31 = .ok (.aload_n 0, 1) := by decide +kernel
theorem dX7_runs_32 : decode cX7_runs 32 = .ok (.getfield 103, 3) := by decide +kernel
theorem dX7_runs_35 : decode cX7_runs 35 = .ok (.aload_n 0, 1) := by decide +kernel
theorem dX7_runs_36 : decode cX7_runs 36 = .ok (.getfield 31, 3) := by decide +kernel
theorem dX7_runs_39 : decode cX7_runs 39 = .ok (.irem, 1) := by decide +kernel
theorem dX7_runs_40 : decode cX7_runs 40 = .ok (.ifCond .ne 22, 3) := by decide +kernel
theorem dX7_runs_43 : decode cX7_runs 43 = .ok (.iload_n 1, 1) := by decide +kernel
theorem dX7_runs_44 : decode cX7_runs 44 = .ok (.iconst 5, 1) := by decide +kernel
theorem dX7_runs_45 : decode cX7_runs 45 = .ok (.invokestatic 83, 3) := by decide +kernel
theorem dX7_runs_48 : decode cX7_runs 48 = .ok (.ifCond .ne 14, 3) := by decide +kernel
theorem dX7_runs_51 : decode cX7_runs 51 = .ok (.aload_n 0, 1) := by decide +kernel
theorem dX7_runs_52 : decode cX7_runs 52 = .ok (.bipush 6, 2) := by decide +kernel
theorem dX7_runs_54 : decode cX7_runs 54 = .ok (.bipush 8, 2) := by decide +kernel
theorem dX7_runs_56 : decode cX7_runs 56 = .ok (.invokevirtual 109, 3) := by decide +kernel
theorem dX7_runs_59 : decode cX7_runs 59 = .ok (.goto 13, 3) := by decide +kernel
theorem dX7_runs_62 : decode cX7_runs 62 = .ok (.iload_n 2, 1) := by decide +kernel
theorem dX7_runs_63 : decode cX7_runs 63 = .ok (.ifCond .ne 9, 3) := by decide +kernel
theorem dX7_runs_66 : decode cX7_runs 66 = .ok (.aload_n 0, 1) := by decide +kernel
theorem dX7_runs_67 : decode cX7_runs 67 = .ok (.iconst 5, 1) := by decide +kernel
theorem dX7_runs_68 : decode cX7_runs 68 = .ok (.iconst 0, 1) := by decide +kernel
theorem dX7_runs_69 : decode cX7_runs 69 = .ok (.invokevirtual 109, 3) := by decide +kernel
theorem dX7_runs_72 : decode cX7_runs 72 = .ok (.return_, 1) := by decide +kernel
set_option maxRecDepth 20000 in
theorem ggX7_plays_X7_looks : GoodIn wsX7_plays wsX7_looks := goodIn_r _ [8, 9, 10, 11, 12, 13, 7, 14, 60, 61, 62, 63, 64, 65, 66, 67, 68, 69, 70, 71, 72, 73, 74, 75, 76, 77, 78, 79, 80, 81, 82, 83, 84, 85, 86, 87, 88, 89, 90, 91, 92, 93, 94] (by decide +kernel) (by decide +kernel)
set_option maxRecDepth 20000 in
theorem gX7_plays_X7_looks : GoodIn wsX7_plays (wsV RX7 130 RX7 yX7_looks wsX7_looks) := goodIn_app (goodIn_of _ (by decide +kernel)) ggX7_plays_X7_looks
set_option maxRecDepth 20000 in
theorem ggX7_plays_X7_goes : GoodIn wsX7_plays wsX7_goes := goodIn_r _ [18, 19, 20, 21, 22, 23, 24, 25, 26, 7, 27, 60, 61, 62, 63, 64, 65, 66, 67, 68, 69, 70, 71, 72, 73, 74, 75, 76, 77, 78, 79, 80, 81, 82, 83, 84, 85, 86, 87, 88, 89, 90, 91, 92, 93, 94] (by decide +kernel) (by decide +kernel)
set_option maxRecDepth 20000 in
theorem gX7_plays_X7_goes : GoodIn wsX7_plays (wsV RX7 136 RX7 yX7_goes wsX7_goes) := goodIn_app (goodIn_of _ (by decide +kernel)) ggX7_plays_X7_goes
set_option maxRecDepth 20000 in
theorem ggX7_plays_X7_decides : GoodIn wsX7_plays wsX7_decides := goodIn_r _ [31, 19, 9, 3, 32, 12, 13, 7, 14, 33, 34, 35, 36, 37, 38, 21, 39, 40, 41, 42, 22, 43, 44, 45, 46, 47, 48, 49, 50, 51, 52, 53, 54, 55, 56, 57, 58, 59, 60, 61, 62, 63, 64, 65, 66, 67, 68, 69, 70, 71, 72, 73, 74, 75, 76, 77, 78, 79, 80, 81, 82, 83, 84, 85, 86, 87, 88, 89, 90, 91, 92, 93, 94] (by decide +kernel) (by decide +kernel)
set_option maxRecDepth 20000 in
theorem gX7_plays_X7_decides : GoodIn wsX7_plays (wsV RX7 139 RX7 yX7_decides wsX7_decides) := goodIn_app (goodIn_of _ (by decide +kernel)) ggX7_plays_X7_decides
theorem dX7_plays_0 : decode cX7_plays 0 = .ok (.aload_n 0, 1) := by decide +kernel
theorem dX7_plays_1 : decode cX7_plays 1 = .ok (.aload_n 0, 1) := by decide +kernel
theorem dX7_plays_2 : decode cX7_plays 2 = .ok (.iload_n 1, 1) := by decide +kernel
theorem dX7_plays_3 : decode cX7_plays 3 = .ok (.iconst 0, 1) := by decide +kernel
theorem dX7_plays_4 : decode cX7_plays 4 = .ok (.aload_n 0, 1) := by decide +kernel
theorem dX7_plays_5 : decode cX7_plays 5 = .ok (.getfield 127, 3) := by decide +kernel
theorem dX7_plays_8 : decode cX7_plays 8 = .ok (.invokevirtual 130, 3) := by decide +kernel
theorem dX7_plays_11 : decode cX7_plays 11 = .ok (.putfield 127, 3) := by decide +kernel
theorem dX7_plays_14 : decode cX7_plays 14 = .ok (.aload_n 0, 1) := by decide +kernel
theorem dX7_plays_15 : decode cX7_plays 15 = .ok (.aload_n 0, 1) := by decide +kernel
theorem dX7_plays_16 : decode cX7_plays 16 = .ok (.iload_n 1, 1) := by decide +kernel
theorem dX7_plays_17 : decode cX7_plays 17 = .ok (.iconst 1, 1) := by decide +kernel
theorem dX7_plays_18 : decode cX7_plays 18 = .ok (.aload_n 0, 1) := by decide +kernel
theorem dX7_plays_19 : decode cX7_plays 19 = .ok (.getfield 133, 3) := by decide +kernel
theorem dX7_plays_22 : decode cX7_plays 22 = .ok (.invokevirtual 130, 3) := by decide +kernel
theorem dX7_plays_25 : decode cX7_plays 25 = .ok (.putfield 133, 3) := by decide +kernel
theorem dX7_plays_28 : decode cX7_plays 28 = .ok (.aload_n 0, 1) := by decide +kernel
theorem dX7_plays_29 : decode cX7_plays 29 = .ok (.invokevirtual 136, 3) := by decide +kernel
theorem dX7_plays_32 : decode cX7_plays 32 = .ok (.aload_n 0, 1) := by decide +kernel
theorem dX7_plays_33 : decode cX7_plays 33 = .ok (.dup, 1) := by decide +kernel
theorem dX7_plays_34 : decode cX7_plays 34 = .ok (.getfield 103, 3) := by decide +kernel
theorem dX7_plays_37 : decode cX7_plays 37 = .ok (.iconst 1, 1) := by decide +kernel
theorem dX7_plays_38 : decode cX7_plays 38 = .ok (.iadd, 1) := by decide +kernel
theorem dX7_plays_39 : decode cX7_plays 39 = .ok (.putfield 103, 3) := by decide +kernel
theorem dX7_plays_42 : decode cX7_plays 42 = .ok (.aload_n 0, 1) := by decide +kernel
theorem dX7_plays_43 : decode cX7_plays 43 = .ok (.iload_n 1, 1) := by decide +kernel
theorem dX7_plays_44 : decode cX7_plays 44 = .ok (.invokevirtual 139, 3) := by decide +kernel
theorem dX7_plays_47 : decode cX7_plays 47 = .ok (.return_, 1) := by decide +kernel
theorem dX7_notes_0 : decode cX7_notes 0 = .ok (.aload_n 0, 1) := by decide +kernel
theorem dX7_notes_1 : decode cX7_notes 1 = .ok (.getfield 43, 3) := by decide +kernel
theorem dX7_notes_4 : decode cX7_notes 4 = .ok (.aload_n 0, 1) := by decide +kernel
theorem dX7_notes_5 : decode cX7_notes 5 = .ok (.getfield 143, 3) := by decide +kernel
theorem dX7_notes_8 : decode cX7_notes 8 = .ok (.bipush 100, 2) := by decide +kernel
theorem dX7_notes_10 : decode cX7_notes 10 = .ok (.irem, 1) := by decide +kernel
theorem dX7_notes_11 : decode cX7_notes 11 = .ok (.aload_n 0, 1) := by decide +kernel
theorem dX7_notes_12 : decode cX7_notes 12 = .ok (.getfield 146, 3) := by decide +kernel
theorem dX7_notes_15 : decode cX7_notes 15 = .ok (.iastore, 1) := by decide +kernel
theorem dX7_notes_16 : decode cX7_notes 16 = .ok (.aload_n 0, 1) := by decide +kernel
theorem dX7_notes_17 : decode cX7_notes 17 = .ok (.getfield 47, 3) := by decide +kernel
theorem dX7_notes_20 : decode cX7_notes 20 = .ok (.aload_n 0, 1) := by decide +kernel
theorem dX7_notes_21 : decode cX7_notes 21 = .ok (.getfield 143, 3) := by decide +kernel
theorem dX7_notes_24 : decode cX7_notes 24 = .ok (.bipush 100, 2) := by decide +kernel
theorem dX7_notes_26 : decode cX7_notes 26 = .ok (.irem, 1) := by decide +kernel
theorem dX7_notes_27 : decode cX7_notes 27 = .ok (.aload_n 0, 1) := by decide +kernel
theorem dX7_notes_28 : decode cX7_notes 28 = .ok (.getfield 77, 3) := by decide +kernel
theorem dX7_notes_31 : decode cX7_notes 31 = .ok (.iastore, 1) := by decide +kernel
theorem dX7_notes_32 : decode cX7_notes 32 = .ok (.aload_n 0, 1) := by decide +kernel
theorem dX7_notes_33 : decode cX7_notes 33 = .ok (.getfield 50, 3) := by decide +kernel
theorem dX7_notes_36 : decode cX7_notes 36 = .ok (.aload_n 0, 1) := by decide +kernel
theorem dX7_notes_37 : decode cX7_notes 37 = .ok (.getfield 143, 3) := by decide +kernel
theorem dX7_notes_40 : decode cX7_notes 40 = .ok (.bipush 100, 2) := by decide +kernel
theorem dX7_notes_42 : decode cX7_notes 42 = .ok (.irem, 1) := by decide +kernel
theorem dX7_notes_43 : decode cX7_notes 43 = .ok (.aload_n 0, 1) := by decide +kernel
theorem dX7_notes_44 : decode cX7_notes 44 = .ok (.getfield 100, 3) := by decide +kernel
theorem dX7_notes_47 : decode cX7_notes 47 = .ok (.iastore, 1) := by decide +kernel
theorem dX7_notes_48 : decode cX7_notes 48 = .ok (.aload_n 0, 1) := by decide +kernel
theorem dX7_notes_49 : decode cX7_notes 49 = .ok (.dup, 1) := by decide +kernel
theorem dX7_notes_50 : decode cX7_notes 50 = .ok (.getfield 143, 3) := by decide +kernel
theorem dX7_notes_53 : decode cX7_notes 53 = .ok (.iconst 1, 1) := by decide +kernel
theorem dX7_notes_54 : decode cX7_notes 54 = .ok (.iadd, 1) := by decide +kernel
theorem dX7_notes_55 : decode cX7_notes 55 = .ok (.putfield 143, 3) := by decide +kernel
theorem dX7_notes_58 : decode cX7_notes 58 = .ok (.return_, 1) := by decide +kernel
set_option maxRecDepth 20000 in
theorem ggX7_poll_X7_in : GoodIn wsX7_poll wsX7_in := goodIn_r _ [11] (by decide +kernel) (by decide +kernel)
set_option maxRecDepth 20000 in
theorem gX7_poll_X7_in : GoodIn wsX7_poll (va_wsS RX7 66 yX7_in wsX7_in) := goodIn_app (goodIn_of _ (by decide +kernel)) ggX7_poll_X7_in
set_option maxRecDepth 20000 in
theorem ggX7_poll_X7_asks : GoodIn wsX7_poll wsX7_asks := goodIn_r _ [15, 16, 84, 85, 86, 87, 88, 89, 90, 91, 92, 93, 94, 95, 96, 97, 98, 99, 100, 101, 102, 103, 104, 105, 106, 107, 108, 109, 110, 111, 112, 113, 114, 115, 116, 117, 118] (by decide +kernel) (by decide +kernel)
set_option maxRecDepth 20000 in
theorem gX7_poll_X7_asks : GoodIn wsX7_poll (wsV RX7 70 RX7 yX7_asks wsX7_asks) := goodIn_app (goodIn_of _ (by decide +kernel)) ggX7_poll_X7_asks
set_option maxRecDepth 20000 in
theorem ggX7_poll_X7_plays : GoodIn wsX7_poll wsX7_plays := goodIn_r _ [20, 21, 22, 23, 24, 25, 26, 10, 27, 5, 28, 29, 30, 31, 32, 33, 34, 35, 36, 2, 37, 38, 39, 40, 41, 42, 43, 44, 45, 46, 47, 48, 49, 50, 51, 52, 53, 54, 55, 56, 57, 58, 59, 60, 61, 62, 63, 64, 65, 66, 67, 68, 69, 70, 71, 72, 73, 74, 75, 76, 84, 85, 86, 87, 88, 89, 90, 91, 92, 93, 94, 95, 96, 97, 98, 99, 100, 101, 102, 103, 104, 105, 106, 107, 108, 109, 110, 111, 112, 113, 114, 115, 116, 117, 118] (by decide +kernel) (by decide +kernel)
set_option maxRecDepth 20000 in
theorem gX7_poll_X7_plays : GoodIn wsX7_poll (wsV RX7 149 RX7 yX7_plays wsX7_plays) := goodIn_app (goodIn_of _ (by decide +kernel)) ggX7_poll_X7_plays
set_option maxRecDepth 20000 in
theorem ggX7_poll_X7_notes : GoodIn wsX7_poll wsX7_notes := goodIn_r _ [80, 81, 1, 4, 82, 2, 83, 54, 84, 85, 86, 87, 88, 89, 90, 91, 92, 93, 94, 95, 96, 97, 98, 99, 100, 101, 102, 103, 104, 105, 106, 107, 108, 109, 110, 111, 112, 113, 114, 115, 116, 117, 118] (by decide +kernel) (by decide +kernel)
set_option maxRecDepth 20000 in
theorem gX7_poll_X7_notes : GoodIn wsX7_poll (wsV RX7 152 RX7 yX7_notes wsX7_notes) := goodIn_app (goodIn_of _ (by decide +kernel)) ggX7_poll_X7_notes
theorem dX7_poll_0 : decode cX7_poll 0 = .ok (.aload_n 0, 1) := by decide +kernel
theorem dX7_poll_1 : decode cX7_poll 1 = .ok (.iload_n 1, 1) := by decide +kernel
theorem dX7_poll_2 : decode cX7_poll 2 = .ok (.iconst 1, 1) := by decide +kernel
theorem dX7_poll_3 : decode cX7_poll 3 = .ok (.sipush 200, 3) := by decide +kernel
theorem dX7_poll_6 : decode cX7_poll 6 = .ok (.invokestatic 66, 3) := by decide +kernel
theorem dX7_poll_9 : decode cX7_poll 9 = .ok (.invokevirtual 70, 3) := by decide +kernel
theorem dX7_poll_12 : decode cX7_poll 12 = .ok (.ifCond .ne 5, 3) := by decide +kernel
theorem dX7_poll_15 : decode cX7_poll 15 = .ok (.iconst 0, 1) := by decide +kernel
theorem dX7_poll_16 : decode cX7_poll 16 = .ok (.ireturn, 1) := by decide +kernel
theorem dX7_poll_17 : decode cX7_poll 17 = .ok (.aload_n 0, 1) := by decide +kernel
theorem dX7_poll_18 : decode cX7_poll 18 = .ok (.getfield 143, 3) := by decide +kernel
theorem dX7_poll_21 : decode cX7_poll 21 = .ok (.istore_n 2, 1) := by decide +kernel
theorem dX7_poll_22 : decode cX7_poll 22 = .ok (.iconst 0, 1) := by decide +kernel
theorem dX7_poll_23 : decode cX7_poll 23 = .ok (.istore_n 3, 1) := by decide +kernel
theorem dX7_poll_24 : decode cX7_poll 24 = .ok (.iload_n 3, 1) := by decide +kernel
theorem dX7_poll_25 : decode cX7_poll 25 = .ok (.iload_n 1, 1) := by decide +kernel
theorem dX7_poll_26 : decode cX7_poll 26 = .ok (.if_icmp .ge 103, 3) := by decide +kernel
theorem dX7_poll_29 : decode cX7_poll 29 = .ok (.aload_n 0, 1) := by decide +kernel
theorem dX7_poll_30 : decode cX7_poll 30 = .ok (.getfield 77, 3) := by decide +kernel
theorem dX7_poll_33 : decode cX7_poll 33 = .ok (.istore 4, 2) := by decide +kernel
theorem dX7_poll_35 : decode cX7_poll 35 = .ok (.aload_n 0, 1) := by decide +kernel
theorem dX7_poll_36 : decode cX7_poll 36 = .ok (.aload_n 0, 1) := by decide +kernel
theorem dX7_poll_37 : decode cX7_poll 37 = .ok (.getfield 74, 3) := by decide +kernel
theorem dX7_poll_40 : decode cX7_poll 40 = .ok (.invokevirtual 149, 3) := by decide +kernel
theorem dX7_poll_43 : decode cX7_poll 43 = .ok (.aload_n 0, 1) := by decide +kernel
theorem dX7_poll_44 : decode cX7_poll 44 = .ok (.dup, 1) := by decide +kernel
theorem dX7_poll_45 : decode cX7_poll 45 = .ok (.getfield 146, 3) := by decide +kernel
theorem dX7_poll_48 : decode cX7_poll 48 = .ok (.iconst 1, 1) := by decide +kernel
theorem dX7_poll_49 : decode cX7_poll 49 = .ok (.iadd, 1) := by decide +kernel
theorem dX7_poll_50 : decode cX7_poll 50 = .ok (.putfield 146, 3) := by decide +kernel
theorem dX7_poll_53 : decode cX7_poll 53 = .ok (.aload_n 0, 1) := by decide +kernel
theorem dX7_poll_54 : decode cX7_poll 54 = .ok (.getfield 77, 3) := by decide +kernel
theorem dX7_poll_57 : decode cX7_poll 57 = .ok (.iload 4, 2) := by decide +kernel
theorem dX7_poll_59 : decode cX7_poll 59 = .ok (.if_icmp .eq 7, 3) := by decide +kernel
theorem dX7_poll_62 : decode cX7_poll 62 = .ok (.aload_n 0, 1) := by decide +kernel
theorem dX7_poll_63 : decode cX7_poll 63 = .ok (.invokevirtual 152, 3) := by decide +kernel
theorem dX7_poll_66 : decode cX7_poll 66 = .ok (.aload_n 0, 1) := by decide +kernel
theorem dX7_poll_67 : decode cX7_poll 67 = .ok (.iload 4, 2) := by decide +kernel
theorem dX7_poll_69 : decode cX7_poll 69 = .ok (.iconst 2, 1) := by decide +kernel
theorem dX7_poll_70 : decode cX7_poll 70 = .ok (.iconst 4, 1) := by decide +kernel
theorem dX7_poll_71 : decode cX7_poll 71 = .ok (.invokestatic 66, 3) := by decide +kernel
theorem dX7_poll_74 : decode cX7_poll 74 = .ok (.ifCond .eq 19, 3) := by decide +kernel
theorem dX7_poll_77 : decode cX7_poll 77 = .ok (.aload_n 0, 1) := by decide +kernel
theorem dX7_poll_78 : decode cX7_poll 78 = .ok (.getfield 87, 3) := by decide +kernel
theorem dX7_poll_81 : decode cX7_poll 81 = .ok (.ifCond .ne 12, 3) := by decide +kernel
theorem dX7_poll_84 : decode cX7_poll 84 = .ok (.aload_n 0, 1) := by decide +kernel
theorem dX7_poll_85 : decode cX7_poll 85 = .ok (.getfield 155, 3) := by decide +kernel
theorem dX7_poll_88 : decode cX7_poll 88 = .ok (.iconst 1, 1) := by decide +kernel
theorem dX7_poll_89 : decode cX7_poll 89 = .ok (.iadd, 1) := by decide +kernel
theorem dX7_poll_90 : decode cX7_poll 90 = .ok (.goto 4, 3) := by decide +kernel
theorem dX7_poll_93 : decode cX7_poll 93 = .ok (.iconst 0, 1) := by decide +kernel
theorem dX7_poll_94 : decode cX7_poll 94 = .ok (.putfield 155, 3) := by decide +kernel
theorem dX7_poll_97 : decode cX7_poll 97 = .ok (.aload_n 0, 1) := by decide +kernel
theorem dX7_poll_98 : decode cX7_poll 98 = .ok (.aload_n 0, 1) := by decide +kernel
theorem dX7_poll_99 : decode cX7_poll 99 = .ok (.getfield 155, 3) := by decide +kernel
theorem dX7_poll_102 : decode cX7_poll 102 = .ok (.aload_n 0, 1) := by decide +kernel
theorem dX7_poll_103 : decode cX7_poll 103 = .ok (.getfield 158, 3) := by decide +kernel
theorem dX7_poll_106 : decode cX7_poll 106 = .ok (.if_icmp .le 10, 3) := by decide +kernel
theorem dX7_poll_109 : decode cX7_poll 109 = .ok (.aload_n 0, 1) := by decide +kernel
theorem dX7_poll_110 : decode cX7_poll 110 = .ok (.getfield 155, 3) := by decide +kernel
theorem dX7_poll_113 : decode cX7_poll 113 = .ok (.goto 7, 3) := by decide +kernel
theorem dX7_poll_116 : decode cX7_poll 116 = .ok (.aload_n 0, 1) := by decide +kernel
theorem dX7_poll_117 : decode cX7_poll 117 = .ok (.getfield 158, 3) := by decide +kernel
theorem dX7_poll_120 : decode cX7_poll 120 = .ok (.putfield 158, 3) := by decide +kernel
theorem dX7_poll_123 : decode cX7_poll 123 = .ok (.iinc 3 1, 3) := by decide +kernel
theorem dX7_poll_126 : decode cX7_poll 126 = .ok (.goto (-102), 3) := by decide +kernel
theorem dX7_poll_129 : decode cX7_poll 129 = .ok (.aload_n 0, 1) := by decide +kernel
theorem dX7_poll_130 : decode cX7_poll 130 = .ok (.getfield 143, 3) := by decide +kernel
theorem dX7_poll_133 : decode cX7_poll 133 = .ok (.iload_n 2, 1) := by decide +kernel
theorem dX7_poll_134 : decode cX7_poll 134 = .ok (.isub, 1) := by decide +kernel
theorem dX7_poll_135 : decode cX7_poll 135 = .ok (.ireturn, 1) := by decide +kernel
theorem dX7_recentResets_0 : decode cX7_recentResets 0 = .ok (.iconst 0, 1) := by decide +kernel
theorem dX7_recentResets_1 : decode cX7_recentResets 1 = .ok (.istore_n 1, 1) := by decide +kernel
theorem dX7_recentResets_2 : decode cX7_recentResets 2 = .ok (.iconst 0, 1) := by decide +kernel
theorem dX7_recentResets_3 : decode cX7_recentResets 3 = .ok (.istore_n 2, 1) := by decide +kernel
theorem dX7_recentResets_4 : decode cX7_recentResets 4 = .ok (.iload_n 2, 1) := by decide +kernel
theorem dX7_recentResets_5 : decode cX7_recentResets 5 = .ok (.iconst 3, 1) := by decide +kernel
theorem dX7_recentResets_6 : decode cX7_recentResets 6 = .ok (.if_icmp .ge 41, 3) := by decide +kernel
theorem dX7_recentResets_9 : decode cX7_recentResets 9 = .ok (.iload_n 2, 1) := by decide +kernel
theorem dX7_recentResets_10 : decode cX7_recentResets 10 = .ok (.aload_n 0, 1) := by decide +kernel
theorem dX7_recentResets_11 : decode cX7_recentResets 11 = .ok (.getfield 161, 3) := by decide +kernel
theorem dX7_recentResets_14 : decode cX7_recentResets 14 = .ok (.if_icmp .ge 33, 3) := by decide +kernel
theorem dX7_recentResets_17 : decode cX7_recentResets 17 = .ok (.iload_n 1, 1) := by decide +kernel
theorem dX7_recentResets_18 : decode cX7_recentResets 18 = .ok (.aload_n 0, 1) := by decide +kernel
theorem dX7_recentResets_19 : decode cX7_recentResets 19 = .ok (.getfield 146, 3) := by decide +kernel
theorem dX7_recentResets_22 : decode cX7_recentResets 22 = .ok (.aload_n 0, 1) := by decide +kernel
theorem dX7_recentResets_23 : decode cX7_recentResets 23 = .ok (.getfield 53, 3) := by decide +kernel
theorem dX7_recentResets_26 : decode cX7_recentResets 26 = .ok (.iload_n 2, 1) := by decide +kernel
theorem dX7_recentResets_27 : decode cX7_recentResets 27 = .ok (.iaload, 1) := by decide +kernel
theorem dX7_recentResets_28 : decode cX7_recentResets 28 = .ok (.isub, 1) := by decide +kernel
theorem dX7_recentResets_29 : decode cX7_recentResets 29 = .ok (.bipush 100, 2) := by decide +kernel
theorem dX7_recentResets_31 : decode cX7_recentResets 31 = .ok (.if_icmp .ge 7, 3) := by decide +kernel
theorem dX7_recentResets_34 : decode cX7_recentResets 34 = .ok (.iconst 1, 1) := by decide +kernel
theorem dX7_recentResets_35 : decode cX7_recentResets 35 = .ok (.goto 4, 3) := by decide +kernel
theorem dX7_recentResets_38 : decode cX7_recentResets 38 = .ok (.iconst 0, 1) := by decide +kernel
theorem dX7_recentResets_39 : decode cX7_recentResets 39 = .ok (.iadd, 1) := by decide +kernel
theorem dX7_recentResets_40 : decode cX7_recentResets 40 = .ok (.istore_n 1, 1) := by decide +kernel
theorem dX7_recentResets_41 : decode cX7_recentResets 41 = .ok (.iinc 2 1, 3) := by decide +kernel
theorem dX7_recentResets_44 : decode cX7_recentResets 44 = .ok (.goto (-40), 3) := by decide +kernel
theorem dX7_recentResets_47 : decode cX7_recentResets 47 = .ok (.iload_n 1, 1) := by decide +kernel
theorem dX7_recentResets_48 : decode cX7_recentResets 48 = .ok (.ireturn, 1) := by decide +kernel
set_option maxRecDepth 20000 in
theorem ggX7_reset_X7_recentResets : GoodIn wsX7_reset wsX7_recentResets := goodIn_r _ [11, 5, 6, 4, 32, 33, 34, 35, 36, 37, 38, 39, 40, 41, 42, 43, 44, 45, 46, 47, 48, 49, 50, 51, 52, 53, 54, 55, 56, 57, 58, 59, 60, 61, 62, 63, 64, 65, 66] (by decide +kernel) (by decide +kernel)
set_option maxRecDepth 20000 in
theorem gX7_reset_X7_recentResets : GoodIn wsX7_reset (wsV RX7 164 RX7 yX7_recentResets wsX7_recentResets) := goodIn_app (goodIn_of _ (by decide +kernel)) ggX7_reset_X7_recentResets
set_option maxRecDepth 20000 in
theorem ggX7_reset_X7_asks : GoodIn wsX7_reset wsX7_asks := goodIn_r _ [15, 16, 32, 33, 34, 35, 36, 37, 38, 39, 40, 41, 42, 43, 44, 45, 46, 47, 48, 49, 50, 51, 52, 53, 54, 55, 56, 57, 58, 59, 60, 61, 62, 63, 64, 65, 66] (by decide +kernel) (by decide +kernel)
set_option maxRecDepth 20000 in
theorem gX7_reset_X7_asks : GoodIn wsX7_reset (wsV RX7 70 RX7 yX7_asks wsX7_asks) := goodIn_app (goodIn_of _ (by decide +kernel)) ggX7_reset_X7_asks
set_option maxRecDepth 20000 in
theorem ggX7_reset_X7_begins : GoodIn wsX7_reset wsX7_begins := goodIn_r _ [20, 1, 21, 3, 22, 23, 32, 33, 34, 35, 36, 37, 38, 39, 40, 41, 42, 43, 44, 45, 46, 47, 48, 49, 50, 51, 52, 53, 54, 55, 56, 57, 58, 59, 60, 61, 62, 63, 64, 65, 66] (by decide +kernel) (by decide +kernel)
set_option maxRecDepth 20000 in
theorem gX7_reset_X7_begins : GoodIn wsX7_reset (wsV RX7 109 RX7 yX7_begins wsX7_begins) := goodIn_app (goodIn_of _ (by decide +kernel)) ggX7_reset_X7_begins
set_option maxRecDepth 20000 in
theorem ggX7_reset_X7_notes : GoodIn wsX7_reset wsX7_notes := goodIn_r _ [27, 28, 29, 6, 30, 1, 31, 21, 32, 33, 34, 35, 36, 37, 38, 39, 40, 41, 42, 43, 44, 45, 46, 47, 48, 49, 50, 51, 52, 53, 54, 55, 56, 57, 58, 59, 60, 61, 62, 63, 64, 65, 66] (by decide +kernel) (by decide +kernel)
set_option maxRecDepth 20000 in
theorem gX7_reset_X7_notes : GoodIn wsX7_reset (wsV RX7 152 RX7 yX7_notes wsX7_notes) := goodIn_app (goodIn_of _ (by decide +kernel)) ggX7_reset_X7_notes
theorem dX7_reset_0 : decode cX7_reset 0 = .ok (.aload_n 0, 1) := by decide +kernel
theorem dX7_reset_1 : decode cX7_reset 1 = .ok (.aload_n 0, 1) := by decide +kernel
theorem dX7_reset_2 : decode cX7_reset 2 = .ok (.getfield 77, 3) := by decide +kernel
theorem dX7_reset_5 : decode cX7_reset 5 = .ok (.bipush 6, 2) := by decide +kernel
theorem dX7_reset_7 : decode cX7_reset 7 = .ok (.if_icmp .ne 30, 3) := by decide +kernel
theorem dX7_reset_10 : decode cX7_reset 10 = .ok (.aload_n 0, 1) := by decide +kernel
theorem dX7_reset_11 : decode cX7_reset 11 = .ok (.getfield 87, 3) := by decide +kernel
theorem dX7_reset_14 : decode cX7_reset 14 = .ok (.ifCond .ne 23, 3) := by decide +kernel
theorem dX7_reset_17 : decode cX7_reset 17 = .ok (.aload_n 0, 1) := by decide +kernel
theorem dX7_reset_18 : decode cX7_reset 18 = .ok (.getfield 103, 3) := by decide +kernel
theorem dX7_reset_21 : decode cX7_reset 21 = .ok (.iconst 5, 1) := by decide +kernel
theorem dX7_reset_22 : decode cX7_reset 22 = .ok (.if_icmp .lt 15, 3) := by decide +kernel
theorem dX7_reset_25 : decode cX7_reset 25 = .ok (.aload_n 0, 1) := by decide +kernel
theorem dX7_reset_26 : decode cX7_reset 26 = .ok (.invokevirtual 164, 3) := by decide +kernel
theorem dX7_reset_29 : decode cX7_reset 29 = .ok (.iconst 3, 1) := by decide +kernel
theorem dX7_reset_30 : decode cX7_reset 30 = .ok (.if_icmp .ge 7, 3) := by decide +kernel
theorem dX7_reset_33 : decode cX7_reset 33 = .ok (.iconst 1, 1) := by decide +kernel
theorem dX7_reset_34 : decode cX7_reset 34 = .ok (.goto 4, 3) := by decide +kernel
theorem dX7_reset_37 : decode cX7_reset 37 = .ok (.iconst 0, 1) := by decide +kernel
theorem dX7_reset_38 : decode cX7_reset 38 = .ok (.invokevirtual 70, 3) := by decide +kernel
theorem dX7_reset_41 : decode cX7_reset 41 = .ok (.ifCond .ne 5, 3) := by decide +kernel
theorem dX7_reset_44 : decode cX7_reset 44 = .ok (.iconst 0, 1) := by decide +kernel
theorem dX7_reset_45 : decode cX7_reset 45 = .ok (.ireturn, 1) := by decide +kernel
theorem dX7_reset_46 : decode cX7_reset 46 = .ok (.aload_n 0, 1) := by decide +kernel
theorem dX7_reset_47 : decode cX7_reset 47 = .ok (.getfield 53, 3) := by decide +kernel
theorem dX7_reset_50 : decode cX7_reset 50 = .ok (.aload_n 0, 1) := by decide +kernel
theorem dX7_reset_51 : decode cX7_reset 51 = .ok (.getfield 161, 3) := by decide +kernel
theorem dX7_reset_54 : decode cX7_reset 54 = .ok (.iconst 3, 1) := by decide +kernel
theorem dX7_reset_55 : decode cX7_reset 55 = .ok (.irem, 1) := by decide +kernel
theorem dX7_reset_56 : decode cX7_reset 56 = .ok (.aload_n 0, 1) := by decide +kernel
theorem dX7_reset_57 : decode cX7_reset 57 = .ok (.getfield 146, 3) := by decide +kernel
theorem dX7_reset_60 : decode cX7_reset 60 = .ok (.iastore, 1) := by decide +kernel
theorem dX7_reset_61 : decode cX7_reset 61 = .ok (.aload_n 0, 1) := by decide +kernel
theorem dX7_reset_62 : decode cX7_reset 62 = .ok (.dup, 1) := by decide +kernel
theorem dX7_reset_63 : decode cX7_reset 63 = .ok (.getfield 161, 3) := by decide +kernel
theorem dX7_reset_66 : decode cX7_reset 66 = .ok (.iconst 1, 1) := by decide +kernel
theorem dX7_reset_67 : decode cX7_reset 67 = .ok (.iadd, 1) := by decide +kernel
theorem dX7_reset_68 : decode cX7_reset 68 = .ok (.putfield 161, 3) := by decide +kernel
theorem dX7_reset_71 : decode cX7_reset 71 = .ok (.aload_n 0, 1) := by decide +kernel
theorem dX7_reset_72 : decode cX7_reset 72 = .ok (.iconst 0, 1) := by decide +kernel
theorem dX7_reset_73 : decode cX7_reset 73 = .ok (.iconst 0, 1) := by decide +kernel
theorem dX7_reset_74 : decode cX7_reset 74 = .ok (.invokevirtual 109, 3) := by decide +kernel
theorem dX7_reset_77 : decode cX7_reset 77 = .ok (.aload_n 0, 1) := by decide +kernel
theorem dX7_reset_78 : decode cX7_reset 78 = .ok (.invokevirtual 152, 3) := by decide +kernel
theorem dX7_reset_81 : decode cX7_reset 81 = .ok (.aload_n 0, 1) := by decide +kernel
theorem dX7_reset_82 : decode cX7_reset 82 = .ok (.invokevirtual 164, 3) := by decide +kernel
theorem dX7_reset_85 : decode cX7_reset 85 = .ok (.ireturn, 1) := by decide +kernel
theorem dX7_ticks_0 : decode cX7_ticks 0 = .ok (.aload_n 0, 1) := by decide +kernel
theorem dX7_ticks_1 : decode cX7_ticks 1 = .ok (.iconst 0, 1) := by decide +kernel
theorem dX7_ticks_2 : decode cX7_ticks 2 = .ok (.putfield 63, 3) := by decide +kernel
theorem dX7_ticks_5 : decode cX7_ticks 5 = .ok (.aload_n 0, 1) := by decide +kernel
theorem dX7_ticks_6 : decode cX7_ticks 6 = .ok (.getfield 146, 3) := by decide +kernel
theorem dX7_ticks_9 : decode cX7_ticks 9 = .ok (.ireturn, 1) := by decide +kernel
theorem dX7_state_0 : decode cX7_state 0 = .ok (.aload_n 0, 1) := by decide +kernel
theorem dX7_state_1 : decode cX7_state 1 = .ok (.iconst 0, 1) := by decide +kernel
theorem dX7_state_2 : decode cX7_state 2 = .ok (.putfield 63, 3) := by decide +kernel
theorem dX7_state_5 : decode cX7_state 5 = .ok (.aload_n 0, 1) := by decide +kernel
theorem dX7_state_6 : decode cX7_state 6 = .ok (.getfield 77, 3) := by decide +kernel
theorem dX7_state_9 : decode cX7_state 9 = .ok (.ireturn, 1) := by decide +kernel
theorem dX7_reason_0 : decode cX7_reason 0 = .ok (.aload_n 0, 1) := by decide +kernel
theorem dX7_reason_1 : decode cX7_reason 1 = .ok (.iconst 0, 1) := by decide +kernel
theorem dX7_reason_2 : decode cX7_reason 2 = .ok (.putfield 63, 3) := by decide +kernel
theorem dX7_reason_5 : decode cX7_reason 5 = .ok (.aload_n 0, 1) := by decide +kernel
theorem dX7_reason_6 : decode cX7_reason 6 = .ok (.getfield 100, 3) := by decide +kernel
theorem dX7_reason_9 : decode cX7_reason 9 = .ok (.ireturn, 1) := by decide +kernel
theorem dX7_time_0 : decode cX7_time 0 = .ok (.aload_n 0, 1) := by decide +kernel
theorem dX7_time_1 : decode cX7_time 1 = .ok (.iconst 0, 1) := by decide +kernel
theorem dX7_time_2 : decode cX7_time 2 = .ok (.putfield 63, 3) := by decide +kernel
theorem dX7_time_5 : decode cX7_time 5 = .ok (.aload_n 0, 1) := by decide +kernel
theorem dX7_time_6 : decode cX7_time 6 = .ok (.getfield 103, 3) := by decide +kernel
theorem dX7_time_9 : decode cX7_time 9 = .ok (.ireturn, 1) := by decide +kernel
theorem dX7_isOpen_0 : decode cX7_isOpen 0 = .ok (.aload_n 0, 1) := by decide +kernel
theorem dX7_isOpen_1 : decode cX7_isOpen 1 = .ok (.iconst 0, 1) := by decide +kernel
theorem dX7_isOpen_2 : decode cX7_isOpen 2 = .ok (.putfield 63, 3) := by decide +kernel
theorem dX7_isOpen_5 : decode cX7_isOpen 5 = .ok (.iload_n 1, 1) := by decide +kernel
theorem dX7_isOpen_6 : decode cX7_isOpen 6 = .ok (.ifCond .eq 27, 3) := by decide +kernel
theorem dX7_isOpen_9 : decode cX7_isOpen 9 = .ok (.aload_n 0, 1) := by decide +kernel
theorem dX7_isOpen_10 : decode cX7_isOpen 10 = .ok (.getfield 77, 3) := by decide +kernel
theorem dX7_isOpen_13 : decode cX7_isOpen 13 = .ok (.iconst 3, 1) := by decide +kernel
theorem dX7_isOpen_14 : decode cX7_isOpen 14 = .ok (.if_icmp .eq 11, 3) := by decide +kernel
theorem dX7_isOpen_17 : decode cX7_isOpen 17 = .ok (.aload_n 0, 1) := by decide +kernel
theorem dX7_isOpen_18 : decode cX7_isOpen 18 = .ok (.getfield 77, 3) := by decide +kernel
theorem dX7_isOpen_21 : decode cX7_isOpen 21 = .ok (.iconst 4, 1) := by decide +kernel
theorem dX7_isOpen_22 : decode cX7_isOpen 22 = .ok (.if_icmp .ne 7, 3) := by decide +kernel
theorem dX7_isOpen_25 : decode cX7_isOpen 25 = .ok (.iconst 1, 1) := by decide +kernel
theorem dX7_isOpen_26 : decode cX7_isOpen 26 = .ok (.goto 28, 3) := by decide +kernel
theorem dX7_isOpen_29 : decode cX7_isOpen 29 = .ok (.iconst 0, 1) := by decide +kernel
theorem dX7_isOpen_30 : decode cX7_isOpen 30 = .ok (.goto 24, 3) := by decide +kernel
theorem dX7_isOpen_33 : decode cX7_isOpen 33 = .ok (.aload_n 0, 1) := by decide +kernel
theorem dX7_isOpen_34 : decode cX7_isOpen 34 = .ok (.getfield 77, 3) := by decide +kernel
theorem dX7_isOpen_37 : decode cX7_isOpen 37 = .ok (.iconst 2, 1) := by decide +kernel
theorem dX7_isOpen_38 : decode cX7_isOpen 38 = .ok (.if_icmp .eq 11, 3) := by decide +kernel
theorem dX7_isOpen_41 : decode cX7_isOpen 41 = .ok (.aload_n 0, 1) := by decide +kernel
theorem dX7_isOpen_42 : decode cX7_isOpen 42 = .ok (.getfield 77, 3) := by decide +kernel
theorem dX7_isOpen_45 : decode cX7_isOpen 45 = .ok (.iconst 3, 1) := by decide +kernel
theorem dX7_isOpen_46 : decode cX7_isOpen 46 = .ok (.if_icmp .ne 7, 3) := by decide +kernel
theorem dX7_isOpen_49 : decode cX7_isOpen 49 = .ok (.iconst 1, 1) := by decide +kernel
theorem dX7_isOpen_50 : decode cX7_isOpen 50 = .ok (.goto 4, 3) := by decide +kernel
theorem dX7_isOpen_53 : decode cX7_isOpen 53 = .ok (.iconst 0, 1) := by decide +kernel
theorem dX7_isOpen_54 : decode cX7_isOpen 54 = .ok (.ireturn, 1) := by decide +kernel
set_option maxRecDepth 20000 in
theorem ggX7_sees_X7_has : GoodIn wsX7_sees wsX7_has := goodIn_r _ [6] (by decide +kernel) (by decide +kernel)
set_option maxRecDepth 20000 in
theorem gX7_sees_X7_has : GoodIn wsX7_sees (va_wsS RX7 83 yX7_has wsX7_has) := goodIn_app (goodIn_of _ (by decide +kernel)) ggX7_sees_X7_has
theorem dX7_sees_0 : decode cX7_sees 0 = .ok (.aload_n 0, 1) := by decide +kernel
theorem dX7_sees_1 : decode cX7_sees 1 = .ok (.iconst 0, 1) := by decide +kernel
theorem dX7_sees_2 : decode cX7_sees 2 = .ok (.putfield 63, 3) := by decide +kernel
theorem dX7_sees_5 : decode cX7_sees 5 = .ok (.aload_n 0, 1) := by decide +kernel
theorem dX7_sees_6 : decode cX7_sees 6 = .ok (.getfield 87, 3) := by decide +kernel
theorem dX7_sees_9 : decode cX7_sees 9 = .ok (.iload_n 1, 1) := by decide +kernel
theorem dX7_sees_10 : decode cX7_sees 10 = .ok (.ifCond .eq 7, 3) := by decide +kernel
theorem dX7_sees_13 : decode cX7_sees 13 = .ok (.iconst 1, 1) := by decide +kernel
theorem dX7_sees_14 : decode cX7_sees 14 = .ok (.goto 4, 3) := by decide +kernel
theorem dX7_sees_17 : decode cX7_sees 17 = .ok (.iconst 0, 1) := by decide +kernel
theorem dX7_sees_18 : decode cX7_sees 18 = .ok (.invokestatic 83, 3) := by decide +kernel
theorem dX7_sees_21 : decode cX7_sees 21 = .ok (.ireturn, 1) := by decide +kernel
theorem dX7_air_0 : decode cX7_air 0 = .ok (.aload_n 0, 1) := by decide +kernel
theorem dX7_air_1 : decode cX7_air 1 = .ok (.iconst 0, 1) := by decide +kernel
theorem dX7_air_2 : decode cX7_air 2 = .ok (.putfield 63, 3) := by decide +kernel
theorem dX7_air_5 : decode cX7_air 5 = .ok (.aload_n 0, 1) := by decide +kernel
theorem dX7_air_6 : decode cX7_air 6 = .ok (.getfield 93, 3) := by decide +kernel
theorem dX7_air_9 : decode cX7_air 9 = .ok (.ireturn, 1) := by decide +kernel
theorem dX7_fuel_0 : decode cX7_fuel 0 = .ok (.aload_n 0, 1) := by decide +kernel
theorem dX7_fuel_1 : decode cX7_fuel 1 = .ok (.iconst 0, 1) := by decide +kernel
theorem dX7_fuel_2 : decode cX7_fuel 2 = .ok (.putfield 63, 3) := by decide +kernel
theorem dX7_fuel_5 : decode cX7_fuel 5 = .ok (.aload_n 0, 1) := by decide +kernel
theorem dX7_fuel_6 : decode cX7_fuel 6 = .ok (.getfield 90, 3) := by decide +kernel
theorem dX7_fuel_9 : decode cX7_fuel 9 = .ok (.ireturn, 1) := by decide +kernel
theorem dX7_purged_0 : decode cX7_purged 0 = .ok (.aload_n 0, 1) := by decide +kernel
theorem dX7_purged_1 : decode cX7_purged 1 = .ok (.iconst 0, 1) := by decide +kernel
theorem dX7_purged_2 : decode cX7_purged 2 = .ok (.putfield 63, 3) := by decide +kernel
theorem dX7_purged_5 : decode cX7_purged 5 = .ok (.aload_n 0, 1) := by decide +kernel
theorem dX7_purged_6 : decode cX7_purged 6 = .ok (.getfield 106, 3) := by decide +kernel
theorem dX7_purged_9 : decode cX7_purged 9 = .ok (.ireturn, 1) := by decide +kernel
theorem dX7_unlit_0 : decode cX7_unlit 0 = .ok (.aload_n 0, 1) := by decide +kernel
theorem dX7_unlit_1 : decode cX7_unlit 1 = .ok (.iconst 0, 1) := by decide +kernel
theorem dX7_unlit_2 : decode cX7_unlit 2 = .ok (.putfield 63, 3) := by decide +kernel
theorem dX7_unlit_5 : decode cX7_unlit 5 = .ok (.aload_n 0, 1) := by decide +kernel
theorem dX7_unlit_6 : decode cX7_unlit 6 = .ok (.getfield 155, 3) := by decide +kernel
theorem dX7_unlit_9 : decode cX7_unlit 9 = .ok (.ireturn, 1) := by decide +kernel
theorem dX7_longestUnlit_0 : decode cX7_longestUnlit 0 = .ok (.aload_n 0, 1) := by decide +kernel
theorem dX7_longestUnlit_1 : decode cX7_longestUnlit 1 = .ok (.iconst 0, 1) := by decide +kernel
theorem dX7_longestUnlit_2 : decode cX7_longestUnlit 2 = .ok (.putfield 63, 3) := by decide +kernel
theorem dX7_longestUnlit_5 : decode cX7_longestUnlit 5 = .ok (.aload_n 0, 1) := by decide +kernel
theorem dX7_longestUnlit_6 : decode cX7_longestUnlit 6 = .ok (.getfield 158, 3) := by decide +kernel
theorem dX7_longestUnlit_9 : decode cX7_longestUnlit 9 = .ok (.ireturn, 1) := by decide +kernel
theorem dX7_changes_0 : decode cX7_changes 0 = .ok (.aload_n 0, 1) := by decide +kernel
theorem dX7_changes_1 : decode cX7_changes 1 = .ok (.iconst 0, 1) := by decide +kernel
theorem dX7_changes_2 : decode cX7_changes 2 = .ok (.putfield 63, 3) := by decide +kernel
theorem dX7_changes_5 : decode cX7_changes 5 = .ok (.aload_n 0, 1) := by decide +kernel
theorem dX7_changes_6 : decode cX7_changes 6 = .ok (.getfield 143, 3) := by decide +kernel
theorem dX7_changes_9 : decode cX7_changes 9 = .ok (.ireturn, 1) := by decide +kernel
theorem dX7_kept_0 : decode cX7_kept 0 = .ok (.aload_n 0, 1) := by decide +kernel
theorem dX7_kept_1 : decode cX7_kept 1 = .ok (.getfield 143, 3) := by decide +kernel
theorem dX7_kept_4 : decode cX7_kept 4 = .ok (.bipush 100, 2) := by decide +kernel
theorem dX7_kept_6 : decode cX7_kept 6 = .ok (.if_icmp .ge 10, 3) := by decide +kernel
theorem dX7_kept_9 : decode cX7_kept 9 = .ok (.aload_n 0, 1) := by decide +kernel
theorem dX7_kept_10 : decode cX7_kept 10 = .ok (.getfield 143, 3) := by decide +kernel
theorem dX7_kept_13 : decode cX7_kept 13 = .ok (.goto 5, 3) := by decide +kernel
theorem dX7_kept_16 : decode cX7_kept 16 = .ok (.bipush 100, 2) := by decide +kernel
theorem dX7_kept_18 : decode cX7_kept 18 = .ok (.ireturn, 1) := by decide +kernel
set_option maxRecDepth 20000 in
theorem ggX7_records_X7_kept : GoodIn wsX7_records wsX7_kept := goodIn_r _ [6, 7, 8, 9, 10, 11, 12, 13, 14, 15, 16, 17, 18, 19, 20, 21, 22, 23, 24, 25, 26, 27, 28, 29, 30, 31, 32, 33, 34, 35, 36, 37, 38, 39, 40, 41, 42] (by decide +kernel) (by decide +kernel)
set_option maxRecDepth 20000 in
theorem gX7_records_X7_kept : GoodIn wsX7_records (wsV RX7 168 RX7 yX7_kept wsX7_kept) := goodIn_app (goodIn_of _ (by decide +kernel)) ggX7_records_X7_kept
theorem dX7_records_0 : decode cX7_records 0 = .ok (.aload_n 0, 1) := by decide +kernel
theorem dX7_records_1 : decode cX7_records 1 = .ok (.iconst 0, 1) := by decide +kernel
theorem dX7_records_2 : decode cX7_records 2 = .ok (.putfield 63, 3) := by decide +kernel
theorem dX7_records_5 : decode cX7_records 5 = .ok (.aload_n 0, 1) := by decide +kernel
theorem dX7_records_6 : decode cX7_records 6 = .ok (.invokevirtual 168, 3) := by decide +kernel
theorem dX7_records_9 : decode cX7_records 9 = .ok (.ireturn, 1) := by decide +kernel
theorem dX7_place_0 : decode cX7_place 0 = .ok (.aload_n 0, 1) := by decide +kernel
theorem dX7_place_1 : decode cX7_place 1 = .ok (.getfield 143, 3) := by decide +kernel
theorem dX7_place_4 : decode cX7_place 4 = .ok (.iconst 1, 1) := by decide +kernel
theorem dX7_place_5 : decode cX7_place 5 = .ok (.isub, 1) := by decide +kernel
theorem dX7_place_6 : decode cX7_place 6 = .ok (.iload_n 1, 1) := by decide +kernel
theorem dX7_place_7 : decode cX7_place 7 = .ok (.isub, 1) := by decide +kernel
theorem dX7_place_8 : decode cX7_place 8 = .ok (.bipush 100, 2) := by decide +kernel
theorem dX7_place_10 : decode cX7_place 10 = .ok (.irem, 1) := by decide +kernel
theorem dX7_place_11 : decode cX7_place 11 = .ok (.ireturn, 1) := by decide +kernel
set_option maxRecDepth 20000 in
theorem ggX7_tickOf_X7_kept : GoodIn wsX7_tickOf wsX7_kept := goodIn_r _ [6, 7, 17, 18, 19, 20, 21, 22, 23, 24, 25, 26, 27, 28, 29, 30, 31, 32, 33, 34, 35, 36, 37, 38, 39, 40, 41, 42, 43, 44, 45, 46, 47, 48, 49, 50, 51] (by decide +kernel) (by decide +kernel)
set_option maxRecDepth 20000 in
theorem gX7_tickOf_X7_kept : GoodIn wsX7_tickOf (wsV RX7 168 RX7 yX7_kept wsX7_kept) := goodIn_app (goodIn_of _ (by decide +kernel)) ggX7_tickOf_X7_kept
set_option maxRecDepth 20000 in
theorem ggX7_tickOf_X7_asks : GoodIn wsX7_tickOf wsX7_asks := goodIn_r _ [11, 12, 17, 18, 19, 20, 21, 22, 23, 24, 25, 26, 27, 28, 29, 30, 31, 32, 33, 34, 35, 36, 37, 38, 39, 40, 41, 42, 43, 44, 45, 46, 47, 48, 49, 50, 51] (by decide +kernel) (by decide +kernel)
set_option maxRecDepth 20000 in
theorem gX7_tickOf_X7_asks : GoodIn wsX7_tickOf (wsV RX7 70 RX7 yX7_asks wsX7_asks) := goodIn_app (goodIn_of _ (by decide +kernel)) ggX7_tickOf_X7_asks
set_option maxRecDepth 20000 in
theorem ggX7_tickOf_X7_place : GoodIn wsX7_tickOf wsX7_place := goodIn_r _ [16, 7, 17, 18, 19, 20, 21, 22, 23, 24, 25, 26, 27, 28, 29, 30, 31, 32, 33, 34, 35, 36, 37, 38, 39, 40, 41, 42, 43, 44, 45, 46, 47, 48, 49, 50, 51] (by decide +kernel) (by decide +kernel)
set_option maxRecDepth 20000 in
theorem gX7_tickOf_X7_place : GoodIn wsX7_tickOf (wsV RX7 171 RX7 yX7_place wsX7_place) := goodIn_app (goodIn_of _ (by decide +kernel)) ggX7_tickOf_X7_place
theorem dX7_tickOf_0 : decode cX7_tickOf 0 = .ok (.aload_n 0, 1) := by decide +kernel
theorem dX7_tickOf_1 : decode cX7_tickOf 1 = .ok (.iload_n 1, 1) := by decide +kernel
theorem dX7_tickOf_2 : decode cX7_tickOf 2 = .ok (.ifCond .lt 15, 3) := by decide +kernel
theorem dX7_tickOf_5 : decode cX7_tickOf 5 = .ok (.iload_n 1, 1) := by decide +kernel
theorem dX7_tickOf_6 : decode cX7_tickOf 6 = .ok (.aload_n 0, 1) := by decide +kernel
theorem dX7_tickOf_7 : decode cX7_tickOf 7 = .ok (.invokevirtual 168, 3) := by decide +kernel
theorem dX7_tickOf_10 : decode cX7_tickOf 10 = .ok (.if_icmp .ge 7, 3) := by decide +kernel
theorem dX7_tickOf_13 : decode cX7_tickOf 13 = .ok (.iconst 1, 1) := by decide +kernel
theorem dX7_tickOf_14 : decode cX7_tickOf 14 = .ok (.goto 4, 3) := by decide +kernel
theorem dX7_tickOf_17 : decode cX7_tickOf 17 = .ok (.iconst 0, 1) := by decide +kernel
theorem dX7_tickOf_18 : decode cX7_tickOf 18 = .ok (.invokevirtual 70, 3) := by decide +kernel
theorem dX7_tickOf_21 : decode cX7_tickOf 21 = .ok (.ifCond .eq 16, 3) := by decide +kernel
theorem dX7_tickOf_24 : decode cX7_tickOf 24 = .ok (.aload_n 0, 1) := by decide +kernel
theorem dX7_tickOf_25 : decode cX7_tickOf 25 = .ok (.getfield 43, 3) := by decide +kernel
theorem dX7_tickOf_28 : decode cX7_tickOf 28 = .ok (.aload_n 0, 1) := by decide +kernel
theorem dX7_tickOf_29 : decode cX7_tickOf 29 = .ok (.iload_n 1, 1) := by decide +kernel
theorem dX7_tickOf_30 : decode cX7_tickOf 30 = .ok (.invokevirtual 171, 3) := by decide +kernel
theorem dX7_tickOf_33 : decode cX7_tickOf 33 = .ok (.iaload, 1) := by decide +kernel
theorem dX7_tickOf_34 : decode cX7_tickOf 34 = .ok (.goto 4, 3) := by decide +kernel
theorem dX7_tickOf_37 : decode cX7_tickOf 37 = .ok (.iconst 0, 1) := by decide +kernel
theorem dX7_tickOf_38 : decode cX7_tickOf 38 = .ok (.ireturn, 1) := by decide +kernel
set_option maxRecDepth 20000 in
theorem ggX7_stateOf_X7_kept : GoodIn wsX7_stateOf wsX7_kept := goodIn_r _ [6, 7, 17, 18, 19, 20, 21, 22, 23, 24, 25, 26, 27, 28, 29, 30, 31, 32, 33, 34, 35, 36, 37, 38, 39, 40, 41, 42, 43, 44, 45, 46, 47, 48, 49, 50, 51] (by decide +kernel) (by decide +kernel)
set_option maxRecDepth 20000 in
theorem gX7_stateOf_X7_kept : GoodIn wsX7_stateOf (wsV RX7 168 RX7 yX7_kept wsX7_kept) := goodIn_app (goodIn_of _ (by decide +kernel)) ggX7_stateOf_X7_kept
set_option maxRecDepth 20000 in
theorem ggX7_stateOf_X7_asks : GoodIn wsX7_stateOf wsX7_asks := goodIn_r _ [11, 12, 17, 18, 19, 20, 21, 22, 23, 24, 25, 26, 27, 28, 29, 30, 31, 32, 33, 34, 35, 36, 37, 38, 39, 40, 41, 42, 43, 44, 45, 46, 47, 48, 49, 50, 51] (by decide +kernel) (by decide +kernel)
set_option maxRecDepth 20000 in
theorem gX7_stateOf_X7_asks : GoodIn wsX7_stateOf (wsV RX7 70 RX7 yX7_asks wsX7_asks) := goodIn_app (goodIn_of _ (by decide +kernel)) ggX7_stateOf_X7_asks
set_option maxRecDepth 20000 in
theorem ggX7_stateOf_X7_place : GoodIn wsX7_stateOf wsX7_place := goodIn_r _ [16, 7, 17, 18, 19, 20, 21, 22, 23, 24, 25, 26, 27, 28, 29, 30, 31, 32, 33, 34, 35, 36, 37, 38, 39, 40, 41, 42, 43, 44, 45, 46, 47, 48, 49, 50, 51] (by decide +kernel) (by decide +kernel)
set_option maxRecDepth 20000 in
theorem gX7_stateOf_X7_place : GoodIn wsX7_stateOf (wsV RX7 171 RX7 yX7_place wsX7_place) := goodIn_app (goodIn_of _ (by decide +kernel)) ggX7_stateOf_X7_place
theorem dX7_stateOf_0 : decode cX7_stateOf 0 = .ok (.aload_n 0, 1) := by decide +kernel
theorem dX7_stateOf_1 : decode cX7_stateOf 1 = .ok (.iload_n 1, 1) := by decide +kernel
theorem dX7_stateOf_2 : decode cX7_stateOf 2 = .ok (.ifCond .lt 15, 3) := by decide +kernel
theorem dX7_stateOf_5 : decode cX7_stateOf 5 = .ok (.iload_n 1, 1) := by decide +kernel
theorem dX7_stateOf_6 : decode cX7_stateOf 6 = .ok (.aload_n 0, 1) := by decide +kernel
theorem dX7_stateOf_7 : decode cX7_stateOf 7 = .ok (.invokevirtual 168, 3) := by decide +kernel
theorem dX7_stateOf_10 : decode cX7_stateOf 10 = .ok (.if_icmp .ge 7, 3) := by decide +kernel
theorem dX7_stateOf_13 : decode cX7_stateOf 13 = .ok (.iconst 1, 1) := by decide +kernel
theorem dX7_stateOf_14 : decode cX7_stateOf 14 = .ok (.goto 4, 3) := by decide +kernel
theorem dX7_stateOf_17 : decode cX7_stateOf 17 = .ok (.iconst 0, 1) := by decide +kernel
theorem dX7_stateOf_18 : decode cX7_stateOf 18 = .ok (.invokevirtual 70, 3) := by decide +kernel
theorem dX7_stateOf_21 : decode cX7_stateOf 21 = .ok (.ifCond .eq 16, 3) := by decide +kernel
theorem dX7_stateOf_24 : decode cX7_stateOf 24 = .ok (.aload_n 0, 1) := by decide +kernel
theorem dX7_stateOf_25 : decode cX7_stateOf 25 = .ok (.getfield 47, 3) := by decide +kernel
theorem dX7_stateOf_28 : decode cX7_stateOf 28 = .ok (.aload_n 0, 1) := by decide +kernel
theorem dX7_stateOf_29 : decode cX7_stateOf 29 = .ok (.iload_n 1, 1) := by decide +kernel
theorem dX7_stateOf_30 : decode cX7_stateOf 30 = .ok (.invokevirtual 171, 3) := by decide +kernel
theorem dX7_stateOf_33 : decode cX7_stateOf 33 = .ok (.iaload, 1) := by decide +kernel
theorem dX7_stateOf_34 : decode cX7_stateOf 34 = .ok (.goto 4, 3) := by decide +kernel
theorem dX7_stateOf_37 : decode cX7_stateOf 37 = .ok (.iconst 0, 1) := by decide +kernel
theorem dX7_stateOf_38 : decode cX7_stateOf 38 = .ok (.ireturn, 1) := by decide +kernel
set_option maxRecDepth 20000 in
theorem ggX7_reasonOf_X7_kept : GoodIn wsX7_reasonOf wsX7_kept := goodIn_r _ [6, 7, 17, 18, 19, 20, 21, 22, 23, 24, 25, 26, 27, 28, 29, 30, 31, 32, 33, 34, 35, 36, 37, 38, 39, 40, 41, 42, 43, 44, 45, 46, 47, 48, 49, 50, 51] (by decide +kernel) (by decide +kernel)
set_option maxRecDepth 20000 in
theorem gX7_reasonOf_X7_kept : GoodIn wsX7_reasonOf (wsV RX7 168 RX7 yX7_kept wsX7_kept) := goodIn_app (goodIn_of _ (by decide +kernel)) ggX7_reasonOf_X7_kept
set_option maxRecDepth 20000 in
theorem ggX7_reasonOf_X7_asks : GoodIn wsX7_reasonOf wsX7_asks := goodIn_r _ [11, 12, 17, 18, 19, 20, 21, 22, 23, 24, 25, 26, 27, 28, 29, 30, 31, 32, 33, 34, 35, 36, 37, 38, 39, 40, 41, 42, 43, 44, 45, 46, 47, 48, 49, 50, 51] (by decide +kernel) (by decide +kernel)
set_option maxRecDepth 20000 in
theorem gX7_reasonOf_X7_asks : GoodIn wsX7_reasonOf (wsV RX7 70 RX7 yX7_asks wsX7_asks) := goodIn_app (goodIn_of _ (by decide +kernel)) ggX7_reasonOf_X7_asks
set_option maxRecDepth 20000 in
theorem ggX7_reasonOf_X7_place : GoodIn wsX7_reasonOf wsX7_place := goodIn_r _ [16, 7, 17, 18, 19, 20, 21, 22, 23, 24, 25, 26, 27, 28, 29, 30, 31, 32, 33, 34, 35, 36, 37, 38, 39, 40, 41, 42, 43, 44, 45, 46, 47, 48, 49, 50, 51] (by decide +kernel) (by decide +kernel)
set_option maxRecDepth 20000 in
theorem gX7_reasonOf_X7_place : GoodIn wsX7_reasonOf (wsV RX7 171 RX7 yX7_place wsX7_place) := goodIn_app (goodIn_of _ (by decide +kernel)) ggX7_reasonOf_X7_place
theorem dX7_reasonOf_0 : decode cX7_reasonOf 0 = .ok (.aload_n 0, 1) := by decide +kernel
theorem dX7_reasonOf_1 : decode cX7_reasonOf 1 = .ok (.iload_n 1, 1) := by decide +kernel
theorem dX7_reasonOf_2 : decode cX7_reasonOf 2 = .ok (.ifCond .lt 15, 3) := by decide +kernel
theorem dX7_reasonOf_5 : decode cX7_reasonOf 5 = .ok (.iload_n 1, 1) := by decide +kernel
theorem dX7_reasonOf_6 : decode cX7_reasonOf 6 = .ok (.aload_n 0, 1) := by decide +kernel
theorem dX7_reasonOf_7 : decode cX7_reasonOf 7 = .ok (.invokevirtual 168, 3) := by decide +kernel
theorem dX7_reasonOf_10 : decode cX7_reasonOf 10 = .ok (.if_icmp .ge 7, 3) := by decide +kernel
theorem dX7_reasonOf_13 : decode cX7_reasonOf 13 = .ok (.iconst 1, 1) := by decide +kernel
theorem dX7_reasonOf_14 : decode cX7_reasonOf 14 = .ok (.goto 4, 3) := by decide +kernel
theorem dX7_reasonOf_17 : decode cX7_reasonOf 17 = .ok (.iconst 0, 1) := by decide +kernel
theorem dX7_reasonOf_18 : decode cX7_reasonOf 18 = .ok (.invokevirtual 70, 3) := by decide +kernel
theorem dX7_reasonOf_21 : decode cX7_reasonOf 21 = .ok (.ifCond .eq 16, 3) := by decide +kernel
theorem dX7_reasonOf_24 : decode cX7_reasonOf 24 = .ok (.aload_n 0, 1) := by decide +kernel
theorem dX7_reasonOf_25 : decode cX7_reasonOf 25 = .ok (.getfield 50, 3) := by decide +kernel
theorem dX7_reasonOf_28 : decode cX7_reasonOf 28 = .ok (.aload_n 0, 1) := by decide +kernel
theorem dX7_reasonOf_29 : decode cX7_reasonOf 29 = .ok (.iload_n 1, 1) := by decide +kernel
theorem dX7_reasonOf_30 : decode cX7_reasonOf 30 = .ok (.invokevirtual 171, 3) := by decide +kernel
theorem dX7_reasonOf_33 : decode cX7_reasonOf 33 = .ok (.iaload, 1) := by decide +kernel
theorem dX7_reasonOf_34 : decode cX7_reasonOf 34 = .ok (.goto 4, 3) := by decide +kernel
theorem dX7_reasonOf_37 : decode cX7_reasonOf 37 = .ok (.iconst 0, 1) := by decide +kernel
theorem dX7_reasonOf_38 : decode cX7_reasonOf 38 = .ok (.ireturn, 1) := by decide +kernel
theorem dX7_packs_0 : decode cX7_packs 0 = .ok (.aload_n 0, 1) := by decide +kernel
theorem dX7_packs_1 : decode cX7_packs 1 = .ok (.getfield 77, 3) := by decide +kernel
theorem dX7_packs_4 : decode cX7_packs 4 = .ok (.i2l, 1) := by decide +kernel
theorem dX7_packs_5 : decode cX7_packs 5 = .ok (.aload_n 0, 1) := by decide +kernel
theorem dX7_packs_6 : decode cX7_packs 6 = .ok (.getfield 100, 3) := by decide +kernel
theorem dX7_packs_9 : decode cX7_packs 9 = .ok (.i2l, 1) := by decide +kernel
theorem dX7_packs_10 : decode cX7_packs 10 = .ok (.iconst 3, 1) := by decide +kernel
theorem dX7_packs_11 : decode cX7_packs 11 = .ok (.lshl, 1) := by decide +kernel
theorem dX7_packs_12 : decode cX7_packs 12 = .ok (.ladd, 1) := by decide +kernel
theorem dX7_packs_13 : decode cX7_packs 13 = .ok (.aload_n 0, 1) := by decide +kernel
theorem dX7_packs_14 : decode cX7_packs 14 = .ok (.getfield 103, 3) := by decide +kernel
theorem dX7_packs_17 : decode cX7_packs 17 = .ok (.i2l, 1) := by decide +kernel
theorem dX7_packs_18 : decode cX7_packs 18 = .ok (.bipush 7, 2) := by decide +kernel
theorem dX7_packs_20 : decode cX7_packs 20 = .ok (.lshl, 1) := by decide +kernel
theorem dX7_packs_21 : decode cX7_packs 21 = .ok (.ladd, 1) := by decide +kernel
theorem dX7_packs_22 : decode cX7_packs 22 = .ok (.aload_n 0, 1) := by decide +kernel
theorem dX7_packs_23 : decode cX7_packs 23 = .ok (.getfield 93, 3) := by decide +kernel
theorem dX7_packs_26 : decode cX7_packs 26 = .ok (.i2l, 1) := by decide +kernel
theorem dX7_packs_27 : decode cX7_packs 27 = .ok (.bipush 25, 2) := by decide +kernel
theorem dX7_packs_29 : decode cX7_packs 29 = .ok (.lshl, 1) := by decide +kernel
theorem dX7_packs_30 : decode cX7_packs 30 = .ok (.ladd, 1) := by decide +kernel
theorem dX7_packs_31 : decode cX7_packs 31 = .ok (.aload_n 0, 1) := by decide +kernel
theorem dX7_packs_32 : decode cX7_packs 32 = .ok (.getfield 90, 3) := by decide +kernel
theorem dX7_packs_35 : decode cX7_packs 35 = .ok (.i2l, 1) := by decide +kernel
theorem dX7_packs_36 : decode cX7_packs 36 = .ok (.bipush 32, 2) := by decide +kernel
theorem dX7_packs_38 : decode cX7_packs 38 = .ok (.lshl, 1) := by decide +kernel
theorem dX7_packs_39 : decode cX7_packs 39 = .ok (.ladd, 1) := by decide +kernel
theorem dX7_packs_40 : decode cX7_packs 40 = .ok (.aload_n 0, 1) := by decide +kernel
theorem dX7_packs_41 : decode cX7_packs 41 = .ok (.getfield 106, 3) := by decide +kernel
theorem dX7_packs_44 : decode cX7_packs 44 = .ok (.i2l, 1) := by decide +kernel
theorem dX7_packs_45 : decode cX7_packs 45 = .ok (.bipush 39, 2) := by decide +kernel
theorem dX7_packs_47 : decode cX7_packs 47 = .ok (.lshl, 1) := by decide +kernel
theorem dX7_packs_48 : decode cX7_packs 48 = .ok (.ladd, 1) := by decide +kernel
theorem dX7_packs_49 : decode cX7_packs 49 = .ok (.aload_n 0, 1) := by decide +kernel
theorem dX7_packs_50 : decode cX7_packs 50 = .ok (.getfield 87, 3) := by decide +kernel
theorem dX7_packs_53 : decode cX7_packs 53 = .ok (.i2l, 1) := by decide +kernel
theorem dX7_packs_54 : decode cX7_packs 54 = .ok (.bipush 51, 2) := by decide +kernel
theorem dX7_packs_56 : decode cX7_packs 56 = .ok (.lshl, 1) := by decide +kernel
theorem dX7_packs_57 : decode cX7_packs 57 = .ok (.ladd, 1) := by decide +kernel
theorem dX7_packs_58 : decode cX7_packs 58 = .ok (.aload_n 0, 1) := by decide +kernel
theorem dX7_packs_59 : decode cX7_packs 59 = .ok (.getfield 127, 3) := by decide +kernel
theorem dX7_packs_62 : decode cX7_packs 62 = .ok (.i2l, 1) := by decide +kernel
theorem dX7_packs_63 : decode cX7_packs 63 = .ok (.bipush 53, 2) := by decide +kernel
theorem dX7_packs_65 : decode cX7_packs 65 = .ok (.lshl, 1) := by decide +kernel
theorem dX7_packs_66 : decode cX7_packs 66 = .ok (.ladd, 1) := by decide +kernel
theorem dX7_packs_67 : decode cX7_packs 67 = .ok (.aload_n 0, 1) := by decide +kernel
theorem dX7_packs_68 : decode cX7_packs 68 = .ok (.getfield 133, 3) := by decide +kernel
theorem dX7_packs_71 : decode cX7_packs 71 = .ok (.i2l, 1) := by decide +kernel
theorem dX7_packs_72 : decode cX7_packs 72 = .ok (.bipush 56, 2) := by decide +kernel
theorem dX7_packs_74 : decode cX7_packs 74 = .ok (.lshl, 1) := by decide +kernel
theorem dX7_packs_75 : decode cX7_packs 75 = .ok (.ladd, 1) := by decide +kernel
theorem dX7_packs_76 : decode cX7_packs 76 = .ok (.lreturn, 1) := by decide +kernel
theorem dX7_unpacks_0 : decode cX7_unpacks 0 = .ok (.aload_n 0, 1) := by decide +kernel
theorem dX7_unpacks_1 : decode cX7_unpacks 1 = .ok (.lload_n 1, 1) := by decide +kernel
theorem dX7_unpacks_2 : decode cX7_unpacks 2 = .ok (.ldc2_w 175, 3) := by decide +kernel
theorem dX7_unpacks_5 : decode cX7_unpacks 5 = .ok (.land, 1) := by decide +kernel
theorem dX7_unpacks_6 : decode cX7_unpacks 6 = .ok (.l2i, 1) := by decide +kernel
theorem dX7_unpacks_7 : decode cX7_unpacks 7 = .ok (.putfield 77, 3) := by decide +kernel
theorem dX7_unpacks_10 : decode cX7_unpacks 10 = .ok (.aload_n 0, 1) := by decide +kernel
theorem dX7_unpacks_11 : decode cX7_unpacks 11 = .ok (.lload_n 1, 1) := by decide +kernel
theorem dX7_unpacks_12 : decode cX7_unpacks 12 = .ok (.iconst 3, 1) := by decide +kernel
theorem dX7_unpacks_13 : decode cX7_unpacks 13 = .ok (.lshr, 1) := by decide +kernel
theorem dX7_unpacks_14 : decode cX7_unpacks 14 = .ok (.ldc2_w 177, 3) := by decide +kernel
theorem dX7_unpacks_17 : decode cX7_unpacks 17 = .ok (.land, 1) := by decide +kernel
theorem dX7_unpacks_18 : decode cX7_unpacks 18 = .ok (.l2i, 1) := by decide +kernel
theorem dX7_unpacks_19 : decode cX7_unpacks 19 = .ok (.putfield 100, 3) := by decide +kernel
theorem dX7_unpacks_22 : decode cX7_unpacks 22 = .ok (.aload_n 0, 1) := by decide +kernel
theorem dX7_unpacks_23 : decode cX7_unpacks 23 = .ok (.lload_n 1, 1) := by decide +kernel
theorem dX7_unpacks_24 : decode cX7_unpacks 24 = .ok (.bipush 7, 2) := by decide +kernel
theorem dX7_unpacks_26 : decode cX7_unpacks 26 = .ok (.lshr, 1) := by decide +kernel
theorem dX7_unpacks_27 : decode cX7_unpacks 27 = .ok (.ldc2_w 179, 3) := by decide +kernel
theorem dX7_unpacks_30 : decode cX7_unpacks 30 = .ok (.land, 1) := by decide +kernel
theorem dX7_unpacks_31 : decode cX7_unpacks 31 = .ok (.l2i, 1) := by decide +kernel
theorem dX7_unpacks_32 : decode cX7_unpacks 32 = .ok (.putfield 103, 3) := by decide +kernel
theorem dX7_unpacks_35 : decode cX7_unpacks 35 = .ok (.aload_n 0, 1) := by decide +kernel
theorem dX7_unpacks_36 : decode cX7_unpacks 36 = .ok (.lload_n 1, 1) := by decide +kernel
theorem dX7_unpacks_37 : decode cX7_unpacks 37 = .ok (.bipush 25, 2) := by decide +kernel
theorem dX7_unpacks_39 : decode cX7_unpacks 39 = .ok (.lshr, 1) := by decide +kernel
theorem dX7_unpacks_40 : decode cX7_unpacks 40 = .ok (.ldc2_w 181, 3) := by decide +kernel
theorem dX7_unpacks_43 : decode cX7_unpacks 43 = .ok (.land, 1) := by decide +kernel
theorem dX7_unpacks_44 : decode cX7_unpacks 44 = .ok (.l2i, 1) := by decide +kernel
theorem dX7_unpacks_45 : decode cX7_unpacks 45 = .ok (.putfield 93, 3) := by decide +kernel
theorem dX7_unpacks_48 : decode cX7_unpacks 48 = .ok (.aload_n 0, 1) := by decide +kernel
theorem dX7_unpacks_49 : decode cX7_unpacks 49 = .ok (.lload_n 1, 1) := by decide +kernel
theorem dX7_unpacks_50 : decode cX7_unpacks 50 = .ok (.bipush 32, 2) := by decide +kernel
theorem dX7_unpacks_52 : decode cX7_unpacks 52 = .ok (.lshr, 1) := by decide +kernel
theorem dX7_unpacks_53 : decode cX7_unpacks 53 = .ok (.ldc2_w 181, 3) := by decide +kernel
theorem dX7_unpacks_56 : decode cX7_unpacks 56 = .ok (.land, 1) := by decide +kernel
theorem dX7_unpacks_57 : decode cX7_unpacks 57 = .ok (.l2i, 1) := by decide +kernel
theorem dX7_unpacks_58 : decode cX7_unpacks 58 = .ok (.putfield 90, 3) := by decide +kernel
theorem dX7_unpacks_61 : decode cX7_unpacks 61 = .ok (.aload_n 0, 1) := by decide +kernel
theorem dX7_unpacks_62 : decode cX7_unpacks 62 = .ok (.lload_n 1, 1) := by decide +kernel
theorem dX7_unpacks_63 : decode cX7_unpacks 63 = .ok (.bipush 39, 2) := by decide +kernel
theorem dX7_unpacks_65 : decode cX7_unpacks 65 = .ok (.lshr, 1) := by decide +kernel
theorem dX7_unpacks_66 : decode cX7_unpacks 66 = .ok (.ldc2_w 183, 3) := by decide +kernel
theorem dX7_unpacks_69 : decode cX7_unpacks 69 = .ok (.land, 1) := by decide +kernel
theorem dX7_unpacks_70 : decode cX7_unpacks 70 = .ok (.l2i, 1) := by decide +kernel
theorem dX7_unpacks_71 : decode cX7_unpacks 71 = .ok (.putfield 106, 3) := by decide +kernel
theorem dX7_unpacks_74 : decode cX7_unpacks 74 = .ok (.aload_n 0, 1) := by decide +kernel
theorem dX7_unpacks_75 : decode cX7_unpacks 75 = .ok (.lload_n 1, 1) := by decide +kernel
theorem dX7_unpacks_76 : decode cX7_unpacks 76 = .ok (.bipush 51, 2) := by decide +kernel
theorem dX7_unpacks_78 : decode cX7_unpacks 78 = .ok (.lshr, 1) := by decide +kernel
theorem dX7_unpacks_79 : decode cX7_unpacks 79 = .ok (.ldc2_w 185, 3) := by decide +kernel
theorem dX7_unpacks_82 : decode cX7_unpacks 82 = .ok (.land, 1) := by decide +kernel
theorem dX7_unpacks_83 : decode cX7_unpacks 83 = .ok (.l2i, 1) := by decide +kernel
theorem dX7_unpacks_84 : decode cX7_unpacks 84 = .ok (.putfield 87, 3) := by decide +kernel
theorem dX7_unpacks_87 : decode cX7_unpacks 87 = .ok (.aload_n 0, 1) := by decide +kernel
theorem dX7_unpacks_88 : decode cX7_unpacks 88 = .ok (.lload_n 1, 1) := by decide +kernel
theorem dX7_unpacks_89 : decode cX7_unpacks 89 = .ok (.bipush 53, 2) := by decide +kernel
theorem dX7_unpacks_91 : decode cX7_unpacks 91 = .ok (.lshr, 1) := by decide +kernel
theorem dX7_unpacks_92 : decode cX7_unpacks 92 = .ok (.ldc2_w 175, 3) := by decide +kernel
theorem dX7_unpacks_95 : decode cX7_unpacks 95 = .ok (.land, 1) := by decide +kernel
theorem dX7_unpacks_96 : decode cX7_unpacks 96 = .ok (.l2i, 1) := by decide +kernel
theorem dX7_unpacks_97 : decode cX7_unpacks 97 = .ok (.putfield 127, 3) := by decide +kernel
theorem dX7_unpacks_100 : decode cX7_unpacks 100 = .ok (.aload_n 0, 1) := by decide +kernel
theorem dX7_unpacks_101 : decode cX7_unpacks 101 = .ok (.lload_n 1, 1) := by decide +kernel
theorem dX7_unpacks_102 : decode cX7_unpacks 102 = .ok (.bipush 56, 2) := by decide +kernel
theorem dX7_unpacks_104 : decode cX7_unpacks 104 = .ok (.lshr, 1) := by decide +kernel
theorem dX7_unpacks_105 : decode cX7_unpacks 105 = .ok (.ldc2_w 175, 3) := by decide +kernel
theorem dX7_unpacks_108 : decode cX7_unpacks 108 = .ok (.land, 1) := by decide +kernel
theorem dX7_unpacks_109 : decode cX7_unpacks 109 = .ok (.l2i, 1) := by decide +kernel
theorem dX7_unpacks_110 : decode cX7_unpacks 110 = .ok (.putfield 133, 3) := by decide +kernel
theorem dX7_unpacks_113 : decode cX7_unpacks 113 = .ok (.return_, 1) := by decide +kernel
set_option maxRecDepth 20000 in
theorem ggX7_walks_X7_packs : GoodIn wsX7_walks wsX7_packs := goodIn_r _ [11, 4, 5, 12, 13, 14, 15, 16, 17, 18, 86, 87, 88, 89, 90, 91, 92, 93, 94, 95, 96, 97, 98, 99, 100, 101, 102, 103, 104, 105, 106, 107, 108, 109, 110, 111, 112, 113, 114, 115, 116, 117, 118, 119, 120] (by decide +kernel) (by decide +kernel)
set_option maxRecDepth 20000 in
theorem gX7_walks_X7_packs : GoodIn wsX7_walks (wsV RX7 187 RX7 yX7_packs wsX7_packs) := goodIn_app (goodIn_of _ (by decide +kernel)) ggX7_walks_X7_packs
set_option maxRecDepth 20000 in
theorem ggX7_walks_X7_unpacks : GoodIn wsX7_walks wsX7_unpacks := goodIn_r _ [22, 23, 4, 24, 5, 25, 12, 26, 13, 14, 27, 15, 28, 16, 17, 18, 86, 87, 88, 89, 90, 91, 92, 93, 94, 95, 96, 97, 98, 99, 100, 101, 102, 103, 104, 105, 106, 107, 108, 109, 110, 111, 112, 113, 114, 115, 116, 117, 118, 119, 120] (by decide +kernel) (by decide +kernel)
set_option maxRecDepth 20000 in
theorem gX7_walks_X7_unpacks : GoodIn wsX7_walks (wsV RX7 197 RX7 yX7_unpacks wsX7_unpacks) := goodIn_app (goodIn_of _ (by decide +kernel)) ggX7_walks_X7_unpacks
set_option maxRecDepth 20000 in
theorem ggX7_walks_X7_plays : GoodIn wsX7_walks wsX7_plays := goodIn_r _ [32, 17, 18, 12, 33, 34, 35, 10, 36, 16, 37, 38, 39, 40, 41, 42, 43, 44, 45, 4, 46, 14, 13, 47, 48, 49, 50, 51, 52, 53, 54, 55, 56, 57, 58, 59, 60, 5, 15, 61, 62, 63, 64, 65, 66, 67, 68, 69, 70, 71, 72, 73, 74, 75, 76, 77, 78, 79, 80, 81, 86, 87, 88, 89, 90, 91, 92, 93, 94, 95, 96, 97, 98, 99, 100, 101, 102, 103, 104, 105, 106, 107, 108, 109, 110, 111, 112, 113, 114, 115, 116, 117, 118, 119, 120] (by decide +kernel) (by decide +kernel)
set_option maxRecDepth 20000 in
theorem gX7_walks_X7_plays : GoodIn wsX7_walks (wsV RX7 149 RX7 yX7_plays wsX7_plays) := goodIn_app (goodIn_of _ (by decide +kernel)) ggX7_walks_X7_plays
set_option maxRecDepth 20000 in
theorem ggX7_walks_X7_adds : GoodIn wsX7_walks wsX7_adds := goodIn_r _ [85, 6, 7, 8, 9, 10, 11, 4, 5, 12, 13, 14, 15, 16, 17, 18, 86, 87, 88, 89, 90, 91, 92, 93, 94, 95, 96, 97, 98, 99, 100, 101, 102, 103, 104, 105, 106, 107, 108, 109, 110, 111, 112, 113, 114, 115, 116, 117, 118, 119, 120] (by decide +kernel) (by decide +kernel)
set_option maxRecDepth 20000 in
theorem gX7_walks_X7_adds : GoodIn wsX7_walks (wsV RX7 201 RX7 yX7_adds wsX7_adds) := goodIn_app (goodIn_of _ (by decide +kernel)) ggX7_walks_X7_adds
theorem dX7_walks_0 : decode cX7_walks 0 = .ok (.aload_n 0, 1) := by decide +kernel
theorem dX7_walks_1 : decode cX7_walks 1 = .ok (.invokevirtual 187, 3) := by decide +kernel
theorem dX7_walks_4 : decode cX7_walks 4 = .ok (.lstore_n 2, 1) := by decide +kernel
theorem dX7_walks_5 : decode cX7_walks 5 = .ok (.iconst 0, 1) := by decide +kernel
theorem dX7_walks_6 : decode cX7_walks 6 = .ok (.istore 4, 2) := by decide +kernel
theorem dX7_walks_8 : decode cX7_walks 8 = .ok (.aload_n 0, 1) := by decide +kernel
theorem dX7_walks_9 : decode cX7_walks 9 = .ok (.iconst 0, 1) := by decide +kernel
theorem dX7_walks_10 : decode cX7_walks 10 = .ok (.putfield 191, 3) := by decide +kernel
theorem dX7_walks_13 : decode cX7_walks 13 = .ok (.aload_n 0, 1) := by decide +kernel
theorem dX7_walks_14 : decode cX7_walks 14 = .ok (.getfield 56, 3) := by decide +kernel
theorem dX7_walks_17 : decode cX7_walks 17 = .ok (.iconst 0, 1) := by decide +kernel
theorem dX7_walks_18 : decode cX7_walks 18 = .ok (.lload_n 2, 1) := by decide +kernel
theorem dX7_walks_19 : decode cX7_walks 19 = .ok (.lastore, 1) := by decide +kernel
theorem dX7_walks_20 : decode cX7_walks 20 = .ok (.aload_n 0, 1) := by decide +kernel
theorem dX7_walks_21 : decode cX7_walks 21 = .ok (.iconst 1, 1) := by decide +kernel
theorem dX7_walks_22 : decode cX7_walks 22 = .ok (.putfield 194, 3) := by decide +kernel
theorem dX7_walks_25 : decode cX7_walks 25 = .ok (.iconst 1, 1) := by decide +kernel
theorem dX7_walks_26 : decode cX7_walks 26 = .ok (.istore 5, 2) := by decide +kernel
theorem dX7_walks_28 : decode cX7_walks 28 = .ok (.iload 5, 2) := by decide +kernel
theorem dX7_walks_30 : decode cX7_walks 30 = .ok (.iload_n 1, 1) := by decide +kernel
theorem dX7_walks_31 : decode cX7_walks 31 = .ok (.if_icmp .gt 180, 3) := by decide +kernel
theorem dX7_walks_34 : decode cX7_walks 34 = .ok (.iconst 0, 1) := by decide +kernel
theorem dX7_walks_35 : decode cX7_walks 35 = .ok (.istore 6, 2) := by decide +kernel
theorem dX7_walks_37 : decode cX7_walks 37 = .ok (.iconst 0, 1) := by decide +kernel
theorem dX7_walks_38 : decode cX7_walks 38 = .ok (.istore 7, 2) := by decide +kernel
theorem dX7_walks_40 : decode cX7_walks 40 = .ok (.iload 7, 2) := by decide +kernel
theorem dX7_walks_42 : decode cX7_walks 42 = .ok (.aload_n 0, 1) := by decide +kernel
theorem dX7_walks_43 : decode cX7_walks 43 = .ok (.getfield 194, 3) := by decide +kernel
theorem dX7_walks_46 : decode cX7_walks 46 = .ok (.if_icmp .ge 121, 3) := by decide +kernel
theorem dX7_walks_49 : decode cX7_walks 49 = .ok (.iconst 0, 1) := by decide +kernel
theorem dX7_walks_50 : decode cX7_walks 50 = .ok (.istore 8, 2) := by decide +kernel
theorem dX7_walks_52 : decode cX7_walks 52 = .ok (.iload 8, 2) := by decide +kernel
theorem dX7_walks_54 : decode cX7_walks 54 = .ok (.bipush 64, 2) := by decide +kernel
theorem dX7_walks_56 : decode cX7_walks 56 = .ok (.if_icmp .ge 105, 3) := by decide +kernel
theorem dX7_walks_59 : decode cX7_walks 59 = .ok (.aload_n 0, 1) := by decide +kernel
theorem dX7_walks_60 : decode cX7_walks 60 = .ok (.aload_n 0, 1) := by decide +kernel
theorem dX7_walks_61 : decode cX7_walks 61 = .ok (.getfield 56, 3) := by decide +kernel
theorem dX7_walks_64 : decode cX7_walks 64 = .ok (.iload 7, 2) := by decide +kernel
theorem dX7_walks_66 : decode cX7_walks 66 = .ok (.laload, 1) := by decide +kernel
theorem dX7_walks_67 : decode cX7_walks 67 = .ok (.invokevirtual 197, 3) := by decide +kernel
theorem dX7_walks_70 : decode cX7_walks 70 = .ok (.aload_n 0, 1) := by decide +kernel
theorem dX7_walks_71 : decode cX7_walks 71 = .ok (.getfield 77, 3) := by decide +kernel
theorem dX7_walks_74 : decode cX7_walks 74 = .ok (.bipush 6, 2) := by decide +kernel
theorem dX7_walks_76 : decode cX7_walks 76 = .ok (.if_icmp .ne 7, 3) := by decide +kernel
theorem dX7_walks_79 : decode cX7_walks 79 = .ok (.iconst 1, 1) := by decide +kernel
theorem dX7_walks_80 : decode cX7_walks 80 = .ok (.goto 4, 3) := by decide +kernel
theorem dX7_walks_83 : decode cX7_walks 83 = .ok (.iconst 0, 1) := by decide +kernel
theorem dX7_walks_84 : decode cX7_walks 84 = .ok (.istore 9, 2) := by decide +kernel
theorem dX7_walks_86 : decode cX7_walks 86 = .ok (.aload_n 0, 1) := by decide +kernel
theorem dX7_walks_87 : decode cX7_walks 87 = .ok (.iload 8, 2) := by decide +kernel
theorem dX7_walks_89 : decode cX7_walks 89 = .ok (.invokevirtual 149, 3) := by decide +kernel
theorem dX7_walks_92 : decode cX7_walks 92 = .ok (.iload 4, 2) := by decide +kernel
theorem dX7_walks_94 : decode cX7_walks 94 = .ok (.iconst 1, 1) := by decide +kernel
theorem dX7_walks_95 : decode cX7_walks 95 = .ok (.aload_n 0, 1) := by decide +kernel
theorem dX7_walks_96 : decode cX7_walks 96 = .ok (.getfield 77, 3) := by decide +kernel
theorem dX7_walks_99 : decode cX7_walks 99 = .ok (.ishl, 1) := by decide +kernel
theorem dX7_walks_100 : decode cX7_walks 100 = .ok (.ior, 1) := by decide +kernel
theorem dX7_walks_101 : decode cX7_walks 101 = .ok (.istore 4, 2) := by decide +kernel
theorem dX7_walks_103 : decode cX7_walks 103 = .ok (.aload_n 0, 1) := by decide +kernel
theorem dX7_walks_104 : decode cX7_walks 104 = .ok (.dup, 1) := by decide +kernel
theorem dX7_walks_105 : decode cX7_walks 105 = .ok (.getfield 191, 3) := by decide +kernel
theorem dX7_walks_108 : decode cX7_walks 108 = .ok (.aload_n 0, 1) := by decide +kernel
theorem dX7_walks_109 : decode cX7_walks 109 = .ok (.getfield 77, 3) := by decide +kernel
theorem dX7_walks_112 : decode cX7_walks 112 = .ok (.bipush 6, 2) := by decide +kernel
theorem dX7_walks_114 : decode cX7_walks 114 = .ok (.if_icmp .ne 17, 3) := by decide +kernel
theorem dX7_walks_117 : decode cX7_walks 117 = .ok (.iload 9, 2) := by decide +kernel
theorem dX7_walks_119 : decode cX7_walks 119 = .ok (.ifCond .ne 12, 3) := by decide +kernel
theorem dX7_walks_122 : decode cX7_walks 122 = .ok (.iconst 1, 1) := by decide +kernel
theorem dX7_walks_123 : decode cX7_walks 123 = .ok (.aload_n 0, 1) := by decide +kernel
theorem dX7_walks_124 : decode cX7_walks 124 = .ok (.getfield 100, 3) := by decide +kernel
theorem dX7_walks_127 : decode cX7_walks 127 = .ok (.ishl, 1) := by decide +kernel
theorem dX7_walks_128 : decode cX7_walks 128 = .ok (.goto 4, 3) := by decide +kernel
theorem dX7_walks_131 : decode cX7_walks 131 = .ok (.iconst 0, 1) := by decide +kernel
theorem dX7_walks_132 : decode cX7_walks 132 = .ok (.ior, 1) := by decide +kernel
theorem dX7_walks_133 : decode cX7_walks 133 = .ok (.putfield 191, 3) := by decide +kernel
theorem dX7_walks_136 : decode cX7_walks 136 = .ok (.iload 5, 2) := by decide +kernel
theorem dX7_walks_138 : decode cX7_walks 138 = .ok (.iload_n 1, 1) := by decide +kernel
theorem dX7_walks_139 : decode cX7_walks 139 = .ok (.if_icmp .ge 12, 3) := by decide +kernel
theorem dX7_walks_142 : decode cX7_walks 142 = .ok (.aload_n 0, 1) := by decide +kernel
theorem dX7_walks_143 : decode cX7_walks 143 = .ok (.iload 6, 2) := by decide +kernel
theorem dX7_walks_145 : decode cX7_walks 145 = .ok (.invokevirtual 201, 3) := by decide +kernel
theorem dX7_walks_148 : decode cX7_walks 148 = .ok (.goto 5, 3) := by decide +kernel
theorem dX7_walks_151 : decode cX7_walks 151 = .ok (.iload 6, 2) := by decide +kernel
theorem dX7_walks_153 : decode cX7_walks 153 = .ok (.istore 6, 2) := by decide +kernel
theorem dX7_walks_155 : decode cX7_walks 155 = .ok (.iinc 8 1, 3) := by decide +kernel
theorem dX7_walks_158 : decode cX7_walks 158 = .ok (.goto (-106), 3) := by decide +kernel
theorem dX7_walks_161 : decode cX7_walks 161 = .ok (.iinc 7 1, 3) := by decide +kernel
theorem dX7_walks_164 : decode cX7_walks 164 = .ok (.goto (-124), 3) := by decide +kernel
theorem dX7_walks_167 : decode cX7_walks 167 = .ok (.aload_n 0, 1) := by decide +kernel
theorem dX7_walks_168 : decode cX7_walks 168 = .ok (.iload 6, 2) := by decide +kernel
theorem dX7_walks_170 : decode cX7_walks 170 = .ok (.putfield 194, 3) := by decide +kernel
theorem dX7_walks_173 : decode cX7_walks 173 = .ok (.iconst 0, 1) := by decide +kernel
theorem dX7_walks_174 : decode cX7_walks 174 = .ok (.istore 7, 2) := by decide +kernel
theorem dX7_walks_176 : decode cX7_walks 176 = .ok (.iload 7, 2) := by decide +kernel
theorem dX7_walks_178 : decode cX7_walks 178 = .ok (.aload_n 0, 1) := by decide +kernel
theorem dX7_walks_179 : decode cX7_walks 179 = .ok (.getfield 194, 3) := by decide +kernel
theorem dX7_walks_182 : decode cX7_walks 182 = .ok (.if_icmp .ge 23, 3) := by decide +kernel
theorem dX7_walks_185 : decode cX7_walks 185 = .ok (.aload_n 0, 1) := by decide +kernel
theorem dX7_walks_186 : decode cX7_walks 186 = .ok (.getfield 56, 3) := by decide +kernel
theorem dX7_walks_189 : decode cX7_walks 189 = .ok (.iload 7, 2) := by decide +kernel
theorem dX7_walks_191 : decode cX7_walks 191 = .ok (.aload_n 0, 1) := by decide +kernel
theorem dX7_walks_192 : decode cX7_walks 192 = .ok (.getfield 60, 3) := by decide +kernel
theorem dX7_walks_195 : decode cX7_walks 195 = .ok (.iload 7, 2) := by decide +kernel
theorem dX7_walks_197 : decode cX7_walks 197 = .ok (.laload, 1) := by decide +kernel
theorem dX7_walks_198 : decode cX7_walks 198 = .ok (.lastore, 1) := by decide +kernel
theorem dX7_walks_199 : decode cX7_walks 199 = .ok (.iinc 7 1, 3) := by decide +kernel
theorem dX7_walks_202 : decode cX7_walks 202 = .ok (.goto (-26), 3) := by decide +kernel
theorem dX7_walks_205 : decode cX7_walks 205 = .ok (.iinc 5 1, 3) := by decide +kernel
theorem dX7_walks_208 : decode cX7_walks 208 = .ok (.goto (-180), 3) := by decide +kernel
theorem dX7_walks_211 : decode cX7_walks 211 = .ok (.aload_n 0, 1) := by decide +kernel
theorem dX7_walks_212 : decode cX7_walks 212 = .ok (.lload_n 2, 1) := by decide +kernel
theorem dX7_walks_213 : decode cX7_walks 213 = .ok (.invokevirtual 197, 3) := by decide +kernel
theorem dX7_walks_216 : decode cX7_walks 216 = .ok (.iload 4, 2) := by decide +kernel
theorem dX7_walks_218 : decode cX7_walks 218 = .ok (.ireturn, 1) := by decide +kernel
set_option maxRecDepth 20000 in
theorem ggX7_adds_X7_packs : GoodIn wsX7_adds wsX7_packs := goodIn_r _ [6, 7, 8, 9, 10, 11, 12, 13, 14, 15, 16, 17, 18, 19, 20, 21, 22, 23, 24, 25, 26, 27, 28, 29, 30, 31, 32, 33, 34, 35, 36, 37, 38, 39, 40, 41, 42, 43, 44, 45, 46, 47, 48, 49, 50] (by decide +kernel) (by decide +kernel)
set_option maxRecDepth 20000 in
theorem gX7_adds_X7_packs : GoodIn wsX7_adds (wsV RX7 187 RX7 yX7_packs wsX7_packs) := goodIn_app (goodIn_of _ (by decide +kernel)) ggX7_adds_X7_packs
theorem dX7_adds_0 : decode cX7_adds 0 = .ok (.aload_n 0, 1) := by decide +kernel
theorem dX7_adds_1 : decode cX7_adds 1 = .ok (.invokevirtual 187, 3) := by decide +kernel
theorem dX7_adds_4 : decode cX7_adds 4 = .ok (.lstore_n 2, 1) := by decide +kernel
theorem dX7_adds_5 : decode cX7_adds 5 = .ok (.iconst 1, 1) := by decide +kernel
theorem dX7_adds_6 : decode cX7_adds 6 = .ok (.istore 4, 2) := by decide +kernel
theorem dX7_adds_8 : decode cX7_adds 8 = .ok (.iconst 0, 1) := by decide +kernel
theorem dX7_adds_9 : decode cX7_adds 9 = .ok (.istore 5, 2) := by decide +kernel
theorem dX7_adds_11 : decode cX7_adds 11 = .ok (.iload 5, 2) := by decide +kernel
theorem dX7_adds_13 : decode cX7_adds 13 = .ok (.iload_n 1, 1) := by decide +kernel
theorem dX7_adds_14 : decode cX7_adds 14 = .ok (.if_icmp .ge 33, 3) := by decide +kernel
theorem dX7_adds_17 : decode cX7_adds 17 = .ok (.iload 4, 2) := by decide +kernel
theorem dX7_adds_19 : decode cX7_adds 19 = .ok (.ifCond .eq 28, 3) := by decide +kernel
theorem dX7_adds_22 : decode cX7_adds 22 = .ok (.aload_n 0, 1) := by decide +kernel
theorem dX7_adds_23 : decode cX7_adds 23 = .ok (.getfield 60, 3) := by decide +kernel
theorem dX7_adds_26 : decode cX7_adds 26 = .ok (.iload 5, 2) := by decide +kernel
theorem dX7_adds_28 : decode cX7_adds 28 = .ok (.laload, 1) := by decide +kernel
theorem dX7_adds_29 : decode cX7_adds 29 = .ok (.lload_n 2, 1) := by decide +kernel
theorem dX7_adds_30 : decode cX7_adds 30 = .ok (.lcmp, 1) := by decide +kernel
theorem dX7_adds_31 : decode cX7_adds 31 = .ok (.ifCond .eq 7, 3) := by decide +kernel
theorem dX7_adds_34 : decode cX7_adds 34 = .ok (.iconst 1, 1) := by decide +kernel
theorem dX7_adds_35 : decode cX7_adds 35 = .ok (.goto 4, 3) := by decide +kernel
theorem dX7_adds_38 : decode cX7_adds 38 = .ok (.iconst 0, 1) := by decide +kernel
theorem dX7_adds_39 : decode cX7_adds 39 = .ok (.istore 4, 2) := by decide +kernel
theorem dX7_adds_41 : decode cX7_adds 41 = .ok (.iinc 5 1, 3) := by decide +kernel
theorem dX7_adds_44 : decode cX7_adds 44 = .ok (.goto (-33), 3) := by decide +kernel
theorem dX7_adds_47 : decode cX7_adds 47 = .ok (.iload 4, 2) := by decide +kernel
theorem dX7_adds_49 : decode cX7_adds 49 = .ok (.ifCond .eq 10, 3) := by decide +kernel
theorem dX7_adds_52 : decode cX7_adds 52 = .ok (.aload_n 0, 1) := by decide +kernel
theorem dX7_adds_53 : decode cX7_adds 53 = .ok (.getfield 60, 3) := by decide +kernel
theorem dX7_adds_56 : decode cX7_adds 56 = .ok (.iload_n 1, 1) := by decide +kernel
theorem dX7_adds_57 : decode cX7_adds 57 = .ok (.lload_n 2, 1) := by decide +kernel
theorem dX7_adds_58 : decode cX7_adds 58 = .ok (.lastore, 1) := by decide +kernel
theorem dX7_adds_59 : decode cX7_adds 59 = .ok (.iload 4, 2) := by decide +kernel
theorem dX7_adds_61 : decode cX7_adds 61 = .ok (.ifCond .eq 9, 3) := by decide +kernel
theorem dX7_adds_64 : decode cX7_adds 64 = .ok (.iload_n 1, 1) := by decide +kernel
theorem dX7_adds_65 : decode cX7_adds 65 = .ok (.iconst 1, 1) := by decide +kernel
theorem dX7_adds_66 : decode cX7_adds 66 = .ok (.iadd, 1) := by decide +kernel
theorem dX7_adds_67 : decode cX7_adds 67 = .ok (.goto 4, 3) := by decide +kernel
theorem dX7_adds_70 : decode cX7_adds 70 = .ok (.iload_n 1, 1) := by decide +kernel
theorem dX7_adds_71 : decode cX7_adds 71 = .ok (.ireturn, 1) := by decide +kernel
set_option maxRecDepth 20000 in
theorem ggX7_couldBe_X7_in : GoodIn wsX7_couldBe wsX7_in := goodIn_r _ [4] (by decide +kernel) (by decide +kernel)
set_option maxRecDepth 20000 in
theorem gX7_couldBe_X7_in : GoodIn wsX7_couldBe (va_wsS RX7 66 yX7_in wsX7_in) := goodIn_app (goodIn_of _ (by decide +kernel)) ggX7_couldBe_X7_in
set_option maxRecDepth 20000 in
theorem ggX7_couldBe_X7_asks : GoodIn wsX7_couldBe wsX7_asks := goodIn_r _ [8, 9, 98, 99, 100, 101, 102, 103, 104, 105, 106, 107, 108, 109, 110, 111, 112, 113, 114, 115, 116, 117, 118, 119, 120, 121, 122, 123, 124, 125, 126, 127, 128, 129, 130, 131, 132] (by decide +kernel) (by decide +kernel)
set_option maxRecDepth 20000 in
theorem gX7_couldBe_X7_asks : GoodIn wsX7_couldBe (wsV RX7 70 RX7 yX7_asks wsX7_asks) := goodIn_app (goodIn_of _ (by decide +kernel)) ggX7_couldBe_X7_asks
set_option maxRecDepth 20000 in
theorem ggX7_couldBe_X7_walks : GoodIn wsX7_couldBe wsX7_walks := goodIn_r _ [13, 14, 15, 16, 17, 18, 19, 20, 21, 22, 3, 23, 24, 25, 26, 27, 28, 29, 30, 31, 32, 33, 34, 35, 36, 37, 38, 39, 40, 41, 42, 43, 44, 45, 46, 47, 48, 49, 50, 51, 52, 53, 54, 55, 56, 57, 58, 59, 60, 61, 62, 63, 64, 65, 66, 67, 68, 69, 70, 71, 72, 73, 74, 75, 76, 77, 78, 79, 80, 81, 82, 83, 84, 85, 86, 87, 88, 89, 90, 91, 92, 93, 94, 95, 96, 97, 98, 99, 100, 101, 102, 103, 104, 105, 106, 107, 108, 109, 110, 111, 112, 113, 114, 115, 116, 117, 118, 119, 120, 121, 122, 123, 124, 125, 126, 127, 128, 129, 130, 131, 132] (by decide +kernel) (by decide +kernel)
set_option maxRecDepth 20000 in
theorem gX7_couldBe_X7_walks : GoodIn wsX7_couldBe (wsV RX7 204 RX7 yX7_walks wsX7_walks) := goodIn_app (goodIn_of _ (by decide +kernel)) ggX7_couldBe_X7_walks
set_option maxRecDepth 20000 in
theorem ggX7_couldBe_X7_has : GoodIn wsX7_couldBe wsX7_has := goodIn_r _ [53] (by decide +kernel) (by decide +kernel)
set_option maxRecDepth 20000 in
theorem gX7_couldBe_X7_has : GoodIn wsX7_couldBe (va_wsS RX7 83 yX7_has wsX7_has) := goodIn_app (goodIn_of _ (by decide +kernel)) ggX7_couldBe_X7_has
theorem dX7_couldBe_0 : decode cX7_couldBe 0 = .ok (.aload_n 0, 1) := by decide +kernel
theorem dX7_couldBe_1 : decode cX7_couldBe 1 = .ok (.iload_n 1, 1) := by decide +kernel
theorem dX7_couldBe_2 : decode cX7_couldBe 2 = .ok (.iconst 0, 1) := by decide +kernel
theorem dX7_couldBe_3 : decode cX7_couldBe 3 = .ok (.bipush 6, 2) := by decide +kernel
theorem dX7_couldBe_5 : decode cX7_couldBe 5 = .ok (.invokestatic 66, 3) := by decide +kernel
theorem dX7_couldBe_8 : decode cX7_couldBe 8 = .ok (.ifCond .eq 16, 3) := by decide +kernel
theorem dX7_couldBe_11 : decode cX7_couldBe 11 = .ok (.iload_n 2, 1) := by decide +kernel
theorem dX7_couldBe_12 : decode cX7_couldBe 12 = .ok (.iconst 1, 1) := by decide +kernel
theorem dX7_couldBe_13 : decode cX7_couldBe 13 = .ok (.iconst 3, 1) := by decide +kernel
theorem dX7_couldBe_14 : decode cX7_couldBe 14 = .ok (.invokestatic 66, 3) := by decide +kernel
theorem dX7_couldBe_17 : decode cX7_couldBe 17 = .ok (.ifCond .eq 7, 3) := by decide +kernel
theorem dX7_couldBe_20 : decode cX7_couldBe 20 = .ok (.iconst 1, 1) := by decide +kernel
theorem dX7_couldBe_21 : decode cX7_couldBe 21 = .ok (.goto 4, 3) := by decide +kernel
theorem dX7_couldBe_24 : decode cX7_couldBe 24 = .ok (.iconst 0, 1) := by decide +kernel
theorem dX7_couldBe_25 : decode cX7_couldBe 25 = .ok (.invokevirtual 70, 3) := by decide +kernel
theorem dX7_couldBe_28 : decode cX7_couldBe 28 = .ok (.ifCond .eq 19, 3) := by decide +kernel
theorem dX7_couldBe_31 : decode cX7_couldBe 31 = .ok (.aload_n 0, 1) := by decide +kernel
theorem dX7_couldBe_32 : decode cX7_couldBe 32 = .ok (.iload_n 2, 1) := by decide +kernel
theorem dX7_couldBe_33 : decode cX7_couldBe 33 = .ok (.invokevirtual 204, 3) := by decide +kernel
theorem dX7_couldBe_36 : decode cX7_couldBe 36 = .ok (.iload_n 1, 1) := by decide +kernel
theorem dX7_couldBe_37 : decode cX7_couldBe 37 = .ok (.invokestatic 83, 3) := by decide +kernel
theorem dX7_couldBe_40 : decode cX7_couldBe 40 = .ok (.ifCond .eq 7, 3) := by decide +kernel
theorem dX7_couldBe_43 : decode cX7_couldBe 43 = .ok (.iconst 1, 1) := by decide +kernel
theorem dX7_couldBe_44 : decode cX7_couldBe 44 = .ok (.goto 4, 3) := by decide +kernel
theorem dX7_couldBe_47 : decode cX7_couldBe 47 = .ok (.iconst 0, 1) := by decide +kernel
theorem dX7_couldBe_48 : decode cX7_couldBe 48 = .ok (.ireturn, 1) := by decide +kernel
set_option maxRecDepth 20000 in
theorem ggX7_reasonsAhead_X7_in : GoodIn wsX7_reasonsAhead wsX7_in := goodIn_r _ [5] (by decide +kernel) (by decide +kernel)
set_option maxRecDepth 20000 in
theorem gX7_reasonsAhead_X7_in : GoodIn wsX7_reasonsAhead (va_wsS RX7 66 yX7_in wsX7_in) := goodIn_app (goodIn_of _ (by decide +kernel)) ggX7_reasonsAhead_X7_in
set_option maxRecDepth 20000 in
theorem ggX7_reasonsAhead_X7_asks : GoodIn wsX7_reasonsAhead wsX7_asks := goodIn_r _ [9, 10, 98, 99, 100, 101, 102, 103, 104, 105, 106, 107, 108, 109, 110, 111, 112, 113, 114, 115, 116, 117, 118, 119, 120, 121, 122, 123, 124, 125, 126, 127, 128, 129, 130, 131, 132] (by decide +kernel) (by decide +kernel)
set_option maxRecDepth 20000 in
theorem gX7_reasonsAhead_X7_asks : GoodIn wsX7_reasonsAhead (wsV RX7 70 RX7 yX7_asks wsX7_asks) := goodIn_app (goodIn_of _ (by decide +kernel)) ggX7_reasonsAhead_X7_asks
set_option maxRecDepth 20000 in
theorem ggX7_reasonsAhead_X7_walks : GoodIn wsX7_reasonsAhead wsX7_walks := goodIn_r _ [14, 1, 15, 16, 17, 18, 19, 20, 21, 22, 4, 23, 24, 25, 26, 27, 28, 29, 30, 31, 32, 33, 34, 35, 36, 37, 38, 39, 40, 41, 42, 43, 44, 45, 46, 47, 48, 49, 50, 51, 52, 53, 54, 55, 56, 57, 58, 59, 60, 61, 62, 63, 64, 65, 66, 67, 68, 69, 70, 71, 72, 73, 74, 75, 76, 77, 78, 79, 80, 81, 82, 83, 84, 85, 86, 87, 88, 89, 90, 91, 92, 93, 94, 95, 96, 97, 98, 99, 100, 101, 102, 103, 104, 105, 106, 107, 108, 109, 110, 111, 112, 113, 114, 115, 116, 117, 118, 119, 120, 121, 122, 123, 124, 125, 126, 127, 128, 129, 130, 131, 132] (by decide +kernel) (by decide +kernel)
set_option maxRecDepth 20000 in
theorem gX7_reasonsAhead_X7_walks : GoodIn wsX7_reasonsAhead (wsV RX7 204 RX7 yX7_walks wsX7_walks) := goodIn_app (goodIn_of _ (by decide +kernel)) ggX7_reasonsAhead_X7_walks
theorem dX7_reasonsAhead_0 : decode cX7_reasonsAhead 0 = .ok (.aload_n 0, 1) := by decide +kernel
theorem dX7_reasonsAhead_1 : decode cX7_reasonsAhead 1 = .ok (.iload_n 1, 1) := by decide +kernel
theorem dX7_reasonsAhead_2 : decode cX7_reasonsAhead 2 = .ok (.iconst 1, 1) := by decide +kernel
theorem dX7_reasonsAhead_3 : decode cX7_reasonsAhead 3 = .ok (.iconst 3, 1) := by decide +kernel
theorem dX7_reasonsAhead_4 : decode cX7_reasonsAhead 4 = .ok (.invokestatic 66, 3) := by decide +kernel
theorem dX7_reasonsAhead_7 : decode cX7_reasonsAhead 7 = .ok (.invokevirtual 70, 3) := by decide +kernel
theorem dX7_reasonsAhead_10 : decode cX7_reasonsAhead 10 = .ok (.ifCond .ne 5, 3) := by decide +kernel
theorem dX7_reasonsAhead_13 : decode cX7_reasonsAhead 13 = .ok (.iconst 0, 1) := by decide +kernel
theorem dX7_reasonsAhead_14 : decode cX7_reasonsAhead 14 = .ok (.ireturn, 1) := by decide +kernel
theorem dX7_reasonsAhead_15 : decode cX7_reasonsAhead 15 = .ok (.aload_n 0, 1) := by decide +kernel
theorem dX7_reasonsAhead_16 : decode cX7_reasonsAhead 16 = .ok (.iload_n 1, 1) := by decide +kernel
theorem dX7_reasonsAhead_17 : decode cX7_reasonsAhead 17 = .ok (.invokevirtual 204, 3) := by decide +kernel
theorem dX7_reasonsAhead_20 : decode cX7_reasonsAhead 20 = .ok (.pop, 1) := by decide +kernel
theorem dX7_reasonsAhead_21 : decode cX7_reasonsAhead 21 = .ok (.aload_n 0, 1) := by decide +kernel
theorem dX7_reasonsAhead_22 : decode cX7_reasonsAhead 22 = .ok (.getfield 191, 3) := by decide +kernel
theorem dX7_reasonsAhead_25 : decode cX7_reasonsAhead 25 = .ok (.ireturn, 1) := by decide +kernel
set_option maxRecDepth 20000 in
theorem ggX7_toPilot_X7_packs : GoodIn wsX7_toPilot wsX7_packs := goodIn_r _ [8, 2, 9, 10, 11, 12, 13, 14, 15, 16, 80, 81, 82, 83, 84, 85, 86, 87, 88, 89, 90, 91, 92, 93, 94, 95, 96, 97, 98, 99, 100, 101, 102, 103, 104, 105, 106, 107, 108, 109, 110, 111, 112, 113, 114] (by decide +kernel) (by decide +kernel)
set_option maxRecDepth 20000 in
theorem gX7_toPilot_X7_packs : GoodIn wsX7_toPilot (wsV RX7 187 RX7 yX7_packs wsX7_packs) := goodIn_app (goodIn_of _ (by decide +kernel)) ggX7_toPilot_X7_packs
set_option maxRecDepth 20000 in
theorem ggX7_toPilot_X7_plays : GoodIn wsX7_toPilot wsX7_plays := goodIn_r _ [20, 15, 16, 10, 21, 22, 23, 7, 24, 14, 25, 26, 27, 28, 29, 30, 31, 32, 33, 2, 34, 12, 11, 35, 36, 37, 38, 39, 40, 41, 42, 43, 44, 45, 46, 47, 48, 9, 13, 49, 50, 51, 52, 53, 54, 55, 56, 57, 58, 59, 60, 61, 62, 63, 64, 65, 66, 67, 68, 69, 80, 81, 82, 83, 84, 85, 86, 87, 88, 89, 90, 91, 92, 93, 94, 95, 96, 97, 98, 99, 100, 101, 102, 103, 104, 105, 106, 107, 108, 109, 110, 111, 112, 113, 114] (by decide +kernel) (by decide +kernel)
set_option maxRecDepth 20000 in
theorem gX7_toPilot_X7_plays : GoodIn wsX7_toPilot (wsV RX7 149 RX7 yX7_plays wsX7_plays) := goodIn_app (goodIn_of _ (by decide +kernel)) ggX7_toPilot_X7_plays
set_option maxRecDepth 20000 in
theorem ggX7_toPilot_X7_unpacks : GoodIn wsX7_toPilot wsX7_unpacks := goodIn_r _ [73, 74, 2, 75, 9, 76, 10, 77, 11, 12, 78, 13, 79, 14, 15, 16, 80, 81, 82, 83, 84, 85, 86, 87, 88, 89, 90, 91, 92, 93, 94, 95, 96, 97, 98, 99, 100, 101, 102, 103, 104, 105, 106, 107, 108, 109, 110, 111, 112, 113, 114] (by decide +kernel) (by decide +kernel)
set_option maxRecDepth 20000 in
theorem gX7_toPilot_X7_unpacks : GoodIn wsX7_toPilot (wsV RX7 197 RX7 yX7_unpacks wsX7_unpacks) := goodIn_app (goodIn_of _ (by decide +kernel)) ggX7_toPilot_X7_unpacks
theorem dX7_toPilot_0 : decode cX7_toPilot 0 = .ok (.aload_n 0, 1) := by decide +kernel
theorem dX7_toPilot_1 : decode cX7_toPilot 1 = .ok (.iconst 0, 1) := by decide +kernel
theorem dX7_toPilot_2 : decode cX7_toPilot 2 = .ok (.putfield 63, 3) := by decide +kernel
theorem dX7_toPilot_5 : decode cX7_toPilot 5 = .ok (.aload_n 0, 1) := by decide +kernel
theorem dX7_toPilot_6 : decode cX7_toPilot 6 = .ok (.getfield 77, 3) := by decide +kernel
theorem dX7_toPilot_9 : decode cX7_toPilot 9 = .ok (.iconst 2, 1) := by decide +kernel
theorem dX7_toPilot_10 : decode cX7_toPilot 10 = .ok (.if_icmp .eq 11, 3) := by decide +kernel
theorem dX7_toPilot_13 : decode cX7_toPilot 13 = .ok (.aload_n 0, 1) := by decide +kernel
theorem dX7_toPilot_14 : decode cX7_toPilot 14 = .ok (.getfield 77, 3) := by decide +kernel
theorem dX7_toPilot_17 : decode cX7_toPilot 17 = .ok (.iconst 3, 1) := by decide +kernel
theorem dX7_toPilot_18 : decode cX7_toPilot 18 = .ok (.if_icmp .ne 5, 3) := by decide +kernel
theorem dX7_toPilot_21 : decode cX7_toPilot 21 = .ok (.iconst 0, 1) := by decide +kernel
theorem dX7_toPilot_22 : decode cX7_toPilot 22 = .ok (.ireturn, 1) := by decide +kernel
theorem dX7_toPilot_23 : decode cX7_toPilot 23 = .ok (.aload_n 0, 1) := by decide +kernel
theorem dX7_toPilot_24 : decode cX7_toPilot 24 = .ok (.invokevirtual 187, 3) := by decide +kernel
theorem dX7_toPilot_27 : decode cX7_toPilot 27 = .ok (.lstore_n 1, 1) := by decide +kernel
theorem dX7_toPilot_28 : decode cX7_toPilot 28 = .ok (.iconst 0, 1) := by decide +kernel
theorem dX7_toPilot_29 : decode cX7_toPilot 29 = .ok (.istore_n 3, 1) := by decide +kernel
theorem dX7_toPilot_30 : decode cX7_toPilot 30 = .ok (.aload_n 0, 1) := by decide +kernel
theorem dX7_toPilot_31 : decode cX7_toPilot 31 = .ok (.getfield 77, 3) := by decide +kernel
theorem dX7_toPilot_34 : decode cX7_toPilot 34 = .ok (.iconst 2, 1) := by decide +kernel
theorem dX7_toPilot_35 : decode cX7_toPilot 35 = .ok (.if_icmp .eq 30, 3) := by decide +kernel
theorem dX7_toPilot_38 : decode cX7_toPilot 38 = .ok (.iload_n 3, 1) := by decide +kernel
theorem dX7_toPilot_39 : decode cX7_toPilot 39 = .ok (.sipush 300, 3) := by decide +kernel
theorem dX7_toPilot_42 : decode cX7_toPilot 42 = .ok (.if_icmp .ge 23, 3) := by decide +kernel
theorem dX7_toPilot_45 : decode cX7_toPilot 45 = .ok (.aload_n 0, 1) := by decide +kernel
theorem dX7_toPilot_46 : decode cX7_toPilot 46 = .ok (.aload_n 0, 1) := by decide +kernel
theorem dX7_toPilot_47 : decode cX7_toPilot 47 = .ok (.getfield 74, 3) := by decide +kernel
theorem dX7_toPilot_50 : decode cX7_toPilot 50 = .ok (.bipush 32, 2) := by decide +kernel
theorem dX7_toPilot_52 : decode cX7_toPilot 52 = .ok (.iand, 1) := by decide +kernel
theorem dX7_toPilot_53 : decode cX7_toPilot 53 = .ok (.bipush 7, 2) := by decide +kernel
theorem dX7_toPilot_55 : decode cX7_toPilot 55 = .ok (.ior, 1) := by decide +kernel
theorem dX7_toPilot_56 : decode cX7_toPilot 56 = .ok (.invokevirtual 149, 3) := by decide +kernel
theorem dX7_toPilot_59 : decode cX7_toPilot 59 = .ok (.iinc 3 1, 3) := by decide +kernel
theorem dX7_toPilot_62 : decode cX7_toPilot 62 = .ok (.goto (-32), 3) := by decide +kernel
theorem dX7_toPilot_65 : decode cX7_toPilot 65 = .ok (.aload_n 0, 1) := by decide +kernel
theorem dX7_toPilot_66 : decode cX7_toPilot 66 = .ok (.getfield 77, 3) := by decide +kernel
theorem dX7_toPilot_69 : decode cX7_toPilot 69 = .ok (.iconst 2, 1) := by decide +kernel
theorem dX7_toPilot_70 : decode cX7_toPilot 70 = .ok (.if_icmp .ne 7, 3) := by decide +kernel
theorem dX7_toPilot_73 : decode cX7_toPilot 73 = .ok (.iconst 1, 1) := by decide +kernel
theorem dX7_toPilot_74 : decode cX7_toPilot 74 = .ok (.goto 4, 3) := by decide +kernel
theorem dX7_toPilot_77 : decode cX7_toPilot 77 = .ok (.iconst 0, 1) := by decide +kernel
theorem dX7_toPilot_78 : decode cX7_toPilot 78 = .ok (.istore 4, 2) := by decide +kernel
theorem dX7_toPilot_80 : decode cX7_toPilot 80 = .ok (.aload_n 0, 1) := by decide +kernel
theorem dX7_toPilot_81 : decode cX7_toPilot 81 = .ok (.lload_n 1, 1) := by decide +kernel
theorem dX7_toPilot_82 : decode cX7_toPilot 82 = .ok (.invokevirtual 197, 3) := by decide +kernel
theorem dX7_toPilot_85 : decode cX7_toPilot 85 = .ok (.iload 4, 2) := by decide +kernel
theorem dX7_toPilot_87 : decode cX7_toPilot 87 = .ok (.ifCond .eq 7, 3) := by decide +kernel
theorem dX7_toPilot_90 : decode cX7_toPilot 90 = .ok (.iload_n 3, 1) := by decide +kernel
theorem dX7_toPilot_91 : decode cX7_toPilot 91 = .ok (.goto 4, 3) := by decide +kernel
theorem dX7_toPilot_94 : decode cX7_toPilot 94 = .ok (.iconst (-1), 1) := by decide +kernel
theorem dX7_toPilot_95 : decode cX7_toPilot 95 = .ok (.ireturn, 1) := by decide +kernel
theorem dJ9_max_7cf53_0 : decode cJ9_max_7cf53 0 = .ok (.iload_n 0, 1) := by decide +kernel
theorem dJ9_max_7cf53_1 : decode cJ9_max_7cf53 1 = .ok (.iload_n 1, 1) := by decide +kernel
theorem dJ9_max_7cf53_2 : decode cJ9_max_7cf53 2 = .ok (.if_icmp .lt 7, 3) := by decide +kernel
theorem dJ9_max_7cf53_5 : decode cJ9_max_7cf53 5 = .ok (.iload_n 0, 1) := by decide +kernel
theorem dJ9_max_7cf53_6 : decode cJ9_max_7cf53 6 = .ok (.goto 4, 3) := by decide +kernel
theorem dJ9_max_7cf53_9 : decode cJ9_max_7cf53 9 = .ok (.iload_n 1, 1) := by decide +kernel
theorem dJ9_max_7cf53_10 : decode cJ9_max_7cf53 10 = .ok (.ireturn, 1) := by decide +kernel
theorem dJ9_min_7cf53_0 : decode cJ9_min_7cf53 0 = .ok (.iload_n 0, 1) := by decide +kernel
theorem dJ9_min_7cf53_1 : decode cJ9_min_7cf53 1 = .ok (.iload_n 1, 1) := by decide +kernel
theorem dJ9_min_7cf53_2 : decode cJ9_min_7cf53 2 = .ok (.if_icmp .gt 7, 3) := by decide +kernel
theorem dJ9_min_7cf53_5 : decode cJ9_min_7cf53 5 = .ok (.iload_n 0, 1) := by decide +kernel
theorem dJ9_min_7cf53_6 : decode cJ9_min_7cf53 6 = .ok (.goto 4, 3) := by decide +kernel
theorem dJ9_min_7cf53_9 : decode cJ9_min_7cf53 9 = .ok (.iload_n 1, 1) := by decide +kernel
theorem dJ9_min_7cf53_10 : decode cJ9_min_7cf53 10 = .ok (.ireturn, 1) := by decide +kernel
end
section
/-! GENERAL ROWS OF THIS PROOF: worlds, contracts, calls, ends -/
/-- the words of private members across the nest; carried by every contract's start -/
def cw_isN : Cond → Bool
  | .fieldLinkNest _ _ _ _ _ _ => true
  | .methodLinkNest _ _ _ _ => true
  | _ => false
theorem cw_isN_tab {w : Cond} (h : cw_isN w = true) : w.onTables = true := by
  cases w <;> first | rfl | cases h
theorem cw_isN_warm {w : Cond} (h : cw_isN w = true) {s U : State} (hW : s.WarmedH U.vm) (hZ : va_Nw w s) : va_Nw w U := by
  cases w <;> first | exact va_Nw.warmF hW hZ | exact va_Nw.warmM hW hZ | cases h
def cw_nest : List Cond := [.fieldLinkNest "Burnerline" 72 "Burnerline$Settings" "rate" "I" "Burnerline", .fieldLinkNest "Burnerline$Furnace" 112 "Burnerline$Settings" "rate" "I" "Burnerline", .fieldLinkNest "Burnerline" 80 "Burnerline$Settings" "longestPurge" "I" "Burnerline", .fieldLinkNest "Burnerline$Furnace" 151 "Burnerline$Settings" "longestPurge" "I" "Burnerline", .fieldLinkNest "Burnerline" 83 "Burnerline$Settings" "longestPilot" "I" "Burnerline", .fieldLinkNest "Burnerline$Furnace" 160 "Burnerline$Settings" "longestPilot" "I" "Burnerline", .fieldLinkNest "Burnerline" 86 "Burnerline$Settings" "longestMain" "I" "Burnerline", .fieldLinkNest "Burnerline$Furnace" 163 "Burnerline$Settings" "longestMain" "I" "Burnerline", .fieldLinkNest "Burnerline" 89 "Burnerline$Settings" "afterPurge" "I" "Burnerline", .fieldLinkNest "Burnerline$Furnace" 172 "Burnerline$Settings" "afterPurge" "I" "Burnerline", .fieldLinkNest "Burnerline" 94 "Burnerline$Settings" "ticksToLight" "I" "Burnerline", .fieldLinkNest "Burnerline$Furnace" 84 "Burnerline$Settings" "ticksToLight" "I" "Burnerline", .fieldLinkNest "Burnerline" 97 "Burnerline$Settings" "ticksToNone" "I" "Burnerline", .fieldLinkNest "Burnerline$Furnace" 89 "Burnerline$Settings" "ticksToNone" "I" "Burnerline", .fieldLinkNest "Burnerline" 100 "Burnerline$Settings" "ticksToCheck" "I" "Burnerline", .fieldLinkNest "Burnerline$Furnace" 169 "Burnerline$Settings" "ticksToCheck" "I" "Burnerline", .fieldLinkNest "Burnerline" 105 "Burnerline$Settings" "volume" "I" "Burnerline", .fieldLinkNest "Burnerline$Furnace" 148 "Burnerline$Settings" "volume" "I" "Burnerline", .fieldLinkNest "Burnerline" 108 "Burnerline$Settings" "airStep" "I" "Burnerline", .fieldLinkNest "Burnerline$Furnace" 102 "Burnerline$Settings" "airStep" "I" "Burnerline", .fieldLinkNest "Burnerline" 111 "Burnerline$Settings" "fuelStep" "I" "Burnerline", .fieldLinkNest "Burnerline$Furnace" 109 "Burnerline$Settings" "fuelStep" "I" "Burnerline", .fieldLinkNest "Burnerline$Furnace" 54 "Burnerline$Eye" "seesFlame" "Z" "Burnerline", .fieldLinkNest "Burnerline" 170 "Burnerline$Eye" "seesFlame" "Z" "Burnerline", .fieldLinkNest "Burnerline" 176 "Burnerline$Furnace" "pilotEye" "LBurnerline$Eye;" "Burnerline", .fieldLinkNest "Burnerline" 166 "Burnerline$Furnace" "mainEye" "LBurnerline$Eye;" "Burnerline", .fieldLinkNest "Burnerline" 154 "Burnerline$Furnace" "state" "I" "Burnerline", .fieldLinkNest "Burnerline" 157 "Burnerline$Furnace" "reason" "I" "Burnerline", .fieldLinkNest "Burnerline" 138 "Burnerline$Furnace" "time" "I" "Burnerline", .fieldLinkNest "Burnerline" 179 "Burnerline$Furnace" "air" "I" "Burnerline", .fieldLinkNest "Burnerline" 182 "Burnerline$Furnace" "fuel" "I" "Burnerline", .fieldLinkNest "Burnerline" 185 "Burnerline$Furnace" "purged" "I" "Burnerline", .fieldLinkNest "Burnerline" 188 "Burnerline$Furnace" "unlit" "I" "Burnerline", .fieldLinkNest "Burnerline" 191 "Burnerline$Furnace" "longestUnlit" "I" "Burnerline", .fieldLinkNest "Burnerline" 205 "Burnerline$History" "tickRow" "[I" "Burnerline", .fieldLinkNest "Burnerline" 213 "Burnerline$History" "stateRow" "[I" "Burnerline", .fieldLinkNest "Burnerline" 216 "Burnerline$History" "reasonRow" "[I" "Burnerline", .fieldLinkNest "Burnerline" 194 "Burnerline$History" "added" "I" "Burnerline", .fieldLinkNest "Burnerline" 197 "Burnerline$History" "kept" "I" "Burnerline", .fieldLinkNest "Burnerline" 225 "Burnerline$Ahead" "furnace" "LBurnerline$Furnace;" "Burnerline", .fieldLinkNest "Burnerline" 242 "Burnerline$Ahead" "next" "LBurnerline$Ahead;" "Burnerline", .methodLinkNest "Burnerline" 11 ⟨"Burnerline$Settings", "<init>", "()V"⟩ "Burnerline", .methodLinkNest "Burnerline$Furnace" 11 ⟨"Burnerline$Eye", "<init>", "()V"⟩ "Burnerline", .methodLinkNest "Burnerline" 27 ⟨"Burnerline$History", "<init>", "()V"⟩ "Burnerline", .methodLinkNest "Burnerline" 34 ⟨"Burnerline$Resets", "<init>", "()V"⟩ "Burnerline", .methodLinkNest "Burnerline$Furnace" 65 ⟨"Burnerline", "isOn", "(II)Z"⟩ "Burnerline"]
def cw_N (U : State) : Prop := ∀ w ∈ cw_nest, va_Nw w U
theorem cw_nest_ok : ∀ w ∈ cw_nest, cw_isN w = true := by decide +kernel
theorem cw_N.same {u U : State} (h : u.vm = U.vm) (hZ : cw_N u) : cw_N U := fun w hw => va_Nw.same (cw_isN_tab (cw_nest_ok w hw)) h (hZ w hw)
theorem cw_N.warm {s U : State} (hW : s.WarmedH U.vm) (hZ : cw_N s) : cw_N U := fun w hw => cw_isN_warm (cw_nest_ok w hw) hW (hZ w hw)
theorem cw_N.use {U : State} {args : Array Value} (hZ : cw_N U) {w : Cond} (hw : w ∈ cw_nest) : w.before args U = true := va_Nw.use (cw_isN_tab (cw_nest_ok w hw)) (hZ w hw)
/-- a contract's start: the world's cells, apart; the tables; the nest words -/
def cw_B (D : va_G) (T : List (ClassId × FieldType)) (sz : Nat) (ws : va_W) (U : State) : Prop :=
  U.heap.size = sz ∧ va_P D vwCl ws U.heap ∧ va_K D vwCl T U ∧ va_D (fun _ => True) ws ∧ cw_N U
def cw_E (D : va_G) (A : Nat → Prop) (ws : va_W) (t : State) : Prop := va_P D vwCl ws t.heap ∧ va_D A ws
theorem cw_blind (D : va_G) (T : List (ClassId × FieldType)) (sz : Nat) (ws : va_W) (av : List Value) : FrameBlind (va_Pc av (cw_B D T sz ws)) := by
  intro a U g mk q
  obtain ⟨q0, q1, qP, qK, qD, qN⟩ := q
  exact ⟨q0, q1, qP, va_K.moved (u := U) (U := U.calling g mk a) (Vm.Alike.refl U.vm) qK, qD, cw_N.same (u := U) (U := U.calling g mk a) rfl qN⟩
theorem cw_pre {D : va_G} {T : List (ClassId × FieldType)} {ws wc : va_W} {s : State} {H : Heap} {A : Nat → Prop} {av : List Value} (hK : va_K D vwCl T s) (hN : cw_N s) (hP : va_P D vwCl wc H) (hD : va_D A wc) :
    ∀ U : State, U.heap = H → s.WarmedH U.vm → va_Pc av (cw_B D T H.size wc) av.toArray U := fun U hU hW =>
  ⟨rfl, by rw [hU], by rw [hU]; exact hP, va_K.moved hW.alike hK, hD.weaken (fun _ _ _ _ => trivial), hN.warm hW⟩
theorem cw_fm {α : Type} {is : List Nat} {ws wc : List α} (h : is.map (fun i => ws[i]?) = wc.map some) : is.filterMap (fun i => ws[i]?) = wc := by
  induction is generalizing wc with
  | nil => cases wc with
    | nil => rfl
    | cons a l => simp at h
  | cons i is ih =>
    cases wc with
    | nil => simp at h
    | cons a l =>
      simp only [List.map_cons, List.cons.injEq] at h
      rw [List.filterMap_cons, h.1]
      simp only
      rw [ih h.2]
def cw_Mi (l : Launch) (y : MethodName) (wy : List Cond) (rm : Room) (D : va_G) (T : List (ClassId × FieldType)) (av : List Value) (ws : va_W) (mc ms : Nat) {S : Type} (post : Int32 → S → Prop) (w1 : S → va_W) : Prop :=
  ∀ sz : Nat, Met l y wy rm (va_Pc av (cw_B D T sz ws)) (va_Qi post (fun u => cw_E D (va_A ws sz) (w1 u)) (va_A ws sz)) mc ms (va_A ws sz)
def cw_Ml (l : Launch) (y : MethodName) (wy : List Cond) (rm : Room) (D : va_G) (T : List (ClassId × FieldType)) (av : List Value) (ws : va_W) (mc ms : Nat) {S : Type} (post : Int64 → S → Prop) (w1 : S → va_W) : Prop :=
  ∀ sz : Nat, Met l y wy rm (va_Pc av (cw_B D T sz ws)) (va_Ql post (fun u => cw_E D (va_A ws sz) (w1 u)) (va_A ws sz)) mc ms (va_A ws sz)
def cw_Mv (l : Launch) (y : MethodName) (wy : List Cond) (rm : Room) (D : va_G) (T : List (ClassId × FieldType)) (av : List Value) (ws : va_W) (mc ms : Nat) {S : Type} (post : S → Prop) (w1 : S → va_W) : Prop :=
  ∀ sz : Nat, Met l y wy rm (va_Pc av (cw_B D T sz ws)) (va_Qv post (fun u => cw_E D (va_A ws sz) (w1 u)) (va_A ws sz)) mc ms (va_A ws sz)
section CWO
variable {l : Launch} {y : MethodName} {wy ws' : List Cond} {rm : Room} {D : va_G} {T : List (ClassId × FieldType)} {av : List Value} {wd : va_W} {mc ms : Nat} {S : Type} {w1 : S → va_W} {cc : ByteArray} {maxL : Nat} {ret : Option FieldType}
/-- what a body knows at its entry -/
def cw_In (p : Program) (s : State) (m : MethodId) (args : Array Value) (meth : Method) (c : Code) (A : Nat → Prop) (ls : Array Slot) (y : MethodName) (wy : List Cond) (D : va_G) (T : List (ClassId × FieldType)) (av : List Value) (wd : va_W) (cc : ByteArray) (maxL : Nat) (ret : Option FieldType) : Prop :=
  p.tables.exec = Jvm.exec ∧ c.code = cc ∧ meth.sig.returnType = ret ∧ c.maxLocals = maxL ∧ (∀ w ∈ wy, w.before args s = true) ∧ s.vm.findClass y.cls = some m.cls ∧ meth.locks = false ∧ meth.name = y.name ∧
  va_P D vwCl wd s.heap ∧ va_K D vwCl T s ∧ va_D A wd ∧ cw_N s ∧ (∀ q : Nat, s.heap.size ≤ q → A q) ∧ lv_has ls maxL (lv_args 0 av)
theorem cw_of {Qs : (Nat → Prop) → Array Value → State → Outcome → State → Prop} (hy : plainName y.cls = true) (hw : wy = Cond.code y cc maxL ret :: ws') (hle : (lg_sl av).length ≤ maxL)
    (body : ∀ (p : Program) (e : Env) (s : State) (m : MethodId) (below : List Frame) (meth : Method) (c : Code) (A : Nat → Prop) (ls : Array Slot), cw_In p s m av.toArray meth c A ls y wy D T av wd cc maxL ret →
      W p l e rm s m av.toArray below meth c s.heap [] 0 0 (MQ below (Qs A) av.toArray s mc ms A) (F0 m 0 ls [])) (sz : Nat) :
    Met l y wy rm (va_Pc av (cw_B D T sz wd)) (Qs (va_A wd sz)) mc ms (va_A wd sz) := by
  refine Met.ofW (cc := cc) (maxL := maxL) (ret := ret) hy hw ?_
  intro p e s m args below meth c s₁ B hml hv
  obtain ⟨rfl, hsz, hP, hK, hD0, hN⟩ := hv
  subst hsz
  rw [lg_entry_eq]
  exact body p e s m below meth c (va_A wd s.heap.size) _ ⟨B.exec, B.bytes, B.returns, hml, atoms_spec (ws := wy) B.pre, findClass_of_methodNamed B.named, B.notSynchronized, (name_of_methodNamed B.named B.method).1, hP, hK, hD0.self (sz := s.heap.size), hN, fun q h => Or.inr h, lv_entry av hle⟩
end CWO
def cw_rm (n : Nat) : Room := { frames := n, cells := 0, slots := 0, locals := 40 * n }
/-- what a body may use at its return (i) -/
def cw_Ri (p : Program) (l : Launch) (e : Env) (R : Room) (s : State) (m : MethodId) (args : Array Value) (below : List Frame) (meth : Method) (c : Code) (Q : State → Prop) (D : va_G) (A : Nat → Prop) (cc : ByteArray) (ret : Option FieldType) (mc ms : Nat) {S : Type} (post : Int32 → S → Prop) (w1 : S → va_W) : Prop :=
  ∀ (H : Heap) (locs : List Loc) (cells slots pc : Nat) (ls : Array Slot) (v : Int32) (wx : va_W), va_P D vwCl wx H → va_D A wx → va_S A s.heap H locs → decode cc pc = .ok (.ireturn, 1) → narrow (ret.getD .int) (.int v) = .int v → (∃ u : S, post v u ∧ w1 u = wx) → cells ≤ mc → slots ≤ ms → W p l e R s m args below meth c H locs cells slots Q (F0 m pc ls [.int v])
theorem cw_ofi {l : Launch} {y : MethodName} {wy ws' : List Cond} {rm : Room} {D : va_G} {T : List (ClassId × FieldType)} {av : List Value} {wd : va_W} {mc ms : Nat} {S : Type} {w1 : S → va_W} {cc : ByteArray} {maxL : Nat} {ret : Option FieldType} {post : Int32 → S → Prop} (hy : plainName y.cls = true) (hw : wy = Cond.code y cc maxL ret :: ws') (hle : (lg_sl av).length ≤ maxL)
    (hret : ret = some (ret.getD .int)) (body : ∀ (p : Program) (e : Env) (s : State) (m : MethodId) (args : Array Value) (below : List Frame) (meth : Method) (c : Code) (A : Nat → Prop) (ls : Array Slot) (Q : State → Prop), cw_In p s m args meth c A ls y wy D T av wd cc maxL ret →
      cw_Ri p l e rm s m args below meth c Q D A cc ret mc ms post w1 → W p l e rm s m args below meth c s.heap [] 0 0 Q (F0 m 0 ls [])) : cw_Mi l y wy rm D T av wd mc ms post w1 := by
  intro sz
  refine cw_of (Qs := fun A => va_Qi post (fun u => cw_E D A (w1 u)) A) hy hw hle (fun p e s m below meth c A ls h => body p e s m av.toArray below meth c A ls _ h ?_) sz
  obtain ⟨hx, hb, hr, hml, hts, hown, hlocks, hin, hP0, hK, hD0, hN, hA, hl⟩ := h
  intro H locs cells slots pc ls v wx hP hD hS hdg hn hu hc hs
  obtain ⟨u, hp, hu⟩ := hu
  refine W.widen hc hs ?_
  exact W.zret (v := v) (ty := ret.getD .int) hx hb (hr.trans hret) hn (fun t ht hW => ⟨⟨v, u, rfl, hp, by show cw_E D A (w1 u) t; rw [hu]; exact ⟨by rw [ht]; exact hP, hD⟩⟩, hS.F ht⟩) hS.2.2 hdg hlocks

/-- what a body may use at its return (l) -/
def cw_Rl (p : Program) (l : Launch) (e : Env) (R : Room) (s : State) (m : MethodId) (args : Array Value) (below : List Frame) (meth : Method) (c : Code) (Q : State → Prop) (D : va_G) (A : Nat → Prop) (cc : ByteArray) (ret : Option FieldType) (mc ms : Nat) {S : Type} (post : Int64 → S → Prop) (w1 : S → va_W) : Prop :=
  ∀ (H : Heap) (locs : List Loc) (cells slots pc : Nat) (ls : Array Slot) (v : Int64) (wx : va_W), va_P D vwCl wx H → va_D A wx → va_S A s.heap H locs → decode cc pc = .ok (.lreturn, 1) → (∃ u : S, post v u ∧ w1 u = wx) → cells ≤ mc → slots ≤ ms → W p l e R s m args below meth c H locs cells slots Q (F0 m pc ls [.long v])
theorem cw_ofl {l : Launch} {y : MethodName} {wy ws' : List Cond} {rm : Room} {D : va_G} {T : List (ClassId × FieldType)} {av : List Value} {wd : va_W} {mc ms : Nat} {S : Type} {w1 : S → va_W} {cc : ByteArray} {maxL : Nat} {ret : Option FieldType} {post : Int64 → S → Prop} (hy : plainName y.cls = true) (hw : wy = Cond.code y cc maxL ret :: ws') (hle : (lg_sl av).length ≤ maxL)
    (hret : ret = some .long) (body : ∀ (p : Program) (e : Env) (s : State) (m : MethodId) (args : Array Value) (below : List Frame) (meth : Method) (c : Code) (A : Nat → Prop) (ls : Array Slot) (Q : State → Prop), cw_In p s m args meth c A ls y wy D T av wd cc maxL ret →
      cw_Rl p l e rm s m args below meth c Q D A cc ret mc ms post w1 → W p l e rm s m args below meth c s.heap [] 0 0 Q (F0 m 0 ls [])) : cw_Ml l y wy rm D T av wd mc ms post w1 := by
  intro sz
  refine cw_of (Qs := fun A => va_Ql post (fun u => cw_E D A (w1 u)) A) hy hw hle (fun p e s m below meth c A ls h => body p e s m av.toArray below meth c A ls _ h ?_) sz
  obtain ⟨hx, hb, hr, hml, hts, hown, hlocks, hin, hP0, hK, hD0, hN, hA, hl⟩ := h
  intro H locs cells slots pc ls v wx hP hD hS hdg hu hc hs
  obtain ⟨u, hp, hu⟩ := hu
  refine W.widen hc hs ?_
  exact W.lret (v := v) hx hb (hr.trans hret) (fun t ht hW => ⟨⟨v, u, rfl, hp, by show cw_E D A (w1 u) t; rw [hu]; exact ⟨by rw [ht]; exact hP, hD⟩⟩, hS.F ht⟩) hS.2.2 hdg hlocks

/-- what a body may use at its return (v) -/
def cw_Rv (p : Program) (l : Launch) (e : Env) (R : Room) (s : State) (m : MethodId) (args : Array Value) (below : List Frame) (meth : Method) (c : Code) (Q : State → Prop) (D : va_G) (A : Nat → Prop) (cc : ByteArray) (ret : Option FieldType) (mc ms : Nat) {S : Type} (post : S → Prop) (w1 : S → va_W) : Prop :=
  ∀ (H : Heap) (locs : List Loc) (cells slots pc : Nat) (ls : Array Slot) (wx : va_W), va_P D vwCl wx H → va_D A wx → va_S A s.heap H locs → decode cc pc = .ok (.return_, 1) → (∃ u : S, post u ∧ w1 u = wx) → cells ≤ mc → slots ≤ ms → W p l e R s m args below meth c H locs cells slots Q (F0 m pc ls [])
theorem cw_ofv {l : Launch} {y : MethodName} {wy ws' : List Cond} {rm : Room} {D : va_G} {T : List (ClassId × FieldType)} {av : List Value} {wd : va_W} {mc ms : Nat} {S : Type} {w1 : S → va_W} {cc : ByteArray} {maxL : Nat} {ret : Option FieldType} {post : S → Prop} (hy : plainName y.cls = true) (hw : wy = Cond.code y cc maxL ret :: ws') (hle : (lg_sl av).length ≤ maxL)
    (hret : ret = none) (body : ∀ (p : Program) (e : Env) (s : State) (m : MethodId) (args : Array Value) (below : List Frame) (meth : Method) (c : Code) (A : Nat → Prop) (ls : Array Slot) (Q : State → Prop), cw_In p s m args meth c A ls y wy D T av wd cc maxL ret →
      cw_Rv p l e rm s m args below meth c Q D A cc ret mc ms post w1 → W p l e rm s m args below meth c s.heap [] 0 0 Q (F0 m 0 ls [])) : cw_Mv l y wy rm D T av wd mc ms post w1 := by
  intro sz
  refine cw_of (Qs := fun A => va_Qv post (fun u => cw_E D A (w1 u)) A) hy hw hle (fun p e s m below meth c A ls h => body p e s m av.toArray below meth c A ls _ h ?_) sz
  obtain ⟨hx, hb, hr, hml, hts, hown, hlocks, hin, hP0, hK, hD0, hN, hA, hl⟩ := h
  intro H locs cells slots pc ls wx hP hD hS hdg hu hc hs
  obtain ⟨u, hp, hu⟩ := hu
  refine W.widen hc hs ?_
  exact W.vret hx hb (hr.trans hret) (fun t ht hW => ⟨⟨u, rfl, hp, by show cw_E D A (w1 u) t; rw [hu]; exact ⟨by rw [ht]; exact hP, hD⟩⟩, hS.F ht⟩) hS.2.2 hdg hlocks
theorem cw_b01 {x : Int32} (h : x = 0 ∨ x = 1) : narrow .boolean (.int x) = .int x := by
  rcases h with rfl | rfl <;> rfl
theorem cw_f01 {x : Int32} (h : x = 0 ∨ x = 1) : fits .boolean (.int x) = true := by
  rcases h with rfl | rfl <;> rfl
section CWC
variable {p : Program} {l : Launch} {e : Env} {R : Room} {s : State} {m : MethodId} {args : Array Value} {below : List Frame} {meth : Method} {c : Code} {H : Heap} {locs : List Loc} {cells slots : Nat} {Q : State → Prop}
variable {cc : ByteArray} {D : va_G} {T : List (ClassId × FieldType)} {A : Nat → Prop} {ws wc wr : va_W} {mc ms pc nL : Nat} {ls : Array Slot} {S : Type} {w1 : S → va_W} {st0 rest : List Value}
variable {y : MethodName} {bytes : ByteArray} {maxL n index : Nat} {wy : List Cond} {rm : Room} {Ts : List Cond} {own C host : String} {b : Nat} {As av : List Value}
/-- what the caller hands over and keeps -/
theorem cw_next {Hx : Heap} {u : S} {t : State} (hP : va_P D vwCl ws H) (hD : va_D A ws) (hS : va_S A s.heap H locs) (hA : ∀ q : Nat, s.heap.size ≤ q → A q) (isC isR : List Nat) (hC : isC.map (fun i => ws[i]?) = wc.map some) (hR : isR.map (fun i => ws[i]?) = wr.map some) (hnR : va_nd isR = true) (hdis : ∀ i ∈ isR, i ∉ isC)
    (ht : t.heap = Hx) (hB : cw_E D (va_A wc H.size) (w1 u) t) (hk1 : ∀ q : Nat, q < H.size → ¬ va_A wc H.size q → Hx[q]? = H[q]?) : va_P D vwCl (wr ++ w1 u) Hx ∧ va_D A (wr ++ w1 u) := by
  obtain ⟨hP1, hD1⟩ := hB
  rw [ht] at hP1
  exact va_join hP hD isC isR hC hR hnR hdis hk1 (va_free hD hS hA isC hC) hP1 hD1
/-- a call's end, for an int -/
theorem cw_ki {post : Int32 → S → Prop} (hr : va_Run p l e R s m args below meth c H locs cells slots mc ms (F0 m pc ls st0) rest (va_Qi post (fun u => cw_E D (va_A wc H.size) (w1 u)) (va_A wc H.size) av.toArray) (va_A wc H.size))
    (hP : va_P D vwCl ws H) (hD : va_D A ws) (hS : va_S A s.heap H locs) (hA : ∀ q : Nat, s.heap.size ≤ q → A q) (isC isR : List Nat) (hC : isC.map (fun i => ws[i]?) = wc.map some) (hR : isR.map (fun i => ws[i]?) = wr.map some) (hnR : va_nd isR = true) (hdis : ∀ i ∈ isR, i ∉ isC)
    (kk : ∀ (r : Int32) (u : S) (H : Heap) (locs : List Loc), post r u → va_P D vwCl (wr ++ w1 u) H → va_D A (wr ++ w1 u) → va_S A s.heap H locs → W p l e R s m args below meth c H locs (cells + mc) (slots + ms) Q (F0 m (pc + 3) ls (.int r :: rest))) :
    W p l e R s m args below meth c H locs cells slots Q (F0 m pc ls st0) := by
  have hFc := va_free (wc := wc) hD hS hA isC hC
  refine va_calli hr hS (fun q _ h => hFc q h) hFc (fun r u t H1 locs1 ht hvm hw hB hz1 hk1 hS1 => ?_)
  obtain ⟨a, b⟩ := cw_next hP hD hS hA isC isR hC hR hnR hdis ht hB hk1
  exact kk r u H1 locs1 hw a b hS1
theorem cw_kl {post : Int64 → S → Prop} (hr : va_Run p l e R s m args below meth c H locs cells slots mc ms (F0 m pc ls st0) rest (va_Ql post (fun u => cw_E D (va_A wc H.size) (w1 u)) (va_A wc H.size) av.toArray) (va_A wc H.size))
    (hP : va_P D vwCl ws H) (hD : va_D A ws) (hS : va_S A s.heap H locs) (hA : ∀ q : Nat, s.heap.size ≤ q → A q) (isC isR : List Nat) (hC : isC.map (fun i => ws[i]?) = wc.map some) (hR : isR.map (fun i => ws[i]?) = wr.map some) (hnR : va_nd isR = true) (hdis : ∀ i ∈ isR, i ∉ isC)
    (kk : ∀ (r : Int64) (u : S) (H : Heap) (locs : List Loc), post r u → va_P D vwCl (wr ++ w1 u) H → va_D A (wr ++ w1 u) → va_S A s.heap H locs → W p l e R s m args below meth c H locs (cells + mc) (slots + ms) Q (F0 m (pc + 3) ls (.long r :: rest))) :
    W p l e R s m args below meth c H locs cells slots Q (F0 m pc ls st0) := by
  have hFc := va_free (wc := wc) hD hS hA isC hC
  refine va_calll hr hS (fun q _ h => hFc q h) hFc (fun r u t H1 locs1 ht hvm hw hB hz1 hk1 hS1 => ?_)
  obtain ⟨a, b⟩ := cw_next hP hD hS hA isC isR hC hR hnR hdis ht hB hk1
  exact kk r u H1 locs1 hw a b hS1
theorem cw_kv {post : S → Prop} (hr : va_Run p l e R s m args below meth c H locs cells slots mc ms (F0 m pc ls st0) rest (va_Qv post (fun u => cw_E D (va_A wc H.size) (w1 u)) (va_A wc H.size) av.toArray) (va_A wc H.size))
    (hP : va_P D vwCl ws H) (hD : va_D A ws) (hS : va_S A s.heap H locs) (hA : ∀ q : Nat, s.heap.size ≤ q → A q) (isC isR : List Nat) (hC : isC.map (fun i => ws[i]?) = wc.map some) (hR : isR.map (fun i => ws[i]?) = wr.map some) (hnR : va_nd isR = true) (hdis : ∀ i ∈ isR, i ∉ isC)
    (kk : ∀ (u : S) (H : Heap) (locs : List Loc), post u → va_P D vwCl (wr ++ w1 u) H → va_D A (wr ++ w1 u) → va_S A s.heap H locs → W p l e R s m args below meth c H locs (cells + mc) (slots + ms) Q (F0 m (pc + 3) ls rest)) :
    W p l e R s m args below meth c H locs cells slots Q (F0 m pc ls st0) := by
  have hFc := va_free (wc := wc) hD hS hA isC hC
  refine va_callv hr hS (fun q _ h => hFc q h) hFc (fun u t H1 locs1 ht hvm hw hB hz1 hk1 hS1 => ?_)
  obtain ⟨a, b⟩ := cw_next hP hD hS hA isC isR hC hR hnR hdis ht hB hk1
  exact kk u H1 locs1 hw a b hS1
/-- the run of a call, by how it is called -/
theorem cw_rV {Qc : Array Value → State → Outcome → State → Prop} (F : CallFix p m c cc nL s args Ts own) (hM : Met l y wy rm (va_Pc (.ref b :: As) (cw_B D T H.size wc)) Qc mc ms (va_A wc H.size)) {ret : Option FieldType} (cw : CallW R s args own C index y bytes maxL ret wy rm mc ms n)
    (hK : va_K D vwCl T s) (hN : cw_N s) (hP : va_P D vwCl ws H) (hD : va_D A ws) (isC : List Nat) (hC : isC.map (fun i => ws[i]?) = wc.map some) (hnC : va_nd isC = true) (q0 : Nat) {ci : Nat} {fs : List Value} {q : vw_C} (hc : vwCl[ci]? = some q) (he : wc[q0]? = some (b, .inr (ci, fs))) (hq : q.1 = C)
    (hn : As.length = n) (hl : ls.size = nL) (hst : st0 = As.reverse ++ .ref b :: rest) (hW : (rest.map fun v => v.category).sum ≤ 8) (hdg : decode cc pc = .ok (.invokevirtual index, 3)) (hf : cells + mc ≤ R.cells ∧ slots + ms ≤ R.slots) :
    va_Run p l e R s m args below meth c H locs cells slots mc ms (F0 m pc ls st0) rest (Qc (Value.ref b :: As).toArray) (va_A wc H.size) := by
  have hPc := hP.sub isC (cw_fm hC)
  have hDc := hD.sub isC hnC hC
  subst hq
  exact va_runV F hM cw ⟨cw_blind D T H.size wc _, va_recv hK hPc hc he, cw_pre (ws := ws) hK hN hPc hDc⟩ rfl hn hl hst (lv_room hW) hdg hf
theorem cw_rS {Qc : Array Value → State → Outcome → State → Prop} (F : CallFix p m c cc nL s args Ts own) (hM : Met l y wy rm (va_Pc As (cw_B D T H.size wc)) Qc mc ms (va_A wc H.size)) {ret : Option FieldType} (cw : CallB R s args own index y bytes maxL ret wy rm mc ms n ∧ (Cond.static y).before args s = true)
    (hK : va_K D vwCl T s) (hN : cw_N s) (hP : va_P D vwCl ws H) (hD : va_D A ws) (isC : List Nat) (hC : isC.map (fun i => ws[i]?) = wc.map some) (hnC : va_nd isC = true)
    (hn : As.length = n) (hl : ls.size = nL) (hst : st0 = As.reverse ++ rest) (hW : (rest.map fun v => v.category).sum ≤ 8) (hdg : decode cc pc = .ok (.invokestatic index, 3)) (hf : cells + mc ≤ R.cells ∧ slots + ms ≤ R.slots) :
    va_Run p l e R s m args below meth c H locs cells slots mc ms (F0 m pc ls st0) rest (Qc As.toArray) (va_A wc H.size) := by
  have hPc := hP.sub isC (cw_fm hC)
  have hDc := hD.sub isC hnC hC
  exact va_runS F hM cw ⟨cw_blind D T H.size wc _, cw_pre (ws := ws) hK hN hPc hDc⟩ rfl hn hl hst (lv_room hW) hdg hf
theorem cw_rSN {Qc : Array Value → State → Outcome → State → Prop} (F : CallFix p m c cc nL s args Ts own) (hM : Met l y wy rm (va_Pc As (cw_B D T H.size wc)) Qc mc ms (va_A wc H.size)) {ret : Option FieldType} (cw : va_CN R s args own index y host bytes maxL ret wy rm mc ms n) (hst8 : (Cond.static y).before args s = true)
    (hK : va_K D vwCl T s) (hN : cw_N s) (hP : va_P D vwCl ws H) (hD : va_D A ws) (isC : List Nat) (hC : isC.map (fun i => ws[i]?) = wc.map some) (hnC : va_nd isC = true)
    (hn : As.length = n) (hl : ls.size = nL) (hst : st0 = As.reverse ++ rest) (hW : (rest.map fun v => v.category).sum ≤ 8) (hdg : decode cc pc = .ok (.invokestatic index, 3)) (hf : cells + mc ≤ R.cells ∧ slots + ms ≤ R.slots) :
    va_Run p l e R s m args below meth c H locs cells slots mc ms (F0 m pc ls st0) rest (Qc As.toArray) (va_A wc H.size) := by
  have hPc := hP.sub isC (cw_fm hC)
  have hDc := hD.sub isC hnC hC
  exact va_runSN F hM ⟨cw, hst8, trivial⟩ ⟨cw_blind D T H.size wc _, cw_pre (ws := ws) hK hN hPc hDc⟩ rfl hn hl hst (lv_room hW) hdg hf
theorem cw_rI {Qc : Array Value → State → Outcome → State → Prop} (F : CallFix p m c cc nL s args Ts own) (hM : Met l y wy rm (va_Pc (.ref b :: As) (cw_B D T H.size wc)) Qc mc ms (va_A wc H.size)) (cw : CallB R s args own index y bytes maxL none wy rm mc ms n ∧ y.name = "<init>" ∧ (Cond.instanceMethod y).before args s = true)
    (hK : va_K D vwCl T s) (hN : cw_N s) (hP : va_P D vwCl ws H) (hD : va_D A ws) (isC : List Nat) (hC : isC.map (fun i => ws[i]?) = wc.map some) (hnC : va_nd isC = true)
    (hn : As.length = n) (hl : ls.size = nL) (hst : st0 = As.reverse ++ .ref b :: rest) (hW : (rest.map fun v => v.category).sum ≤ 8) (hdg : decode cc pc = .ok (.invokespecial index, 3)) (hf : cells + mc ≤ R.cells ∧ slots + ms ≤ R.slots) :
    va_Run p l e R s m args below meth c H locs cells slots mc ms (F0 m pc ls st0) rest (Qc (Value.ref b :: As).toArray) (va_A wc H.size) := by
  have hPc := hP.sub isC (cw_fm hC)
  have hDc := hD.sub isC hnC hC
  exact va_runI F hM cw ⟨cw_blind D T H.size wc _, cw_pre (ws := ws) hK hN hPc hDc⟩ rfl hn hl hst (lv_room hW) hdg hf
theorem cw_rIN {Qc : Array Value → State → Outcome → State → Prop} (F : CallFix p m c cc nL s args Ts own) (hM : Met l y wy rm (va_Pc (.ref b :: As) (cw_B D T H.size wc)) Qc mc ms (va_A wc H.size)) (cw : va_CN R s args own index y host bytes maxL none wy rm mc ms n) (hy1 : y.name = "<init>") (hin : (Cond.instanceMethod y).before args s = true)
    (hK : va_K D vwCl T s) (hN : cw_N s) (hP : va_P D vwCl ws H) (hD : va_D A ws) (isC : List Nat) (hC : isC.map (fun i => ws[i]?) = wc.map some) (hnC : va_nd isC = true)
    (hn : As.length = n) (hl : ls.size = nL) (hst : st0 = As.reverse ++ .ref b :: rest) (hW : (rest.map fun v => v.category).sum ≤ 8) (hdg : decode cc pc = .ok (.invokespecial index, 3)) (hf : cells + mc ≤ R.cells ∧ slots + ms ≤ R.slots) :
    va_Run p l e R s m args below meth c H locs cells slots mc ms (F0 m pc ls st0) rest (Qc (Value.ref b :: As).toArray) (va_A wc H.size) := by
  have hPc := hP.sub isC (cw_fm hC)
  have hDc := hD.sub isC hnC hC
  exact va_runIN F hM ⟨cw, hy1, hin⟩ ⟨cw_blind D T H.size wc _, cw_pre (ws := ws) hK hN hPc hDc⟩ rfl hn hl hst (lv_room hW) hdg hf
theorem cw_cVi {post : Int32 → S → Prop} (F : CallFix p m c cc nL s args Ts own) (hM : cw_Mi l y wy rm D T (.ref b :: As) wc mc ms post w1) {ret : Option FieldType} (cw : CallW R s args own C index y bytes maxL ret wy rm mc ms n)
    (hK : va_K D vwCl T s) (hN : cw_N s) (hP : va_P D vwCl ws H) (hD : va_D A ws) (hS : va_S A s.heap H locs) (hA : ∀ q : Nat, s.heap.size ≤ q → A q) (isC isR : List Nat) (hC : isC.map (fun i => ws[i]?) = wc.map some) (hR : isR.map (fun i => ws[i]?) = wr.map some) (hnC : va_nd isC = true) (hnR : va_nd isR = true) (hdis : ∀ i ∈ isR, i ∉ isC) (q0 : Nat) {ci : Nat} {fs : List Value} {q : vw_C} (hc : vwCl[ci]? = some q) (he : wc[q0]? = some (b, .inr (ci, fs))) (hq : q.1 = C) (hn : As.length = n) (hl : ls.size = nL) (hst : st0 = As.reverse ++ .ref b :: rest) (hW : (rest.map fun v => v.category).sum ≤ 8) (hdg : decode cc pc = .ok (.invokevirtual index, 3)) (hf : cells + mc ≤ R.cells ∧ slots + ms ≤ R.slots)
    (kk : ∀ (r : Int32) (u : S) (H : Heap) (locs : List Loc), post r u → va_P D vwCl (wr ++ w1 u) H → va_D A (wr ++ w1 u) → va_S A s.heap H locs → W p l e R s m args below meth c H locs (cells + mc) (slots + ms) Q (F0 m (pc + 3) ls (.int r :: rest))) :
    W p l e R s m args below meth c H locs cells slots Q (F0 m pc ls st0) :=
  cw_ki (av := (.ref b :: As)) (cw_rV F (hM H.size) cw hK hN hP hD isC hC hnC q0 hc he hq hn hl hst hW hdg hf) hP hD hS hA isC isR hC hR hnR hdis kk

theorem cw_cVl {post : Int64 → S → Prop} (F : CallFix p m c cc nL s args Ts own) (hM : cw_Ml l y wy rm D T (.ref b :: As) wc mc ms post w1) {ret : Option FieldType} (cw : CallW R s args own C index y bytes maxL ret wy rm mc ms n)
    (hK : va_K D vwCl T s) (hN : cw_N s) (hP : va_P D vwCl ws H) (hD : va_D A ws) (hS : va_S A s.heap H locs) (hA : ∀ q : Nat, s.heap.size ≤ q → A q) (isC isR : List Nat) (hC : isC.map (fun i => ws[i]?) = wc.map some) (hR : isR.map (fun i => ws[i]?) = wr.map some) (hnC : va_nd isC = true) (hnR : va_nd isR = true) (hdis : ∀ i ∈ isR, i ∉ isC) (q0 : Nat) {ci : Nat} {fs : List Value} {q : vw_C} (hc : vwCl[ci]? = some q) (he : wc[q0]? = some (b, .inr (ci, fs))) (hq : q.1 = C) (hn : As.length = n) (hl : ls.size = nL) (hst : st0 = As.reverse ++ .ref b :: rest) (hW : (rest.map fun v => v.category).sum ≤ 8) (hdg : decode cc pc = .ok (.invokevirtual index, 3)) (hf : cells + mc ≤ R.cells ∧ slots + ms ≤ R.slots)
    (kk : ∀ (r : Int64) (u : S) (H : Heap) (locs : List Loc), post r u → va_P D vwCl (wr ++ w1 u) H → va_D A (wr ++ w1 u) → va_S A s.heap H locs → W p l e R s m args below meth c H locs (cells + mc) (slots + ms) Q (F0 m (pc + 3) ls (.long r :: rest))) :
    W p l e R s m args below meth c H locs cells slots Q (F0 m pc ls st0) :=
  cw_kl (av := (.ref b :: As)) (cw_rV F (hM H.size) cw hK hN hP hD isC hC hnC q0 hc he hq hn hl hst hW hdg hf) hP hD hS hA isC isR hC hR hnR hdis kk

theorem cw_cVv {post : S → Prop} (F : CallFix p m c cc nL s args Ts own) (hM : cw_Mv l y wy rm D T (.ref b :: As) wc mc ms post w1) {ret : Option FieldType} (cw : CallW R s args own C index y bytes maxL ret wy rm mc ms n)
    (hK : va_K D vwCl T s) (hN : cw_N s) (hP : va_P D vwCl ws H) (hD : va_D A ws) (hS : va_S A s.heap H locs) (hA : ∀ q : Nat, s.heap.size ≤ q → A q) (isC isR : List Nat) (hC : isC.map (fun i => ws[i]?) = wc.map some) (hR : isR.map (fun i => ws[i]?) = wr.map some) (hnC : va_nd isC = true) (hnR : va_nd isR = true) (hdis : ∀ i ∈ isR, i ∉ isC) (q0 : Nat) {ci : Nat} {fs : List Value} {q : vw_C} (hc : vwCl[ci]? = some q) (he : wc[q0]? = some (b, .inr (ci, fs))) (hq : q.1 = C) (hn : As.length = n) (hl : ls.size = nL) (hst : st0 = As.reverse ++ .ref b :: rest) (hW : (rest.map fun v => v.category).sum ≤ 8) (hdg : decode cc pc = .ok (.invokevirtual index, 3)) (hf : cells + mc ≤ R.cells ∧ slots + ms ≤ R.slots)
    (kk : ∀ (u : S) (H : Heap) (locs : List Loc), post u → va_P D vwCl (wr ++ w1 u) H → va_D A (wr ++ w1 u) → va_S A s.heap H locs → W p l e R s m args below meth c H locs (cells + mc) (slots + ms) Q (F0 m (pc + 3) ls rest)) :
    W p l e R s m args below meth c H locs cells slots Q (F0 m pc ls st0) :=
  cw_kv (av := (.ref b :: As)) (cw_rV F (hM H.size) cw hK hN hP hD isC hC hnC q0 hc he hq hn hl hst hW hdg hf) hP hD hS hA isC isR hC hR hnR hdis kk

theorem cw_cSi {post : Int32 → S → Prop} (F : CallFix p m c cc nL s args Ts own) (hM : cw_Mi l y wy rm D T As wc mc ms post w1) {ret : Option FieldType} (cw : CallB R s args own index y bytes maxL ret wy rm mc ms n ∧ (Cond.static y).before args s = true)
    (hK : va_K D vwCl T s) (hN : cw_N s) (hP : va_P D vwCl ws H) (hD : va_D A ws) (hS : va_S A s.heap H locs) (hA : ∀ q : Nat, s.heap.size ≤ q → A q) (isC isR : List Nat) (hC : isC.map (fun i => ws[i]?) = wc.map some) (hR : isR.map (fun i => ws[i]?) = wr.map some) (hnC : va_nd isC = true) (hnR : va_nd isR = true) (hdis : ∀ i ∈ isR, i ∉ isC) (hn : As.length = n) (hl : ls.size = nL) (hst : st0 = As.reverse ++ rest) (hW : (rest.map fun v => v.category).sum ≤ 8) (hdg : decode cc pc = .ok (.invokestatic index, 3)) (hf : cells + mc ≤ R.cells ∧ slots + ms ≤ R.slots)
    (kk : ∀ (r : Int32) (u : S) (H : Heap) (locs : List Loc), post r u → va_P D vwCl (wr ++ w1 u) H → va_D A (wr ++ w1 u) → va_S A s.heap H locs → W p l e R s m args below meth c H locs (cells + mc) (slots + ms) Q (F0 m (pc + 3) ls (.int r :: rest))) :
    W p l e R s m args below meth c H locs cells slots Q (F0 m pc ls st0) :=
  cw_ki (av := As) (cw_rS F (hM H.size) cw hK hN hP hD isC hC hnC hn hl hst hW hdg hf) hP hD hS hA isC isR hC hR hnR hdis kk

theorem cw_cSl {post : Int64 → S → Prop} (F : CallFix p m c cc nL s args Ts own) (hM : cw_Ml l y wy rm D T As wc mc ms post w1) {ret : Option FieldType} (cw : CallB R s args own index y bytes maxL ret wy rm mc ms n ∧ (Cond.static y).before args s = true)
    (hK : va_K D vwCl T s) (hN : cw_N s) (hP : va_P D vwCl ws H) (hD : va_D A ws) (hS : va_S A s.heap H locs) (hA : ∀ q : Nat, s.heap.size ≤ q → A q) (isC isR : List Nat) (hC : isC.map (fun i => ws[i]?) = wc.map some) (hR : isR.map (fun i => ws[i]?) = wr.map some) (hnC : va_nd isC = true) (hnR : va_nd isR = true) (hdis : ∀ i ∈ isR, i ∉ isC) (hn : As.length = n) (hl : ls.size = nL) (hst : st0 = As.reverse ++ rest) (hW : (rest.map fun v => v.category).sum ≤ 8) (hdg : decode cc pc = .ok (.invokestatic index, 3)) (hf : cells + mc ≤ R.cells ∧ slots + ms ≤ R.slots)
    (kk : ∀ (r : Int64) (u : S) (H : Heap) (locs : List Loc), post r u → va_P D vwCl (wr ++ w1 u) H → va_D A (wr ++ w1 u) → va_S A s.heap H locs → W p l e R s m args below meth c H locs (cells + mc) (slots + ms) Q (F0 m (pc + 3) ls (.long r :: rest))) :
    W p l e R s m args below meth c H locs cells slots Q (F0 m pc ls st0) :=
  cw_kl (av := As) (cw_rS F (hM H.size) cw hK hN hP hD isC hC hnC hn hl hst hW hdg hf) hP hD hS hA isC isR hC hR hnR hdis kk

theorem cw_cSv {post : S → Prop} (F : CallFix p m c cc nL s args Ts own) (hM : cw_Mv l y wy rm D T As wc mc ms post w1) {ret : Option FieldType} (cw : CallB R s args own index y bytes maxL ret wy rm mc ms n ∧ (Cond.static y).before args s = true)
    (hK : va_K D vwCl T s) (hN : cw_N s) (hP : va_P D vwCl ws H) (hD : va_D A ws) (hS : va_S A s.heap H locs) (hA : ∀ q : Nat, s.heap.size ≤ q → A q) (isC isR : List Nat) (hC : isC.map (fun i => ws[i]?) = wc.map some) (hR : isR.map (fun i => ws[i]?) = wr.map some) (hnC : va_nd isC = true) (hnR : va_nd isR = true) (hdis : ∀ i ∈ isR, i ∉ isC) (hn : As.length = n) (hl : ls.size = nL) (hst : st0 = As.reverse ++ rest) (hW : (rest.map fun v => v.category).sum ≤ 8) (hdg : decode cc pc = .ok (.invokestatic index, 3)) (hf : cells + mc ≤ R.cells ∧ slots + ms ≤ R.slots)
    (kk : ∀ (u : S) (H : Heap) (locs : List Loc), post u → va_P D vwCl (wr ++ w1 u) H → va_D A (wr ++ w1 u) → va_S A s.heap H locs → W p l e R s m args below meth c H locs (cells + mc) (slots + ms) Q (F0 m (pc + 3) ls rest)) :
    W p l e R s m args below meth c H locs cells slots Q (F0 m pc ls st0) :=
  cw_kv (av := As) (cw_rS F (hM H.size) cw hK hN hP hD isC hC hnC hn hl hst hW hdg hf) hP hD hS hA isC isR hC hR hnR hdis kk

theorem cw_cSNi {post : Int32 → S → Prop} (F : CallFix p m c cc nL s args Ts own) (hM : cw_Mi l y wy rm D T As wc mc ms post w1) {ret : Option FieldType} (cw : va_CN R s args own index y host bytes maxL ret wy rm mc ms n) (hst8 : (Cond.static y).before args s = true)
    (hK : va_K D vwCl T s) (hN : cw_N s) (hP : va_P D vwCl ws H) (hD : va_D A ws) (hS : va_S A s.heap H locs) (hA : ∀ q : Nat, s.heap.size ≤ q → A q) (isC isR : List Nat) (hC : isC.map (fun i => ws[i]?) = wc.map some) (hR : isR.map (fun i => ws[i]?) = wr.map some) (hnC : va_nd isC = true) (hnR : va_nd isR = true) (hdis : ∀ i ∈ isR, i ∉ isC) (hn : As.length = n) (hl : ls.size = nL) (hst : st0 = As.reverse ++ rest) (hW : (rest.map fun v => v.category).sum ≤ 8) (hdg : decode cc pc = .ok (.invokestatic index, 3)) (hf : cells + mc ≤ R.cells ∧ slots + ms ≤ R.slots)
    (kk : ∀ (r : Int32) (u : S) (H : Heap) (locs : List Loc), post r u → va_P D vwCl (wr ++ w1 u) H → va_D A (wr ++ w1 u) → va_S A s.heap H locs → W p l e R s m args below meth c H locs (cells + mc) (slots + ms) Q (F0 m (pc + 3) ls (.int r :: rest))) :
    W p l e R s m args below meth c H locs cells slots Q (F0 m pc ls st0) :=
  cw_ki (av := As) (cw_rSN F (hM H.size) cw hst8 hK hN hP hD isC hC hnC hn hl hst hW hdg hf) hP hD hS hA isC isR hC hR hnR hdis kk

theorem cw_cSNl {post : Int64 → S → Prop} (F : CallFix p m c cc nL s args Ts own) (hM : cw_Ml l y wy rm D T As wc mc ms post w1) {ret : Option FieldType} (cw : va_CN R s args own index y host bytes maxL ret wy rm mc ms n) (hst8 : (Cond.static y).before args s = true)
    (hK : va_K D vwCl T s) (hN : cw_N s) (hP : va_P D vwCl ws H) (hD : va_D A ws) (hS : va_S A s.heap H locs) (hA : ∀ q : Nat, s.heap.size ≤ q → A q) (isC isR : List Nat) (hC : isC.map (fun i => ws[i]?) = wc.map some) (hR : isR.map (fun i => ws[i]?) = wr.map some) (hnC : va_nd isC = true) (hnR : va_nd isR = true) (hdis : ∀ i ∈ isR, i ∉ isC) (hn : As.length = n) (hl : ls.size = nL) (hst : st0 = As.reverse ++ rest) (hW : (rest.map fun v => v.category).sum ≤ 8) (hdg : decode cc pc = .ok (.invokestatic index, 3)) (hf : cells + mc ≤ R.cells ∧ slots + ms ≤ R.slots)
    (kk : ∀ (r : Int64) (u : S) (H : Heap) (locs : List Loc), post r u → va_P D vwCl (wr ++ w1 u) H → va_D A (wr ++ w1 u) → va_S A s.heap H locs → W p l e R s m args below meth c H locs (cells + mc) (slots + ms) Q (F0 m (pc + 3) ls (.long r :: rest))) :
    W p l e R s m args below meth c H locs cells slots Q (F0 m pc ls st0) :=
  cw_kl (av := As) (cw_rSN F (hM H.size) cw hst8 hK hN hP hD isC hC hnC hn hl hst hW hdg hf) hP hD hS hA isC isR hC hR hnR hdis kk

theorem cw_cSNv {post : S → Prop} (F : CallFix p m c cc nL s args Ts own) (hM : cw_Mv l y wy rm D T As wc mc ms post w1) {ret : Option FieldType} (cw : va_CN R s args own index y host bytes maxL ret wy rm mc ms n) (hst8 : (Cond.static y).before args s = true)
    (hK : va_K D vwCl T s) (hN : cw_N s) (hP : va_P D vwCl ws H) (hD : va_D A ws) (hS : va_S A s.heap H locs) (hA : ∀ q : Nat, s.heap.size ≤ q → A q) (isC isR : List Nat) (hC : isC.map (fun i => ws[i]?) = wc.map some) (hR : isR.map (fun i => ws[i]?) = wr.map some) (hnC : va_nd isC = true) (hnR : va_nd isR = true) (hdis : ∀ i ∈ isR, i ∉ isC) (hn : As.length = n) (hl : ls.size = nL) (hst : st0 = As.reverse ++ rest) (hW : (rest.map fun v => v.category).sum ≤ 8) (hdg : decode cc pc = .ok (.invokestatic index, 3)) (hf : cells + mc ≤ R.cells ∧ slots + ms ≤ R.slots)
    (kk : ∀ (u : S) (H : Heap) (locs : List Loc), post u → va_P D vwCl (wr ++ w1 u) H → va_D A (wr ++ w1 u) → va_S A s.heap H locs → W p l e R s m args below meth c H locs (cells + mc) (slots + ms) Q (F0 m (pc + 3) ls rest)) :
    W p l e R s m args below meth c H locs cells slots Q (F0 m pc ls st0) :=
  cw_kv (av := As) (cw_rSN F (hM H.size) cw hst8 hK hN hP hD isC hC hnC hn hl hst hW hdg hf) hP hD hS hA isC isR hC hR hnR hdis kk

theorem cw_cIv {post : S → Prop} (F : CallFix p m c cc nL s args Ts own) (hM : cw_Mv l y wy rm D T (.ref b :: As) wc mc ms post w1) (cw : CallB R s args own index y bytes maxL none wy rm mc ms n ∧ y.name = "<init>" ∧ (Cond.instanceMethod y).before args s = true)
    (hK : va_K D vwCl T s) (hN : cw_N s) (hP : va_P D vwCl ws H) (hD : va_D A ws) (hS : va_S A s.heap H locs) (hA : ∀ q : Nat, s.heap.size ≤ q → A q) (isC isR : List Nat) (hC : isC.map (fun i => ws[i]?) = wc.map some) (hR : isR.map (fun i => ws[i]?) = wr.map some) (hnC : va_nd isC = true) (hnR : va_nd isR = true) (hdis : ∀ i ∈ isR, i ∉ isC) (hn : As.length = n) (hl : ls.size = nL) (hst : st0 = As.reverse ++ .ref b :: rest) (hW : (rest.map fun v => v.category).sum ≤ 8) (hdg : decode cc pc = .ok (.invokespecial index, 3)) (hf : cells + mc ≤ R.cells ∧ slots + ms ≤ R.slots)
    (kk : ∀ (u : S) (H : Heap) (locs : List Loc), post u → va_P D vwCl (wr ++ w1 u) H → va_D A (wr ++ w1 u) → va_S A s.heap H locs → W p l e R s m args below meth c H locs (cells + mc) (slots + ms) Q (F0 m (pc + 3) ls rest)) :
    W p l e R s m args below meth c H locs cells slots Q (F0 m pc ls st0) :=
  cw_kv (av := (.ref b :: As)) (cw_rI F (hM H.size) cw hK hN hP hD isC hC hnC hn hl hst hW hdg hf) hP hD hS hA isC isR hC hR hnR hdis kk

theorem cw_cINv {post : S → Prop} (F : CallFix p m c cc nL s args Ts own) (hM : cw_Mv l y wy rm D T (.ref b :: As) wc mc ms post w1) (cw : va_CN R s args own index y host bytes maxL none wy rm mc ms n) (hy1 : y.name = "<init>") (hin8 : (Cond.instanceMethod y).before args s = true)
    (hK : va_K D vwCl T s) (hN : cw_N s) (hP : va_P D vwCl ws H) (hD : va_D A ws) (hS : va_S A s.heap H locs) (hA : ∀ q : Nat, s.heap.size ≤ q → A q) (isC isR : List Nat) (hC : isC.map (fun i => ws[i]?) = wc.map some) (hR : isR.map (fun i => ws[i]?) = wr.map some) (hnC : va_nd isC = true) (hnR : va_nd isR = true) (hdis : ∀ i ∈ isR, i ∉ isC) (hn : As.length = n) (hl : ls.size = nL) (hst : st0 = As.reverse ++ .ref b :: rest) (hW : (rest.map fun v => v.category).sum ≤ 8) (hdg : decode cc pc = .ok (.invokespecial index, 3)) (hf : cells + mc ≤ R.cells ∧ slots + ms ≤ R.slots)
    (kk : ∀ (u : S) (H : Heap) (locs : List Loc), post u → va_P D vwCl (wr ++ w1 u) H → va_D A (wr ++ w1 u) → va_S A s.heap H locs → W p l e R s m args below meth c H locs (cells + mc) (slots + ms) Q (F0 m (pc + 3) ls rest)) :
    W p l e R s m args below meth c H locs cells slots Q (F0 m pc ls st0) :=
  cw_kv (av := (.ref b :: As)) (cw_rIN F (hM H.size) cw hy1 hin8 hK hN hP hD isC hC hnC hn hl hst hW hdg hf) hP hD hS hA isC isR hC hR hnR hdis kk
end CWC

abbrev c0 (v0 : Value) (v1 : Value) : va_E := .inr (0, [v0, v1])
abbrev c1 (f : Nat → Int32) : va_E := .inr (1, [.int (f 0), .int (f 1)])
abbrev c2 (v0 : Value) (v1 : Value) (v2 : Value) (f : Nat → Int32) : va_E := .inr (2, [v0, v1, v2, .int (f 3), .int (f 4), .int (f 5), .int (f 6), .int (f 7), .int (f 8), .int (f 9), .int (f 10)])
abbrev c3 (v0 : Value) (v1 : Value) (v2 : Value) (f : Nat → Int32) : va_E := .inr (3, [v0, v1, v2, .int (f 3), .int (f 4), .int (f 5)])
abbrev c4 (f : Nat → Int32) : va_E := .inr (4, [.int (f 0), .int (f 1), .int (f 2)])
abbrev c5 (f : Nat → Int32) : va_E := .inr (5, [.int (f 0), .int (f 1), .int (f 2), .int (f 3), .int (f 4), .int (f 5), .int (f 6), .int (f 7), .int (f 8), .int (f 9), .int (f 10)])
abbrev c6 (v0 : Value) (v1 : Value) (v2 : Value) (v3 : Value) (v4 : Value) (f : Nat → Int32) : va_E := .inr (6, [v0, v1, v2, v3, v4, .int (f 5), .int (f 6)])
abbrev c7 (v25 : Value) (v26 : Value) (v27 : Value) (v29 : Value) (v30 : Value) (v31 : Value) (f : Nat → Int32) : va_E := .inr (7, [.int (f 0), .int (f 1), .int (f 2), .int (f 3), .int (f 4), .int (f 5), .int (f 6), .int (f 7), .int (f 8), .int (f 9), .int (f 10), .int (f 11), .int (f 12), .int (f 13), .int (f 14), .int (f 15), .int (f 16), .int (f 17), .int (f 18), .int (f 19), .int (f 20), .int (f 21), .int (f 22), .int (f 23), .int (f 24), v25, v26, v27, .int (f 28), v29, v30, v31, .int (f 32), .int (f 33), .int (f 34)])
theorem cs1_0  (f : Nat → Int32) (x : Int32) : ([.int (f 0), .int (f 1)] : List Value).set 0 (.int x) = [.int (upd f 0 x 0), .int (upd f 0 x 1)] := rfl
theorem cs1_1  (f : Nat → Int32) (x : Int32) : ([.int (f 0), .int (f 1)] : List Value).set 1 (.int x) = [.int (upd f 1 x 0), .int (upd f 1 x 1)] := rfl
theorem cs2_3 (v0 : Value) (v1 : Value) (v2 : Value) (f : Nat → Int32) (x : Int32) : ([v0, v1, v2, .int (f 3), .int (f 4), .int (f 5), .int (f 6), .int (f 7), .int (f 8), .int (f 9), .int (f 10)] : List Value).set 3 (.int x) = [v0, v1, v2, .int (upd f 3 x 3), .int (upd f 3 x 4), .int (upd f 3 x 5), .int (upd f 3 x 6), .int (upd f 3 x 7), .int (upd f 3 x 8), .int (upd f 3 x 9), .int (upd f 3 x 10)] := rfl
theorem cs2_4 (v0 : Value) (v1 : Value) (v2 : Value) (f : Nat → Int32) (x : Int32) : ([v0, v1, v2, .int (f 3), .int (f 4), .int (f 5), .int (f 6), .int (f 7), .int (f 8), .int (f 9), .int (f 10)] : List Value).set 4 (.int x) = [v0, v1, v2, .int (upd f 4 x 3), .int (upd f 4 x 4), .int (upd f 4 x 5), .int (upd f 4 x 6), .int (upd f 4 x 7), .int (upd f 4 x 8), .int (upd f 4 x 9), .int (upd f 4 x 10)] := rfl
theorem cs2_5 (v0 : Value) (v1 : Value) (v2 : Value) (f : Nat → Int32) (x : Int32) : ([v0, v1, v2, .int (f 3), .int (f 4), .int (f 5), .int (f 6), .int (f 7), .int (f 8), .int (f 9), .int (f 10)] : List Value).set 5 (.int x) = [v0, v1, v2, .int (upd f 5 x 3), .int (upd f 5 x 4), .int (upd f 5 x 5), .int (upd f 5 x 6), .int (upd f 5 x 7), .int (upd f 5 x 8), .int (upd f 5 x 9), .int (upd f 5 x 10)] := rfl
theorem cs2_6 (v0 : Value) (v1 : Value) (v2 : Value) (f : Nat → Int32) (x : Int32) : ([v0, v1, v2, .int (f 3), .int (f 4), .int (f 5), .int (f 6), .int (f 7), .int (f 8), .int (f 9), .int (f 10)] : List Value).set 6 (.int x) = [v0, v1, v2, .int (upd f 6 x 3), .int (upd f 6 x 4), .int (upd f 6 x 5), .int (upd f 6 x 6), .int (upd f 6 x 7), .int (upd f 6 x 8), .int (upd f 6 x 9), .int (upd f 6 x 10)] := rfl
theorem cs2_7 (v0 : Value) (v1 : Value) (v2 : Value) (f : Nat → Int32) (x : Int32) : ([v0, v1, v2, .int (f 3), .int (f 4), .int (f 5), .int (f 6), .int (f 7), .int (f 8), .int (f 9), .int (f 10)] : List Value).set 7 (.int x) = [v0, v1, v2, .int (upd f 7 x 3), .int (upd f 7 x 4), .int (upd f 7 x 5), .int (upd f 7 x 6), .int (upd f 7 x 7), .int (upd f 7 x 8), .int (upd f 7 x 9), .int (upd f 7 x 10)] := rfl
theorem cs2_8 (v0 : Value) (v1 : Value) (v2 : Value) (f : Nat → Int32) (x : Int32) : ([v0, v1, v2, .int (f 3), .int (f 4), .int (f 5), .int (f 6), .int (f 7), .int (f 8), .int (f 9), .int (f 10)] : List Value).set 8 (.int x) = [v0, v1, v2, .int (upd f 8 x 3), .int (upd f 8 x 4), .int (upd f 8 x 5), .int (upd f 8 x 6), .int (upd f 8 x 7), .int (upd f 8 x 8), .int (upd f 8 x 9), .int (upd f 8 x 10)] := rfl
theorem cs2_9 (v0 : Value) (v1 : Value) (v2 : Value) (f : Nat → Int32) (x : Int32) : ([v0, v1, v2, .int (f 3), .int (f 4), .int (f 5), .int (f 6), .int (f 7), .int (f 8), .int (f 9), .int (f 10)] : List Value).set 9 (.int x) = [v0, v1, v2, .int (upd f 9 x 3), .int (upd f 9 x 4), .int (upd f 9 x 5), .int (upd f 9 x 6), .int (upd f 9 x 7), .int (upd f 9 x 8), .int (upd f 9 x 9), .int (upd f 9 x 10)] := rfl
theorem cs2_10 (v0 : Value) (v1 : Value) (v2 : Value) (f : Nat → Int32) (x : Int32) : ([v0, v1, v2, .int (f 3), .int (f 4), .int (f 5), .int (f 6), .int (f 7), .int (f 8), .int (f 9), .int (f 10)] : List Value).set 10 (.int x) = [v0, v1, v2, .int (upd f 10 x 3), .int (upd f 10 x 4), .int (upd f 10 x 5), .int (upd f 10 x 6), .int (upd f 10 x 7), .int (upd f 10 x 8), .int (upd f 10 x 9), .int (upd f 10 x 10)] := rfl
theorem cs3_3 (v0 : Value) (v1 : Value) (v2 : Value) (f : Nat → Int32) (x : Int32) : ([v0, v1, v2, .int (f 3), .int (f 4), .int (f 5)] : List Value).set 3 (.int x) = [v0, v1, v2, .int (upd f 3 x 3), .int (upd f 3 x 4), .int (upd f 3 x 5)] := rfl
theorem cs3_4 (v0 : Value) (v1 : Value) (v2 : Value) (f : Nat → Int32) (x : Int32) : ([v0, v1, v2, .int (f 3), .int (f 4), .int (f 5)] : List Value).set 4 (.int x) = [v0, v1, v2, .int (upd f 4 x 3), .int (upd f 4 x 4), .int (upd f 4 x 5)] := rfl
theorem cs3_5 (v0 : Value) (v1 : Value) (v2 : Value) (f : Nat → Int32) (x : Int32) : ([v0, v1, v2, .int (f 3), .int (f 4), .int (f 5)] : List Value).set 5 (.int x) = [v0, v1, v2, .int (upd f 5 x 3), .int (upd f 5 x 4), .int (upd f 5 x 5)] := rfl
theorem cs4_0  (f : Nat → Int32) (x : Int32) : ([.int (f 0), .int (f 1), .int (f 2)] : List Value).set 0 (.int x) = [.int (upd f 0 x 0), .int (upd f 0 x 1), .int (upd f 0 x 2)] := rfl
theorem cs4_1  (f : Nat → Int32) (x : Int32) : ([.int (f 0), .int (f 1), .int (f 2)] : List Value).set 1 (.int x) = [.int (upd f 1 x 0), .int (upd f 1 x 1), .int (upd f 1 x 2)] := rfl
theorem cs4_2  (f : Nat → Int32) (x : Int32) : ([.int (f 0), .int (f 1), .int (f 2)] : List Value).set 2 (.int x) = [.int (upd f 2 x 0), .int (upd f 2 x 1), .int (upd f 2 x 2)] := rfl
theorem cs5_0  (f : Nat → Int32) (x : Int32) : ([.int (f 0), .int (f 1), .int (f 2), .int (f 3), .int (f 4), .int (f 5), .int (f 6), .int (f 7), .int (f 8), .int (f 9), .int (f 10)] : List Value).set 0 (.int x) = [.int (upd f 0 x 0), .int (upd f 0 x 1), .int (upd f 0 x 2), .int (upd f 0 x 3), .int (upd f 0 x 4), .int (upd f 0 x 5), .int (upd f 0 x 6), .int (upd f 0 x 7), .int (upd f 0 x 8), .int (upd f 0 x 9), .int (upd f 0 x 10)] := rfl
theorem cs5_1  (f : Nat → Int32) (x : Int32) : ([.int (f 0), .int (f 1), .int (f 2), .int (f 3), .int (f 4), .int (f 5), .int (f 6), .int (f 7), .int (f 8), .int (f 9), .int (f 10)] : List Value).set 1 (.int x) = [.int (upd f 1 x 0), .int (upd f 1 x 1), .int (upd f 1 x 2), .int (upd f 1 x 3), .int (upd f 1 x 4), .int (upd f 1 x 5), .int (upd f 1 x 6), .int (upd f 1 x 7), .int (upd f 1 x 8), .int (upd f 1 x 9), .int (upd f 1 x 10)] := rfl
theorem cs5_2  (f : Nat → Int32) (x : Int32) : ([.int (f 0), .int (f 1), .int (f 2), .int (f 3), .int (f 4), .int (f 5), .int (f 6), .int (f 7), .int (f 8), .int (f 9), .int (f 10)] : List Value).set 2 (.int x) = [.int (upd f 2 x 0), .int (upd f 2 x 1), .int (upd f 2 x 2), .int (upd f 2 x 3), .int (upd f 2 x 4), .int (upd f 2 x 5), .int (upd f 2 x 6), .int (upd f 2 x 7), .int (upd f 2 x 8), .int (upd f 2 x 9), .int (upd f 2 x 10)] := rfl
theorem cs5_3  (f : Nat → Int32) (x : Int32) : ([.int (f 0), .int (f 1), .int (f 2), .int (f 3), .int (f 4), .int (f 5), .int (f 6), .int (f 7), .int (f 8), .int (f 9), .int (f 10)] : List Value).set 3 (.int x) = [.int (upd f 3 x 0), .int (upd f 3 x 1), .int (upd f 3 x 2), .int (upd f 3 x 3), .int (upd f 3 x 4), .int (upd f 3 x 5), .int (upd f 3 x 6), .int (upd f 3 x 7), .int (upd f 3 x 8), .int (upd f 3 x 9), .int (upd f 3 x 10)] := rfl
theorem cs5_4  (f : Nat → Int32) (x : Int32) : ([.int (f 0), .int (f 1), .int (f 2), .int (f 3), .int (f 4), .int (f 5), .int (f 6), .int (f 7), .int (f 8), .int (f 9), .int (f 10)] : List Value).set 4 (.int x) = [.int (upd f 4 x 0), .int (upd f 4 x 1), .int (upd f 4 x 2), .int (upd f 4 x 3), .int (upd f 4 x 4), .int (upd f 4 x 5), .int (upd f 4 x 6), .int (upd f 4 x 7), .int (upd f 4 x 8), .int (upd f 4 x 9), .int (upd f 4 x 10)] := rfl
theorem cs5_5  (f : Nat → Int32) (x : Int32) : ([.int (f 0), .int (f 1), .int (f 2), .int (f 3), .int (f 4), .int (f 5), .int (f 6), .int (f 7), .int (f 8), .int (f 9), .int (f 10)] : List Value).set 5 (.int x) = [.int (upd f 5 x 0), .int (upd f 5 x 1), .int (upd f 5 x 2), .int (upd f 5 x 3), .int (upd f 5 x 4), .int (upd f 5 x 5), .int (upd f 5 x 6), .int (upd f 5 x 7), .int (upd f 5 x 8), .int (upd f 5 x 9), .int (upd f 5 x 10)] := rfl
theorem cs5_6  (f : Nat → Int32) (x : Int32) : ([.int (f 0), .int (f 1), .int (f 2), .int (f 3), .int (f 4), .int (f 5), .int (f 6), .int (f 7), .int (f 8), .int (f 9), .int (f 10)] : List Value).set 6 (.int x) = [.int (upd f 6 x 0), .int (upd f 6 x 1), .int (upd f 6 x 2), .int (upd f 6 x 3), .int (upd f 6 x 4), .int (upd f 6 x 5), .int (upd f 6 x 6), .int (upd f 6 x 7), .int (upd f 6 x 8), .int (upd f 6 x 9), .int (upd f 6 x 10)] := rfl
theorem cs5_7  (f : Nat → Int32) (x : Int32) : ([.int (f 0), .int (f 1), .int (f 2), .int (f 3), .int (f 4), .int (f 5), .int (f 6), .int (f 7), .int (f 8), .int (f 9), .int (f 10)] : List Value).set 7 (.int x) = [.int (upd f 7 x 0), .int (upd f 7 x 1), .int (upd f 7 x 2), .int (upd f 7 x 3), .int (upd f 7 x 4), .int (upd f 7 x 5), .int (upd f 7 x 6), .int (upd f 7 x 7), .int (upd f 7 x 8), .int (upd f 7 x 9), .int (upd f 7 x 10)] := rfl
theorem cs5_8  (f : Nat → Int32) (x : Int32) : ([.int (f 0), .int (f 1), .int (f 2), .int (f 3), .int (f 4), .int (f 5), .int (f 6), .int (f 7), .int (f 8), .int (f 9), .int (f 10)] : List Value).set 8 (.int x) = [.int (upd f 8 x 0), .int (upd f 8 x 1), .int (upd f 8 x 2), .int (upd f 8 x 3), .int (upd f 8 x 4), .int (upd f 8 x 5), .int (upd f 8 x 6), .int (upd f 8 x 7), .int (upd f 8 x 8), .int (upd f 8 x 9), .int (upd f 8 x 10)] := rfl
theorem cs5_9  (f : Nat → Int32) (x : Int32) : ([.int (f 0), .int (f 1), .int (f 2), .int (f 3), .int (f 4), .int (f 5), .int (f 6), .int (f 7), .int (f 8), .int (f 9), .int (f 10)] : List Value).set 9 (.int x) = [.int (upd f 9 x 0), .int (upd f 9 x 1), .int (upd f 9 x 2), .int (upd f 9 x 3), .int (upd f 9 x 4), .int (upd f 9 x 5), .int (upd f 9 x 6), .int (upd f 9 x 7), .int (upd f 9 x 8), .int (upd f 9 x 9), .int (upd f 9 x 10)] := rfl
theorem cs5_10  (f : Nat → Int32) (x : Int32) : ([.int (f 0), .int (f 1), .int (f 2), .int (f 3), .int (f 4), .int (f 5), .int (f 6), .int (f 7), .int (f 8), .int (f 9), .int (f 10)] : List Value).set 10 (.int x) = [.int (upd f 10 x 0), .int (upd f 10 x 1), .int (upd f 10 x 2), .int (upd f 10 x 3), .int (upd f 10 x 4), .int (upd f 10 x 5), .int (upd f 10 x 6), .int (upd f 10 x 7), .int (upd f 10 x 8), .int (upd f 10 x 9), .int (upd f 10 x 10)] := rfl
theorem cs6_5 (v0 : Value) (v1 : Value) (v2 : Value) (v3 : Value) (v4 : Value) (f : Nat → Int32) (x : Int32) : ([v0, v1, v2, v3, v4, .int (f 5), .int (f 6)] : List Value).set 5 (.int x) = [v0, v1, v2, v3, v4, .int (upd f 5 x 5), .int (upd f 5 x 6)] := rfl
theorem cs6_6 (v0 : Value) (v1 : Value) (v2 : Value) (v3 : Value) (v4 : Value) (f : Nat → Int32) (x : Int32) : ([v0, v1, v2, v3, v4, .int (f 5), .int (f 6)] : List Value).set 6 (.int x) = [v0, v1, v2, v3, v4, .int (upd f 6 x 5), .int (upd f 6 x 6)] := rfl
theorem cs7_0 (v25 : Value) (v26 : Value) (v27 : Value) (v29 : Value) (v30 : Value) (v31 : Value) (f : Nat → Int32) (x : Int32) : ([.int (f 0), .int (f 1), .int (f 2), .int (f 3), .int (f 4), .int (f 5), .int (f 6), .int (f 7), .int (f 8), .int (f 9), .int (f 10), .int (f 11), .int (f 12), .int (f 13), .int (f 14), .int (f 15), .int (f 16), .int (f 17), .int (f 18), .int (f 19), .int (f 20), .int (f 21), .int (f 22), .int (f 23), .int (f 24), v25, v26, v27, .int (f 28), v29, v30, v31, .int (f 32), .int (f 33), .int (f 34)] : List Value).set 0 (.int x) = [.int (upd f 0 x 0), .int (upd f 0 x 1), .int (upd f 0 x 2), .int (upd f 0 x 3), .int (upd f 0 x 4), .int (upd f 0 x 5), .int (upd f 0 x 6), .int (upd f 0 x 7), .int (upd f 0 x 8), .int (upd f 0 x 9), .int (upd f 0 x 10), .int (upd f 0 x 11), .int (upd f 0 x 12), .int (upd f 0 x 13), .int (upd f 0 x 14), .int (upd f 0 x 15), .int (upd f 0 x 16), .int (upd f 0 x 17), .int (upd f 0 x 18), .int (upd f 0 x 19), .int (upd f 0 x 20), .int (upd f 0 x 21), .int (upd f 0 x 22), .int (upd f 0 x 23), .int (upd f 0 x 24), v25, v26, v27, .int (upd f 0 x 28), v29, v30, v31, .int (upd f 0 x 32), .int (upd f 0 x 33), .int (upd f 0 x 34)] := rfl
theorem cs7_1 (v25 : Value) (v26 : Value) (v27 : Value) (v29 : Value) (v30 : Value) (v31 : Value) (f : Nat → Int32) (x : Int32) : ([.int (f 0), .int (f 1), .int (f 2), .int (f 3), .int (f 4), .int (f 5), .int (f 6), .int (f 7), .int (f 8), .int (f 9), .int (f 10), .int (f 11), .int (f 12), .int (f 13), .int (f 14), .int (f 15), .int (f 16), .int (f 17), .int (f 18), .int (f 19), .int (f 20), .int (f 21), .int (f 22), .int (f 23), .int (f 24), v25, v26, v27, .int (f 28), v29, v30, v31, .int (f 32), .int (f 33), .int (f 34)] : List Value).set 1 (.int x) = [.int (upd f 1 x 0), .int (upd f 1 x 1), .int (upd f 1 x 2), .int (upd f 1 x 3), .int (upd f 1 x 4), .int (upd f 1 x 5), .int (upd f 1 x 6), .int (upd f 1 x 7), .int (upd f 1 x 8), .int (upd f 1 x 9), .int (upd f 1 x 10), .int (upd f 1 x 11), .int (upd f 1 x 12), .int (upd f 1 x 13), .int (upd f 1 x 14), .int (upd f 1 x 15), .int (upd f 1 x 16), .int (upd f 1 x 17), .int (upd f 1 x 18), .int (upd f 1 x 19), .int (upd f 1 x 20), .int (upd f 1 x 21), .int (upd f 1 x 22), .int (upd f 1 x 23), .int (upd f 1 x 24), v25, v26, v27, .int (upd f 1 x 28), v29, v30, v31, .int (upd f 1 x 32), .int (upd f 1 x 33), .int (upd f 1 x 34)] := rfl
theorem cs7_2 (v25 : Value) (v26 : Value) (v27 : Value) (v29 : Value) (v30 : Value) (v31 : Value) (f : Nat → Int32) (x : Int32) : ([.int (f 0), .int (f 1), .int (f 2), .int (f 3), .int (f 4), .int (f 5), .int (f 6), .int (f 7), .int (f 8), .int (f 9), .int (f 10), .int (f 11), .int (f 12), .int (f 13), .int (f 14), .int (f 15), .int (f 16), .int (f 17), .int (f 18), .int (f 19), .int (f 20), .int (f 21), .int (f 22), .int (f 23), .int (f 24), v25, v26, v27, .int (f 28), v29, v30, v31, .int (f 32), .int (f 33), .int (f 34)] : List Value).set 2 (.int x) = [.int (upd f 2 x 0), .int (upd f 2 x 1), .int (upd f 2 x 2), .int (upd f 2 x 3), .int (upd f 2 x 4), .int (upd f 2 x 5), .int (upd f 2 x 6), .int (upd f 2 x 7), .int (upd f 2 x 8), .int (upd f 2 x 9), .int (upd f 2 x 10), .int (upd f 2 x 11), .int (upd f 2 x 12), .int (upd f 2 x 13), .int (upd f 2 x 14), .int (upd f 2 x 15), .int (upd f 2 x 16), .int (upd f 2 x 17), .int (upd f 2 x 18), .int (upd f 2 x 19), .int (upd f 2 x 20), .int (upd f 2 x 21), .int (upd f 2 x 22), .int (upd f 2 x 23), .int (upd f 2 x 24), v25, v26, v27, .int (upd f 2 x 28), v29, v30, v31, .int (upd f 2 x 32), .int (upd f 2 x 33), .int (upd f 2 x 34)] := rfl
theorem cs7_3 (v25 : Value) (v26 : Value) (v27 : Value) (v29 : Value) (v30 : Value) (v31 : Value) (f : Nat → Int32) (x : Int32) : ([.int (f 0), .int (f 1), .int (f 2), .int (f 3), .int (f 4), .int (f 5), .int (f 6), .int (f 7), .int (f 8), .int (f 9), .int (f 10), .int (f 11), .int (f 12), .int (f 13), .int (f 14), .int (f 15), .int (f 16), .int (f 17), .int (f 18), .int (f 19), .int (f 20), .int (f 21), .int (f 22), .int (f 23), .int (f 24), v25, v26, v27, .int (f 28), v29, v30, v31, .int (f 32), .int (f 33), .int (f 34)] : List Value).set 3 (.int x) = [.int (upd f 3 x 0), .int (upd f 3 x 1), .int (upd f 3 x 2), .int (upd f 3 x 3), .int (upd f 3 x 4), .int (upd f 3 x 5), .int (upd f 3 x 6), .int (upd f 3 x 7), .int (upd f 3 x 8), .int (upd f 3 x 9), .int (upd f 3 x 10), .int (upd f 3 x 11), .int (upd f 3 x 12), .int (upd f 3 x 13), .int (upd f 3 x 14), .int (upd f 3 x 15), .int (upd f 3 x 16), .int (upd f 3 x 17), .int (upd f 3 x 18), .int (upd f 3 x 19), .int (upd f 3 x 20), .int (upd f 3 x 21), .int (upd f 3 x 22), .int (upd f 3 x 23), .int (upd f 3 x 24), v25, v26, v27, .int (upd f 3 x 28), v29, v30, v31, .int (upd f 3 x 32), .int (upd f 3 x 33), .int (upd f 3 x 34)] := rfl
theorem cs7_4 (v25 : Value) (v26 : Value) (v27 : Value) (v29 : Value) (v30 : Value) (v31 : Value) (f : Nat → Int32) (x : Int32) : ([.int (f 0), .int (f 1), .int (f 2), .int (f 3), .int (f 4), .int (f 5), .int (f 6), .int (f 7), .int (f 8), .int (f 9), .int (f 10), .int (f 11), .int (f 12), .int (f 13), .int (f 14), .int (f 15), .int (f 16), .int (f 17), .int (f 18), .int (f 19), .int (f 20), .int (f 21), .int (f 22), .int (f 23), .int (f 24), v25, v26, v27, .int (f 28), v29, v30, v31, .int (f 32), .int (f 33), .int (f 34)] : List Value).set 4 (.int x) = [.int (upd f 4 x 0), .int (upd f 4 x 1), .int (upd f 4 x 2), .int (upd f 4 x 3), .int (upd f 4 x 4), .int (upd f 4 x 5), .int (upd f 4 x 6), .int (upd f 4 x 7), .int (upd f 4 x 8), .int (upd f 4 x 9), .int (upd f 4 x 10), .int (upd f 4 x 11), .int (upd f 4 x 12), .int (upd f 4 x 13), .int (upd f 4 x 14), .int (upd f 4 x 15), .int (upd f 4 x 16), .int (upd f 4 x 17), .int (upd f 4 x 18), .int (upd f 4 x 19), .int (upd f 4 x 20), .int (upd f 4 x 21), .int (upd f 4 x 22), .int (upd f 4 x 23), .int (upd f 4 x 24), v25, v26, v27, .int (upd f 4 x 28), v29, v30, v31, .int (upd f 4 x 32), .int (upd f 4 x 33), .int (upd f 4 x 34)] := rfl
theorem cs7_5 (v25 : Value) (v26 : Value) (v27 : Value) (v29 : Value) (v30 : Value) (v31 : Value) (f : Nat → Int32) (x : Int32) : ([.int (f 0), .int (f 1), .int (f 2), .int (f 3), .int (f 4), .int (f 5), .int (f 6), .int (f 7), .int (f 8), .int (f 9), .int (f 10), .int (f 11), .int (f 12), .int (f 13), .int (f 14), .int (f 15), .int (f 16), .int (f 17), .int (f 18), .int (f 19), .int (f 20), .int (f 21), .int (f 22), .int (f 23), .int (f 24), v25, v26, v27, .int (f 28), v29, v30, v31, .int (f 32), .int (f 33), .int (f 34)] : List Value).set 5 (.int x) = [.int (upd f 5 x 0), .int (upd f 5 x 1), .int (upd f 5 x 2), .int (upd f 5 x 3), .int (upd f 5 x 4), .int (upd f 5 x 5), .int (upd f 5 x 6), .int (upd f 5 x 7), .int (upd f 5 x 8), .int (upd f 5 x 9), .int (upd f 5 x 10), .int (upd f 5 x 11), .int (upd f 5 x 12), .int (upd f 5 x 13), .int (upd f 5 x 14), .int (upd f 5 x 15), .int (upd f 5 x 16), .int (upd f 5 x 17), .int (upd f 5 x 18), .int (upd f 5 x 19), .int (upd f 5 x 20), .int (upd f 5 x 21), .int (upd f 5 x 22), .int (upd f 5 x 23), .int (upd f 5 x 24), v25, v26, v27, .int (upd f 5 x 28), v29, v30, v31, .int (upd f 5 x 32), .int (upd f 5 x 33), .int (upd f 5 x 34)] := rfl
theorem cs7_6 (v25 : Value) (v26 : Value) (v27 : Value) (v29 : Value) (v30 : Value) (v31 : Value) (f : Nat → Int32) (x : Int32) : ([.int (f 0), .int (f 1), .int (f 2), .int (f 3), .int (f 4), .int (f 5), .int (f 6), .int (f 7), .int (f 8), .int (f 9), .int (f 10), .int (f 11), .int (f 12), .int (f 13), .int (f 14), .int (f 15), .int (f 16), .int (f 17), .int (f 18), .int (f 19), .int (f 20), .int (f 21), .int (f 22), .int (f 23), .int (f 24), v25, v26, v27, .int (f 28), v29, v30, v31, .int (f 32), .int (f 33), .int (f 34)] : List Value).set 6 (.int x) = [.int (upd f 6 x 0), .int (upd f 6 x 1), .int (upd f 6 x 2), .int (upd f 6 x 3), .int (upd f 6 x 4), .int (upd f 6 x 5), .int (upd f 6 x 6), .int (upd f 6 x 7), .int (upd f 6 x 8), .int (upd f 6 x 9), .int (upd f 6 x 10), .int (upd f 6 x 11), .int (upd f 6 x 12), .int (upd f 6 x 13), .int (upd f 6 x 14), .int (upd f 6 x 15), .int (upd f 6 x 16), .int (upd f 6 x 17), .int (upd f 6 x 18), .int (upd f 6 x 19), .int (upd f 6 x 20), .int (upd f 6 x 21), .int (upd f 6 x 22), .int (upd f 6 x 23), .int (upd f 6 x 24), v25, v26, v27, .int (upd f 6 x 28), v29, v30, v31, .int (upd f 6 x 32), .int (upd f 6 x 33), .int (upd f 6 x 34)] := rfl
theorem cs7_7 (v25 : Value) (v26 : Value) (v27 : Value) (v29 : Value) (v30 : Value) (v31 : Value) (f : Nat → Int32) (x : Int32) : ([.int (f 0), .int (f 1), .int (f 2), .int (f 3), .int (f 4), .int (f 5), .int (f 6), .int (f 7), .int (f 8), .int (f 9), .int (f 10), .int (f 11), .int (f 12), .int (f 13), .int (f 14), .int (f 15), .int (f 16), .int (f 17), .int (f 18), .int (f 19), .int (f 20), .int (f 21), .int (f 22), .int (f 23), .int (f 24), v25, v26, v27, .int (f 28), v29, v30, v31, .int (f 32), .int (f 33), .int (f 34)] : List Value).set 7 (.int x) = [.int (upd f 7 x 0), .int (upd f 7 x 1), .int (upd f 7 x 2), .int (upd f 7 x 3), .int (upd f 7 x 4), .int (upd f 7 x 5), .int (upd f 7 x 6), .int (upd f 7 x 7), .int (upd f 7 x 8), .int (upd f 7 x 9), .int (upd f 7 x 10), .int (upd f 7 x 11), .int (upd f 7 x 12), .int (upd f 7 x 13), .int (upd f 7 x 14), .int (upd f 7 x 15), .int (upd f 7 x 16), .int (upd f 7 x 17), .int (upd f 7 x 18), .int (upd f 7 x 19), .int (upd f 7 x 20), .int (upd f 7 x 21), .int (upd f 7 x 22), .int (upd f 7 x 23), .int (upd f 7 x 24), v25, v26, v27, .int (upd f 7 x 28), v29, v30, v31, .int (upd f 7 x 32), .int (upd f 7 x 33), .int (upd f 7 x 34)] := rfl
theorem cs7_8 (v25 : Value) (v26 : Value) (v27 : Value) (v29 : Value) (v30 : Value) (v31 : Value) (f : Nat → Int32) (x : Int32) : ([.int (f 0), .int (f 1), .int (f 2), .int (f 3), .int (f 4), .int (f 5), .int (f 6), .int (f 7), .int (f 8), .int (f 9), .int (f 10), .int (f 11), .int (f 12), .int (f 13), .int (f 14), .int (f 15), .int (f 16), .int (f 17), .int (f 18), .int (f 19), .int (f 20), .int (f 21), .int (f 22), .int (f 23), .int (f 24), v25, v26, v27, .int (f 28), v29, v30, v31, .int (f 32), .int (f 33), .int (f 34)] : List Value).set 8 (.int x) = [.int (upd f 8 x 0), .int (upd f 8 x 1), .int (upd f 8 x 2), .int (upd f 8 x 3), .int (upd f 8 x 4), .int (upd f 8 x 5), .int (upd f 8 x 6), .int (upd f 8 x 7), .int (upd f 8 x 8), .int (upd f 8 x 9), .int (upd f 8 x 10), .int (upd f 8 x 11), .int (upd f 8 x 12), .int (upd f 8 x 13), .int (upd f 8 x 14), .int (upd f 8 x 15), .int (upd f 8 x 16), .int (upd f 8 x 17), .int (upd f 8 x 18), .int (upd f 8 x 19), .int (upd f 8 x 20), .int (upd f 8 x 21), .int (upd f 8 x 22), .int (upd f 8 x 23), .int (upd f 8 x 24), v25, v26, v27, .int (upd f 8 x 28), v29, v30, v31, .int (upd f 8 x 32), .int (upd f 8 x 33), .int (upd f 8 x 34)] := rfl
theorem cs7_9 (v25 : Value) (v26 : Value) (v27 : Value) (v29 : Value) (v30 : Value) (v31 : Value) (f : Nat → Int32) (x : Int32) : ([.int (f 0), .int (f 1), .int (f 2), .int (f 3), .int (f 4), .int (f 5), .int (f 6), .int (f 7), .int (f 8), .int (f 9), .int (f 10), .int (f 11), .int (f 12), .int (f 13), .int (f 14), .int (f 15), .int (f 16), .int (f 17), .int (f 18), .int (f 19), .int (f 20), .int (f 21), .int (f 22), .int (f 23), .int (f 24), v25, v26, v27, .int (f 28), v29, v30, v31, .int (f 32), .int (f 33), .int (f 34)] : List Value).set 9 (.int x) = [.int (upd f 9 x 0), .int (upd f 9 x 1), .int (upd f 9 x 2), .int (upd f 9 x 3), .int (upd f 9 x 4), .int (upd f 9 x 5), .int (upd f 9 x 6), .int (upd f 9 x 7), .int (upd f 9 x 8), .int (upd f 9 x 9), .int (upd f 9 x 10), .int (upd f 9 x 11), .int (upd f 9 x 12), .int (upd f 9 x 13), .int (upd f 9 x 14), .int (upd f 9 x 15), .int (upd f 9 x 16), .int (upd f 9 x 17), .int (upd f 9 x 18), .int (upd f 9 x 19), .int (upd f 9 x 20), .int (upd f 9 x 21), .int (upd f 9 x 22), .int (upd f 9 x 23), .int (upd f 9 x 24), v25, v26, v27, .int (upd f 9 x 28), v29, v30, v31, .int (upd f 9 x 32), .int (upd f 9 x 33), .int (upd f 9 x 34)] := rfl
theorem cs7_10 (v25 : Value) (v26 : Value) (v27 : Value) (v29 : Value) (v30 : Value) (v31 : Value) (f : Nat → Int32) (x : Int32) : ([.int (f 0), .int (f 1), .int (f 2), .int (f 3), .int (f 4), .int (f 5), .int (f 6), .int (f 7), .int (f 8), .int (f 9), .int (f 10), .int (f 11), .int (f 12), .int (f 13), .int (f 14), .int (f 15), .int (f 16), .int (f 17), .int (f 18), .int (f 19), .int (f 20), .int (f 21), .int (f 22), .int (f 23), .int (f 24), v25, v26, v27, .int (f 28), v29, v30, v31, .int (f 32), .int (f 33), .int (f 34)] : List Value).set 10 (.int x) = [.int (upd f 10 x 0), .int (upd f 10 x 1), .int (upd f 10 x 2), .int (upd f 10 x 3), .int (upd f 10 x 4), .int (upd f 10 x 5), .int (upd f 10 x 6), .int (upd f 10 x 7), .int (upd f 10 x 8), .int (upd f 10 x 9), .int (upd f 10 x 10), .int (upd f 10 x 11), .int (upd f 10 x 12), .int (upd f 10 x 13), .int (upd f 10 x 14), .int (upd f 10 x 15), .int (upd f 10 x 16), .int (upd f 10 x 17), .int (upd f 10 x 18), .int (upd f 10 x 19), .int (upd f 10 x 20), .int (upd f 10 x 21), .int (upd f 10 x 22), .int (upd f 10 x 23), .int (upd f 10 x 24), v25, v26, v27, .int (upd f 10 x 28), v29, v30, v31, .int (upd f 10 x 32), .int (upd f 10 x 33), .int (upd f 10 x 34)] := rfl
theorem cs7_11 (v25 : Value) (v26 : Value) (v27 : Value) (v29 : Value) (v30 : Value) (v31 : Value) (f : Nat → Int32) (x : Int32) : ([.int (f 0), .int (f 1), .int (f 2), .int (f 3), .int (f 4), .int (f 5), .int (f 6), .int (f 7), .int (f 8), .int (f 9), .int (f 10), .int (f 11), .int (f 12), .int (f 13), .int (f 14), .int (f 15), .int (f 16), .int (f 17), .int (f 18), .int (f 19), .int (f 20), .int (f 21), .int (f 22), .int (f 23), .int (f 24), v25, v26, v27, .int (f 28), v29, v30, v31, .int (f 32), .int (f 33), .int (f 34)] : List Value).set 11 (.int x) = [.int (upd f 11 x 0), .int (upd f 11 x 1), .int (upd f 11 x 2), .int (upd f 11 x 3), .int (upd f 11 x 4), .int (upd f 11 x 5), .int (upd f 11 x 6), .int (upd f 11 x 7), .int (upd f 11 x 8), .int (upd f 11 x 9), .int (upd f 11 x 10), .int (upd f 11 x 11), .int (upd f 11 x 12), .int (upd f 11 x 13), .int (upd f 11 x 14), .int (upd f 11 x 15), .int (upd f 11 x 16), .int (upd f 11 x 17), .int (upd f 11 x 18), .int (upd f 11 x 19), .int (upd f 11 x 20), .int (upd f 11 x 21), .int (upd f 11 x 22), .int (upd f 11 x 23), .int (upd f 11 x 24), v25, v26, v27, .int (upd f 11 x 28), v29, v30, v31, .int (upd f 11 x 32), .int (upd f 11 x 33), .int (upd f 11 x 34)] := rfl
theorem cs7_12 (v25 : Value) (v26 : Value) (v27 : Value) (v29 : Value) (v30 : Value) (v31 : Value) (f : Nat → Int32) (x : Int32) : ([.int (f 0), .int (f 1), .int (f 2), .int (f 3), .int (f 4), .int (f 5), .int (f 6), .int (f 7), .int (f 8), .int (f 9), .int (f 10), .int (f 11), .int (f 12), .int (f 13), .int (f 14), .int (f 15), .int (f 16), .int (f 17), .int (f 18), .int (f 19), .int (f 20), .int (f 21), .int (f 22), .int (f 23), .int (f 24), v25, v26, v27, .int (f 28), v29, v30, v31, .int (f 32), .int (f 33), .int (f 34)] : List Value).set 12 (.int x) = [.int (upd f 12 x 0), .int (upd f 12 x 1), .int (upd f 12 x 2), .int (upd f 12 x 3), .int (upd f 12 x 4), .int (upd f 12 x 5), .int (upd f 12 x 6), .int (upd f 12 x 7), .int (upd f 12 x 8), .int (upd f 12 x 9), .int (upd f 12 x 10), .int (upd f 12 x 11), .int (upd f 12 x 12), .int (upd f 12 x 13), .int (upd f 12 x 14), .int (upd f 12 x 15), .int (upd f 12 x 16), .int (upd f 12 x 17), .int (upd f 12 x 18), .int (upd f 12 x 19), .int (upd f 12 x 20), .int (upd f 12 x 21), .int (upd f 12 x 22), .int (upd f 12 x 23), .int (upd f 12 x 24), v25, v26, v27, .int (upd f 12 x 28), v29, v30, v31, .int (upd f 12 x 32), .int (upd f 12 x 33), .int (upd f 12 x 34)] := rfl
theorem cs7_13 (v25 : Value) (v26 : Value) (v27 : Value) (v29 : Value) (v30 : Value) (v31 : Value) (f : Nat → Int32) (x : Int32) : ([.int (f 0), .int (f 1), .int (f 2), .int (f 3), .int (f 4), .int (f 5), .int (f 6), .int (f 7), .int (f 8), .int (f 9), .int (f 10), .int (f 11), .int (f 12), .int (f 13), .int (f 14), .int (f 15), .int (f 16), .int (f 17), .int (f 18), .int (f 19), .int (f 20), .int (f 21), .int (f 22), .int (f 23), .int (f 24), v25, v26, v27, .int (f 28), v29, v30, v31, .int (f 32), .int (f 33), .int (f 34)] : List Value).set 13 (.int x) = [.int (upd f 13 x 0), .int (upd f 13 x 1), .int (upd f 13 x 2), .int (upd f 13 x 3), .int (upd f 13 x 4), .int (upd f 13 x 5), .int (upd f 13 x 6), .int (upd f 13 x 7), .int (upd f 13 x 8), .int (upd f 13 x 9), .int (upd f 13 x 10), .int (upd f 13 x 11), .int (upd f 13 x 12), .int (upd f 13 x 13), .int (upd f 13 x 14), .int (upd f 13 x 15), .int (upd f 13 x 16), .int (upd f 13 x 17), .int (upd f 13 x 18), .int (upd f 13 x 19), .int (upd f 13 x 20), .int (upd f 13 x 21), .int (upd f 13 x 22), .int (upd f 13 x 23), .int (upd f 13 x 24), v25, v26, v27, .int (upd f 13 x 28), v29, v30, v31, .int (upd f 13 x 32), .int (upd f 13 x 33), .int (upd f 13 x 34)] := rfl
theorem cs7_14 (v25 : Value) (v26 : Value) (v27 : Value) (v29 : Value) (v30 : Value) (v31 : Value) (f : Nat → Int32) (x : Int32) : ([.int (f 0), .int (f 1), .int (f 2), .int (f 3), .int (f 4), .int (f 5), .int (f 6), .int (f 7), .int (f 8), .int (f 9), .int (f 10), .int (f 11), .int (f 12), .int (f 13), .int (f 14), .int (f 15), .int (f 16), .int (f 17), .int (f 18), .int (f 19), .int (f 20), .int (f 21), .int (f 22), .int (f 23), .int (f 24), v25, v26, v27, .int (f 28), v29, v30, v31, .int (f 32), .int (f 33), .int (f 34)] : List Value).set 14 (.int x) = [.int (upd f 14 x 0), .int (upd f 14 x 1), .int (upd f 14 x 2), .int (upd f 14 x 3), .int (upd f 14 x 4), .int (upd f 14 x 5), .int (upd f 14 x 6), .int (upd f 14 x 7), .int (upd f 14 x 8), .int (upd f 14 x 9), .int (upd f 14 x 10), .int (upd f 14 x 11), .int (upd f 14 x 12), .int (upd f 14 x 13), .int (upd f 14 x 14), .int (upd f 14 x 15), .int (upd f 14 x 16), .int (upd f 14 x 17), .int (upd f 14 x 18), .int (upd f 14 x 19), .int (upd f 14 x 20), .int (upd f 14 x 21), .int (upd f 14 x 22), .int (upd f 14 x 23), .int (upd f 14 x 24), v25, v26, v27, .int (upd f 14 x 28), v29, v30, v31, .int (upd f 14 x 32), .int (upd f 14 x 33), .int (upd f 14 x 34)] := rfl
theorem cs7_15 (v25 : Value) (v26 : Value) (v27 : Value) (v29 : Value) (v30 : Value) (v31 : Value) (f : Nat → Int32) (x : Int32) : ([.int (f 0), .int (f 1), .int (f 2), .int (f 3), .int (f 4), .int (f 5), .int (f 6), .int (f 7), .int (f 8), .int (f 9), .int (f 10), .int (f 11), .int (f 12), .int (f 13), .int (f 14), .int (f 15), .int (f 16), .int (f 17), .int (f 18), .int (f 19), .int (f 20), .int (f 21), .int (f 22), .int (f 23), .int (f 24), v25, v26, v27, .int (f 28), v29, v30, v31, .int (f 32), .int (f 33), .int (f 34)] : List Value).set 15 (.int x) = [.int (upd f 15 x 0), .int (upd f 15 x 1), .int (upd f 15 x 2), .int (upd f 15 x 3), .int (upd f 15 x 4), .int (upd f 15 x 5), .int (upd f 15 x 6), .int (upd f 15 x 7), .int (upd f 15 x 8), .int (upd f 15 x 9), .int (upd f 15 x 10), .int (upd f 15 x 11), .int (upd f 15 x 12), .int (upd f 15 x 13), .int (upd f 15 x 14), .int (upd f 15 x 15), .int (upd f 15 x 16), .int (upd f 15 x 17), .int (upd f 15 x 18), .int (upd f 15 x 19), .int (upd f 15 x 20), .int (upd f 15 x 21), .int (upd f 15 x 22), .int (upd f 15 x 23), .int (upd f 15 x 24), v25, v26, v27, .int (upd f 15 x 28), v29, v30, v31, .int (upd f 15 x 32), .int (upd f 15 x 33), .int (upd f 15 x 34)] := rfl
theorem cs7_16 (v25 : Value) (v26 : Value) (v27 : Value) (v29 : Value) (v30 : Value) (v31 : Value) (f : Nat → Int32) (x : Int32) : ([.int (f 0), .int (f 1), .int (f 2), .int (f 3), .int (f 4), .int (f 5), .int (f 6), .int (f 7), .int (f 8), .int (f 9), .int (f 10), .int (f 11), .int (f 12), .int (f 13), .int (f 14), .int (f 15), .int (f 16), .int (f 17), .int (f 18), .int (f 19), .int (f 20), .int (f 21), .int (f 22), .int (f 23), .int (f 24), v25, v26, v27, .int (f 28), v29, v30, v31, .int (f 32), .int (f 33), .int (f 34)] : List Value).set 16 (.int x) = [.int (upd f 16 x 0), .int (upd f 16 x 1), .int (upd f 16 x 2), .int (upd f 16 x 3), .int (upd f 16 x 4), .int (upd f 16 x 5), .int (upd f 16 x 6), .int (upd f 16 x 7), .int (upd f 16 x 8), .int (upd f 16 x 9), .int (upd f 16 x 10), .int (upd f 16 x 11), .int (upd f 16 x 12), .int (upd f 16 x 13), .int (upd f 16 x 14), .int (upd f 16 x 15), .int (upd f 16 x 16), .int (upd f 16 x 17), .int (upd f 16 x 18), .int (upd f 16 x 19), .int (upd f 16 x 20), .int (upd f 16 x 21), .int (upd f 16 x 22), .int (upd f 16 x 23), .int (upd f 16 x 24), v25, v26, v27, .int (upd f 16 x 28), v29, v30, v31, .int (upd f 16 x 32), .int (upd f 16 x 33), .int (upd f 16 x 34)] := rfl
theorem cs7_17 (v25 : Value) (v26 : Value) (v27 : Value) (v29 : Value) (v30 : Value) (v31 : Value) (f : Nat → Int32) (x : Int32) : ([.int (f 0), .int (f 1), .int (f 2), .int (f 3), .int (f 4), .int (f 5), .int (f 6), .int (f 7), .int (f 8), .int (f 9), .int (f 10), .int (f 11), .int (f 12), .int (f 13), .int (f 14), .int (f 15), .int (f 16), .int (f 17), .int (f 18), .int (f 19), .int (f 20), .int (f 21), .int (f 22), .int (f 23), .int (f 24), v25, v26, v27, .int (f 28), v29, v30, v31, .int (f 32), .int (f 33), .int (f 34)] : List Value).set 17 (.int x) = [.int (upd f 17 x 0), .int (upd f 17 x 1), .int (upd f 17 x 2), .int (upd f 17 x 3), .int (upd f 17 x 4), .int (upd f 17 x 5), .int (upd f 17 x 6), .int (upd f 17 x 7), .int (upd f 17 x 8), .int (upd f 17 x 9), .int (upd f 17 x 10), .int (upd f 17 x 11), .int (upd f 17 x 12), .int (upd f 17 x 13), .int (upd f 17 x 14), .int (upd f 17 x 15), .int (upd f 17 x 16), .int (upd f 17 x 17), .int (upd f 17 x 18), .int (upd f 17 x 19), .int (upd f 17 x 20), .int (upd f 17 x 21), .int (upd f 17 x 22), .int (upd f 17 x 23), .int (upd f 17 x 24), v25, v26, v27, .int (upd f 17 x 28), v29, v30, v31, .int (upd f 17 x 32), .int (upd f 17 x 33), .int (upd f 17 x 34)] := rfl
theorem cs7_18 (v25 : Value) (v26 : Value) (v27 : Value) (v29 : Value) (v30 : Value) (v31 : Value) (f : Nat → Int32) (x : Int32) : ([.int (f 0), .int (f 1), .int (f 2), .int (f 3), .int (f 4), .int (f 5), .int (f 6), .int (f 7), .int (f 8), .int (f 9), .int (f 10), .int (f 11), .int (f 12), .int (f 13), .int (f 14), .int (f 15), .int (f 16), .int (f 17), .int (f 18), .int (f 19), .int (f 20), .int (f 21), .int (f 22), .int (f 23), .int (f 24), v25, v26, v27, .int (f 28), v29, v30, v31, .int (f 32), .int (f 33), .int (f 34)] : List Value).set 18 (.int x) = [.int (upd f 18 x 0), .int (upd f 18 x 1), .int (upd f 18 x 2), .int (upd f 18 x 3), .int (upd f 18 x 4), .int (upd f 18 x 5), .int (upd f 18 x 6), .int (upd f 18 x 7), .int (upd f 18 x 8), .int (upd f 18 x 9), .int (upd f 18 x 10), .int (upd f 18 x 11), .int (upd f 18 x 12), .int (upd f 18 x 13), .int (upd f 18 x 14), .int (upd f 18 x 15), .int (upd f 18 x 16), .int (upd f 18 x 17), .int (upd f 18 x 18), .int (upd f 18 x 19), .int (upd f 18 x 20), .int (upd f 18 x 21), .int (upd f 18 x 22), .int (upd f 18 x 23), .int (upd f 18 x 24), v25, v26, v27, .int (upd f 18 x 28), v29, v30, v31, .int (upd f 18 x 32), .int (upd f 18 x 33), .int (upd f 18 x 34)] := rfl
theorem cs7_19 (v25 : Value) (v26 : Value) (v27 : Value) (v29 : Value) (v30 : Value) (v31 : Value) (f : Nat → Int32) (x : Int32) : ([.int (f 0), .int (f 1), .int (f 2), .int (f 3), .int (f 4), .int (f 5), .int (f 6), .int (f 7), .int (f 8), .int (f 9), .int (f 10), .int (f 11), .int (f 12), .int (f 13), .int (f 14), .int (f 15), .int (f 16), .int (f 17), .int (f 18), .int (f 19), .int (f 20), .int (f 21), .int (f 22), .int (f 23), .int (f 24), v25, v26, v27, .int (f 28), v29, v30, v31, .int (f 32), .int (f 33), .int (f 34)] : List Value).set 19 (.int x) = [.int (upd f 19 x 0), .int (upd f 19 x 1), .int (upd f 19 x 2), .int (upd f 19 x 3), .int (upd f 19 x 4), .int (upd f 19 x 5), .int (upd f 19 x 6), .int (upd f 19 x 7), .int (upd f 19 x 8), .int (upd f 19 x 9), .int (upd f 19 x 10), .int (upd f 19 x 11), .int (upd f 19 x 12), .int (upd f 19 x 13), .int (upd f 19 x 14), .int (upd f 19 x 15), .int (upd f 19 x 16), .int (upd f 19 x 17), .int (upd f 19 x 18), .int (upd f 19 x 19), .int (upd f 19 x 20), .int (upd f 19 x 21), .int (upd f 19 x 22), .int (upd f 19 x 23), .int (upd f 19 x 24), v25, v26, v27, .int (upd f 19 x 28), v29, v30, v31, .int (upd f 19 x 32), .int (upd f 19 x 33), .int (upd f 19 x 34)] := rfl
theorem cs7_20 (v25 : Value) (v26 : Value) (v27 : Value) (v29 : Value) (v30 : Value) (v31 : Value) (f : Nat → Int32) (x : Int32) : ([.int (f 0), .int (f 1), .int (f 2), .int (f 3), .int (f 4), .int (f 5), .int (f 6), .int (f 7), .int (f 8), .int (f 9), .int (f 10), .int (f 11), .int (f 12), .int (f 13), .int (f 14), .int (f 15), .int (f 16), .int (f 17), .int (f 18), .int (f 19), .int (f 20), .int (f 21), .int (f 22), .int (f 23), .int (f 24), v25, v26, v27, .int (f 28), v29, v30, v31, .int (f 32), .int (f 33), .int (f 34)] : List Value).set 20 (.int x) = [.int (upd f 20 x 0), .int (upd f 20 x 1), .int (upd f 20 x 2), .int (upd f 20 x 3), .int (upd f 20 x 4), .int (upd f 20 x 5), .int (upd f 20 x 6), .int (upd f 20 x 7), .int (upd f 20 x 8), .int (upd f 20 x 9), .int (upd f 20 x 10), .int (upd f 20 x 11), .int (upd f 20 x 12), .int (upd f 20 x 13), .int (upd f 20 x 14), .int (upd f 20 x 15), .int (upd f 20 x 16), .int (upd f 20 x 17), .int (upd f 20 x 18), .int (upd f 20 x 19), .int (upd f 20 x 20), .int (upd f 20 x 21), .int (upd f 20 x 22), .int (upd f 20 x 23), .int (upd f 20 x 24), v25, v26, v27, .int (upd f 20 x 28), v29, v30, v31, .int (upd f 20 x 32), .int (upd f 20 x 33), .int (upd f 20 x 34)] := rfl
theorem cs7_21 (v25 : Value) (v26 : Value) (v27 : Value) (v29 : Value) (v30 : Value) (v31 : Value) (f : Nat → Int32) (x : Int32) : ([.int (f 0), .int (f 1), .int (f 2), .int (f 3), .int (f 4), .int (f 5), .int (f 6), .int (f 7), .int (f 8), .int (f 9), .int (f 10), .int (f 11), .int (f 12), .int (f 13), .int (f 14), .int (f 15), .int (f 16), .int (f 17), .int (f 18), .int (f 19), .int (f 20), .int (f 21), .int (f 22), .int (f 23), .int (f 24), v25, v26, v27, .int (f 28), v29, v30, v31, .int (f 32), .int (f 33), .int (f 34)] : List Value).set 21 (.int x) = [.int (upd f 21 x 0), .int (upd f 21 x 1), .int (upd f 21 x 2), .int (upd f 21 x 3), .int (upd f 21 x 4), .int (upd f 21 x 5), .int (upd f 21 x 6), .int (upd f 21 x 7), .int (upd f 21 x 8), .int (upd f 21 x 9), .int (upd f 21 x 10), .int (upd f 21 x 11), .int (upd f 21 x 12), .int (upd f 21 x 13), .int (upd f 21 x 14), .int (upd f 21 x 15), .int (upd f 21 x 16), .int (upd f 21 x 17), .int (upd f 21 x 18), .int (upd f 21 x 19), .int (upd f 21 x 20), .int (upd f 21 x 21), .int (upd f 21 x 22), .int (upd f 21 x 23), .int (upd f 21 x 24), v25, v26, v27, .int (upd f 21 x 28), v29, v30, v31, .int (upd f 21 x 32), .int (upd f 21 x 33), .int (upd f 21 x 34)] := rfl
theorem cs7_22 (v25 : Value) (v26 : Value) (v27 : Value) (v29 : Value) (v30 : Value) (v31 : Value) (f : Nat → Int32) (x : Int32) : ([.int (f 0), .int (f 1), .int (f 2), .int (f 3), .int (f 4), .int (f 5), .int (f 6), .int (f 7), .int (f 8), .int (f 9), .int (f 10), .int (f 11), .int (f 12), .int (f 13), .int (f 14), .int (f 15), .int (f 16), .int (f 17), .int (f 18), .int (f 19), .int (f 20), .int (f 21), .int (f 22), .int (f 23), .int (f 24), v25, v26, v27, .int (f 28), v29, v30, v31, .int (f 32), .int (f 33), .int (f 34)] : List Value).set 22 (.int x) = [.int (upd f 22 x 0), .int (upd f 22 x 1), .int (upd f 22 x 2), .int (upd f 22 x 3), .int (upd f 22 x 4), .int (upd f 22 x 5), .int (upd f 22 x 6), .int (upd f 22 x 7), .int (upd f 22 x 8), .int (upd f 22 x 9), .int (upd f 22 x 10), .int (upd f 22 x 11), .int (upd f 22 x 12), .int (upd f 22 x 13), .int (upd f 22 x 14), .int (upd f 22 x 15), .int (upd f 22 x 16), .int (upd f 22 x 17), .int (upd f 22 x 18), .int (upd f 22 x 19), .int (upd f 22 x 20), .int (upd f 22 x 21), .int (upd f 22 x 22), .int (upd f 22 x 23), .int (upd f 22 x 24), v25, v26, v27, .int (upd f 22 x 28), v29, v30, v31, .int (upd f 22 x 32), .int (upd f 22 x 33), .int (upd f 22 x 34)] := rfl
theorem cs7_23 (v25 : Value) (v26 : Value) (v27 : Value) (v29 : Value) (v30 : Value) (v31 : Value) (f : Nat → Int32) (x : Int32) : ([.int (f 0), .int (f 1), .int (f 2), .int (f 3), .int (f 4), .int (f 5), .int (f 6), .int (f 7), .int (f 8), .int (f 9), .int (f 10), .int (f 11), .int (f 12), .int (f 13), .int (f 14), .int (f 15), .int (f 16), .int (f 17), .int (f 18), .int (f 19), .int (f 20), .int (f 21), .int (f 22), .int (f 23), .int (f 24), v25, v26, v27, .int (f 28), v29, v30, v31, .int (f 32), .int (f 33), .int (f 34)] : List Value).set 23 (.int x) = [.int (upd f 23 x 0), .int (upd f 23 x 1), .int (upd f 23 x 2), .int (upd f 23 x 3), .int (upd f 23 x 4), .int (upd f 23 x 5), .int (upd f 23 x 6), .int (upd f 23 x 7), .int (upd f 23 x 8), .int (upd f 23 x 9), .int (upd f 23 x 10), .int (upd f 23 x 11), .int (upd f 23 x 12), .int (upd f 23 x 13), .int (upd f 23 x 14), .int (upd f 23 x 15), .int (upd f 23 x 16), .int (upd f 23 x 17), .int (upd f 23 x 18), .int (upd f 23 x 19), .int (upd f 23 x 20), .int (upd f 23 x 21), .int (upd f 23 x 22), .int (upd f 23 x 23), .int (upd f 23 x 24), v25, v26, v27, .int (upd f 23 x 28), v29, v30, v31, .int (upd f 23 x 32), .int (upd f 23 x 33), .int (upd f 23 x 34)] := rfl
theorem cs7_24 (v25 : Value) (v26 : Value) (v27 : Value) (v29 : Value) (v30 : Value) (v31 : Value) (f : Nat → Int32) (x : Int32) : ([.int (f 0), .int (f 1), .int (f 2), .int (f 3), .int (f 4), .int (f 5), .int (f 6), .int (f 7), .int (f 8), .int (f 9), .int (f 10), .int (f 11), .int (f 12), .int (f 13), .int (f 14), .int (f 15), .int (f 16), .int (f 17), .int (f 18), .int (f 19), .int (f 20), .int (f 21), .int (f 22), .int (f 23), .int (f 24), v25, v26, v27, .int (f 28), v29, v30, v31, .int (f 32), .int (f 33), .int (f 34)] : List Value).set 24 (.int x) = [.int (upd f 24 x 0), .int (upd f 24 x 1), .int (upd f 24 x 2), .int (upd f 24 x 3), .int (upd f 24 x 4), .int (upd f 24 x 5), .int (upd f 24 x 6), .int (upd f 24 x 7), .int (upd f 24 x 8), .int (upd f 24 x 9), .int (upd f 24 x 10), .int (upd f 24 x 11), .int (upd f 24 x 12), .int (upd f 24 x 13), .int (upd f 24 x 14), .int (upd f 24 x 15), .int (upd f 24 x 16), .int (upd f 24 x 17), .int (upd f 24 x 18), .int (upd f 24 x 19), .int (upd f 24 x 20), .int (upd f 24 x 21), .int (upd f 24 x 22), .int (upd f 24 x 23), .int (upd f 24 x 24), v25, v26, v27, .int (upd f 24 x 28), v29, v30, v31, .int (upd f 24 x 32), .int (upd f 24 x 33), .int (upd f 24 x 34)] := rfl
theorem cs7_28 (v25 : Value) (v26 : Value) (v27 : Value) (v29 : Value) (v30 : Value) (v31 : Value) (f : Nat → Int32) (x : Int32) : ([.int (f 0), .int (f 1), .int (f 2), .int (f 3), .int (f 4), .int (f 5), .int (f 6), .int (f 7), .int (f 8), .int (f 9), .int (f 10), .int (f 11), .int (f 12), .int (f 13), .int (f 14), .int (f 15), .int (f 16), .int (f 17), .int (f 18), .int (f 19), .int (f 20), .int (f 21), .int (f 22), .int (f 23), .int (f 24), v25, v26, v27, .int (f 28), v29, v30, v31, .int (f 32), .int (f 33), .int (f 34)] : List Value).set 28 (.int x) = [.int (upd f 28 x 0), .int (upd f 28 x 1), .int (upd f 28 x 2), .int (upd f 28 x 3), .int (upd f 28 x 4), .int (upd f 28 x 5), .int (upd f 28 x 6), .int (upd f 28 x 7), .int (upd f 28 x 8), .int (upd f 28 x 9), .int (upd f 28 x 10), .int (upd f 28 x 11), .int (upd f 28 x 12), .int (upd f 28 x 13), .int (upd f 28 x 14), .int (upd f 28 x 15), .int (upd f 28 x 16), .int (upd f 28 x 17), .int (upd f 28 x 18), .int (upd f 28 x 19), .int (upd f 28 x 20), .int (upd f 28 x 21), .int (upd f 28 x 22), .int (upd f 28 x 23), .int (upd f 28 x 24), v25, v26, v27, .int (upd f 28 x 28), v29, v30, v31, .int (upd f 28 x 32), .int (upd f 28 x 33), .int (upd f 28 x 34)] := rfl
theorem cs7_32 (v25 : Value) (v26 : Value) (v27 : Value) (v29 : Value) (v30 : Value) (v31 : Value) (f : Nat → Int32) (x : Int32) : ([.int (f 0), .int (f 1), .int (f 2), .int (f 3), .int (f 4), .int (f 5), .int (f 6), .int (f 7), .int (f 8), .int (f 9), .int (f 10), .int (f 11), .int (f 12), .int (f 13), .int (f 14), .int (f 15), .int (f 16), .int (f 17), .int (f 18), .int (f 19), .int (f 20), .int (f 21), .int (f 22), .int (f 23), .int (f 24), v25, v26, v27, .int (f 28), v29, v30, v31, .int (f 32), .int (f 33), .int (f 34)] : List Value).set 32 (.int x) = [.int (upd f 32 x 0), .int (upd f 32 x 1), .int (upd f 32 x 2), .int (upd f 32 x 3), .int (upd f 32 x 4), .int (upd f 32 x 5), .int (upd f 32 x 6), .int (upd f 32 x 7), .int (upd f 32 x 8), .int (upd f 32 x 9), .int (upd f 32 x 10), .int (upd f 32 x 11), .int (upd f 32 x 12), .int (upd f 32 x 13), .int (upd f 32 x 14), .int (upd f 32 x 15), .int (upd f 32 x 16), .int (upd f 32 x 17), .int (upd f 32 x 18), .int (upd f 32 x 19), .int (upd f 32 x 20), .int (upd f 32 x 21), .int (upd f 32 x 22), .int (upd f 32 x 23), .int (upd f 32 x 24), v25, v26, v27, .int (upd f 32 x 28), v29, v30, v31, .int (upd f 32 x 32), .int (upd f 32 x 33), .int (upd f 32 x 34)] := rfl
theorem cs7_33 (v25 : Value) (v26 : Value) (v27 : Value) (v29 : Value) (v30 : Value) (v31 : Value) (f : Nat → Int32) (x : Int32) : ([.int (f 0), .int (f 1), .int (f 2), .int (f 3), .int (f 4), .int (f 5), .int (f 6), .int (f 7), .int (f 8), .int (f 9), .int (f 10), .int (f 11), .int (f 12), .int (f 13), .int (f 14), .int (f 15), .int (f 16), .int (f 17), .int (f 18), .int (f 19), .int (f 20), .int (f 21), .int (f 22), .int (f 23), .int (f 24), v25, v26, v27, .int (f 28), v29, v30, v31, .int (f 32), .int (f 33), .int (f 34)] : List Value).set 33 (.int x) = [.int (upd f 33 x 0), .int (upd f 33 x 1), .int (upd f 33 x 2), .int (upd f 33 x 3), .int (upd f 33 x 4), .int (upd f 33 x 5), .int (upd f 33 x 6), .int (upd f 33 x 7), .int (upd f 33 x 8), .int (upd f 33 x 9), .int (upd f 33 x 10), .int (upd f 33 x 11), .int (upd f 33 x 12), .int (upd f 33 x 13), .int (upd f 33 x 14), .int (upd f 33 x 15), .int (upd f 33 x 16), .int (upd f 33 x 17), .int (upd f 33 x 18), .int (upd f 33 x 19), .int (upd f 33 x 20), .int (upd f 33 x 21), .int (upd f 33 x 22), .int (upd f 33 x 23), .int (upd f 33 x 24), v25, v26, v27, .int (upd f 33 x 28), v29, v30, v31, .int (upd f 33 x 32), .int (upd f 33 x 33), .int (upd f 33 x 34)] := rfl
theorem cs7_34 (v25 : Value) (v26 : Value) (v27 : Value) (v29 : Value) (v30 : Value) (v31 : Value) (f : Nat → Int32) (x : Int32) : ([.int (f 0), .int (f 1), .int (f 2), .int (f 3), .int (f 4), .int (f 5), .int (f 6), .int (f 7), .int (f 8), .int (f 9), .int (f 10), .int (f 11), .int (f 12), .int (f 13), .int (f 14), .int (f 15), .int (f 16), .int (f 17), .int (f 18), .int (f 19), .int (f 20), .int (f 21), .int (f 22), .int (f 23), .int (f 24), v25, v26, v27, .int (f 28), v29, v30, v31, .int (f 32), .int (f 33), .int (f 34)] : List Value).set 34 (.int x) = [.int (upd f 34 x 0), .int (upd f 34 x 1), .int (upd f 34 x 2), .int (upd f 34 x 3), .int (upd f 34 x 4), .int (upd f 34 x 5), .int (upd f 34 x 6), .int (upd f 34 x 7), .int (upd f 34 x 8), .int (upd f 34 x 9), .int (upd f 34 x 10), .int (upd f 34 x 11), .int (upd f 34 x 12), .int (upd f 34 x 13), .int (upd f 34 x 14), .int (upd f 34 x 15), .int (upd f 34 x 16), .int (upd f 34 x 17), .int (upd f 34 x 18), .int (upd f 34 x 19), .int (upd f 34 x 20), .int (upd f 34 x 21), .int (upd f 34 x 22), .int (upd f 34 x 23), .int (upd f 34 x 24), v25, v26, v27, .int (upd f 34 x 28), v29, v30, v31, .int (upd f 34 x 32), .int (upd f 34 x 33), .int (upd f 34 x 34)] := rfl
theorem cw_topi {p : Program} {l : Launch} {e : Env} {R : Room} {s : State} {m : MethodId} {args : Array Value} {below : List Frame} {meth : Method} {c : Code} {H : Heap} {locs : List Loc} {cells slots : Nat} {Q : State → Prop} {pc : Nat} {ls : Array Slot} {rest : List Value} {x y : Int32} (h : x = y)
    (k : W p l e R s m args below meth c H locs cells slots Q (F0 m pc ls (.int y :: rest))) : W p l e R s m args below meth c H locs cells slots Q (F0 m pc ls (.int x :: rest)) := by
  rw [h]; exact k
theorem cw_upd0 (f : Nat → Int32) (k : Nat) (x : Int32) : upd f k x k = x := if_pos rfl
theorem cw_updn (f : Nat → Int32) {k j : Nat} (x : Int32) (h : ¬ j = k) : upd f k x j = f j := if_neg h
section CWN
variable {p : Program} {l : Launch} {e : Env} {R : Room} {s : State} {m : MethodId} {args : Array Value} {below : List Frame} {meth : Method} {c : Code} {H : Heap} {locs : List Loc} {cells slots : Nat} {Q : State → Prop}
variable {cc : ByteArray} {D : va_G} {A : Nat → Prop} {ws : va_W} {pc N : Nat} {ls : Array Slot} {rest : List Value} {cI cJ : ClassId} {n : Int32}
theorem cw_newaI (hx : p.tables.exec = Jvm.exec) (hb : c.code = cc) (harr : (Cond.arrayClass .int).before args s = true) (hK : va_K D vwCl [(cI, .int), (cJ, .long)] s) (hP : va_P D vwCl ws H) (hD : va_D A ws) (hS : va_S A s.heap H locs) (hA : ∀ q : Nat, s.heap.size ≤ q → A q) (hn : ¬ n < 0) (hN : n.toNatClampNeg = N) (hbytes : N * componentBytes .int ≤ 536870912) (hcells : cells + 1 ≤ R.cells) (hslots : slots + N ≤ R.slots) (hdg : decode cc pc = .ok (.newarray .int, 2))
    (kk : ∀ (q : Nat) (H : Heap), va_P D vwCl (ws ++ [(q, .inl (cI, N, .inl (fun _ => 0)))]) H → va_D A (ws ++ [(q, .inl (cI, N, .inl (fun _ => 0)))]) → va_S A s.heap H locs → W p l e R s m args below meth c H locs (cells + 1) (slots + N) Q (F0 m (pc + 2) ls (.ref q :: rest))) :
    W p l e R s m args below meth c H locs cells slots Q (F0 m pc ls (.int n :: rest)) := by
  refine va_newa (atype := .int) (ty := .int) hx hb harr rfl hK hP hD hS hA (a0 := (N, .inl (fun _ => 0))) (fun _ => rfl) hn hN hbytes hcells hslots hdg (fun q cA H1 hK1 hP1 hD1 hS1 => ?_)
  have e1 : s.vm.findClass ("[" ++ FieldType.int.toString) = some cA := (hK1.2 2 (cA, .int) rfl).2
  have e2 : s.vm.findClass ("[" ++ FieldType.int.toString) = some cI := (hK.2 0 (cI, .int) rfl).2
  have e3 : cA = cI := Option.some.inj (e1.symm.trans e2)
  subst e3
  exact kk q H1 hP1 hD1 hS1
theorem cw_newaJ (hx : p.tables.exec = Jvm.exec) (hb : c.code = cc) (harr : (Cond.arrayClass .long).before args s = true) (hK : va_K D vwCl [(cI, .int), (cJ, .long)] s) (hP : va_P D vwCl ws H) (hD : va_D A ws) (hS : va_S A s.heap H locs) (hA : ∀ q : Nat, s.heap.size ≤ q → A q) (hn : ¬ n < 0) (hN : n.toNatClampNeg = N) (hbytes : N * componentBytes .long ≤ 536870912) (hcells : cells + 1 ≤ R.cells) (hslots : slots + N ≤ R.slots) (hdg : decode cc pc = .ok (.newarray .long, 2))
    (kk : ∀ (q : Nat) (H : Heap), va_P D vwCl (ws ++ [(q, .inl (cJ, N, .inr (.inl (fun _ => 0))))]) H → va_D A (ws ++ [(q, .inl (cJ, N, .inr (.inl (fun _ => 0))))]) → va_S A s.heap H locs → W p l e R s m args below meth c H locs (cells + 1) (slots + N) Q (F0 m (pc + 2) ls (.ref q :: rest))) :
    W p l e R s m args below meth c H locs cells slots Q (F0 m pc ls (.int n :: rest)) := by
  refine va_newa (atype := .long) (ty := .long) hx hb harr rfl hK hP hD hS hA (a0 := (N, .inr (.inl (fun _ => 0)))) (fun _ => rfl) hn hN hbytes hcells hslots hdg (fun q cA H1 hK1 hP1 hD1 hS1 => ?_)
  have e1 : s.vm.findClass ("[" ++ FieldType.long.toString) = some cA := (hK1.2 2 (cA, .long) rfl).2
  have e2 : s.vm.findClass ("[" ++ FieldType.long.toString) = some cJ := (hK.2 1 (cJ, .long) rfl).2
  have e3 : cA = cJ := Option.some.inj (e1.symm.trans e2)
  subst e3
  exact kk q H1 hP1 hD1 hS1
end CWN
end
section

def s1_copyFrom (ea : Nat → Int32) (eb : Nat → Int32) : (Nat → Int32) := (upd (upd ea 0 (eb 0)) 1 (eb 1))

def s1_look (ea : Nat → Int32) (a1 : Int32) (a2 : Int32) : (Nat → Int32) := (if a1 = (ea 0) then (upd ea 1 0) else (let w4 : Nat → Int32 := (if ((ea 1) + 1) < a2 then (upd ea 1 ((ea 1) + 1)) else (upd (upd (upd ea 1 ((ea 1) + 1)) 0 a1) 1 0)); w4))

set_option maxHeartbeats 4000000 in
set_option maxRecDepth 100000 in
theorem k1_init (l : Launch) (D : va_G) (cI cJ : ClassId) (xe : Nat) (ea : Nat → Int32) : cw_Mv l yX1_init wsX1_init (cw_rm 1) D [(cI, .int), (cJ, .long)] [.ref xe] [(xe, c1 ea)] 0 0 (fun _ : Unit => True) (fun _ : Unit => [(xe, c1 ea)]) := by
  refine cw_ofv (cc := cX1_init) (maxL := 1) (ret := none) (by decide) rfl (Nat.le_of_ble_eq_true rfl) rfl ?_
  intro p e s m args below meth c A ls Q hin0 hret
  obtain ⟨hx, hb, hr, hml, hts, hown, hlocks, hin, hP, hK, hD, hN, hA, hl⟩ := hin0
  have hS : va_S A s.heap s.heap [] := va_S.rf
  have hl : lv_has ls 1 [(0, .ref xe)] := hl
  have lo1 := hts (.methodLink RX1 1 objectInit) (by decide +kernel)
  have loi := hts (.instanceMethod objectInit) (by decide +kernel)
  have loc9 := hts (.code objectInit ⟨#[0xb1]⟩ 1 none) (List.mem_of_getElem? (i := 3) rfl)
  refine lv_aload_n hx hb dX1_init_0 rfl (lv_at hl 0 rfl) ?_
  refine W.objInit hx hb hown lo1 loi loc9 rfl (by rw [hml]; exact hl.1) rfl dX1_init_1 (Nat.le_of_ble_eq_true rfl) (Nat.le_of_ble_eq_true rfl) ?_
  refine W.eq (g2 := F0 m 4 ls []) rfl ?_
  exact hret _ _ _ _ _ _ _ hP hD hS dX1_init_4 ⟨(), trivial, rfl⟩ (Nat.le_of_ble_eq_true rfl) (Nat.le_of_ble_eq_true rfl)

set_option maxHeartbeats 4000000 in
set_option maxRecDepth 100000 in
theorem k1_copyFrom (l : Launch) (D : va_G) (cI cJ : ClassId) (xe ye : Nat) (ea : Nat → Int32) (eb : Nat → Int32) (ho : eb 0 = 0 ∨ eb 0 = 1) : cw_Mv l yX1_copyFrom wsX1_copyFrom (cw_rm 0) D [(cI, .int), (cJ, .long)] [.ref xe, .ref ye] [(xe, c1 ea), (ye, c1 eb)] 0 0 (fun _ : Unit => True) (fun _ : Unit => [(xe, c1 (s1_copyFrom ea eb)), (ye, c1 eb)]) := by
  refine cw_ofv (cc := cX1_copyFrom) (maxL := 2) (ret := none) (by decide) rfl (Nat.le_of_ble_eq_true rfl) rfl ?_
  intro p e s m args below meth c A ls Q hin0 hret
  obtain ⟨hx, hb, hr, hml, hts, hown, hlocks, hin, hP, hK, hD, hN, hA, hl⟩ := hin0
  have hS : va_S A s.heap s.heap [] := va_S.rf
  have hl : lv_has ls 2 [(0, .ref xe), (1, .ref ye)] := hl
  have lf7 := hts (.fieldLink RX1 7 "Burnerline$Eye" "seesFlame" "Z") (by decide +kernel)
  have i1 : ∀ w ∈ wsX10, w ∈ wsX1_copyFrom := by decide +kernel
  have lf13 := hts (.fieldLink RX1 13 "Burnerline$Eye" "row" "I") (by decide +kernel)
  refine lv_aload_n hx hb dX1_copyFrom_0 rfl (lv_at hl 0 rfl) ?_
  refine lv_aload_n hx hb dX1_copyFrom_1 rfl (lv_at hl 1 rfl) ?_
  refine va_get (D := D) (ci := 1) (v := .int (eb 0)) (C := RX1) (T := TX1) (N := 2) hx hb hts i1 hown hK hP 1 rfl rfl 0 (by decide) lf7 (fun _ h9 => h9) rfl dX1_copyFrom_2 ?_
  refine va_put (D := D) (ci := 1) (v := .int (eb 0)) (ty := .boolean) (C := RX1) (T := TX1) (N := 2) hx hb hts i1 tyX1 tyX1_ok nmX1 hown hK hP hD hS 0 rfl rfl 0 (by decide) lf7 (fun _ h9 => h9) rfl (by decide +kernel) (cw_b01 (by (repeat' split) <;> first | exact Or.inl rfl | exact Or.inr rfl | assumption)) (cw_f01 (by (repeat' split) <;> first | exact Or.inl rfl | exact Or.inr rfl | assumption)) (Nat.le_of_ble_eq_true rfl) dX1_copyFrom_5 (fun H locs hP hD hS => ?_)
  have hP : va_P D vwCl [(xe, c1 (upd ea 0 (eb 0))), (ye, c1 eb)] H := (congrArg (fun z9 => va_P D vwCl [(xe, .inr (1, z9)), (ye, c1 eb)] H) (cs1_0 ea (eb 0))).mp hP
  have hD : va_D A [(xe, c1 (upd ea 0 (eb 0))), (ye, c1 eb)] := (congrArg (fun z9 => va_D A [(xe, .inr (1, z9)), (ye, c1 eb)]) (cs1_0 ea (eb 0))).mp hD
  refine lv_aload_n hx hb dX1_copyFrom_8 rfl (lv_at hl 0 rfl) ?_
  refine lv_aload_n hx hb dX1_copyFrom_9 rfl (lv_at hl 1 rfl) ?_
  refine va_get (D := D) (ci := 1) (v := .int (eb 1)) (C := RX1) (T := TX1) (N := 2) hx hb hts i1 hown hK hP 1 rfl rfl 1 (by decide) lf13 (fun _ h9 => h9) rfl dX1_copyFrom_10 ?_
  refine va_put (D := D) (ci := 1) (v := .int (eb 1)) (ty := .int) (C := RX1) (T := TX1) (N := 2) hx hb hts i1 tyX1 tyX1_ok nmX1 hown hK hP hD hS 0 rfl rfl 1 (by decide) lf13 (fun _ h9 => h9) rfl (by decide +kernel) rfl rfl (Nat.le_of_ble_eq_true rfl) dX1_copyFrom_13 (fun H locs hP hD hS => ?_)
  have hP : va_P D vwCl [(xe, c1 (upd (upd ea 0 (eb 0)) 1 (eb 1))), (ye, c1 eb)] H := (congrArg (fun z9 => va_P D vwCl [(xe, .inr (1, z9)), (ye, c1 eb)] H) (cs1_1 (upd ea 0 (eb 0)) (eb 1))).mp hP
  have hD : va_D A [(xe, c1 (upd (upd ea 0 (eb 0)) 1 (eb 1))), (ye, c1 eb)] := (congrArg (fun z9 => va_D A [(xe, .inr (1, z9)), (ye, c1 eb)]) (cs1_1 (upd ea 0 (eb 0)) (eb 1))).mp hD
  have hsp : (s1_copyFrom ea eb) = (upd (upd ea 0 (eb 0)) 1 (eb 1)) := by rfl
  exact hret _ _ _ _ _ _ _ hP hD hS dX1_copyFrom_16 ⟨(), trivial, (by rw [hsp])⟩ (Nat.le_of_ble_eq_true rfl) (Nat.le_of_ble_eq_true rfl)

set_option maxHeartbeats 4000000 in
set_option maxRecDepth 100000 in
theorem k1_look (l : Launch) (D : va_G) (cI cJ : ClassId) (xe : Nat) (ea : Nat → Int32) (a1 : Int32) (a2 : Int32) (ha : a1 = 0 ∨ a1 = 1) : cw_Mv l yX1_look wsX1_look (cw_rm 0) D [(cI, .int), (cJ, .long)] [.ref xe, .int a1, .int a2] [(xe, c1 ea)] 0 0 (fun _ : Unit => True) (fun _ : Unit => [(xe, c1 (s1_look ea a1 a2))]) := by
  refine cw_ofv (cc := cX1_look) (maxL := 3) (ret := none) (by decide) rfl (Nat.le_of_ble_eq_true rfl) rfl ?_
  intro p e s m args below meth c A ls Q hin0 hret
  obtain ⟨hx, hb, hr, hml, hts, hown, hlocks, hin, hP, hK, hD, hN, hA, hl⟩ := hin0
  have hS : va_S A s.heap s.heap [] := va_S.rf
  have hl : lv_has ls 3 [(0, .ref xe), (1, .int a1), (2, .int a2)] := hl
  have lf7 := hts (.fieldLink RX1 7 "Burnerline$Eye" "seesFlame" "Z") (by decide +kernel)
  have i1 : ∀ w ∈ wsX10, w ∈ wsX1_look := by decide +kernel
  have lf13 := hts (.fieldLink RX1 13 "Burnerline$Eye" "row" "I") (by decide +kernel)
  refine lv_iload_n hx hb dX1_look_0 rfl (lv_at hl 1 rfl) ?_
  refine lv_aload_n hx hb dX1_look_1 rfl (lv_at hl 0 rfl) ?_
  refine va_get (D := D) (ci := 1) (v := .int (ea 0)) (C := RX1) (T := TX1) (N := 2) hx hb hts i1 hown hK hP 0 rfl rfl 0 (by decide) lf7 (fun _ h9 => h9) rfl dX1_look_2 ?_
  refine lv_icmp_ne (tgt := 14) hx hb dX1_look_5 (by decide) (fun z1 => ?_) (fun z1 => ?_)
  · refine lv_aload_n hx hb dX1_look_14 rfl (lv_at hl 0 rfl) ?_
    refine lv_dup hx hb dX1_look_15 rfl ?_
    refine va_get (D := D) (ci := 1) (v := .int (ea 1)) (C := RX1) (T := TX1) (N := 2) hx hb hts i1 hown hK hP 0 rfl rfl 1 (by decide) lf13 (fun _ h9 => h9) rfl dX1_look_16 ?_
    refine lv_iconst (v := 1) hx hb dX1_look_19 (by decide) ?_
    refine lv_iadd hx hb dX1_look_20 ?_
    refine va_put (D := D) (ci := 1) (v := .int ((ea 1) + 1)) (ty := .int) (C := RX1) (T := TX1) (N := 2) hx hb hts i1 tyX1 tyX1_ok nmX1 hown hK hP hD hS 0 rfl rfl 1 (by decide) lf13 (fun _ h9 => h9) rfl (by decide +kernel) rfl rfl (Nat.le_of_ble_eq_true rfl) dX1_look_21 (fun H locs hP hD hS => ?_)
    have hP : va_P D vwCl [(xe, c1 (upd ea 1 ((ea 1) + 1)))] H := (congrArg (fun z9 => va_P D vwCl [(xe, .inr (1, z9))] H) (cs1_1 ea ((ea 1) + 1))).mp hP
    have hD : va_D A [(xe, c1 (upd ea 1 ((ea 1) + 1)))] := (congrArg (fun z9 => va_D A [(xe, .inr (1, z9))]) (cs1_1 ea ((ea 1) + 1))).mp hD
    refine lv_aload_n hx hb dX1_look_24 rfl (lv_at hl 0 rfl) ?_
    refine va_get (D := D) (ci := 1) (v := .int ((upd ea 1 ((ea 1) + 1)) 1)) (C := RX1) (T := TX1) (N := 2) hx hb hts i1 hown hK hP 0 rfl rfl 1 (by decide) lf13 (fun _ h9 => h9) rfl dX1_look_25 ?_
    refine cw_topi (y := ((ea 1) + 1)) (cw_upd0 _ _ _) ?_
    refine lv_iload_n hx hb dX1_look_28 rfl (lv_at hl 2 rfl) ?_
    have J3 : ∀ (w4 : Nat → Int32), w4 = (if ((ea 1) + 1) < a2 then (upd ea 1 ((ea 1) + 1)) else (upd (upd (upd ea 1 ((ea 1) + 1)) 0 a1) 1 0)) → ∀ (H : Heap) (locs : List Loc), va_P D vwCl [(xe, c1 w4)] H → va_D A [(xe, c1 w4)] → va_S A s.heap H locs → W p l e (cw_rm 0) s m args below meth c H locs 0 0 (Q) (F0 m 42 ls []) := by
      intro w4 hw4 H locs hP hD hS
      have hsp : (s1_look ea a1 a2) = w4 := by subst hw4; simp only [s1_look, if_neg z1]
      exact hret _ _ _ _ _ _ _ hP hD hS dX1_look_42 ⟨(), trivial, (by rw [hsp])⟩ (Nat.le_of_ble_eq_true rfl) (Nat.le_of_ble_eq_true rfl)
    refine lv_icmp_lt (tgt := 42) hx hb dX1_look_29 (by decide) (fun z2 => ?_) (fun z2 => ?_)
    · exact J3 (upd ea 1 ((ea 1) + 1)) (by simp only [if_pos z2]) _ _ hP hD hS
    · refine lv_aload_n hx hb dX1_look_32 rfl (lv_at hl 0 rfl) ?_
      refine lv_iload_n hx hb dX1_look_33 rfl (lv_at hl 1 rfl) ?_
      refine va_put (D := D) (ci := 1) (v := .int a1) (ty := .boolean) (C := RX1) (T := TX1) (N := 2) hx hb hts i1 tyX1 tyX1_ok nmX1 hown hK hP hD hS 0 rfl rfl 0 (by decide) lf7 (fun _ h9 => h9) rfl (by decide +kernel) (cw_b01 (by (repeat' split) <;> first | exact Or.inl rfl | exact Or.inr rfl | assumption)) (cw_f01 (by (repeat' split) <;> first | exact Or.inl rfl | exact Or.inr rfl | assumption)) (Nat.le_of_ble_eq_true rfl) dX1_look_34 (fun H locs hP hD hS => ?_)
      have hP : va_P D vwCl [(xe, c1 (upd (upd ea 1 ((ea 1) + 1)) 0 a1))] H := (congrArg (fun z9 => va_P D vwCl [(xe, .inr (1, z9))] H) (cs1_0 (upd ea 1 ((ea 1) + 1)) a1)).mp hP
      have hD : va_D A [(xe, c1 (upd (upd ea 1 ((ea 1) + 1)) 0 a1))] := (congrArg (fun z9 => va_D A [(xe, .inr (1, z9))]) (cs1_0 (upd ea 1 ((ea 1) + 1)) a1)).mp hD
      refine lv_aload_n hx hb dX1_look_37 rfl (lv_at hl 0 rfl) ?_
      refine lv_iconst (v := 0) hx hb dX1_look_38 (by decide) ?_
      refine va_put (D := D) (ci := 1) (v := .int 0) (ty := .int) (C := RX1) (T := TX1) (N := 2) hx hb hts i1 tyX1 tyX1_ok nmX1 hown hK hP hD hS 0 rfl rfl 1 (by decide) lf13 (fun _ h9 => h9) rfl (by decide +kernel) rfl rfl (Nat.le_of_ble_eq_true rfl) dX1_look_39 (fun H locs hP hD hS => ?_)
      have hP : va_P D vwCl [(xe, c1 (upd (upd (upd ea 1 ((ea 1) + 1)) 0 a1) 1 0))] H := (congrArg (fun z9 => va_P D vwCl [(xe, .inr (1, z9))] H) (cs1_1 (upd (upd ea 1 ((ea 1) + 1)) 0 a1) 0)).mp hP
      have hD : va_D A [(xe, c1 (upd (upd (upd ea 1 ((ea 1) + 1)) 0 a1) 1 0))] := (congrArg (fun z9 => va_D A [(xe, .inr (1, z9))]) (cs1_1 (upd (upd ea 1 ((ea 1) + 1)) 0 a1) 0)).mp hD
      exact J3 (upd (upd (upd ea 1 ((ea 1) + 1)) 0 a1) 1 0) (by simp only [if_neg z2]) _ _ hP hD hS
  · refine lv_aload_n hx hb dX1_look_8 rfl (lv_at hl 0 rfl) ?_
    refine lv_iconst (v := 0) hx hb dX1_look_9 (by decide) ?_
    refine va_put (D := D) (ci := 1) (v := .int 0) (ty := .int) (C := RX1) (T := TX1) (N := 2) hx hb hts i1 tyX1 tyX1_ok nmX1 hown hK hP hD hS 0 rfl rfl 1 (by decide) lf13 (fun _ h9 => h9) rfl (by decide +kernel) rfl rfl (Nat.le_of_ble_eq_true rfl) dX1_look_10 (fun H locs hP hD hS => ?_)
    have hP : va_P D vwCl [(xe, c1 (upd ea 1 0))] H := (congrArg (fun z9 => va_P D vwCl [(xe, .inr (1, z9))] H) (cs1_1 ea 0)).mp hP
    have hD : va_D A [(xe, c1 (upd ea 1 0))] := (congrArg (fun z9 => va_D A [(xe, .inr (1, z9))]) (cs1_1 ea 0)).mp hD
    have hsp : (s1_look ea a1 a2) = (upd ea 1 0) := by simp only [s1_look, if_pos z1]
    exact hret _ _ _ _ _ _ _ hP hD hS dX1_look_13 ⟨(), trivial, (by rw [hsp])⟩ (Nat.le_of_ble_eq_true rfl) (Nat.le_of_ble_eq_true rfl)
end
section
def s6_isOn (a1 : Int32) (a2 : Int32) : Int32 := (let w3 : Int32 := (if (a1 &&& a2) = 0 then 0 else 1); w3)
theorem z6_isOn (a1 : Int32) (a2 : Int32) : (s6_isOn a1 a2) = 0 ∨ (s6_isOn a1 a2) = 1 := by
  simp only [s6_isOn]
  (repeat' split) <;> (try dsimp only) <;> first | exact Or.inl rfl | exact Or.inr rfl | (simp; done)

def s2_isLockedOut (f : Nat → Int32) : Int32 := (let w3 : Int32 := (if (f 3) = 6 then 1 else 0); w3)
theorem z2_isLockedOut (f : Nat → Int32) : (s2_isLockedOut f) = 0 ∨ (s2_isLockedOut f) = 1 := by
  simp only [s2_isLockedOut]
  (repeat' split) <;> (try dsimp only) <;> first | exact Or.inl rfl | exact Or.inr rfl | (simp; done)

def s2_isPilotOpen (f : Nat → Int32) : Int32 := (let w4 : Int32 := (if (f 3) = 2 then 1 else (if (f 3) = 3 then 1 else 0)); w4)
theorem z2_isPilotOpen (f : Nat → Int32) : (s2_isPilotOpen f) = 0 ∨ (s2_isPilotOpen f) = 1 := by
  simp only [s2_isPilotOpen]
  (repeat' split) <;> (try dsimp only) <;> first | exact Or.inl rfl | exact Or.inr rfl | (simp; done)

def s2_isMainOpen (f : Nat → Int32) : Int32 := (let w4 : Int32 := (if (f 3) = 3 then 1 else (if (f 3) = 4 then 1 else 0)); w4)
theorem z2_isMainOpen (f : Nat → Int32) : (s2_isMainOpen f) = 0 ∨ (s2_isMainOpen f) = 1 := by
  simp only [s2_isMainOpen]
  (repeat' split) <;> (try dsimp only) <;> first | exact Or.inl rfl | exact Or.inr rfl | (simp; done)

def s2_hasFlame (f : Nat → Int32) (ep : Nat → Int32) (eq : Nat → Int32) (st : Nat → Int32) : Int32 := (let w4 : Int32 := (if (ep 0) = 0 then (if (eq 0) = 0 then 0 else 1) else 1); w4)
theorem z2_hasFlame (f : Nat → Int32) (ep : Nat → Int32) (eq : Nat → Int32) (st : Nat → Int32) : (s2_hasFlame f ep eq st) = 0 ∨ (s2_hasFlame f ep eq st) = 1 := by
  simp only [s2_hasFlame]
  (repeat' split) <;> (try dsimp only) <;> first | exact Or.inl rfl | exact Or.inr rfl | (simp; done)

def s2_moved (a1 : Int32) (a2 : Int32) (a3 : Int32) : Int32 := (if a2 ≤ a1 then (if (a1 - a3) < a2 then a2 else (a1 - a3)) else (if a2 < (a1 + a3) then a2 else (a1 + a3)))

def s2_begin (f : Nat → Int32) (a1 : Int32) (a2 : Int32) : Int32 × (Nat → Int32) := (let r2 : Int32 := (s2_isMainOpen (upd (upd (upd (upd f 3 a1) 4 a2) 5 0) 8 0)); (let w5 : Nat → Int32 := (if r2 = 0 then (upd (upd (upd (upd (upd f 3 a1) 4 a2) 5 0) 8 0) 7 0) else (upd (upd (upd (upd f 3 a1) 4 a2) 5 0) 8 0)); (1, w5)))
theorem z2_begin (f : Nat → Int32) (a1 : Int32) (a2 : Int32) : (s2_begin f a1 a2).1 = 0 ∨ (s2_begin f a1 a2).1 = 1 := by
  simp only [s2_begin]
  (repeat' split) <;> (try dsimp only) <;> first | exact Or.inl rfl | exact Or.inr rfl | (simp; done) | exact z2_isMainOpen _

def s2_lockOut (f : Nat → Int32) (a1 : Int32) : Int32 × (Nat → Int32) := (let v3 : Nat → Int32 := ((s2_begin f 6 a1).2); (let r2 : Int32 := ((s2_begin f 6 a1).1); (r2, v3)))
theorem z2_lockOut (f : Nat → Int32) (a1 : Int32) : (s2_lockOut f a1).1 = 0 ∨ (s2_lockOut f a1).1 = 1 := by
  simp only [s2_lockOut]
  (repeat' split) <;> (try dsimp only) <;> first | exact Or.inl rfl | exact Or.inr rfl | (simp; done) | exact z2_begin _ _ _

def s2_isCheckDue (f : Nat → Int32) (ep : Nat → Int32) (eq : Nat → Int32) (st : Nat → Int32) : Int32 := (let w4 : Int32 := (if (st 7) ≤ 0 then 0 else (if ((f 5) - (f 5) / (st 7) * (st 7)) = 0 then 1 else 0)); w4)
theorem z2_isCheckDue (f : Nat → Int32) (ep : Nat → Int32) (eq : Nat → Int32) (st : Nat → Int32) : (s2_isCheckDue f ep eq st) = 0 ∨ (s2_isCheckDue f ep eq st) = 1 := by
  simp only [s2_isCheckDue]
  (repeat' split) <;> (try dsimp only) <;> first | exact Or.inl rfl | exact Or.inr rfl | (simp; done)

def s2_airGoal (f : Nat → Int32) (ep : Nat → Int32) (eq : Nat → Int32) (st : Nat → Int32) : Int32 := (if (f 3) = 0 then 0 else (if (f 3) = 1 then 100 else (if (f 3) = 2 then 30 else (if (f 3) = 3 then 30 else (if (f 3) = 4 then (if (st 0) < (f 7) then (f 7) else (st 0)) else 60)))))

def s2_fuelGoal (f : Nat → Int32) (ep : Nat → Int32) (eq : Nat → Int32) (st : Nat → Int32) : Int32 := (if (f 3) = 3 then 20 else (if (f 3) = 4 then (if (f 6) < (st 0) then (f 6) else (st 0)) else 0))

set_option maxHeartbeats 4000000 in
set_option maxRecDepth 100000 in
theorem k6_isOn (l : Launch) (D : va_G) (cI cJ : ClassId) (a1 : Int32) (a2 : Int32) : cw_Mi l yX6_isOn wsX6_isOn (cw_rm 0) D [(cI, .int), (cJ, .long)] [.int a1, .int a2] [] 0 0 (fun r (_ : Unit) => r = (s6_isOn a1 a2)) (fun _ : Unit => []) := by
  refine cw_ofi (cc := cX6_isOn) (maxL := 2) (ret := (some .boolean)) (by decide) rfl (Nat.le_of_ble_eq_true rfl) rfl ?_
  intro p e s m args below meth c A ls Q hin0 hret
  obtain ⟨hx, hb, hr, hml, hts, hown, hlocks, hin, hP, hK, hD, hN, hA, hl⟩ := hin0
  have hS : va_S A s.heap s.heap [] := va_S.rf
  have hl : lv_has ls 2 [(0, .int a1), (1, .int a2)] := hl
  refine lv_iload_n hx hb dX6_isOn_0 rfl (lv_at hl 0 rfl) ?_
  refine lv_iload_n hx hb dX6_isOn_1 rfl (lv_at hl 1 rfl) ?_
  refine lv_iand hx hb dX6_isOn_2 ?_
  have J2 : ∀ (w3 : Int32), w3 = (if (a1 &&& a2) = 0 then 0 else 1) → W p l e (cw_rm 0) s m args below meth c s.heap [] 0 0 (Q) (F0 m 11 ls [.int w3]) := by
    intro w3 hw3
    have hsp : (s6_isOn a1 a2) = w3 := by subst hw3; rfl
    exact hret _ _ _ _ _ _ _ _ hP hD hS dX6_isOn_11 (cw_b01 (by subst hw3; (repeat' split) <;> first | exact Or.inl rfl | exact Or.inr rfl | assumption)) ⟨(), (by rw [hsp]), rfl⟩ (Nat.le_of_ble_eq_true rfl) (Nat.le_of_ble_eq_true rfl)
  refine lv_if_eq (tgt := 10) hx hb dX6_isOn_3 (by decide) (fun z1 => ?_) (fun z1 => ?_)
  · refine lv_iconst (v := 0) hx hb dX6_isOn_10 (by decide) ?_
    exact J2 0 (by simp only [if_pos z1])
  · refine lv_iconst (v := 1) hx hb dX6_isOn_6 (by decide) ?_
    refine lv_goto (tgt := 11) hx hb dX6_isOn_7 (by decide) ?_
    exact J2 1 (by simp only [if_neg z1])

set_option maxHeartbeats 4000000 in
set_option maxRecDepth 100000 in
theorem k2_isLockedOut (l : Launch) (D : va_G) (cI cJ : ClassId) (xf : Nat) (xf_0 xf_1 xf_2 : Value) (f : Nat → Int32) : cw_Mi l yX2_isLockedOut wsX2_isLockedOut (cw_rm 0) D [(cI, .int), (cJ, .long)] [.ref xf] [(xf, c2 xf_0 xf_1 xf_2 f)] 0 0 (fun r (_ : Unit) => r = (s2_isLockedOut f)) (fun _ : Unit => [(xf, c2 xf_0 xf_1 xf_2 f)]) := by
  refine cw_ofi (cc := cX2_isLockedOut) (maxL := 1) (ret := (some .boolean)) (by decide) rfl (Nat.le_of_ble_eq_true rfl) rfl ?_
  intro p e s m args below meth c A ls Q hin0 hret
  obtain ⟨hx, hb, hr, hml, hts, hown, hlocks, hin, hP, hK, hD, hN, hA, hl⟩ := hin0
  have hS : va_S A s.heap s.heap [] := va_S.rf
  have hl : lv_has ls 1 [(0, .ref xf)] := hl
  have lf29 := hts (.fieldLink RX2 29 "Burnerline$Furnace" "state" "I") (by decide +kernel)
  have i2 : ∀ w ∈ wsX20, w ∈ wsX2_isLockedOut := by decide +kernel
  refine lv_aload_n hx hb dX2_isLockedOut_0 rfl (lv_at hl 0 rfl) ?_
  refine va_get (D := D) (ci := 2) (v := .int (f 3)) (C := RX2) (T := TX2) (N := 11) hx hb hts i2 hown hK hP 0 rfl rfl 3 (by decide) lf29 (fun _ h9 => h9) rfl dX2_isLockedOut_1 ?_
  refine lv_bipush (v := 6) hx hb dX2_isLockedOut_4 (by decide) ?_
  have J2 : ∀ (w3 : Int32), w3 = (if (f 3) = 6 then 1 else 0) → W p l e (cw_rm 0) s m args below meth c s.heap [] 0 0 (Q) (F0 m 14 ls [.int w3]) := by
    intro w3 hw3
    have hsp : (s2_isLockedOut f) = w3 := by subst hw3; rfl
    exact hret _ _ _ _ _ _ _ _ hP hD hS dX2_isLockedOut_14 (cw_b01 (by subst hw3; (repeat' split) <;> first | exact Or.inl rfl | exact Or.inr rfl | assumption)) ⟨(), (by rw [hsp]), rfl⟩ (Nat.le_of_ble_eq_true rfl) (Nat.le_of_ble_eq_true rfl)
  refine lv_icmp_ne (tgt := 13) hx hb dX2_isLockedOut_6 (by decide) (fun z1 => ?_) (fun z1 => ?_)
  · refine lv_iconst (v := 0) hx hb dX2_isLockedOut_13 (by decide) ?_
    exact J2 0 (by simp only [if_neg z1])
  · refine lv_iconst (v := 1) hx hb dX2_isLockedOut_9 (by decide) ?_
    refine lv_goto (tgt := 14) hx hb dX2_isLockedOut_10 (by decide) ?_
    exact J2 1 (by simp only [if_pos z1])

set_option maxHeartbeats 4000000 in
set_option maxRecDepth 100000 in
theorem k2_isPilotOpen (l : Launch) (D : va_G) (cI cJ : ClassId) (xf : Nat) (xf_0 xf_1 xf_2 : Value) (f : Nat → Int32) : cw_Mi l yX2_isPilotOpen wsX2_isPilotOpen (cw_rm 0) D [(cI, .int), (cJ, .long)] [.ref xf] [(xf, c2 xf_0 xf_1 xf_2 f)] 0 0 (fun r (_ : Unit) => r = (s2_isPilotOpen f)) (fun _ : Unit => [(xf, c2 xf_0 xf_1 xf_2 f)]) := by
  refine cw_ofi (cc := cX2_isPilotOpen) (maxL := 1) (ret := (some .boolean)) (by decide) rfl (Nat.le_of_ble_eq_true rfl) rfl ?_
  intro p e s m args below meth c A ls Q hin0 hret
  obtain ⟨hx, hb, hr, hml, hts, hown, hlocks, hin, hP, hK, hD, hN, hA, hl⟩ := hin0
  have hS : va_S A s.heap s.heap [] := va_S.rf
  have hl : lv_has ls 1 [(0, .ref xf)] := hl
  have lf29 := hts (.fieldLink RX2 29 "Burnerline$Furnace" "state" "I") (by decide +kernel)
  have i2 : ∀ w ∈ wsX20, w ∈ wsX2_isPilotOpen := by decide +kernel
  refine lv_aload_n hx hb dX2_isPilotOpen_0 rfl (lv_at hl 0 rfl) ?_
  refine va_get (D := D) (ci := 2) (v := .int (f 3)) (C := RX2) (T := TX2) (N := 11) hx hb hts i2 hown hK hP 0 rfl rfl 3 (by decide) lf29 (fun _ h9 => h9) rfl dX2_isPilotOpen_1 ?_
  refine lv_iconst (v := 2) hx hb dX2_isPilotOpen_4 (by decide) ?_
  have J3 : ∀ (w4 : Int32), w4 = (if (f 3) = 2 then 1 else (if (f 3) = 3 then 1 else 0)) → W p l e (cw_rm 0) s m args below meth c s.heap [] 0 0 (Q) (F0 m 21 ls [.int w4]) := by
    intro w4 hw4
    have hsp : (s2_isPilotOpen f) = w4 := by subst hw4; rfl
    exact hret _ _ _ _ _ _ _ _ hP hD hS dX2_isPilotOpen_21 (cw_b01 (by subst hw4; (repeat' split) <;> first | exact Or.inl rfl | exact Or.inr rfl | assumption)) ⟨(), (by rw [hsp]), rfl⟩ (Nat.le_of_ble_eq_true rfl) (Nat.le_of_ble_eq_true rfl)
  refine lv_icmp_eq (tgt := 16) hx hb dX2_isPilotOpen_5 (by decide) (fun z1 => ?_) (fun z1 => ?_)
  · refine lv_iconst (v := 1) hx hb dX2_isPilotOpen_16 (by decide) ?_
    refine lv_goto (tgt := 21) hx hb dX2_isPilotOpen_17 (by decide) ?_
    exact J3 1 (by simp only [if_pos z1])
  · refine lv_aload_n hx hb dX2_isPilotOpen_8 rfl (lv_at hl 0 rfl) ?_
    refine va_get (D := D) (ci := 2) (v := .int (f 3)) (C := RX2) (T := TX2) (N := 11) hx hb hts i2 hown hK hP 0 rfl rfl 3 (by decide) lf29 (fun _ h9 => h9) rfl dX2_isPilotOpen_9 ?_
    refine lv_iconst (v := 3) hx hb dX2_isPilotOpen_12 (by decide) ?_
    refine lv_icmp_ne (tgt := 20) hx hb dX2_isPilotOpen_13 (by decide) (fun z2 => ?_) (fun z2 => ?_)
    · refine lv_iconst (v := 0) hx hb dX2_isPilotOpen_20 (by decide) ?_
      exact J3 0 (by simp only [if_neg z1, if_neg z2])
    · refine lv_iconst (v := 1) hx hb dX2_isPilotOpen_16 (by decide) ?_
      refine lv_goto (tgt := 21) hx hb dX2_isPilotOpen_17 (by decide) ?_
      exact J3 1 (by simp only [if_neg z1, if_pos z2])

set_option maxHeartbeats 4000000 in
set_option maxRecDepth 100000 in
theorem k2_isMainOpen (l : Launch) (D : va_G) (cI cJ : ClassId) (xf : Nat) (xf_0 xf_1 xf_2 : Value) (f : Nat → Int32) : cw_Mi l yX2_isMainOpen wsX2_isMainOpen (cw_rm 0) D [(cI, .int), (cJ, .long)] [.ref xf] [(xf, c2 xf_0 xf_1 xf_2 f)] 0 0 (fun r (_ : Unit) => r = (s2_isMainOpen f)) (fun _ : Unit => [(xf, c2 xf_0 xf_1 xf_2 f)]) := by
  refine cw_ofi (cc := cX2_isMainOpen) (maxL := 1) (ret := (some .boolean)) (by decide) rfl (Nat.le_of_ble_eq_true rfl) rfl ?_
  intro p e s m args below meth c A ls Q hin0 hret
  obtain ⟨hx, hb, hr, hml, hts, hown, hlocks, hin, hP, hK, hD, hN, hA, hl⟩ := hin0
  have hS : va_S A s.heap s.heap [] := va_S.rf
  have hl : lv_has ls 1 [(0, .ref xf)] := hl
  have lf29 := hts (.fieldLink RX2 29 "Burnerline$Furnace" "state" "I") (by decide +kernel)
  have i2 : ∀ w ∈ wsX20, w ∈ wsX2_isMainOpen := by decide +kernel
  refine lv_aload_n hx hb dX2_isMainOpen_0 rfl (lv_at hl 0 rfl) ?_
  refine va_get (D := D) (ci := 2) (v := .int (f 3)) (C := RX2) (T := TX2) (N := 11) hx hb hts i2 hown hK hP 0 rfl rfl 3 (by decide) lf29 (fun _ h9 => h9) rfl dX2_isMainOpen_1 ?_
  refine lv_iconst (v := 3) hx hb dX2_isMainOpen_4 (by decide) ?_
  have J3 : ∀ (w4 : Int32), w4 = (if (f 3) = 3 then 1 else (if (f 3) = 4 then 1 else 0)) → W p l e (cw_rm 0) s m args below meth c s.heap [] 0 0 (Q) (F0 m 21 ls [.int w4]) := by
    intro w4 hw4
    have hsp : (s2_isMainOpen f) = w4 := by subst hw4; rfl
    exact hret _ _ _ _ _ _ _ _ hP hD hS dX2_isMainOpen_21 (cw_b01 (by subst hw4; (repeat' split) <;> first | exact Or.inl rfl | exact Or.inr rfl | assumption)) ⟨(), (by rw [hsp]), rfl⟩ (Nat.le_of_ble_eq_true rfl) (Nat.le_of_ble_eq_true rfl)
  refine lv_icmp_eq (tgt := 16) hx hb dX2_isMainOpen_5 (by decide) (fun z1 => ?_) (fun z1 => ?_)
  · refine lv_iconst (v := 1) hx hb dX2_isMainOpen_16 (by decide) ?_
    refine lv_goto (tgt := 21) hx hb dX2_isMainOpen_17 (by decide) ?_
    exact J3 1 (by simp only [if_pos z1])
  · refine lv_aload_n hx hb dX2_isMainOpen_8 rfl (lv_at hl 0 rfl) ?_
    refine va_get (D := D) (ci := 2) (v := .int (f 3)) (C := RX2) (T := TX2) (N := 11) hx hb hts i2 hown hK hP 0 rfl rfl 3 (by decide) lf29 (fun _ h9 => h9) rfl dX2_isMainOpen_9 ?_
    refine lv_iconst (v := 4) hx hb dX2_isMainOpen_12 (by decide) ?_
    refine lv_icmp_ne (tgt := 20) hx hb dX2_isMainOpen_13 (by decide) (fun z2 => ?_) (fun z2 => ?_)
    · refine lv_iconst (v := 0) hx hb dX2_isMainOpen_20 (by decide) ?_
      exact J3 0 (by simp only [if_neg z1, if_neg z2])
    · refine lv_iconst (v := 1) hx hb dX2_isMainOpen_16 (by decide) ?_
      refine lv_goto (tgt := 21) hx hb dX2_isMainOpen_17 (by decide) ?_
      exact J3 1 (by simp only [if_neg z1, if_pos z2])

set_option maxHeartbeats 4000000 in
set_option maxRecDepth 100000 in
theorem k2_hasFlame (l : Launch) (D : va_G) (cI cJ : ClassId) (xf xp xq xs : Nat) (f : Nat → Int32) (ep : Nat → Int32) (eq : Nat → Int32) (st : Nat → Int32) : cw_Mi l yX2_hasFlame wsX2_hasFlame (cw_rm 0) D [(cI, .int), (cJ, .long)] [.ref xf] [(xf, c2 (.ref xs) (.ref xp) (.ref xq) f), (xp, c1 ep), (xq, c1 eq), (xs, c5 st)] 0 0 (fun r (_ : Unit) => r = (s2_hasFlame f ep eq st)) (fun _ : Unit => [(xf, c2 (.ref xs) (.ref xp) (.ref xq) f), (xp, c1 ep), (xq, c1 eq), (xs, c5 st)]) := by
  refine cw_ofi (cc := cX2_hasFlame) (maxL := 1) (ret := (some .boolean)) (by decide) rfl (Nat.le_of_ble_eq_true rfl) rfl ?_
  intro p e s m args below meth c A ls Q hin0 hret
  obtain ⟨hx, hb, hr, hml, hts, hown, hlocks, hin, hP, hK, hD, hN, hA, hl⟩ := hin0
  have hS : va_S A s.heap s.heap [] := va_S.rf
  have hl : lv_has ls 1 [(0, .ref xf)] := hl
  have lf12 := hts (.fieldLink RX2 12 "Burnerline$Furnace" "pilotEye" "LBurnerline$Eye;") (by decide +kernel)
  have i2 : ∀ w ∈ wsX20, w ∈ wsX2_hasFlame := by decide +kernel
  have lf54 := hN.use (args := args) (w := .fieldLinkNest "Burnerline$Furnace" 54 "Burnerline$Eye" "seesFlame" "Z" "Burnerline") (by decide +kernel)
  have i1 : ∀ w ∈ wsX10, w ∈ wsX2_hasFlame := by decide +kernel
  have lf18 := hts (.fieldLink RX2 18 "Burnerline$Furnace" "mainEye" "LBurnerline$Eye;") (by decide +kernel)
  refine lv_aload_n hx hb dX2_hasFlame_0 rfl (lv_at hl 0 rfl) ?_
  refine va_get (D := D) (ci := 2) (v := .ref xp) (C := RX2) (T := TX2) (N := 11) hx hb hts i2 hown hK hP 0 rfl rfl 1 (by decide) lf12 (fun _ h9 => h9) rfl dX2_hasFlame_1 ?_
  refine va_getN (D := D) (ci := 1) (v := .int (ep 0)) (C := RX1) (T := TX1) (N := 2) hx hb hts i1 hown hK hP 1 rfl rfl 0 (by decide) lf54 (fun _ h9 => h9) rfl dX2_hasFlame_4 ?_
  have J3 : ∀ (w4 : Int32), w4 = (if (ep 0) = 0 then (if (eq 0) = 0 then 0 else 1) else 1) → W p l e (cw_rm 0) s m args below meth c s.heap [] 0 0 (Q) (F0 m 25 ls [.int w4]) := by
    intro w4 hw4
    have hsp : (s2_hasFlame f ep eq st) = w4 := by subst hw4; rfl
    exact hret _ _ _ _ _ _ _ _ hP hD hS dX2_hasFlame_25 (cw_b01 (by subst hw4; (repeat' split) <;> first | exact Or.inl rfl | exact Or.inr rfl | assumption)) ⟨(), (by rw [hsp]), rfl⟩ (Nat.le_of_ble_eq_true rfl) (Nat.le_of_ble_eq_true rfl)
  refine lv_if_ne (tgt := 20) hx hb dX2_hasFlame_7 (by decide) (fun z1 => ?_) (fun z1 => ?_)
  · refine lv_iconst (v := 1) hx hb dX2_hasFlame_20 (by decide) ?_
    refine lv_goto (tgt := 25) hx hb dX2_hasFlame_21 (by decide) ?_
    exact J3 1 (by simp only [if_neg z1])
  · refine lv_aload_n hx hb dX2_hasFlame_10 rfl (lv_at hl 0 rfl) ?_
    refine va_get (D := D) (ci := 2) (v := .ref xq) (C := RX2) (T := TX2) (N := 11) hx hb hts i2 hown hK hP 0 rfl rfl 2 (by decide) lf18 (fun _ h9 => h9) rfl dX2_hasFlame_11 ?_
    refine va_getN (D := D) (ci := 1) (v := .int (eq 0)) (C := RX1) (T := TX1) (N := 2) hx hb hts i1 hown hK hP 2 rfl rfl 0 (by decide) lf54 (fun _ h9 => h9) rfl dX2_hasFlame_14 ?_
    refine lv_if_eq (tgt := 24) hx hb dX2_hasFlame_17 (by decide) (fun z2 => ?_) (fun z2 => ?_)
    · refine lv_iconst (v := 0) hx hb dX2_hasFlame_24 (by decide) ?_
      exact J3 0 (by simp only [if_pos z1, if_pos z2])
    · refine lv_iconst (v := 1) hx hb dX2_hasFlame_20 (by decide) ?_
      refine lv_goto (tgt := 25) hx hb dX2_hasFlame_21 (by decide) ?_
      exact J3 1 (by simp only [if_pos z1, if_neg z2])

set_option maxHeartbeats 4000000 in
set_option maxRecDepth 100000 in
theorem k2_moved (l : Launch) (D : va_G) (cI cJ : ClassId) (a1 : Int32) (a2 : Int32) (a3 : Int32) : cw_Mi l yX2_moved wsX2_moved (cw_rm 1) D [(cI, .int), (cJ, .long)] [.int a1, .int a2, .int a3] [] 0 0 (fun r (_ : Unit) => r = (s2_moved a1 a2 a3)) (fun _ : Unit => []) := by
  refine cw_ofi (cc := cX2_moved) (maxL := 3) (ret := (some .int)) (by decide) rfl (Nat.le_of_ble_eq_true rfl) rfl ?_
  intro p e s m args below meth c A ls Q hin0 hret
  obtain ⟨hx, hb, hr, hml, hts, hown, hlocks, hin, hP, hK, hD, hN, hA, hl⟩ := hin0
  have hS : va_S A s.heap s.heap [] := va_S.rf
  have hl : lv_has ls 3 [(0, .int a1), (1, .int a2), (2, .int a3)] := hl
  have lmmax0 := hts (.methodLink RX2 115 Lib.Math.max.name) (by decide +kernel)
  have lmmax1 := hts (.static Lib.Math.max.name) (by decide +kernel)
  have lmmax2 := hts (.initialized "java/lang/Math") (by decide +kernel)
  have lmmax3 := hts (.code Lib.Math.max.name Lib.Math.max.code 2 (some .int)) (by decide +kernel)
  have lmmin0 := hts (.methodLink RX2 121 Lib.Math.min.name) (by decide +kernel)
  have lmmin1 := hts (.static Lib.Math.min.name) (by decide +kernel)
  have lmmin2 := hts (.initialized "java/lang/Math") (by decide +kernel)
  have lmmin3 := hts (.code Lib.Math.min.name Lib.Math.min.code 2 (some .int)) (by decide +kernel)
  refine lv_iload_n hx hb dX2_moved_0 rfl (lv_at hl 0 rfl) ?_
  refine lv_iload_n hx hb dX2_moved_1 rfl (lv_at hl 1 rfl) ?_
  refine lv_icmp_ge (tgt := 13) hx hb dX2_moved_2 (by decide) (fun z1 => ?_) (fun z1 => ?_)
  · refine lv_iload_n hx hb dX2_moved_13 rfl (lv_at hl 0 rfl) ?_
    refine lv_iload_n hx hb dX2_moved_14 rfl (lv_at hl 2 rfl) ?_
    refine lv_isub hx hb dX2_moved_15 ?_
    refine lv_iload_n hx hb dX2_moved_16 rfl (lv_at hl 1 rfl) ?_
    refine va_mmax hx hb (by rw [hml]; exact hl.1.symm) hown lmmax0 lmmax1 lmmax2 lmmax3 (Nat.le_of_ble_eq_true rfl) (Nat.le_of_ble_eq_true rfl) (Nat.le_of_ble_eq_true rfl) (Nat.le_of_ble_eq_true rfl) dX2_moved_17 ?_
    have hsp : (s2_moved a1 a2 a3) = (if (a1 - a3) < a2 then a2 else (a1 - a3)) := by simp only [s2_moved, if_pos z1]
    exact hret _ _ _ _ _ _ _ _ hP hD hS dX2_moved_20 rfl ⟨(), (by rw [hsp]), rfl⟩ (Nat.le_of_ble_eq_true rfl) (Nat.le_of_ble_eq_true rfl)
  · refine lv_iload_n hx hb dX2_moved_5 rfl (lv_at hl 0 rfl) ?_
    refine lv_iload_n hx hb dX2_moved_6 rfl (lv_at hl 2 rfl) ?_
    refine lv_iadd hx hb dX2_moved_7 ?_
    refine lv_iload_n hx hb dX2_moved_8 rfl (lv_at hl 1 rfl) ?_
    refine va_mmin hx hb (by rw [hml]; exact hl.1.symm) hown lmmin0 lmmin1 lmmin2 lmmin3 (Nat.le_of_ble_eq_true rfl) (Nat.le_of_ble_eq_true rfl) (Nat.le_of_ble_eq_true rfl) (Nat.le_of_ble_eq_true rfl) dX2_moved_9 ?_
    have hsp : (s2_moved a1 a2 a3) = (if a2 < (a1 + a3) then a2 else (a1 + a3)) := by simp only [s2_moved, if_neg z1]
    exact hret _ _ _ _ _ _ _ _ hP hD hS dX2_moved_12 rfl ⟨(), (by rw [hsp]), rfl⟩ (Nat.le_of_ble_eq_true rfl) (Nat.le_of_ble_eq_true rfl)

set_option maxHeartbeats 4000000 in
set_option maxRecDepth 100000 in
theorem k2_begin (l : Launch) (D : va_G) (cI cJ : ClassId) (xf : Nat) (xf_0 xf_1 xf_2 : Value) (f : Nat → Int32) (a1 : Int32) (a2 : Int32) : cw_Mi l yX2_begin wsX2_begin (cw_rm 1) D [(cI, .int), (cJ, .long)] [.ref xf, .int a1, .int a2] [(xf, c2 xf_0 xf_1 xf_2 f)] 0 0 (fun r (_ : Unit) => r = (s2_begin f a1 a2).1) (fun _ : Unit => [(xf, c2 xf_0 xf_1 xf_2 (s2_begin f a1 a2).2)]) := by
  refine cw_ofi (cc := cX2_begin) (maxL := 3) (ret := (some .boolean)) (by decide) rfl (Nat.le_of_ble_eq_true rfl) rfl ?_
  intro p e s m args below meth c A ls Q hin0 hret
  obtain ⟨hx, hb, hr, hml, hts, hown, hlocks, hin, hP, hK, hD, hN, hA, hl⟩ := hin0
  have hS : va_S A s.heap s.heap [] := va_S.rf
  have hl : lv_has ls 3 [(0, .ref xf), (1, .int a1), (2, .int a2)] := hl
  have lf29 := hts (.fieldLink RX2 29 "Burnerline$Furnace" "state" "I") (by decide +kernel)
  have i2 : ∀ w ∈ wsX20, w ∈ wsX2_begin := by decide +kernel
  have lf33 := hts (.fieldLink RX2 33 "Burnerline$Furnace" "reason" "I") (by decide +kernel)
  have lf36 := hts (.fieldLink RX2 36 "Burnerline$Furnace" "time" "I") (by decide +kernel)
  have lf45 := hts (.fieldLink RX2 45 "Burnerline$Furnace" "purged" "I") (by decide +kernel)
  have lf42 := hts (.fieldLink RX2 42 "Burnerline$Furnace" "fuel" "I") (by decide +kernel)
  refine lv_aload_n hx hb dX2_begin_0 rfl (lv_at hl 0 rfl) ?_
  refine lv_iload_n hx hb dX2_begin_1 rfl (lv_at hl 1 rfl) ?_
  refine va_put (D := D) (ci := 2) (v := .int a1) (ty := .int) (C := RX2) (T := TX2) (N := 11) hx hb hts i2 tyX2 tyX2_ok nmX2 hown hK hP hD hS 0 rfl rfl 3 (by decide) lf29 (fun _ h9 => h9) rfl (by decide +kernel) rfl rfl (Nat.le_of_ble_eq_true rfl) dX2_begin_2 (fun H locs hP hD hS => ?_)
  have hP : va_P D vwCl [(xf, c2 xf_0 xf_1 xf_2 (upd f 3 a1))] H := (congrArg (fun z9 => va_P D vwCl [(xf, .inr (2, z9))] H) (cs2_3 xf_0 xf_1 xf_2 f a1)).mp hP
  have hD : va_D A [(xf, c2 xf_0 xf_1 xf_2 (upd f 3 a1))] := (congrArg (fun z9 => va_D A [(xf, .inr (2, z9))]) (cs2_3 xf_0 xf_1 xf_2 f a1)).mp hD
  refine lv_aload_n hx hb dX2_begin_5 rfl (lv_at hl 0 rfl) ?_
  refine lv_iload_n hx hb dX2_begin_6 rfl (lv_at hl 2 rfl) ?_
  refine va_put (D := D) (ci := 2) (v := .int a2) (ty := .int) (C := RX2) (T := TX2) (N := 11) hx hb hts i2 tyX2 tyX2_ok nmX2 hown hK hP hD hS 0 rfl rfl 4 (by decide) lf33 (fun _ h9 => h9) rfl (by decide +kernel) rfl rfl (Nat.le_of_ble_eq_true rfl) dX2_begin_7 (fun H locs hP hD hS => ?_)
  have hP : va_P D vwCl [(xf, c2 xf_0 xf_1 xf_2 (upd (upd f 3 a1) 4 a2))] H := (congrArg (fun z9 => va_P D vwCl [(xf, .inr (2, z9))] H) (cs2_4 xf_0 xf_1 xf_2 (upd f 3 a1) a2)).mp hP
  have hD : va_D A [(xf, c2 xf_0 xf_1 xf_2 (upd (upd f 3 a1) 4 a2))] := (congrArg (fun z9 => va_D A [(xf, .inr (2, z9))]) (cs2_4 xf_0 xf_1 xf_2 (upd f 3 a1) a2)).mp hD
  refine lv_aload_n hx hb dX2_begin_10 rfl (lv_at hl 0 rfl) ?_
  refine lv_iconst (v := 0) hx hb dX2_begin_11 (by decide) ?_
  refine va_put (D := D) (ci := 2) (v := .int 0) (ty := .int) (C := RX2) (T := TX2) (N := 11) hx hb hts i2 tyX2 tyX2_ok nmX2 hown hK hP hD hS 0 rfl rfl 5 (by decide) lf36 (fun _ h9 => h9) rfl (by decide +kernel) rfl rfl (Nat.le_of_ble_eq_true rfl) dX2_begin_12 (fun H locs hP hD hS => ?_)
  have hP : va_P D vwCl [(xf, c2 xf_0 xf_1 xf_2 (upd (upd (upd f 3 a1) 4 a2) 5 0))] H := (congrArg (fun z9 => va_P D vwCl [(xf, .inr (2, z9))] H) (cs2_5 xf_0 xf_1 xf_2 (upd (upd f 3 a1) 4 a2) 0)).mp hP
  have hD : va_D A [(xf, c2 xf_0 xf_1 xf_2 (upd (upd (upd f 3 a1) 4 a2) 5 0))] := (congrArg (fun z9 => va_D A [(xf, .inr (2, z9))]) (cs2_5 xf_0 xf_1 xf_2 (upd (upd f 3 a1) 4 a2) 0)).mp hD
  refine lv_aload_n hx hb dX2_begin_15 rfl (lv_at hl 0 rfl) ?_
  refine lv_iconst (v := 0) hx hb dX2_begin_16 (by decide) ?_
  refine va_put (D := D) (ci := 2) (v := .int 0) (ty := .int) (C := RX2) (T := TX2) (N := 11) hx hb hts i2 tyX2 tyX2_ok nmX2 hown hK hP hD hS 0 rfl rfl 8 (by decide) lf45 (fun _ h9 => h9) rfl (by decide +kernel) rfl rfl (Nat.le_of_ble_eq_true rfl) dX2_begin_17 (fun H locs hP hD hS => ?_)
  have hP : va_P D vwCl [(xf, c2 xf_0 xf_1 xf_2 (upd (upd (upd (upd f 3 a1) 4 a2) 5 0) 8 0))] H := (congrArg (fun z9 => va_P D vwCl [(xf, .inr (2, z9))] H) (cs2_8 xf_0 xf_1 xf_2 (upd (upd (upd f 3 a1) 4 a2) 5 0) 0)).mp hP
  have hD : va_D A [(xf, c2 xf_0 xf_1 xf_2 (upd (upd (upd (upd f 3 a1) 4 a2) 5 0) 8 0))] := (congrArg (fun z9 => va_D A [(xf, .inr (2, z9))]) (cs2_8 xf_0 xf_1 xf_2 (upd (upd (upd f 3 a1) 4 a2) 5 0) 0)).mp hD
  refine lv_aload_n hx hb dX2_begin_20 rfl (lv_at hl 0 rfl) ?_
  refine cw_cVi (As := []) (rest := []) (wc := [(xf, c2 xf_0 xf_1 xf_2 (upd (upd (upd (upd f 3 a1) 4 a2) 5 0) 8 0))]) (wr := []) ⟨hx, hb, hml, hown, hts⟩ (k2_isMainOpen l D cI cJ xf xf_0 xf_1 xf_2 (upd (upd (upd (upd f 3 a1) 4 a2) 5 0) 8 0)) (cwV 0 hts gX2_begin_X2_isMainOpen rfl rfl rfl (by decide +kernel) ⟨Nat.le_of_ble_eq_true rfl, Nat.le_of_ble_eq_true rfl⟩) hK hN hP hD hS hA [0] [] rfl rfl (by decide) (by decide) (by decide) 0 (ci := 2) rfl rfl rfl rfl hl.1 rfl (Nat.le_of_ble_eq_true rfl) dX2_begin_21 ⟨Nat.le_of_ble_eq_true rfl, Nat.le_of_ble_eq_true rfl⟩ (fun r2 u1 H locs hw hP hD hS => ?_)
  have hr2 : r2 = (s2_isMainOpen (upd (upd (upd (upd f 3 a1) 4 a2) 5 0) 8 0)) := hw
  have hP : va_P D vwCl [(xf, c2 xf_0 xf_1 xf_2 (upd (upd (upd (upd f 3 a1) 4 a2) 5 0) 8 0))] H := hP
  have hD : va_D A [(xf, c2 xf_0 xf_1 xf_2 (upd (upd (upd (upd f 3 a1) 4 a2) 5 0) 8 0))] := hD
  have J4 : ∀ (w5 : Nat → Int32), w5 = (if r2 = 0 then (upd (upd (upd (upd (upd f 3 a1) 4 a2) 5 0) 8 0) 7 0) else (upd (upd (upd (upd f 3 a1) 4 a2) 5 0) 8 0)) → ∀ (H : Heap) (locs : List Loc), va_P D vwCl [(xf, c2 xf_0 xf_1 xf_2 w5)] H → va_D A [(xf, c2 xf_0 xf_1 xf_2 w5)] → va_S A s.heap H locs → W p l e (cw_rm 1) s m args below meth c H locs 0 0 (Q) (F0 m 32 ls []) := by
    intro w5 hw5 H locs hP hD hS
    refine lv_iconst (v := 1) hx hb dX2_begin_32 (by decide) ?_
    have hsp : (s2_begin f a1 a2) = (1, w5) := by subst hw5; subst hr2; rfl
    exact hret _ _ _ _ _ _ _ _ hP hD hS dX2_begin_33 rfl ⟨(), (by rw [hsp]), (by rw [hsp])⟩ (Nat.le_of_ble_eq_true rfl) (Nat.le_of_ble_eq_true rfl)
  refine lv_if_ne (tgt := 32) hx hb dX2_begin_24 (by decide) (fun z3 => ?_) (fun z3 => ?_)
  · exact J4 (upd (upd (upd (upd f 3 a1) 4 a2) 5 0) 8 0) (by simp only [if_neg z3]) _ _ hP hD hS
  · refine lv_aload_n hx hb dX2_begin_27 rfl (lv_at hl 0 rfl) ?_
    refine lv_iconst (v := 0) hx hb dX2_begin_28 (by decide) ?_
    refine va_put (D := D) (ci := 2) (v := .int 0) (ty := .int) (C := RX2) (T := TX2) (N := 11) hx hb hts i2 tyX2 tyX2_ok nmX2 hown hK hP hD hS 0 rfl rfl 7 (by decide) lf42 (fun _ h9 => h9) rfl (by decide +kernel) rfl rfl (Nat.le_of_ble_eq_true rfl) dX2_begin_29 (fun H locs hP hD hS => ?_)
    have hP : va_P D vwCl [(xf, c2 xf_0 xf_1 xf_2 (upd (upd (upd (upd (upd f 3 a1) 4 a2) 5 0) 8 0) 7 0))] H := (congrArg (fun z9 => va_P D vwCl [(xf, .inr (2, z9))] H) (cs2_7 xf_0 xf_1 xf_2 (upd (upd (upd (upd f 3 a1) 4 a2) 5 0) 8 0) 0)).mp hP
    have hD : va_D A [(xf, c2 xf_0 xf_1 xf_2 (upd (upd (upd (upd (upd f 3 a1) 4 a2) 5 0) 8 0) 7 0))] := (congrArg (fun z9 => va_D A [(xf, .inr (2, z9))]) (cs2_7 xf_0 xf_1 xf_2 (upd (upd (upd (upd f 3 a1) 4 a2) 5 0) 8 0) 0)).mp hD
    exact J4 (upd (upd (upd (upd (upd f 3 a1) 4 a2) 5 0) 8 0) 7 0) (by simp only [if_pos z3]) _ _ hP hD hS

set_option maxHeartbeats 4000000 in
set_option maxRecDepth 100000 in
theorem k2_lockOut (l : Launch) (D : va_G) (cI cJ : ClassId) (xf : Nat) (xf_0 xf_1 xf_2 : Value) (f : Nat → Int32) (a1 : Int32) : cw_Mi l yX2_lockOut wsX2_lockOut (cw_rm 2) D [(cI, .int), (cJ, .long)] [.ref xf, .int a1] [(xf, c2 xf_0 xf_1 xf_2 f)] 0 0 (fun r (_ : Unit) => r = (s2_lockOut f a1).1) (fun _ : Unit => [(xf, c2 xf_0 xf_1 xf_2 (s2_lockOut f a1).2)]) := by
  refine cw_ofi (cc := cX2_lockOut) (maxL := 2) (ret := (some .boolean)) (by decide) rfl (Nat.le_of_ble_eq_true rfl) rfl ?_
  intro p e s m args below meth c A ls Q hin0 hret
  obtain ⟨hx, hb, hr, hml, hts, hown, hlocks, hin, hP, hK, hD, hN, hA, hl⟩ := hin0
  have hS : va_S A s.heap s.heap [] := va_S.rf
  have hl : lv_has ls 2 [(0, .ref xf), (1, .int a1)] := hl
  refine lv_aload_n hx hb dX2_lockOut_0 rfl (lv_at hl 0 rfl) ?_
  refine lv_bipush (v := 6) hx hb dX2_lockOut_1 (by decide) ?_
  refine lv_iload_n hx hb dX2_lockOut_3 rfl (lv_at hl 1 rfl) ?_
  refine cw_cVi (As := [.int 6, .int a1]) (rest := []) (wc := [(xf, c2 xf_0 xf_1 xf_2 f)]) (wr := []) ⟨hx, hb, hml, hown, hts⟩ (k2_begin l D cI cJ xf xf_0 xf_1 xf_2 f 6 a1) (cwV 2 hts gX2_lockOut_X2_begin rfl rfl rfl (by decide +kernel) ⟨Nat.le_of_ble_eq_true rfl, Nat.le_of_ble_eq_true rfl⟩) hK hN hP hD hS hA [0] [] rfl rfl (by decide) (by decide) (by decide) 0 (ci := 2) rfl rfl rfl rfl hl.1 rfl (Nat.le_of_ble_eq_true rfl) dX2_lockOut_4 ⟨Nat.le_of_ble_eq_true rfl, Nat.le_of_ble_eq_true rfl⟩ (fun r2 u1 H locs hw hP hD hS => ?_)
  have hr2 : r2 = ((s2_begin f 6 a1).1) := hw
  obtain ⟨v3, hv3⟩ : ∃ z : Nat → Int32, z = ((s2_begin f 6 a1).2) := ⟨_, rfl⟩
  have hP : va_P D vwCl [(xf, c2 xf_0 xf_1 xf_2 v3)] H := by rw [hv3]; exact hP
  have hD : va_D A [(xf, c2 xf_0 xf_1 xf_2 v3)] := by rw [hv3]; exact hD
  have hsp : (s2_lockOut f a1) = (r2, v3) := by subst hr2; subst hv3; rfl
  exact hret _ _ _ _ _ _ _ _ hP hD hS dX2_lockOut_7 (cw_b01 (by subst hr2; (repeat' split) <;> first | exact Or.inl rfl | exact Or.inr rfl | assumption | exact z2_begin _ _ _)) ⟨(), (by rw [hsp]), (by rw [hsp])⟩ (Nat.le_of_ble_eq_true rfl) (Nat.le_of_ble_eq_true rfl)

set_option maxHeartbeats 4000000 in
set_option maxRecDepth 100000 in
theorem k2_isCheckDue (l : Launch) (D : va_G) (cI cJ : ClassId) (xf xp xq xs : Nat) (f : Nat → Int32) (ep : Nat → Int32) (eq : Nat → Int32) (st : Nat → Int32) : cw_Mi l yX2_isCheckDue wsX2_isCheckDue (cw_rm 0) D [(cI, .int), (cJ, .long)] [.ref xf] [(xf, c2 (.ref xs) (.ref xp) (.ref xq) f), (xp, c1 ep), (xq, c1 eq), (xs, c5 st)] 0 0 (fun r (_ : Unit) => r = (s2_isCheckDue f ep eq st)) (fun _ : Unit => [(xf, c2 (.ref xs) (.ref xp) (.ref xq) f), (xp, c1 ep), (xq, c1 eq), (xs, c5 st)]) := by
  refine cw_ofi (cc := cX2_isCheckDue) (maxL := 1) (ret := (some .boolean)) (by decide) rfl (Nat.le_of_ble_eq_true rfl) rfl ?_
  intro p e s m args below meth c A ls Q hin0 hret
  obtain ⟨hx, hb, hr, hml, hts, hown, hlocks, hin, hP, hK, hD, hN, hA, hl⟩ := hin0
  have hS : va_S A s.heap s.heap [] := va_S.rf
  have hl : lv_has ls 1 [(0, .ref xf)] := hl
  have lf21 := hts (.fieldLink RX2 21 "Burnerline$Furnace" "settings" "LBurnerline$Settings;") (by decide +kernel)
  have i2 : ∀ w ∈ wsX20, w ∈ wsX2_isCheckDue := by decide +kernel
  have lf169 := hN.use (args := args) (w := .fieldLinkNest "Burnerline$Furnace" 169 "Burnerline$Settings" "ticksToCheck" "I" "Burnerline") (by decide +kernel)
  have i5 : ∀ w ∈ wsX50, w ∈ wsX2_isCheckDue := by decide +kernel
  have lf36 := hts (.fieldLink RX2 36 "Burnerline$Furnace" "time" "I") (by decide +kernel)
  refine lv_aload_n hx hb dX2_isCheckDue_0 rfl (lv_at hl 0 rfl) ?_
  refine va_get (D := D) (ci := 2) (v := .ref xs) (C := RX2) (T := TX2) (N := 11) hx hb hts i2 hown hK hP 0 rfl rfl 0 (by decide) lf21 (fun _ h9 => h9) rfl dX2_isCheckDue_1 ?_
  refine va_getN (D := D) (ci := 5) (v := .int (st 7)) (C := RX5) (T := TX5) (N := 11) hx hb hts i5 hown hK hP 3 rfl rfl 7 (by decide) lf169 (fun _ h9 => h9) rfl dX2_isCheckDue_4 ?_
  have J3 : ∀ (w4 : Int32), w4 = (if (st 7) ≤ 0 then 0 else (if ((f 5) - (f 5) / (st 7) * (st 7)) = 0 then 1 else 0)) → W p l e (cw_rm 0) s m args below meth c s.heap [] 0 0 (Q) (F0 m 30 ls [.int w4]) := by
    intro w4 hw4
    have hsp : (s2_isCheckDue f ep eq st) = w4 := by subst hw4; rfl
    exact hret _ _ _ _ _ _ _ _ hP hD hS dX2_isCheckDue_30 (cw_b01 (by subst hw4; (repeat' split) <;> first | exact Or.inl rfl | exact Or.inr rfl | assumption)) ⟨(), (by rw [hsp]), rfl⟩ (Nat.le_of_ble_eq_true rfl) (Nat.le_of_ble_eq_true rfl)
  refine lv_if_le (tgt := 29) hx hb dX2_isCheckDue_7 (by decide) (fun z1 => ?_) (fun z1 => ?_)
  · refine lv_iconst (v := 0) hx hb dX2_isCheckDue_29 (by decide) ?_
    exact J3 0 (by simp only [if_pos z1])
  · refine lv_aload_n hx hb dX2_isCheckDue_10 rfl (lv_at hl 0 rfl) ?_
    refine va_get (D := D) (ci := 2) (v := .int (f 5)) (C := RX2) (T := TX2) (N := 11) hx hb hts i2 hown hK hP 0 rfl rfl 5 (by decide) lf36 (fun _ h9 => h9) rfl dX2_isCheckDue_11 ?_
    refine lv_aload_n hx hb dX2_isCheckDue_14 rfl (lv_at hl 0 rfl) ?_
    refine va_get (D := D) (ci := 2) (v := .ref xs) (C := RX2) (T := TX2) (N := 11) hx hb hts i2 hown hK hP 0 rfl rfl 0 (by decide) lf21 (fun _ h9 => h9) rfl dX2_isCheckDue_15 ?_
    refine va_getN (D := D) (ci := 5) (v := .int (st 7)) (C := RX5) (T := TX5) (N := 11) hx hb hts i5 hown hK hP 3 rfl rfl 7 (by decide) lf169 (fun _ h9 => h9) rfl dX2_isCheckDue_18 ?_
    refine lv_irem hx hb dX2_isCheckDue_21 (by intro h0; rw [h0] at z1; exact absurd z1 (by decide)) ?_
    refine lv_if_ne (tgt := 29) hx hb dX2_isCheckDue_22 (by decide) (fun z2 => ?_) (fun z2 => ?_)
    · refine lv_iconst (v := 0) hx hb dX2_isCheckDue_29 (by decide) ?_
      exact J3 0 (by simp only [if_neg z1, if_neg z2])
    · refine lv_iconst (v := 1) hx hb dX2_isCheckDue_25 (by decide) ?_
      refine lv_goto (tgt := 30) hx hb dX2_isCheckDue_26 (by decide) ?_
      exact J3 1 (by simp only [if_neg z1, if_pos z2])

set_option maxHeartbeats 4000000 in
set_option maxRecDepth 100000 in
theorem k2_airGoal (l : Launch) (D : va_G) (cI cJ : ClassId) (xf xp xq xs : Nat) (f : Nat → Int32) (ep : Nat → Int32) (eq : Nat → Int32) (st : Nat → Int32) : cw_Mi l yX2_airGoal wsX2_airGoal (cw_rm 1) D [(cI, .int), (cJ, .long)] [.ref xf] [(xf, c2 (.ref xs) (.ref xp) (.ref xq) f), (xp, c1 ep), (xq, c1 eq), (xs, c5 st)] 0 0 (fun r (_ : Unit) => r = (s2_airGoal f ep eq st)) (fun _ : Unit => [(xf, c2 (.ref xs) (.ref xp) (.ref xq) f), (xp, c1 ep), (xq, c1 eq), (xs, c5 st)]) := by
  refine cw_ofi (cc := cX2_airGoal) (maxL := 1) (ret := (some .int)) (by decide) rfl (Nat.le_of_ble_eq_true rfl) rfl ?_
  intro p e s m args below meth c A ls Q hin0 hret
  obtain ⟨hx, hb, hr, hml, hts, hown, hlocks, hin, hP, hK, hD, hN, hA, hl⟩ := hin0
  have hS : va_S A s.heap s.heap [] := va_S.rf
  have hl : lv_has ls 1 [(0, .ref xf)] := hl
  have lf29 := hts (.fieldLink RX2 29 "Burnerline$Furnace" "state" "I") (by decide +kernel)
  have i2 : ∀ w ∈ wsX20, w ∈ wsX2_airGoal := by decide +kernel
  have lf21 := hts (.fieldLink RX2 21 "Burnerline$Furnace" "settings" "LBurnerline$Settings;") (by decide +kernel)
  have lf112 := hN.use (args := args) (w := .fieldLinkNest "Burnerline$Furnace" 112 "Burnerline$Settings" "rate" "I" "Burnerline") (by decide +kernel)
  have i5 : ∀ w ∈ wsX50, w ∈ wsX2_airGoal := by decide +kernel
  have lf42 := hts (.fieldLink RX2 42 "Burnerline$Furnace" "fuel" "I") (by decide +kernel)
  have lmmax0 := hts (.methodLink RX2 115 Lib.Math.max.name) (by decide +kernel)
  have lmmax1 := hts (.static Lib.Math.max.name) (by decide +kernel)
  have lmmax2 := hts (.initialized "java/lang/Math") (by decide +kernel)
  have lmmax3 := hts (.code Lib.Math.max.name Lib.Math.max.code 2 (some .int)) (by decide +kernel)
  refine lv_aload_n hx hb dX2_airGoal_0 rfl (lv_at hl 0 rfl) ?_
  refine va_get (D := D) (ci := 2) (v := .int (f 3)) (C := RX2) (T := TX2) (N := 11) hx hb hts i2 hown hK hP 0 rfl rfl 3 (by decide) lf29 (fun _ h9 => h9) rfl dX2_airGoal_1 ?_
  by_cases z1 : (f 3) = 0
  · refine lv_tableIn (off := 36) (tgt := 40) hx hb dX2_airGoal_4 (by rw [z1]; decide) (by rw [z1]; decide) (by rw [z1]; rfl) (by decide) ?_
    refine lv_iconst (v := 0) hx hb dX2_airGoal_40 (by decide) ?_
    have hsp : (s2_airGoal f ep eq st) = 0 := by simp only [s2_airGoal, if_pos z1]
    exact hret _ _ _ _ _ _ _ _ hP hD hS dX2_airGoal_41 rfl ⟨(), (by rw [hsp]), rfl⟩ (Nat.le_of_ble_eq_true rfl) (Nat.le_of_ble_eq_true rfl)
  · by_cases z2 : (f 3) = 1
    · refine lv_tableIn (off := 38) (tgt := 42) hx hb dX2_airGoal_4 (by rw [z2]; decide) (by rw [z2]; decide) (by rw [z2]; rfl) (by decide) ?_
      refine lv_bipush (v := 100) hx hb dX2_airGoal_42 (by decide) ?_
      have hsp : (s2_airGoal f ep eq st) = 100 := by simp only [s2_airGoal, if_neg z1, if_pos z2]
      exact hret _ _ _ _ _ _ _ _ hP hD hS dX2_airGoal_44 rfl ⟨(), (by rw [hsp]), rfl⟩ (Nat.le_of_ble_eq_true rfl) (Nat.le_of_ble_eq_true rfl)
    · by_cases z3 : (f 3) = 2
      · refine lv_tableIn (off := 41) (tgt := 45) hx hb dX2_airGoal_4 (by rw [z3]; decide) (by rw [z3]; decide) (by rw [z3]; rfl) (by decide) ?_
        refine lv_bipush (v := 30) hx hb dX2_airGoal_45 (by decide) ?_
        have hsp : (s2_airGoal f ep eq st) = 30 := by simp only [s2_airGoal, if_neg z1, if_neg z2, if_pos z3]
        exact hret _ _ _ _ _ _ _ _ hP hD hS dX2_airGoal_47 rfl ⟨(), (by rw [hsp]), rfl⟩ (Nat.le_of_ble_eq_true rfl) (Nat.le_of_ble_eq_true rfl)
      · by_cases z4 : (f 3) = 3
        · refine lv_tableIn (off := 41) (tgt := 45) hx hb dX2_airGoal_4 (by rw [z4]; decide) (by rw [z4]; decide) (by rw [z4]; rfl) (by decide) ?_
          refine lv_bipush (v := 30) hx hb dX2_airGoal_45 (by decide) ?_
          have hsp : (s2_airGoal f ep eq st) = 30 := by simp only [s2_airGoal, if_neg z1, if_neg z2, if_neg z3, if_pos z4]
          exact hret _ _ _ _ _ _ _ _ hP hD hS dX2_airGoal_47 rfl ⟨(), (by rw [hsp]), rfl⟩ (Nat.le_of_ble_eq_true rfl) (Nat.le_of_ble_eq_true rfl)
        · by_cases z5 : (f 3) = 4
          · refine lv_tableIn (off := 44) (tgt := 48) hx hb dX2_airGoal_4 (by rw [z5]; decide) (by rw [z5]; decide) (by rw [z5]; rfl) (by decide) ?_
            refine lv_aload_n hx hb dX2_airGoal_48 rfl (lv_at hl 0 rfl) ?_
            refine va_get (D := D) (ci := 2) (v := .ref xs) (C := RX2) (T := TX2) (N := 11) hx hb hts i2 hown hK hP 0 rfl rfl 0 (by decide) lf21 (fun _ h9 => h9) rfl dX2_airGoal_49 ?_
            refine va_getN (D := D) (ci := 5) (v := .int (st 0)) (C := RX5) (T := TX5) (N := 11) hx hb hts i5 hown hK hP 3 rfl rfl 0 (by decide) lf112 (fun _ h9 => h9) rfl dX2_airGoal_52 ?_
            refine lv_aload_n hx hb dX2_airGoal_55 rfl (lv_at hl 0 rfl) ?_
            refine va_get (D := D) (ci := 2) (v := .int (f 7)) (C := RX2) (T := TX2) (N := 11) hx hb hts i2 hown hK hP 0 rfl rfl 7 (by decide) lf42 (fun _ h9 => h9) rfl dX2_airGoal_56 ?_
            refine va_mmax hx hb (by rw [hml]; exact hl.1.symm) hown lmmax0 lmmax1 lmmax2 lmmax3 (Nat.le_of_ble_eq_true rfl) (Nat.le_of_ble_eq_true rfl) (Nat.le_of_ble_eq_true rfl) (Nat.le_of_ble_eq_true rfl) dX2_airGoal_59 ?_
            have hsp : (s2_airGoal f ep eq st) = (if (st 0) < (f 7) then (f 7) else (st 0)) := by simp only [s2_airGoal, if_neg z1, if_neg z2, if_neg z3, if_neg z4, if_pos z5]
            exact hret _ _ _ _ _ _ _ _ hP hD hS dX2_airGoal_62 rfl ⟨(), (by rw [hsp]), rfl⟩ (Nat.le_of_ble_eq_true rfl) (Nat.le_of_ble_eq_true rfl)
          · refine lv_tableOut (tgt := 63) hx hb dX2_airGoal_4 (by have y0 := lv_neT z1 (a := 0) (by decide); have y1 := lv_neT z2 (a := 1) (by decide); have y2 := lv_neT z3 (a := 2) (by decide); have y3 := lv_neT z4 (a := 3) (by decide); have y4 := lv_neT z5 (a := 4) (by decide); omega) (by decide) ?_
            refine lv_bipush (v := 60) hx hb dX2_airGoal_63 (by decide) ?_
            have hsp : (s2_airGoal f ep eq st) = 60 := by simp only [s2_airGoal, if_neg z1, if_neg z2, if_neg z3, if_neg z4, if_neg z5]
            exact hret _ _ _ _ _ _ _ _ hP hD hS dX2_airGoal_65 rfl ⟨(), (by rw [hsp]), rfl⟩ (Nat.le_of_ble_eq_true rfl) (Nat.le_of_ble_eq_true rfl)

set_option maxHeartbeats 4000000 in
set_option maxRecDepth 100000 in
theorem k2_fuelGoal (l : Launch) (D : va_G) (cI cJ : ClassId) (xf xp xq xs : Nat) (f : Nat → Int32) (ep : Nat → Int32) (eq : Nat → Int32) (st : Nat → Int32) : cw_Mi l yX2_fuelGoal wsX2_fuelGoal (cw_rm 1) D [(cI, .int), (cJ, .long)] [.ref xf] [(xf, c2 (.ref xs) (.ref xp) (.ref xq) f), (xp, c1 ep), (xq, c1 eq), (xs, c5 st)] 0 0 (fun r (_ : Unit) => r = (s2_fuelGoal f ep eq st)) (fun _ : Unit => [(xf, c2 (.ref xs) (.ref xp) (.ref xq) f), (xp, c1 ep), (xq, c1 eq), (xs, c5 st)]) := by
  refine cw_ofi (cc := cX2_fuelGoal) (maxL := 1) (ret := (some .int)) (by decide) rfl (Nat.le_of_ble_eq_true rfl) rfl ?_
  intro p e s m args below meth c A ls Q hin0 hret
  obtain ⟨hx, hb, hr, hml, hts, hown, hlocks, hin, hP, hK, hD, hN, hA, hl⟩ := hin0
  have hS : va_S A s.heap s.heap [] := va_S.rf
  have hl : lv_has ls 1 [(0, .ref xf)] := hl
  have lf29 := hts (.fieldLink RX2 29 "Burnerline$Furnace" "state" "I") (by decide +kernel)
  have i2 : ∀ w ∈ wsX20, w ∈ wsX2_fuelGoal := by decide +kernel
  have lf21 := hts (.fieldLink RX2 21 "Burnerline$Furnace" "settings" "LBurnerline$Settings;") (by decide +kernel)
  have lf112 := hN.use (args := args) (w := .fieldLinkNest "Burnerline$Furnace" 112 "Burnerline$Settings" "rate" "I" "Burnerline") (by decide +kernel)
  have i5 : ∀ w ∈ wsX50, w ∈ wsX2_fuelGoal := by decide +kernel
  have lf39 := hts (.fieldLink RX2 39 "Burnerline$Furnace" "air" "I") (by decide +kernel)
  have lmmin0 := hts (.methodLink RX2 121 Lib.Math.min.name) (by decide +kernel)
  have lmmin1 := hts (.static Lib.Math.min.name) (by decide +kernel)
  have lmmin2 := hts (.initialized "java/lang/Math") (by decide +kernel)
  have lmmin3 := hts (.code Lib.Math.min.name Lib.Math.min.code 2 (some .int)) (by decide +kernel)
  refine lv_aload_n hx hb dX2_fuelGoal_0 rfl (lv_at hl 0 rfl) ?_
  refine va_get (D := D) (ci := 2) (v := .int (f 3)) (C := RX2) (T := TX2) (N := 11) hx hb hts i2 hown hK hP 0 rfl rfl 3 (by decide) lf29 (fun _ h9 => h9) rfl dX2_fuelGoal_1 ?_
  by_cases z1 : (f 3) = 3
  · refine lv_lookup (off := 28) (tgt := 32) hx hb dX2_fuelGoal_4 (by decide) (by rw [z1]; rfl) (by decide) ?_
    refine lv_bipush (v := 20) hx hb dX2_fuelGoal_32 (by decide) ?_
    have hsp : (s2_fuelGoal f ep eq st) = 20 := by simp only [s2_fuelGoal, if_pos z1]
    exact hret _ _ _ _ _ _ _ _ hP hD hS dX2_fuelGoal_34 rfl ⟨(), (by rw [hsp]), rfl⟩ (Nat.le_of_ble_eq_true rfl) (Nat.le_of_ble_eq_true rfl)
  · by_cases z2 : (f 3) = 4
    · refine lv_lookup (off := 31) (tgt := 35) hx hb dX2_fuelGoal_4 (by decide) (by rw [z2]; rfl) (by decide) ?_
      refine lv_aload_n hx hb dX2_fuelGoal_35 rfl (lv_at hl 0 rfl) ?_
      refine va_get (D := D) (ci := 2) (v := .ref xs) (C := RX2) (T := TX2) (N := 11) hx hb hts i2 hown hK hP 0 rfl rfl 0 (by decide) lf21 (fun _ h9 => h9) rfl dX2_fuelGoal_36 ?_
      refine va_getN (D := D) (ci := 5) (v := .int (st 0)) (C := RX5) (T := TX5) (N := 11) hx hb hts i5 hown hK hP 3 rfl rfl 0 (by decide) lf112 (fun _ h9 => h9) rfl dX2_fuelGoal_39 ?_
      refine lv_aload_n hx hb dX2_fuelGoal_42 rfl (lv_at hl 0 rfl) ?_
      refine va_get (D := D) (ci := 2) (v := .int (f 6)) (C := RX2) (T := TX2) (N := 11) hx hb hts i2 hown hK hP 0 rfl rfl 6 (by decide) lf39 (fun _ h9 => h9) rfl dX2_fuelGoal_43 ?_
      refine va_mmin hx hb (by rw [hml]; exact hl.1.symm) hown lmmin0 lmmin1 lmmin2 lmmin3 (Nat.le_of_ble_eq_true rfl) (Nat.le_of_ble_eq_true rfl) (Nat.le_of_ble_eq_true rfl) (Nat.le_of_ble_eq_true rfl) dX2_fuelGoal_46 ?_
      have hsp : (s2_fuelGoal f ep eq st) = (if (f 6) < (st 0) then (f 6) else (st 0)) := by simp only [s2_fuelGoal, if_neg z1, if_pos z2]
      exact hret _ _ _ _ _ _ _ _ hP hD hS dX2_fuelGoal_49 rfl ⟨(), (by rw [hsp]), rfl⟩ (Nat.le_of_ble_eq_true rfl) (Nat.le_of_ble_eq_true rfl)
    · refine lv_lookup (off := 46) (tgt := 50) hx hb dX2_fuelGoal_4 (by decide) (by show Op.lookupswitch.offset [(3, 28), (4, 31)] _ _ = _; rw [lv_osw z1 (by decide)]; rw [lv_osw z2 (by decide)]; rfl) (by decide) ?_
      refine lv_iconst (v := 0) hx hb dX2_fuelGoal_50 (by decide) ?_
      have hsp : (s2_fuelGoal f ep eq st) = 0 := by simp only [s2_fuelGoal, if_neg z1, if_neg z2]
      exact hret _ _ _ _ _ _ _ _ hP hD hS dX2_fuelGoal_51 rfl ⟨(), (by rw [hsp]), rfl⟩ (Nat.le_of_ble_eq_true rfl) (Nat.le_of_ble_eq_true rfl)
end
section
def s2_look (f : Nat → Int32) (st : Nat → Int32) (ea : Nat → Int32) (a2 : Int32) : (Nat → Int32) := (let w3 : Int32 := (if a2 = 0 then (st 6) else (st 5)); (let v6 : Nat → Int32 := (s1_look ea a2 w3); v6))

def s2_movePositions (f : Nat → Int32) (ep : Nat → Int32) (eq : Nat → Int32) (st : Nat → Int32) : (Nat → Int32) := (let r2 : Int32 := (s2_airGoal f ep eq st); (let r4 : Int32 := (s2_fuelGoal f ep eq st); (let r6 : Int32 := (s2_moved (f 6) r2 (st 9)); (let r8 : Int32 := (s2_isMainOpen (upd f 6 r6)); (let w13 : Int32 := (if r8 = 0 then r4 else (s2_moved (f 7) r4 (st 10))); (upd (upd f 6 r6) 7 w13))))))

def s2_countUnlit (f : Nat → Int32) (ep : Nat → Int32) (eq : Nat → Int32) (st : Nat → Int32) (a1 : Int32) : (Nat → Int32) := (let w6 : Int32 := (if a1 = 0 then 0 else (if (s2_hasFlame f ep eq st) = 0 then ((f 9) + 1) else 0)); (upd (upd f 9 w6) 10 (if (f 10) < w6 then w6 else (f 10))))

def s2_lightPilot (f : Nat → Int32) (ep : Nat → Int32) (eq : Nat → Int32) (st : Nat → Int32) : Int32 × (Nat → Int32) := (if (ep 0) = 0 then (let w8 : Int32 := (if (f 5) < (st 2) then 0 else (if ((s2_lockOut f 4).1) = 0 then 0 else 1)); (let w9 : Nat → Int32 := (if (f 5) < (st 2) then f else ((s2_lockOut f 4).2)); (w8, w9))) else (let v12 : Nat → Int32 := ((s2_begin f 3 0).2); (let r11 : Int32 := ((s2_begin f 3 0).1); (r11, v12))))
theorem z2_lightPilot (f : Nat → Int32) (ep : Nat → Int32) (eq : Nat → Int32) (st : Nat → Int32) : (s2_lightPilot f ep eq st).1 = 0 ∨ (s2_lightPilot f ep eq st).1 = 1 := by
  simp only [s2_lightPilot]
  (repeat' split) <;> (try dsimp only) <;> first | exact Or.inl rfl | exact Or.inr rfl | (simp; done) | exact z2_begin _ _ _ | exact z2_lockOut _ _

def s2_lightMain (f : Nat → Int32) (ep : Nat → Int32) (eq : Nat → Int32) (st : Nat → Int32) : Int32 × (Nat → Int32) := (if (eq 0) = 0 then (let w8 : Int32 := (if (f 5) < (st 3) then 0 else (if ((s2_lockOut f 5).1) = 0 then 0 else 1)); (let w9 : Nat → Int32 := (if (f 5) < (st 3) then f else ((s2_lockOut f 5).2)); (w8, w9))) else (let v12 : Nat → Int32 := ((s2_begin f 4 0).2); (let r11 : Int32 := ((s2_begin f 4 0).1); (r11, v12))))
theorem z2_lightMain (f : Nat → Int32) (ep : Nat → Int32) (eq : Nat → Int32) (st : Nat → Int32) : (s2_lightMain f ep eq st).1 = 0 ∨ (s2_lightMain f ep eq st).1 = 1 := by
  simp only [s2_lightMain]
  (repeat' split) <;> (try dsimp only) <;> first | exact Or.inl rfl | exact Or.inr rfl | (simp; done) | exact z2_begin _ _ _ | exact z2_lockOut _ _

def s2_sequenceAfterPurge (f : Nat → Int32) (ep : Nat → Int32) (eq : Nat → Int32) (st : Nat → Int32) : Int32 × (Nat → Int32) := (if (st 4) ≤ (f 5) then (let r3 : Int32 := (s2_hasFlame f ep eq st); (let w12 : Int32 := (if r3 = 0 then ((s2_begin f 0 0).1) else ((s2_lockOut f 3).1)); (let w13 : Nat → Int32 := (if r3 = 0 then ((s2_begin f 0 0).2) else ((s2_lockOut f 3).2)); (w12, w13)))) else (0, f))
theorem z2_sequenceAfterPurge (f : Nat → Int32) (ep : Nat → Int32) (eq : Nat → Int32) (st : Nat → Int32) : (s2_sequenceAfterPurge f ep eq st).1 = 0 ∨ (s2_sequenceAfterPurge f ep eq st).1 = 1 := by
  simp only [s2_sequenceAfterPurge]
  (repeat' split) <;> (try dsimp only) <;> first | exact Or.inl rfl | exact Or.inr rfl | (simp; done) | exact z2_begin _ _ _ | exact z2_hasFlame _ _ _ _ | exact z2_lockOut _ _

def s2_sequenceOff (f : Nat → Int32) (ep : Nat → Int32) (eq : Nat → Int32) (st : Nat → Int32) (a1 : Int32) : Int32 × (Nat → Int32) := (let r2 : Int32 := (s2_hasFlame f ep eq st); (if r2 = 0 then (let r5 : Int32 := (s6_isOn a1 1); (let w12 : Int32 := (if r5 = 0 then 0 else (if ((s2_begin f 1 0).1) = 0 then 0 else 1)); (let w13 : Nat → Int32 := (if r5 = 0 then f else ((s2_begin f 1 0).2)); (w12, w13)))) else (let v16 : Nat → Int32 := ((s2_lockOut f 3).2); (let r15 : Int32 := ((s2_lockOut f 3).1); (r15, v16)))))
theorem z2_sequenceOff (f : Nat → Int32) (ep : Nat → Int32) (eq : Nat → Int32) (st : Nat → Int32) (a1 : Int32) : (s2_sequenceOff f ep eq st a1).1 = 0 ∨ (s2_sequenceOff f ep eq st a1).1 = 1 := by
  simp only [s2_sequenceOff]
  (repeat' split) <;> (try dsimp only) <;> first | exact Or.inl rfl | exact Or.inr rfl | (simp; done) | exact z2_begin _ _ _ | exact z2_hasFlame _ _ _ _ | exact z2_lockOut _ _ | exact z6_isOn _ _

def s2_sequencePurge (f : Nat → Int32) (ep : Nat → Int32) (eq : Nat → Int32) (st : Nat → Int32) (a1 : Int32) : Int32 × (Nat → Int32) := (let r2 : Int32 := (s6_isOn a1 1); (if r2 = 0 then (let v30 : Nat → Int32 := ((s2_begin f 0 0).2); (let r29 : Int32 := ((s2_begin f 0 0).1); (r29, v30))) else (let r5 : Int32 := (s2_hasFlame f ep eq st); (if r5 = 0 then (let r8 : Int32 := (s6_isOn a1 2); (let w12 : Int32 := (if r8 = 0 then 0 else (if (f 6) < 70 then 0 else ((f 8) + (f 6)))); (if w12 < (4 * (st 8)) then (let w20 : Int32 := (if (f 5) < (st 1) then 0 else (if ((s2_lockOut (upd f 8 w12) 7).1) = 0 then 0 else 1)); (let w21 : Nat → Int32 := (if (f 5) < (st 1) then (upd f 8 w12) else ((s2_lockOut (upd f 8 w12) 7).2)); (w20, w21))) else (let v24 : Nat → Int32 := ((s2_begin (upd f 8 w12) 2 0).2); (let r23 : Int32 := ((s2_begin (upd f 8 w12) 2 0).1); (r23, v24)))))) else (let v27 : Nat → Int32 := ((s2_lockOut f 3).2); (let r26 : Int32 := ((s2_lockOut f 3).1); (r26, v27)))))))
theorem z2_sequencePurge (f : Nat → Int32) (ep : Nat → Int32) (eq : Nat → Int32) (st : Nat → Int32) (a1 : Int32) : (s2_sequencePurge f ep eq st a1).1 = 0 ∨ (s2_sequencePurge f ep eq st a1).1 = 1 := by
  simp only [s2_sequencePurge]
  (repeat' split) <;> (try dsimp only) <;> first | exact Or.inl rfl | exact Or.inr rfl | (simp; done) | exact z2_begin _ _ _ | exact z2_hasFlame _ _ _ _ | exact z2_lockOut _ _ | exact z6_isOn _ _

def s2_sequenceLighting (f : Nat → Int32) (ep : Nat → Int32) (eq : Nat → Int32) (st : Nat → Int32) (a1 : Int32) : Int32 × (Nat → Int32) := (let r2 : Int32 := (s6_isOn a1 2); (if r2 = 0 then (let v28 : Nat → Int32 := ((s2_lockOut f 1).2); (let r27 : Int32 := ((s2_lockOut f 1).1); (r27, v28))) else (let r5 : Int32 := (s6_isOn a1 4); (if r5 = 0 then (let v25 : Nat → Int32 := ((s2_lockOut f 2).2); (let r24 : Int32 := ((s2_lockOut f 2).1); (r24, v25))) else (let r8 : Int32 := (s6_isOn a1 1); (if r8 = 0 then (let v22 : Nat → Int32 := ((s2_begin f 5 0).2); (let r21 : Int32 := ((s2_begin f 5 0).1); (r21, v22))) else (let w18 : Int32 := (if (f 3) = 2 then ((s2_lightPilot f ep eq st).1) else ((s2_lightMain f ep eq st).1)); (let w19 : Nat → Int32 := (if (f 3) = 2 then ((s2_lightPilot f ep eq st).2) else ((s2_lightMain f ep eq st).2)); (w18, w19)))))))))
theorem z2_sequenceLighting (f : Nat → Int32) (ep : Nat → Int32) (eq : Nat → Int32) (st : Nat → Int32) (a1 : Int32) : (s2_sequenceLighting f ep eq st a1).1 = 0 ∨ (s2_sequenceLighting f ep eq st a1).1 = 1 := by
  simp only [s2_sequenceLighting]
  (repeat' split) <;> (try dsimp only) <;> first | exact Or.inl rfl | exact Or.inr rfl | (simp; done) | exact z2_begin _ _ _ | exact z2_lightMain _ _ _ _ | exact z2_lightPilot _ _ _ _ | exact z2_lockOut _ _ | exact z6_isOn _ _

def s2_sequenceRun (f : Nat → Int32) (ep : Nat → Int32) (eq : Nat → Int32) (st : Nat → Int32) (a1 : Int32) : Int32 × (Nat → Int32) := (let r2 : Int32 := (s6_isOn a1 2); (if r2 = 0 then (let v45 : Nat → Int32 := ((s2_lockOut f 1).2); (let r44 : Int32 := ((s2_lockOut f 1).1); (r44, v45))) else (let r5 : Int32 := (s6_isOn a1 4); (if r5 = 0 then (let v42 : Nat → Int32 := ((s2_lockOut f 2).2); (let r41 : Int32 := ((s2_lockOut f 2).1); (r41, v42))) else (if (eq 0) = 0 then (let v39 : Nat → Int32 := ((s2_lockOut f 6).2); (let r38 : Int32 := ((s2_lockOut f 6).1); (r38, v39))) else (let r9 : Int32 := (s2_isCheckDue f ep eq st); (if r9 = 0 then (let r12 : Int32 := (s6_isOn a1 1); (let w19 : Int32 := (if r12 = 0 then (if ((s2_begin f 5 0).1) = 0 then 0 else 1) else 0); (let w20 : Nat → Int32 := (if r12 = 0 then ((s2_begin f 5 0).2) else f); (w19, w20)))) else (let r22 : Int32 := (s6_isOn a1 32); (if r22 = 0 then (let v36 : Nat → Int32 := ((s2_lockOut f 8).2); (let r35 : Int32 := ((s2_lockOut f 8).1); (r35, v36))) else (let r25 : Int32 := (s6_isOn a1 1); (let w32 : Int32 := (if r25 = 0 then (if ((s2_begin f 5 0).1) = 0 then 0 else 1) else 0); (let w33 : Nat → Int32 := (if r25 = 0 then ((s2_begin f 5 0).2) else f); (w32, w33)))))))))))))
theorem z2_sequenceRun (f : Nat → Int32) (ep : Nat → Int32) (eq : Nat → Int32) (st : Nat → Int32) (a1 : Int32) : (s2_sequenceRun f ep eq st a1).1 = 0 ∨ (s2_sequenceRun f ep eq st a1).1 = 1 := by
  simp only [s2_sequenceRun]
  (repeat' split) <;> (try dsimp only) <;> first | exact Or.inl rfl | exact Or.inr rfl | (simp; done) | exact z2_begin _ _ _ | exact z2_isCheckDue _ _ _ _ | exact z2_lockOut _ _ | exact z6_isOn _ _

def s2_sequence (f : Nat → Int32) (ep : Nat → Int32) (eq : Nat → Int32) (st : Nat → Int32) (a1 : Int32) : Int32 × (Nat → Int32) := (if (f 3) = 0 then (let v4 : Nat → Int32 := ((s2_sequenceOff f ep eq st a1).2); (let r3 : Int32 := ((s2_sequenceOff f ep eq st a1).1); (r3, v4))) else (if (f 3) = 1 then (let v8 : Nat → Int32 := ((s2_sequencePurge f ep eq st a1).2); (let r7 : Int32 := ((s2_sequencePurge f ep eq st a1).1); (r7, v8))) else (if (f 3) = 2 then (let v12 : Nat → Int32 := ((s2_sequenceLighting f ep eq st a1).2); (let r11 : Int32 := ((s2_sequenceLighting f ep eq st a1).1); (r11, v12))) else (if (f 3) = 3 then (let v16 : Nat → Int32 := ((s2_sequenceLighting f ep eq st a1).2); (let r15 : Int32 := ((s2_sequenceLighting f ep eq st a1).1); (r15, v16))) else (if (f 3) = 4 then (let v20 : Nat → Int32 := ((s2_sequenceRun f ep eq st a1).2); (let r19 : Int32 := ((s2_sequenceRun f ep eq st a1).1); (r19, v20))) else (if (f 3) = 5 then (let v24 : Nat → Int32 := ((s2_sequenceAfterPurge f ep eq st).2); (let r23 : Int32 := ((s2_sequenceAfterPurge f ep eq st).1); (r23, v24))) else (0, f)))))))
theorem z2_sequence (f : Nat → Int32) (ep : Nat → Int32) (eq : Nat → Int32) (st : Nat → Int32) (a1 : Int32) : (s2_sequence f ep eq st a1).1 = 0 ∨ (s2_sequence f ep eq st a1).1 = 1 := by
  simp only [s2_sequence]
  (repeat' split) <;> (try dsimp only) <;> first | exact Or.inl rfl | exact Or.inr rfl | (simp; done) | exact z2_sequenceAfterPurge _ _ _ _ | exact z2_sequenceLighting _ _ _ _ _ | exact z2_sequenceOff _ _ _ _ _ | exact z2_sequencePurge _ _ _ _ _ | exact z2_sequenceRun _ _ _ _ _

def s2_tick (f : Nat → Int32) (ep : Nat → Int32) (eq : Nat → Int32) (st : Nat → Int32) (a1 : Int32) : Int32 × (Nat → Int32) × (Nat → Int32) × (Nat → Int32) := (let r2 : Int32 := (s2_isPilotOpen f); (let w8 : Int32 := (if r2 = 0 then (if (s2_isMainOpen f) = 0 then 0 else 1) else 1); (let r10 : Int32 := (s6_isOn a1 8); (let v13 : Nat → Int32 := (s2_look f st ep r10); (let r15 : Int32 := (s6_isOn a1 16); (let v18 : Nat → Int32 := (s2_look f st eq r15); (let v21 : Nat → Int32 := (s2_movePositions f v13 v18 st); (let v24 : Nat → Int32 := ((s2_sequence (upd v21 5 ((v21 5) + 1)) v13 v18 st a1).2); (let r23 : Int32 := ((s2_sequence (upd v21 5 ((v21 5) + 1)) v13 v18 st a1).1); (let v27 : Nat → Int32 := (s2_countUnlit v24 v13 v18 st w8); (r23, v27, v13, v18)))))))))))
theorem z2_tick (f : Nat → Int32) (ep : Nat → Int32) (eq : Nat → Int32) (st : Nat → Int32) (a1 : Int32) : (s2_tick f ep eq st a1).1 = 0 ∨ (s2_tick f ep eq st a1).1 = 1 := by
  simp only [s2_tick]
  (repeat' split) <;> (try dsimp only) <;> first | exact Or.inl rfl | exact Or.inr rfl | (simp; done) | exact z2_isMainOpen _ | exact z2_isPilotOpen _ | exact z2_sequence _ _ _ _ _ | exact z6_isOn _ _

set_option maxHeartbeats 4000000 in
set_option maxRecDepth 100000 in
theorem k2_look (l : Launch) (D : va_G) (cI cJ : ClassId) (xf xs xe : Nat) (xf_1 xf_2 : Value) (f : Nat → Int32) (st : Nat → Int32) (ea : Nat → Int32) (a2 : Int32) (ha : a2 = 0 ∨ a2 = 1) : cw_Mv l yX2_look wsX2_look (cw_rm 1) D [(cI, .int), (cJ, .long)] [.ref xf, .ref xe, .int a2] [(xf, c2 (.ref xs) xf_1 xf_2 f), (xs, c5 st), (xe, c1 ea)] 0 0 (fun _ : Unit => True) (fun _ : Unit => [(xf, c2 (.ref xs) xf_1 xf_2 f), (xs, c5 st), (xe, c1 (s2_look f st ea a2))]) := by
  refine cw_ofv (cc := cX2_look) (maxL := 3) (ret := none) (by decide) rfl (Nat.le_of_ble_eq_true rfl) rfl ?_
  intro p e s m args below meth c A ls Q hin0 hret
  obtain ⟨hx, hb, hr, hml, hts, hown, hlocks, hin, hP, hK, hD, hN, hA, hl⟩ := hin0
  have hS : va_S A s.heap s.heap [] := va_S.rf
  have hl : lv_has ls 3 [(0, .ref xf), (1, .ref xe), (2, .int a2)] := hl
  have lf21 := hts (.fieldLink RX2 21 "Burnerline$Furnace" "settings" "LBurnerline$Settings;") (by decide +kernel)
  have i2 : ∀ w ∈ wsX20, w ∈ wsX2_look := by decide +kernel
  have lf89 := hN.use (args := args) (w := .fieldLinkNest "Burnerline$Furnace" 89 "Burnerline$Settings" "ticksToNone" "I" "Burnerline") (by decide +kernel)
  have i5 : ∀ w ∈ wsX50, w ∈ wsX2_look := by decide +kernel
  have lf84 := hN.use (args := args) (w := .fieldLinkNest "Burnerline$Furnace" 84 "Burnerline$Settings" "ticksToLight" "I" "Burnerline") (by decide +kernel)
  refine lv_aload_n hx hb dX2_look_0 rfl (lv_at hl 1 rfl) ?_
  refine lv_iload_n hx hb dX2_look_1 rfl (lv_at hl 2 rfl) ?_
  refine lv_iload_n hx hb dX2_look_2 rfl (lv_at hl 2 rfl) ?_
  have J2 : ∀ (w3 : Int32), w3 = (if a2 = 0 then (st 6) else (st 5)) → W p l e (cw_rm 1) s m args below meth c s.heap [] 0 0 (Q) (F0 m 23 ls [.int w3, .int a2, .ref xe]) := by
    intro w3 hw3
    refine cw_cVv (As := [.int a2, .int w3]) (rest := []) (wc := [(xe, c1 ea)]) (wr := [(xf, c2 (.ref xs) xf_1 xf_2 f), (xs, c5 st)]) ⟨hx, hb, hml, hown, hts⟩ (k1_look l D cI cJ xe ea a2 w3 (by subst hw3; (repeat' split) <;> first | exact Or.inl rfl | exact Or.inr rfl | assumption)) (cwV 2 hts gX2_look_X1_look rfl rfl rfl (by decide +kernel) ⟨Nat.le_of_ble_eq_true rfl, Nat.le_of_ble_eq_true rfl⟩) hK hN hP hD hS hA [2] [0, 1] rfl rfl (by decide) (by decide) (by decide) 0 (ci := 1) rfl rfl rfl rfl hl.1 rfl (Nat.le_of_ble_eq_true rfl) dX2_look_23 ⟨Nat.le_of_ble_eq_true rfl, Nat.le_of_ble_eq_true rfl⟩ (fun u4 H locs hw hP hD hS => ?_)
    obtain ⟨v6, hv6⟩ : ∃ z : Nat → Int32, z = (s1_look ea a2 w3) := ⟨_, rfl⟩
    have hP : va_P D vwCl [(xf, c2 (.ref xs) xf_1 xf_2 f), (xs, c5 st), (xe, c1 v6)] H := by rw [hv6]; exact hP
    have hD : va_D A [(xf, c2 (.ref xs) xf_1 xf_2 f), (xs, c5 st), (xe, c1 v6)] := by rw [hv6]; exact hD
    have hsp : (s2_look f st ea a2) = v6 := by subst hv6; subst hw3; rfl
    exact hret _ _ _ _ _ _ _ hP hD hS dX2_look_26 ⟨(), trivial, (by rw [hsp])⟩ (Nat.le_of_ble_eq_true rfl) (Nat.le_of_ble_eq_true rfl)
  refine lv_if_eq (tgt := 16) hx hb dX2_look_3 (by decide) (fun z1 => ?_) (fun z1 => ?_)
  · refine lv_aload_n hx hb dX2_look_16 rfl (lv_at hl 0 rfl) ?_
    refine va_get (D := D) (ci := 2) (v := .ref xs) (C := RX2) (T := TX2) (N := 11) hx hb hts i2 hown hK hP 0 rfl rfl 0 (by decide) lf21 (fun _ h9 => h9) rfl dX2_look_17 ?_
    refine va_getN (D := D) (ci := 5) (v := .int (st 6)) (C := RX5) (T := TX5) (N := 11) hx hb hts i5 hown hK hP 1 rfl rfl 6 (by decide) lf89 (fun _ h9 => h9) rfl dX2_look_20 ?_
    exact J2 (st 6) (by simp only [if_pos z1])
  · refine lv_aload_n hx hb dX2_look_6 rfl (lv_at hl 0 rfl) ?_
    refine va_get (D := D) (ci := 2) (v := .ref xs) (C := RX2) (T := TX2) (N := 11) hx hb hts i2 hown hK hP 0 rfl rfl 0 (by decide) lf21 (fun _ h9 => h9) rfl dX2_look_7 ?_
    refine va_getN (D := D) (ci := 5) (v := .int (st 5)) (C := RX5) (T := TX5) (N := 11) hx hb hts i5 hown hK hP 1 rfl rfl 5 (by decide) lf84 (fun _ h9 => h9) rfl dX2_look_10 ?_
    refine lv_goto (tgt := 23) hx hb dX2_look_13 (by decide) ?_
    exact J2 (st 5) (by simp only [if_neg z1])

set_option maxHeartbeats 4000000 in
set_option maxRecDepth 100000 in
theorem k2_movePositions (l : Launch) (D : va_G) (cI cJ : ClassId) (xf xp xq xs : Nat) (f : Nat → Int32) (ep : Nat → Int32) (eq : Nat → Int32) (st : Nat → Int32) : cw_Mv l yX2_movePositions wsX2_movePositions (cw_rm 2) D [(cI, .int), (cJ, .long)] [.ref xf] [(xf, c2 (.ref xs) (.ref xp) (.ref xq) f), (xp, c1 ep), (xq, c1 eq), (xs, c5 st)] 0 0 (fun _ : Unit => True) (fun _ : Unit => [(xf, c2 (.ref xs) (.ref xp) (.ref xq) (s2_movePositions f ep eq st)), (xp, c1 ep), (xq, c1 eq), (xs, c5 st)]) := by
  refine cw_ofv (cc := cX2_movePositions) (maxL := 3) (ret := none) (by decide) rfl (Nat.le_of_ble_eq_true rfl) rfl ?_
  intro p e s m args below meth c A ls Q hin0 hret
  obtain ⟨hx, hb, hr, hml, hts, hown, hlocks, hin, hP, hK, hD, hN, hA, hl⟩ := hin0
  have hS : va_S A s.heap s.heap [] := va_S.rf
  have hl : lv_has ls 3 [(0, .ref xf)] := hl
  have lf39 := hts (.fieldLink RX2 39 "Burnerline$Furnace" "air" "I") (by decide +kernel)
  have i2 : ∀ w ∈ wsX20, w ∈ wsX2_movePositions := by decide +kernel
  have lf21 := hts (.fieldLink RX2 21 "Burnerline$Furnace" "settings" "LBurnerline$Settings;") (by decide +kernel)
  have lf102 := hN.use (args := args) (w := .fieldLinkNest "Burnerline$Furnace" 102 "Burnerline$Settings" "airStep" "I" "Burnerline") (by decide +kernel)
  have i5 : ∀ w ∈ wsX50, w ∈ wsX2_movePositions := by decide +kernel
  have lf42 := hts (.fieldLink RX2 42 "Burnerline$Furnace" "fuel" "I") (by decide +kernel)
  have lf109 := hN.use (args := args) (w := .fieldLinkNest "Burnerline$Furnace" 109 "Burnerline$Settings" "fuelStep" "I" "Burnerline") (by decide +kernel)
  refine lv_aload_n hx hb dX2_movePositions_0 rfl (lv_at hl 0 rfl) ?_
  refine cw_cVi (As := []) (rest := []) (wc := [(xf, c2 (.ref xs) (.ref xp) (.ref xq) f), (xp, c1 ep), (xq, c1 eq), (xs, c5 st)]) (wr := []) ⟨hx, hb, hml, hown, hts⟩ (k2_airGoal l D cI cJ xf xp xq xs f ep eq st) (cwV 0 hts gX2_movePositions_X2_airGoal rfl rfl rfl (by decide +kernel) ⟨Nat.le_of_ble_eq_true rfl, Nat.le_of_ble_eq_true rfl⟩) hK hN hP hD hS hA [0, 1, 2, 3] [] rfl rfl (by decide) (by decide) (by decide) 0 (ci := 2) rfl rfl rfl rfl hl.1 rfl (Nat.le_of_ble_eq_true rfl) dX2_movePositions_1 ⟨Nat.le_of_ble_eq_true rfl, Nat.le_of_ble_eq_true rfl⟩ (fun r2 u1 H locs hw hP hD hS => ?_)
  have hr2 : r2 = (s2_airGoal f ep eq st) := hw
  have hP : va_P D vwCl [(xf, c2 (.ref xs) (.ref xp) (.ref xq) f), (xp, c1 ep), (xq, c1 eq), (xs, c5 st)] H := hP
  have hD : va_D A [(xf, c2 (.ref xs) (.ref xp) (.ref xq) f), (xp, c1 ep), (xq, c1 eq), (xs, c5 st)] := hD
  refine lv_istore_n (lv' := [(1, .int r2), (0, .ref xf)]) hx hb dX2_movePositions_4 rfl hl (by decide) rfl (fun ls hl => ?_)
  refine lv_aload_n hx hb dX2_movePositions_5 rfl (lv_at hl 1 rfl) ?_
  refine cw_cVi (As := []) (rest := []) (wc := [(xf, c2 (.ref xs) (.ref xp) (.ref xq) f), (xp, c1 ep), (xq, c1 eq), (xs, c5 st)]) (wr := []) ⟨hx, hb, hml, hown, hts⟩ (k2_fuelGoal l D cI cJ xf xp xq xs f ep eq st) (cwV 0 hts gX2_movePositions_X2_fuelGoal rfl rfl rfl (by decide +kernel) ⟨Nat.le_of_ble_eq_true rfl, Nat.le_of_ble_eq_true rfl⟩) hK hN hP hD hS hA [0, 1, 2, 3] [] rfl rfl (by decide) (by decide) (by decide) 0 (ci := 2) rfl rfl rfl rfl hl.1 rfl (Nat.le_of_ble_eq_true rfl) dX2_movePositions_6 ⟨Nat.le_of_ble_eq_true rfl, Nat.le_of_ble_eq_true rfl⟩ (fun r4 u3 H locs hw hP hD hS => ?_)
  have hr4 : r4 = (s2_fuelGoal f ep eq st) := hw
  have hP : va_P D vwCl [(xf, c2 (.ref xs) (.ref xp) (.ref xq) f), (xp, c1 ep), (xq, c1 eq), (xs, c5 st)] H := hP
  have hD : va_D A [(xf, c2 (.ref xs) (.ref xp) (.ref xq) f), (xp, c1 ep), (xq, c1 eq), (xs, c5 st)] := hD
  refine lv_istore_n (lv' := [(2, .int r4), (1, .int r2), (0, .ref xf)]) hx hb dX2_movePositions_9 rfl hl (by decide) rfl (fun ls hl => ?_)
  refine lv_aload_n hx hb dX2_movePositions_10 rfl (lv_at hl 2 rfl) ?_
  refine lv_aload_n hx hb dX2_movePositions_11 rfl (lv_at hl 2 rfl) ?_
  refine va_get (D := D) (ci := 2) (v := .int (f 6)) (C := RX2) (T := TX2) (N := 11) hx hb hts i2 hown hK hP 0 rfl rfl 6 (by decide) lf39 (fun _ h9 => h9) rfl dX2_movePositions_12 ?_
  refine lv_iload_n hx hb dX2_movePositions_15 rfl (lv_at hl 1 rfl) ?_
  refine lv_aload_n hx hb dX2_movePositions_16 rfl (lv_at hl 2 rfl) ?_
  refine va_get (D := D) (ci := 2) (v := .ref xs) (C := RX2) (T := TX2) (N := 11) hx hb hts i2 hown hK hP 0 rfl rfl 0 (by decide) lf21 (fun _ h9 => h9) rfl dX2_movePositions_17 ?_
  refine va_getN (D := D) (ci := 5) (v := .int (st 9)) (C := RX5) (T := TX5) (N := 11) hx hb hts i5 hown hK hP 3 rfl rfl 9 (by decide) lf102 (fun _ h9 => h9) rfl dX2_movePositions_20 ?_
  refine cw_cSi (As := [.int (f 6), .int r2, .int (st 9)]) (rest := [.ref xf]) (wc := []) (wr := [(xf, c2 (.ref xs) (.ref xp) (.ref xq) f), (xp, c1 ep), (xq, c1 eq), (xs, c5 st)]) ⟨hx, hb, hml, hown, hts⟩ (k2_moved l D cI cJ (f 6) r2 (st 9)) (va_cwS 3 hts gX2_movePositions_X2_moved rfl rfl rfl (by decide +kernel) ⟨Nat.le_of_ble_eq_true rfl, Nat.le_of_ble_eq_true rfl⟩) hK hN hP hD hS hA [] [0, 1, 2, 3] rfl rfl (by decide) (by decide) (by decide) rfl hl.1 rfl (Nat.le_of_ble_eq_true rfl) dX2_movePositions_23 ⟨Nat.le_of_ble_eq_true rfl, Nat.le_of_ble_eq_true rfl⟩ (fun r6 u5 H locs hw hP hD hS => ?_)
  have hr6 : r6 = (s2_moved (f 6) r2 (st 9)) := hw
  have hP : va_P D vwCl [(xf, c2 (.ref xs) (.ref xp) (.ref xq) f), (xp, c1 ep), (xq, c1 eq), (xs, c5 st)] H := hP
  have hD : va_D A [(xf, c2 (.ref xs) (.ref xp) (.ref xq) f), (xp, c1 ep), (xq, c1 eq), (xs, c5 st)] := hD
  refine va_put (D := D) (ci := 2) (v := .int r6) (ty := .int) (C := RX2) (T := TX2) (N := 11) hx hb hts i2 tyX2 tyX2_ok nmX2 hown hK hP hD hS 0 rfl rfl 6 (by decide) lf39 (fun _ h9 => h9) rfl (by decide +kernel) rfl rfl (Nat.le_of_ble_eq_true rfl) dX2_movePositions_26 (fun H locs hP hD hS => ?_)
  have hP : va_P D vwCl [(xf, c2 (.ref xs) (.ref xp) (.ref xq) (upd f 6 r6)), (xp, c1 ep), (xq, c1 eq), (xs, c5 st)] H := (congrArg (fun z9 => va_P D vwCl [(xf, .inr (2, z9)), (xp, c1 ep), (xq, c1 eq), (xs, c5 st)] H) (cs2_6 (.ref xs) (.ref xp) (.ref xq) f r6)).mp hP
  have hD : va_D A [(xf, c2 (.ref xs) (.ref xp) (.ref xq) (upd f 6 r6)), (xp, c1 ep), (xq, c1 eq), (xs, c5 st)] := (congrArg (fun z9 => va_D A [(xf, .inr (2, z9)), (xp, c1 ep), (xq, c1 eq), (xs, c5 st)]) (cs2_6 (.ref xs) (.ref xp) (.ref xq) f r6)).mp hD
  refine lv_aload_n hx hb dX2_movePositions_29 rfl (lv_at hl 2 rfl) ?_
  refine lv_aload_n hx hb dX2_movePositions_30 rfl (lv_at hl 2 rfl) ?_
  refine cw_cVi (As := []) (rest := [.ref xf]) (wc := [(xf, c2 (.ref xs) (.ref xp) (.ref xq) (upd f 6 r6))]) (wr := [(xp, c1 ep), (xq, c1 eq), (xs, c5 st)]) ⟨hx, hb, hml, hown, hts⟩ (k2_isMainOpen l D cI cJ xf (.ref xs) (.ref xp) (.ref xq) (upd f 6 r6)) (cwV 0 hts gX2_movePositions_X2_isMainOpen rfl rfl rfl (by decide +kernel) ⟨Nat.le_of_ble_eq_true rfl, Nat.le_of_ble_eq_true rfl⟩) hK hN hP hD hS hA [0] [1, 2, 3] rfl rfl (by decide) (by decide) (by decide) 0 (ci := 2) rfl rfl rfl rfl hl.1 rfl (Nat.le_of_ble_eq_true rfl) dX2_movePositions_31 ⟨Nat.le_of_ble_eq_true rfl, Nat.le_of_ble_eq_true rfl⟩ (fun r8 u7 H locs hw hP hD hS => ?_)
  have hr8 : r8 = (s2_isMainOpen (upd f 6 r6)) := hw
  have hP : va_P D vwCl [(xp, c1 ep), (xq, c1 eq), (xs, c5 st), (xf, c2 (.ref xs) (.ref xp) (.ref xq) (upd f 6 r6))] H := hP
  have hD : va_D A [(xp, c1 ep), (xq, c1 eq), (xs, c5 st), (xf, c2 (.ref xs) (.ref xp) (.ref xq) (upd f 6 r6))] := hD
  have J12 : ∀ (w13 : Int32), w13 = (if r8 = 0 then r4 else (s2_moved (f 7) r4 (st 10))) → ∀ (H : Heap) (locs : List Loc), va_P D vwCl [(xp, c1 ep), (xq, c1 eq), (xs, c5 st), (xf, c2 (.ref xs) (.ref xp) (.ref xq) (upd f 6 r6))] H → va_D A [(xp, c1 ep), (xq, c1 eq), (xs, c5 st), (xf, c2 (.ref xs) (.ref xp) (.ref xq) (upd f 6 r6))] → va_S A s.heap H locs → W p l e (cw_rm 2) s m args below meth c H locs 0 0 (Q) (F0 m 56 ls [.int w13, .ref xf]) := by
    intro w13 hw13 H locs hP hD hS
    refine va_put (D := D) (ci := 2) (v := .int w13) (ty := .int) (C := RX2) (T := TX2) (N := 11) hx hb hts i2 tyX2 tyX2_ok nmX2 hown hK hP hD hS 3 rfl rfl 7 (by decide) lf42 (fun _ h9 => h9) rfl (by decide +kernel) rfl rfl (Nat.le_of_ble_eq_true rfl) dX2_movePositions_56 (fun H locs hP hD hS => ?_)
    have hP : va_P D vwCl [(xp, c1 ep), (xq, c1 eq), (xs, c5 st), (xf, c2 (.ref xs) (.ref xp) (.ref xq) (upd (upd f 6 r6) 7 w13))] H := (congrArg (fun z9 => va_P D vwCl [(xp, c1 ep), (xq, c1 eq), (xs, c5 st), (xf, .inr (2, z9))] H) (cs2_7 (.ref xs) (.ref xp) (.ref xq) (upd f 6 r6) w13)).mp hP
    have hD : va_D A [(xp, c1 ep), (xq, c1 eq), (xs, c5 st), (xf, c2 (.ref xs) (.ref xp) (.ref xq) (upd (upd f 6 r6) 7 w13))] := (congrArg (fun z9 => va_D A [(xp, c1 ep), (xq, c1 eq), (xs, c5 st), (xf, .inr (2, z9))]) (cs2_7 (.ref xs) (.ref xp) (.ref xq) (upd f 6 r6) w13)).mp hD
    have hsp : (s2_movePositions f ep eq st) = (upd (upd f 6 r6) 7 w13) := by subst hw13; subst hr8; subst hr6; subst hr4; subst hr2; rfl
    exact hret _ _ _ _ _ _ _ (hP.sub (ws' := [(xf, c2 (.ref xs) (.ref xp) (.ref xq) (upd (upd f 6 r6) 7 w13)), (xp, c1 ep), (xq, c1 eq), (xs, c5 st)]) [3, 0, 1, 2] rfl) (hD.sub (ws' := [(xf, c2 (.ref xs) (.ref xp) (.ref xq) (upd (upd f 6 r6) 7 w13)), (xp, c1 ep), (xq, c1 eq), (xs, c5 st)]) [3, 0, 1, 2] (by decide) rfl) hS dX2_movePositions_59 ⟨(), trivial, (by rw [hsp])⟩ (Nat.le_of_ble_eq_true rfl) (Nat.le_of_ble_eq_true rfl)
  refine lv_if_eq (tgt := 55) hx hb dX2_movePositions_34 (by decide) (fun z9 => ?_) (fun z9 => ?_)
  · refine lv_iload_n hx hb dX2_movePositions_55 rfl (lv_at hl 0 rfl) ?_
    exact J12 r4 (by simp only [if_pos z9]) _ _ hP hD hS
  · refine lv_aload_n hx hb dX2_movePositions_37 rfl (lv_at hl 2 rfl) ?_
    refine va_get (D := D) (ci := 2) (v := .int ((upd f 6 r6) 7)) (C := RX2) (T := TX2) (N := 11) hx hb hts i2 hown hK hP 3 rfl rfl 7 (by decide) lf42 (fun _ h9 => h9) rfl dX2_movePositions_38 ?_
    refine cw_topi (y := (f 7)) (cw_updn _ _ (by decide)) ?_
    refine lv_iload_n hx hb dX2_movePositions_41 rfl (lv_at hl 0 rfl) ?_
    refine lv_aload_n hx hb dX2_movePositions_42 rfl (lv_at hl 2 rfl) ?_
    refine va_get (D := D) (ci := 2) (v := .ref xs) (C := RX2) (T := TX2) (N := 11) hx hb hts i2 hown hK hP 3 rfl rfl 0 (by decide) lf21 (fun _ h9 => h9) rfl dX2_movePositions_43 ?_
    refine va_getN (D := D) (ci := 5) (v := .int (st 10)) (C := RX5) (T := TX5) (N := 11) hx hb hts i5 hown hK hP 2 rfl rfl 10 (by decide) lf109 (fun _ h9 => h9) rfl dX2_movePositions_46 ?_
    refine cw_cSi (As := [.int (f 7), .int r4, .int (st 10)]) (rest := [.ref xf]) (wc := []) (wr := [(xp, c1 ep), (xq, c1 eq), (xs, c5 st), (xf, c2 (.ref xs) (.ref xp) (.ref xq) (upd f 6 r6))]) ⟨hx, hb, hml, hown, hts⟩ (k2_moved l D cI cJ (f 7) r4 (st 10)) (va_cwS 3 hts gX2_movePositions_X2_moved rfl rfl rfl (by decide +kernel) ⟨Nat.le_of_ble_eq_true rfl, Nat.le_of_ble_eq_true rfl⟩) hK hN hP hD hS hA [] [0, 1, 2, 3] rfl rfl (by decide) (by decide) (by decide) rfl hl.1 rfl (Nat.le_of_ble_eq_true rfl) dX2_movePositions_49 ⟨Nat.le_of_ble_eq_true rfl, Nat.le_of_ble_eq_true rfl⟩ (fun r11 u10 H locs hw hP hD hS => ?_)
    have hr11 : r11 = (s2_moved (f 7) r4 (st 10)) := hw
    have hP : va_P D vwCl [(xp, c1 ep), (xq, c1 eq), (xs, c5 st), (xf, c2 (.ref xs) (.ref xp) (.ref xq) (upd f 6 r6))] H := hP
    have hD : va_D A [(xp, c1 ep), (xq, c1 eq), (xs, c5 st), (xf, c2 (.ref xs) (.ref xp) (.ref xq) (upd f 6 r6))] := hD
    refine lv_goto (tgt := 56) hx hb dX2_movePositions_52 (by decide) ?_
    exact J12 r11 (by subst hr11; simp only [if_neg z9]) _ _ hP hD hS

set_option maxHeartbeats 4000000 in
set_option maxRecDepth 100000 in
theorem k2_countUnlit (l : Launch) (D : va_G) (cI cJ : ClassId) (xf xp xq xs : Nat) (f : Nat → Int32) (ep : Nat → Int32) (eq : Nat → Int32) (st : Nat → Int32) (a1 : Int32) : cw_Mv l yX2_countUnlit wsX2_countUnlit (cw_rm 1) D [(cI, .int), (cJ, .long)] [.ref xf, .int a1] [(xf, c2 (.ref xs) (.ref xp) (.ref xq) f), (xp, c1 ep), (xq, c1 eq), (xs, c5 st)] 0 0 (fun _ : Unit => True) (fun _ : Unit => [(xf, c2 (.ref xs) (.ref xp) (.ref xq) (s2_countUnlit f ep eq st a1)), (xp, c1 ep), (xq, c1 eq), (xs, c5 st)]) := by
  refine cw_ofv (cc := cX2_countUnlit) (maxL := 2) (ret := none) (by decide) rfl (Nat.le_of_ble_eq_true rfl) rfl ?_
  intro p e s m args below meth c A ls Q hin0 hret
  obtain ⟨hx, hb, hr, hml, hts, hown, hlocks, hin, hP, hK, hD, hN, hA, hl⟩ := hin0
  have hS : va_S A s.heap s.heap [] := va_S.rf
  have hl : lv_has ls 2 [(0, .ref xf), (1, .int a1)] := hl
  have lf48 := hts (.fieldLink RX2 48 "Burnerline$Furnace" "unlit" "I") (by decide +kernel)
  have i2 : ∀ w ∈ wsX20, w ∈ wsX2_countUnlit := by decide +kernel
  have lf51 := hts (.fieldLink RX2 51 "Burnerline$Furnace" "longestUnlit" "I") (by decide +kernel)
  have lmmax0 := hts (.methodLink RX2 115 Lib.Math.max.name) (by decide +kernel)
  have lmmax1 := hts (.static Lib.Math.max.name) (by decide +kernel)
  have lmmax2 := hts (.initialized "java/lang/Math") (by decide +kernel)
  have lmmax3 := hts (.code Lib.Math.max.name Lib.Math.max.code 2 (some .int)) (by decide +kernel)
  refine lv_aload_n hx hb dX2_countUnlit_0 rfl (lv_at hl 0 rfl) ?_
  refine lv_iload_n hx hb dX2_countUnlit_1 rfl (lv_at hl 1 rfl) ?_
  have J5 : ∀ (w6 : Int32), w6 = (if a1 = 0 then 0 else (if (s2_hasFlame f ep eq st) = 0 then ((f 9) + 1) else 0)) → ∀ (H : Heap) (locs : List Loc), va_P D vwCl [(xf, c2 (.ref xs) (.ref xp) (.ref xq) f), (xp, c1 ep), (xq, c1 eq), (xs, c5 st)] H → va_D A [(xf, c2 (.ref xs) (.ref xp) (.ref xq) f), (xp, c1 ep), (xq, c1 eq), (xs, c5 st)] → va_S A s.heap H locs → W p l e (cw_rm 1) s m args below meth c H locs 0 0 (Q) (F0 m 22 ls [.int w6, .ref xf]) := by
    intro w6 hw6 H locs hP hD hS
    refine va_put (D := D) (ci := 2) (v := .int w6) (ty := .int) (C := RX2) (T := TX2) (N := 11) hx hb hts i2 tyX2 tyX2_ok nmX2 hown hK hP hD hS 0 rfl rfl 9 (by decide) lf48 (fun _ h9 => h9) rfl (by decide +kernel) rfl rfl (Nat.le_of_ble_eq_true rfl) dX2_countUnlit_22 (fun H locs hP hD hS => ?_)
    have hP : va_P D vwCl [(xf, c2 (.ref xs) (.ref xp) (.ref xq) (upd f 9 w6)), (xp, c1 ep), (xq, c1 eq), (xs, c5 st)] H := (congrArg (fun z9 => va_P D vwCl [(xf, .inr (2, z9)), (xp, c1 ep), (xq, c1 eq), (xs, c5 st)] H) (cs2_9 (.ref xs) (.ref xp) (.ref xq) f w6)).mp hP
    have hD : va_D A [(xf, c2 (.ref xs) (.ref xp) (.ref xq) (upd f 9 w6)), (xp, c1 ep), (xq, c1 eq), (xs, c5 st)] := (congrArg (fun z9 => va_D A [(xf, .inr (2, z9)), (xp, c1 ep), (xq, c1 eq), (xs, c5 st)]) (cs2_9 (.ref xs) (.ref xp) (.ref xq) f w6)).mp hD
    refine lv_aload_n hx hb dX2_countUnlit_25 rfl (lv_at hl 0 rfl) ?_
    refine lv_aload_n hx hb dX2_countUnlit_26 rfl (lv_at hl 0 rfl) ?_
    refine va_get (D := D) (ci := 2) (v := .int ((upd f 9 w6) 10)) (C := RX2) (T := TX2) (N := 11) hx hb hts i2 hown hK hP 0 rfl rfl 10 (by decide) lf51 (fun _ h9 => h9) rfl dX2_countUnlit_27 ?_
    refine cw_topi (y := (f 10)) (cw_updn _ _ (by decide)) ?_
    refine lv_aload_n hx hb dX2_countUnlit_30 rfl (lv_at hl 0 rfl) ?_
    refine va_get (D := D) (ci := 2) (v := .int ((upd f 9 w6) 9)) (C := RX2) (T := TX2) (N := 11) hx hb hts i2 hown hK hP 0 rfl rfl 9 (by decide) lf48 (fun _ h9 => h9) rfl dX2_countUnlit_31 ?_
    refine cw_topi (y := w6) (cw_upd0 _ _ _) ?_
    refine va_mmax hx hb (by rw [hml]; exact hl.1.symm) hown lmmax0 lmmax1 lmmax2 lmmax3 (Nat.le_of_ble_eq_true rfl) (Nat.le_of_ble_eq_true rfl) (Nat.le_of_ble_eq_true rfl) (Nat.le_of_ble_eq_true rfl) dX2_countUnlit_34 ?_
    refine va_put (D := D) (ci := 2) (v := .int (if (f 10) < w6 then w6 else (f 10))) (ty := .int) (C := RX2) (T := TX2) (N := 11) hx hb hts i2 tyX2 tyX2_ok nmX2 hown hK hP hD hS 0 rfl rfl 10 (by decide) lf51 (fun _ h9 => h9) rfl (by decide +kernel) rfl rfl (Nat.le_of_ble_eq_true rfl) dX2_countUnlit_37 (fun H locs hP hD hS => ?_)
    have hP : va_P D vwCl [(xf, c2 (.ref xs) (.ref xp) (.ref xq) (upd (upd f 9 w6) 10 (if (f 10) < w6 then w6 else (f 10)))), (xp, c1 ep), (xq, c1 eq), (xs, c5 st)] H := (congrArg (fun z9 => va_P D vwCl [(xf, .inr (2, z9)), (xp, c1 ep), (xq, c1 eq), (xs, c5 st)] H) (cs2_10 (.ref xs) (.ref xp) (.ref xq) (upd f 9 w6) (if (f 10) < w6 then w6 else (f 10)))).mp hP
    have hD : va_D A [(xf, c2 (.ref xs) (.ref xp) (.ref xq) (upd (upd f 9 w6) 10 (if (f 10) < w6 then w6 else (f 10)))), (xp, c1 ep), (xq, c1 eq), (xs, c5 st)] := (congrArg (fun z9 => va_D A [(xf, .inr (2, z9)), (xp, c1 ep), (xq, c1 eq), (xs, c5 st)]) (cs2_10 (.ref xs) (.ref xp) (.ref xq) (upd f 9 w6) (if (f 10) < w6 then w6 else (f 10)))).mp hD
    have hsp : (s2_countUnlit f ep eq st a1) = (upd (upd f 9 w6) 10 (if (f 10) < w6 then w6 else (f 10))) := by subst hw6; rfl
    exact hret _ _ _ _ _ _ _ hP hD hS dX2_countUnlit_40 ⟨(), trivial, (by rw [hsp])⟩ (Nat.le_of_ble_eq_true rfl) (Nat.le_of_ble_eq_true rfl)
  refine lv_if_eq (tgt := 21) hx hb dX2_countUnlit_2 (by decide) (fun z1 => ?_) (fun z1 => ?_)
  · refine lv_iconst (v := 0) hx hb dX2_countUnlit_21 (by decide) ?_
    exact J5 0 (by simp only [if_pos z1]) _ _ hP hD hS
  · refine lv_aload_n hx hb dX2_countUnlit_5 rfl (lv_at hl 0 rfl) ?_
    refine cw_cVi (As := []) (rest := [.ref xf]) (wc := [(xf, c2 (.ref xs) (.ref xp) (.ref xq) f), (xp, c1 ep), (xq, c1 eq), (xs, c5 st)]) (wr := []) ⟨hx, hb, hml, hown, hts⟩ (k2_hasFlame l D cI cJ xf xp xq xs f ep eq st) (cwV 0 hts gX2_countUnlit_X2_hasFlame rfl rfl rfl (by decide +kernel) ⟨Nat.le_of_ble_eq_true rfl, Nat.le_of_ble_eq_true rfl⟩) hK hN hP hD hS hA [0, 1, 2, 3] [] rfl rfl (by decide) (by decide) (by decide) 0 (ci := 2) rfl rfl rfl rfl hl.1 rfl (Nat.le_of_ble_eq_true rfl) dX2_countUnlit_6 ⟨Nat.le_of_ble_eq_true rfl, Nat.le_of_ble_eq_true rfl⟩ (fun r3 u2 H locs hw hP hD hS => ?_)
    have hr3 : r3 = (s2_hasFlame f ep eq st) := hw
    have hP : va_P D vwCl [(xf, c2 (.ref xs) (.ref xp) (.ref xq) f), (xp, c1 ep), (xq, c1 eq), (xs, c5 st)] H := hP
    have hD : va_D A [(xf, c2 (.ref xs) (.ref xp) (.ref xq) f), (xp, c1 ep), (xq, c1 eq), (xs, c5 st)] := hD
    refine lv_if_ne (tgt := 21) hx hb dX2_countUnlit_9 (by decide) (fun z4 => ?_) (fun z4 => ?_)
    · refine lv_iconst (v := 0) hx hb dX2_countUnlit_21 (by decide) ?_
      exact J5 0 (by subst hr3; simp only [if_neg z1, if_neg z4]) _ _ hP hD hS
    · refine lv_aload_n hx hb dX2_countUnlit_12 rfl (lv_at hl 0 rfl) ?_
      refine va_get (D := D) (ci := 2) (v := .int (f 9)) (C := RX2) (T := TX2) (N := 11) hx hb hts i2 hown hK hP 0 rfl rfl 9 (by decide) lf48 (fun _ h9 => h9) rfl dX2_countUnlit_13 ?_
      refine lv_iconst (v := 1) hx hb dX2_countUnlit_16 (by decide) ?_
      refine lv_iadd hx hb dX2_countUnlit_17 ?_
      refine lv_goto (tgt := 22) hx hb dX2_countUnlit_18 (by decide) ?_
      exact J5 ((f 9) + 1) (by subst hr3; simp only [if_neg z1, if_pos z4]) _ _ hP hD hS

set_option maxHeartbeats 4000000 in
set_option maxRecDepth 100000 in
theorem k2_lightPilot (l : Launch) (D : va_G) (cI cJ : ClassId) (xf xp xq xs : Nat) (f : Nat → Int32) (ep : Nat → Int32) (eq : Nat → Int32) (st : Nat → Int32) : cw_Mi l yX2_lightPilot wsX2_lightPilot (cw_rm 3) D [(cI, .int), (cJ, .long)] [.ref xf] [(xf, c2 (.ref xs) (.ref xp) (.ref xq) f), (xp, c1 ep), (xq, c1 eq), (xs, c5 st)] 0 0 (fun r (_ : Unit) => r = (s2_lightPilot f ep eq st).1) (fun _ : Unit => [(xf, c2 (.ref xs) (.ref xp) (.ref xq) (s2_lightPilot f ep eq st).2), (xp, c1 ep), (xq, c1 eq), (xs, c5 st)]) := by
  refine cw_ofi (cc := cX2_lightPilot) (maxL := 1) (ret := (some .boolean)) (by decide) rfl (Nat.le_of_ble_eq_true rfl) rfl ?_
  intro p e s m args below meth c A ls Q hin0 hret
  obtain ⟨hx, hb, hr, hml, hts, hown, hlocks, hin, hP, hK, hD, hN, hA, hl⟩ := hin0
  have hS : va_S A s.heap s.heap [] := va_S.rf
  have hl : lv_has ls 1 [(0, .ref xf)] := hl
  have lf12 := hts (.fieldLink RX2 12 "Burnerline$Furnace" "pilotEye" "LBurnerline$Eye;") (by decide +kernel)
  have i2 : ∀ w ∈ wsX20, w ∈ wsX2_lightPilot := by decide +kernel
  have lf54 := hN.use (args := args) (w := .fieldLinkNest "Burnerline$Furnace" 54 "Burnerline$Eye" "seesFlame" "Z" "Burnerline") (by decide +kernel)
  have i1 : ∀ w ∈ wsX10, w ∈ wsX2_lightPilot := by decide +kernel
  have lf36 := hts (.fieldLink RX2 36 "Burnerline$Furnace" "time" "I") (by decide +kernel)
  have lf21 := hts (.fieldLink RX2 21 "Burnerline$Furnace" "settings" "LBurnerline$Settings;") (by decide +kernel)
  have lf160 := hN.use (args := args) (w := .fieldLinkNest "Burnerline$Furnace" 160 "Burnerline$Settings" "longestPilot" "I" "Burnerline") (by decide +kernel)
  have i5 : ∀ w ∈ wsX50, w ∈ wsX2_lightPilot := by decide +kernel
  refine lv_aload_n hx hb dX2_lightPilot_0 rfl (lv_at hl 0 rfl) ?_
  refine va_get (D := D) (ci := 2) (v := .ref xp) (C := RX2) (T := TX2) (N := 11) hx hb hts i2 hown hK hP 0 rfl rfl 1 (by decide) lf12 (fun _ h9 => h9) rfl dX2_lightPilot_1 ?_
  refine va_getN (D := D) (ci := 1) (v := .int (ep 0)) (C := RX1) (T := TX1) (N := 2) hx hb hts i1 hown hK hP 1 rfl rfl 0 (by decide) lf54 (fun _ h9 => h9) rfl dX2_lightPilot_4 ?_
  refine lv_if_eq (tgt := 17) hx hb dX2_lightPilot_7 (by decide) (fun z1 => ?_) (fun z1 => ?_)
  · refine lv_aload_n hx hb dX2_lightPilot_17 rfl (lv_at hl 0 rfl) ?_
    refine va_get (D := D) (ci := 2) (v := .int (f 5)) (C := RX2) (T := TX2) (N := 11) hx hb hts i2 hown hK hP 0 rfl rfl 5 (by decide) lf36 (fun _ h9 => h9) rfl dX2_lightPilot_18 ?_
    refine lv_aload_n hx hb dX2_lightPilot_21 rfl (lv_at hl 0 rfl) ?_
    refine va_get (D := D) (ci := 2) (v := .ref xs) (C := RX2) (T := TX2) (N := 11) hx hb hts i2 hown hK hP 0 rfl rfl 0 (by decide) lf21 (fun _ h9 => h9) rfl dX2_lightPilot_22 ?_
    refine va_getN (D := D) (ci := 5) (v := .int (st 2)) (C := RX5) (T := TX5) (N := 11) hx hb hts i5 hown hK hP 3 rfl rfl 2 (by decide) lf160 (fun _ h9 => h9) rfl dX2_lightPilot_25 ?_
    have J7 : ∀ (w8 : Int32), w8 = (if (f 5) < (st 2) then 0 else (if ((s2_lockOut f 4).1) = 0 then 0 else 1)) → ∀ (w9 : Nat → Int32), w9 = (if (f 5) < (st 2) then f else ((s2_lockOut f 4).2)) → ∀ (H : Heap) (locs : List Loc), va_P D vwCl [(xf, c2 (.ref xs) (.ref xp) (.ref xq) w9), (xp, c1 ep), (xq, c1 eq), (xs, c5 st)] H → va_D A [(xf, c2 (.ref xs) (.ref xp) (.ref xq) w9), (xp, c1 ep), (xq, c1 eq), (xs, c5 st)] → va_S A s.heap H locs → W p l e (cw_rm 3) s m args below meth c H locs 0 0 (Q) (F0 m 44 ls [.int w8]) := by
      intro w8 hw8 w9 hw9 H locs hP hD hS
      have hsp : (s2_lightPilot f ep eq st) = (w8, w9) := by subst hw9; subst hw8; simp only [s2_lightPilot, if_pos z1]
      exact hret _ _ _ _ _ _ _ _ hP hD hS dX2_lightPilot_44 (cw_b01 (by subst hw8; (repeat' split) <;> first | exact Or.inl rfl | exact Or.inr rfl | assumption | exact z2_lockOut _ _)) ⟨(), (by rw [hsp]), (by rw [hsp])⟩ (Nat.le_of_ble_eq_true rfl) (Nat.le_of_ble_eq_true rfl)
    refine lv_icmp_lt (tgt := 43) hx hb dX2_lightPilot_28 (by decide) (fun z2 => ?_) (fun z2 => ?_)
    · refine lv_iconst (v := 0) hx hb dX2_lightPilot_43 (by decide) ?_
      exact J7 0 (by simp only [if_pos z2]) f (by simp only [if_pos z2]) _ _ hP hD hS
    · refine lv_aload_n hx hb dX2_lightPilot_31 rfl (lv_at hl 0 rfl) ?_
      refine lv_iconst (v := 4) hx hb dX2_lightPilot_32 (by decide) ?_
      refine cw_cVi (As := [.int 4]) (rest := []) (wc := [(xf, c2 (.ref xs) (.ref xp) (.ref xq) f)]) (wr := [(xp, c1 ep), (xq, c1 eq), (xs, c5 st)]) ⟨hx, hb, hml, hown, hts⟩ (k2_lockOut l D cI cJ xf (.ref xs) (.ref xp) (.ref xq) f 4) (cwV 1 hts gX2_lightPilot_X2_lockOut rfl rfl rfl (by decide +kernel) ⟨Nat.le_of_ble_eq_true rfl, Nat.le_of_ble_eq_true rfl⟩) hK hN hP hD hS hA [0] [1, 2, 3] rfl rfl (by decide) (by decide) (by decide) 0 (ci := 2) rfl rfl rfl rfl hl.1 rfl (Nat.le_of_ble_eq_true rfl) dX2_lightPilot_33 ⟨Nat.le_of_ble_eq_true rfl, Nat.le_of_ble_eq_true rfl⟩ (fun r4 u3 H locs hw hP hD hS => ?_)
      have hr4 : r4 = ((s2_lockOut f 4).1) := hw
      obtain ⟨v5, hv5⟩ : ∃ z : Nat → Int32, z = ((s2_lockOut f 4).2) := ⟨_, rfl⟩
      have hP : va_P D vwCl [(xp, c1 ep), (xq, c1 eq), (xs, c5 st), (xf, c2 (.ref xs) (.ref xp) (.ref xq) v5)] H := by rw [hv5]; exact hP
      have hD : va_D A [(xp, c1 ep), (xq, c1 eq), (xs, c5 st), (xf, c2 (.ref xs) (.ref xp) (.ref xq) v5)] := by rw [hv5]; exact hD
      refine lv_if_eq (tgt := 43) hx hb dX2_lightPilot_36 (by decide) (fun z6 => ?_) (fun z6 => ?_)
      · refine lv_iconst (v := 0) hx hb dX2_lightPilot_43 (by decide) ?_
        exact J7 0 (by subst hr4; subst hv5; simp only [if_neg z2, if_pos z6]) v5 (by subst hr4; subst hv5; simp only [if_neg z2, if_pos z6]) _ _ (hP.sub [3, 0, 1, 2] rfl) (hD.sub [3, 0, 1, 2] (by decide) rfl) hS
      · refine lv_iconst (v := 1) hx hb dX2_lightPilot_39 (by decide) ?_
        refine lv_goto (tgt := 44) hx hb dX2_lightPilot_40 (by decide) ?_
        exact J7 1 (by subst hr4; subst hv5; simp only [if_neg z2, if_neg z6]) v5 (by subst hr4; subst hv5; simp only [if_neg z2, if_neg z6]) _ _ (hP.sub [3, 0, 1, 2] rfl) (hD.sub [3, 0, 1, 2] (by decide) rfl) hS
  · refine lv_aload_n hx hb dX2_lightPilot_10 rfl (lv_at hl 0 rfl) ?_
    refine lv_iconst (v := 3) hx hb dX2_lightPilot_11 (by decide) ?_
    refine lv_iconst (v := 0) hx hb dX2_lightPilot_12 (by decide) ?_
    refine cw_cVi (As := [.int 3, .int 0]) (rest := []) (wc := [(xf, c2 (.ref xs) (.ref xp) (.ref xq) f)]) (wr := [(xp, c1 ep), (xq, c1 eq), (xs, c5 st)]) ⟨hx, hb, hml, hown, hts⟩ (k2_begin l D cI cJ xf (.ref xs) (.ref xp) (.ref xq) f 3 0) (cwV 2 hts gX2_lightPilot_X2_begin rfl rfl rfl (by decide +kernel) ⟨Nat.le_of_ble_eq_true rfl, Nat.le_of_ble_eq_true rfl⟩) hK hN hP hD hS hA [0] [1, 2, 3] rfl rfl (by decide) (by decide) (by decide) 0 (ci := 2) rfl rfl rfl rfl hl.1 rfl (Nat.le_of_ble_eq_true rfl) dX2_lightPilot_13 ⟨Nat.le_of_ble_eq_true rfl, Nat.le_of_ble_eq_true rfl⟩ (fun r11 u10 H locs hw hP hD hS => ?_)
    have hr11 : r11 = ((s2_begin f 3 0).1) := hw
    obtain ⟨v12, hv12⟩ : ∃ z : Nat → Int32, z = ((s2_begin f 3 0).2) := ⟨_, rfl⟩
    have hP : va_P D vwCl [(xp, c1 ep), (xq, c1 eq), (xs, c5 st), (xf, c2 (.ref xs) (.ref xp) (.ref xq) v12)] H := by rw [hv12]; exact hP
    have hD : va_D A [(xp, c1 ep), (xq, c1 eq), (xs, c5 st), (xf, c2 (.ref xs) (.ref xp) (.ref xq) v12)] := by rw [hv12]; exact hD
    have hsp : (s2_lightPilot f ep eq st) = (r11, v12) := by subst hr11; subst hv12; simp only [s2_lightPilot, if_neg z1]
    exact hret _ _ _ _ _ _ _ _ (hP.sub (ws' := [(xf, c2 (.ref xs) (.ref xp) (.ref xq) v12), (xp, c1 ep), (xq, c1 eq), (xs, c5 st)]) [3, 0, 1, 2] rfl) (hD.sub (ws' := [(xf, c2 (.ref xs) (.ref xp) (.ref xq) v12), (xp, c1 ep), (xq, c1 eq), (xs, c5 st)]) [3, 0, 1, 2] (by decide) rfl) hS dX2_lightPilot_16 (cw_b01 (by subst hr11; (repeat' split) <;> first | exact Or.inl rfl | exact Or.inr rfl | assumption | exact z2_begin _ _ _)) ⟨(), (by rw [hsp]), (by rw [hsp])⟩ (Nat.le_of_ble_eq_true rfl) (Nat.le_of_ble_eq_true rfl)

set_option maxHeartbeats 4000000 in
set_option maxRecDepth 100000 in
theorem k2_lightMain (l : Launch) (D : va_G) (cI cJ : ClassId) (xf xp xq xs : Nat) (f : Nat → Int32) (ep : Nat → Int32) (eq : Nat → Int32) (st : Nat → Int32) : cw_Mi l yX2_lightMain wsX2_lightMain (cw_rm 3) D [(cI, .int), (cJ, .long)] [.ref xf] [(xf, c2 (.ref xs) (.ref xp) (.ref xq) f), (xp, c1 ep), (xq, c1 eq), (xs, c5 st)] 0 0 (fun r (_ : Unit) => r = (s2_lightMain f ep eq st).1) (fun _ : Unit => [(xf, c2 (.ref xs) (.ref xp) (.ref xq) (s2_lightMain f ep eq st).2), (xp, c1 ep), (xq, c1 eq), (xs, c5 st)]) := by
  refine cw_ofi (cc := cX2_lightMain) (maxL := 1) (ret := (some .boolean)) (by decide) rfl (Nat.le_of_ble_eq_true rfl) rfl ?_
  intro p e s m args below meth c A ls Q hin0 hret
  obtain ⟨hx, hb, hr, hml, hts, hown, hlocks, hin, hP, hK, hD, hN, hA, hl⟩ := hin0
  have hS : va_S A s.heap s.heap [] := va_S.rf
  have hl : lv_has ls 1 [(0, .ref xf)] := hl
  have lf18 := hts (.fieldLink RX2 18 "Burnerline$Furnace" "mainEye" "LBurnerline$Eye;") (by decide +kernel)
  have i2 : ∀ w ∈ wsX20, w ∈ wsX2_lightMain := by decide +kernel
  have lf54 := hN.use (args := args) (w := .fieldLinkNest "Burnerline$Furnace" 54 "Burnerline$Eye" "seesFlame" "Z" "Burnerline") (by decide +kernel)
  have i1 : ∀ w ∈ wsX10, w ∈ wsX2_lightMain := by decide +kernel
  have lf36 := hts (.fieldLink RX2 36 "Burnerline$Furnace" "time" "I") (by decide +kernel)
  have lf21 := hts (.fieldLink RX2 21 "Burnerline$Furnace" "settings" "LBurnerline$Settings;") (by decide +kernel)
  have lf163 := hN.use (args := args) (w := .fieldLinkNest "Burnerline$Furnace" 163 "Burnerline$Settings" "longestMain" "I" "Burnerline") (by decide +kernel)
  have i5 : ∀ w ∈ wsX50, w ∈ wsX2_lightMain := by decide +kernel
  refine lv_aload_n hx hb dX2_lightMain_0 rfl (lv_at hl 0 rfl) ?_
  refine va_get (D := D) (ci := 2) (v := .ref xq) (C := RX2) (T := TX2) (N := 11) hx hb hts i2 hown hK hP 0 rfl rfl 2 (by decide) lf18 (fun _ h9 => h9) rfl dX2_lightMain_1 ?_
  refine va_getN (D := D) (ci := 1) (v := .int (eq 0)) (C := RX1) (T := TX1) (N := 2) hx hb hts i1 hown hK hP 2 rfl rfl 0 (by decide) lf54 (fun _ h9 => h9) rfl dX2_lightMain_4 ?_
  refine lv_if_eq (tgt := 17) hx hb dX2_lightMain_7 (by decide) (fun z1 => ?_) (fun z1 => ?_)
  · refine lv_aload_n hx hb dX2_lightMain_17 rfl (lv_at hl 0 rfl) ?_
    refine va_get (D := D) (ci := 2) (v := .int (f 5)) (C := RX2) (T := TX2) (N := 11) hx hb hts i2 hown hK hP 0 rfl rfl 5 (by decide) lf36 (fun _ h9 => h9) rfl dX2_lightMain_18 ?_
    refine lv_aload_n hx hb dX2_lightMain_21 rfl (lv_at hl 0 rfl) ?_
    refine va_get (D := D) (ci := 2) (v := .ref xs) (C := RX2) (T := TX2) (N := 11) hx hb hts i2 hown hK hP 0 rfl rfl 0 (by decide) lf21 (fun _ h9 => h9) rfl dX2_lightMain_22 ?_
    refine va_getN (D := D) (ci := 5) (v := .int (st 3)) (C := RX5) (T := TX5) (N := 11) hx hb hts i5 hown hK hP 3 rfl rfl 3 (by decide) lf163 (fun _ h9 => h9) rfl dX2_lightMain_25 ?_
    have J7 : ∀ (w8 : Int32), w8 = (if (f 5) < (st 3) then 0 else (if ((s2_lockOut f 5).1) = 0 then 0 else 1)) → ∀ (w9 : Nat → Int32), w9 = (if (f 5) < (st 3) then f else ((s2_lockOut f 5).2)) → ∀ (H : Heap) (locs : List Loc), va_P D vwCl [(xf, c2 (.ref xs) (.ref xp) (.ref xq) w9), (xp, c1 ep), (xq, c1 eq), (xs, c5 st)] H → va_D A [(xf, c2 (.ref xs) (.ref xp) (.ref xq) w9), (xp, c1 ep), (xq, c1 eq), (xs, c5 st)] → va_S A s.heap H locs → W p l e (cw_rm 3) s m args below meth c H locs 0 0 (Q) (F0 m 44 ls [.int w8]) := by
      intro w8 hw8 w9 hw9 H locs hP hD hS
      have hsp : (s2_lightMain f ep eq st) = (w8, w9) := by subst hw9; subst hw8; simp only [s2_lightMain, if_pos z1]
      exact hret _ _ _ _ _ _ _ _ hP hD hS dX2_lightMain_44 (cw_b01 (by subst hw8; (repeat' split) <;> first | exact Or.inl rfl | exact Or.inr rfl | assumption | exact z2_lockOut _ _)) ⟨(), (by rw [hsp]), (by rw [hsp])⟩ (Nat.le_of_ble_eq_true rfl) (Nat.le_of_ble_eq_true rfl)
    refine lv_icmp_lt (tgt := 43) hx hb dX2_lightMain_28 (by decide) (fun z2 => ?_) (fun z2 => ?_)
    · refine lv_iconst (v := 0) hx hb dX2_lightMain_43 (by decide) ?_
      exact J7 0 (by simp only [if_pos z2]) f (by simp only [if_pos z2]) _ _ hP hD hS
    · refine lv_aload_n hx hb dX2_lightMain_31 rfl (lv_at hl 0 rfl) ?_
      refine lv_iconst (v := 5) hx hb dX2_lightMain_32 (by decide) ?_
      refine cw_cVi (As := [.int 5]) (rest := []) (wc := [(xf, c2 (.ref xs) (.ref xp) (.ref xq) f)]) (wr := [(xp, c1 ep), (xq, c1 eq), (xs, c5 st)]) ⟨hx, hb, hml, hown, hts⟩ (k2_lockOut l D cI cJ xf (.ref xs) (.ref xp) (.ref xq) f 5) (cwV 1 hts gX2_lightMain_X2_lockOut rfl rfl rfl (by decide +kernel) ⟨Nat.le_of_ble_eq_true rfl, Nat.le_of_ble_eq_true rfl⟩) hK hN hP hD hS hA [0] [1, 2, 3] rfl rfl (by decide) (by decide) (by decide) 0 (ci := 2) rfl rfl rfl rfl hl.1 rfl (Nat.le_of_ble_eq_true rfl) dX2_lightMain_33 ⟨Nat.le_of_ble_eq_true rfl, Nat.le_of_ble_eq_true rfl⟩ (fun r4 u3 H locs hw hP hD hS => ?_)
      have hr4 : r4 = ((s2_lockOut f 5).1) := hw
      obtain ⟨v5, hv5⟩ : ∃ z : Nat → Int32, z = ((s2_lockOut f 5).2) := ⟨_, rfl⟩
      have hP : va_P D vwCl [(xp, c1 ep), (xq, c1 eq), (xs, c5 st), (xf, c2 (.ref xs) (.ref xp) (.ref xq) v5)] H := by rw [hv5]; exact hP
      have hD : va_D A [(xp, c1 ep), (xq, c1 eq), (xs, c5 st), (xf, c2 (.ref xs) (.ref xp) (.ref xq) v5)] := by rw [hv5]; exact hD
      refine lv_if_eq (tgt := 43) hx hb dX2_lightMain_36 (by decide) (fun z6 => ?_) (fun z6 => ?_)
      · refine lv_iconst (v := 0) hx hb dX2_lightMain_43 (by decide) ?_
        exact J7 0 (by subst hr4; subst hv5; simp only [if_neg z2, if_pos z6]) v5 (by subst hr4; subst hv5; simp only [if_neg z2, if_pos z6]) _ _ (hP.sub [3, 0, 1, 2] rfl) (hD.sub [3, 0, 1, 2] (by decide) rfl) hS
      · refine lv_iconst (v := 1) hx hb dX2_lightMain_39 (by decide) ?_
        refine lv_goto (tgt := 44) hx hb dX2_lightMain_40 (by decide) ?_
        exact J7 1 (by subst hr4; subst hv5; simp only [if_neg z2, if_neg z6]) v5 (by subst hr4; subst hv5; simp only [if_neg z2, if_neg z6]) _ _ (hP.sub [3, 0, 1, 2] rfl) (hD.sub [3, 0, 1, 2] (by decide) rfl) hS
  · refine lv_aload_n hx hb dX2_lightMain_10 rfl (lv_at hl 0 rfl) ?_
    refine lv_iconst (v := 4) hx hb dX2_lightMain_11 (by decide) ?_
    refine lv_iconst (v := 0) hx hb dX2_lightMain_12 (by decide) ?_
    refine cw_cVi (As := [.int 4, .int 0]) (rest := []) (wc := [(xf, c2 (.ref xs) (.ref xp) (.ref xq) f)]) (wr := [(xp, c1 ep), (xq, c1 eq), (xs, c5 st)]) ⟨hx, hb, hml, hown, hts⟩ (k2_begin l D cI cJ xf (.ref xs) (.ref xp) (.ref xq) f 4 0) (cwV 2 hts gX2_lightMain_X2_begin rfl rfl rfl (by decide +kernel) ⟨Nat.le_of_ble_eq_true rfl, Nat.le_of_ble_eq_true rfl⟩) hK hN hP hD hS hA [0] [1, 2, 3] rfl rfl (by decide) (by decide) (by decide) 0 (ci := 2) rfl rfl rfl rfl hl.1 rfl (Nat.le_of_ble_eq_true rfl) dX2_lightMain_13 ⟨Nat.le_of_ble_eq_true rfl, Nat.le_of_ble_eq_true rfl⟩ (fun r11 u10 H locs hw hP hD hS => ?_)
    have hr11 : r11 = ((s2_begin f 4 0).1) := hw
    obtain ⟨v12, hv12⟩ : ∃ z : Nat → Int32, z = ((s2_begin f 4 0).2) := ⟨_, rfl⟩
    have hP : va_P D vwCl [(xp, c1 ep), (xq, c1 eq), (xs, c5 st), (xf, c2 (.ref xs) (.ref xp) (.ref xq) v12)] H := by rw [hv12]; exact hP
    have hD : va_D A [(xp, c1 ep), (xq, c1 eq), (xs, c5 st), (xf, c2 (.ref xs) (.ref xp) (.ref xq) v12)] := by rw [hv12]; exact hD
    have hsp : (s2_lightMain f ep eq st) = (r11, v12) := by subst hr11; subst hv12; simp only [s2_lightMain, if_neg z1]
    exact hret _ _ _ _ _ _ _ _ (hP.sub (ws' := [(xf, c2 (.ref xs) (.ref xp) (.ref xq) v12), (xp, c1 ep), (xq, c1 eq), (xs, c5 st)]) [3, 0, 1, 2] rfl) (hD.sub (ws' := [(xf, c2 (.ref xs) (.ref xp) (.ref xq) v12), (xp, c1 ep), (xq, c1 eq), (xs, c5 st)]) [3, 0, 1, 2] (by decide) rfl) hS dX2_lightMain_16 (cw_b01 (by subst hr11; (repeat' split) <;> first | exact Or.inl rfl | exact Or.inr rfl | assumption | exact z2_begin _ _ _)) ⟨(), (by rw [hsp]), (by rw [hsp])⟩ (Nat.le_of_ble_eq_true rfl) (Nat.le_of_ble_eq_true rfl)

set_option maxHeartbeats 4000000 in
set_option maxRecDepth 100000 in
theorem k2_sequenceAfterPurge (l : Launch) (D : va_G) (cI cJ : ClassId) (xf xp xq xs : Nat) (f : Nat → Int32) (ep : Nat → Int32) (eq : Nat → Int32) (st : Nat → Int32) : cw_Mi l yX2_sequenceAfterPurge wsX2_sequenceAfterPurge (cw_rm 3) D [(cI, .int), (cJ, .long)] [.ref xf] [(xf, c2 (.ref xs) (.ref xp) (.ref xq) f), (xp, c1 ep), (xq, c1 eq), (xs, c5 st)] 0 0 (fun r (_ : Unit) => r = (s2_sequenceAfterPurge f ep eq st).1) (fun _ : Unit => [(xf, c2 (.ref xs) (.ref xp) (.ref xq) (s2_sequenceAfterPurge f ep eq st).2), (xp, c1 ep), (xq, c1 eq), (xs, c5 st)]) := by
  refine cw_ofi (cc := cX2_sequenceAfterPurge) (maxL := 1) (ret := (some .boolean)) (by decide) rfl (Nat.le_of_ble_eq_true rfl) rfl ?_
  intro p e s m args below meth c A ls Q hin0 hret
  obtain ⟨hx, hb, hr, hml, hts, hown, hlocks, hin, hP, hK, hD, hN, hA, hl⟩ := hin0
  have hS : va_S A s.heap s.heap [] := va_S.rf
  have hl : lv_has ls 1 [(0, .ref xf)] := hl
  have lf36 := hts (.fieldLink RX2 36 "Burnerline$Furnace" "time" "I") (by decide +kernel)
  have i2 : ∀ w ∈ wsX20, w ∈ wsX2_sequenceAfterPurge := by decide +kernel
  have lf21 := hts (.fieldLink RX2 21 "Burnerline$Furnace" "settings" "LBurnerline$Settings;") (by decide +kernel)
  have lf172 := hN.use (args := args) (w := .fieldLinkNest "Burnerline$Furnace" 172 "Burnerline$Settings" "afterPurge" "I" "Burnerline") (by decide +kernel)
  have i5 : ∀ w ∈ wsX50, w ∈ wsX2_sequenceAfterPurge := by decide +kernel
  refine lv_aload_n hx hb dX2_sequenceAfterPurge_0 rfl (lv_at hl 0 rfl) ?_
  refine va_get (D := D) (ci := 2) (v := .int (f 5)) (C := RX2) (T := TX2) (N := 11) hx hb hts i2 hown hK hP 0 rfl rfl 5 (by decide) lf36 (fun _ h9 => h9) rfl dX2_sequenceAfterPurge_1 ?_
  refine lv_aload_n hx hb dX2_sequenceAfterPurge_4 rfl (lv_at hl 0 rfl) ?_
  refine va_get (D := D) (ci := 2) (v := .ref xs) (C := RX2) (T := TX2) (N := 11) hx hb hts i2 hown hK hP 0 rfl rfl 0 (by decide) lf21 (fun _ h9 => h9) rfl dX2_sequenceAfterPurge_5 ?_
  refine va_getN (D := D) (ci := 5) (v := .int (st 4)) (C := RX5) (T := TX5) (N := 11) hx hb hts i5 hown hK hP 3 rfl rfl 4 (by decide) lf172 (fun _ h9 => h9) rfl dX2_sequenceAfterPurge_8 ?_
  refine lv_icmp_ge (tgt := 16) hx hb dX2_sequenceAfterPurge_11 (by decide) (fun z1 => ?_) (fun z1 => ?_)
  · refine lv_aload_n hx hb dX2_sequenceAfterPurge_16 rfl (lv_at hl 0 rfl) ?_
    refine cw_cVi (As := []) (rest := []) (wc := [(xf, c2 (.ref xs) (.ref xp) (.ref xq) f), (xp, c1 ep), (xq, c1 eq), (xs, c5 st)]) (wr := []) ⟨hx, hb, hml, hown, hts⟩ (k2_hasFlame l D cI cJ xf xp xq xs f ep eq st) (cwV 0 hts gX2_sequenceAfterPurge_X2_hasFlame rfl rfl rfl (by decide +kernel) ⟨Nat.le_of_ble_eq_true rfl, Nat.le_of_ble_eq_true rfl⟩) hK hN hP hD hS hA [0, 1, 2, 3] [] rfl rfl (by decide) (by decide) (by decide) 0 (ci := 2) rfl rfl rfl rfl hl.1 rfl (Nat.le_of_ble_eq_true rfl) dX2_sequenceAfterPurge_17 ⟨Nat.le_of_ble_eq_true rfl, Nat.le_of_ble_eq_true rfl⟩ (fun r3 u2 H locs hw hP hD hS => ?_)
    have hr3 : r3 = (s2_hasFlame f ep eq st) := hw
    have hP : va_P D vwCl [(xf, c2 (.ref xs) (.ref xp) (.ref xq) f), (xp, c1 ep), (xq, c1 eq), (xs, c5 st)] H := hP
    have hD : va_D A [(xf, c2 (.ref xs) (.ref xp) (.ref xq) f), (xp, c1 ep), (xq, c1 eq), (xs, c5 st)] := hD
    have J11 : ∀ (w12 : Int32), w12 = (if r3 = 0 then ((s2_begin f 0 0).1) else ((s2_lockOut f 3).1)) → ∀ (w13 : Nat → Int32), w13 = (if r3 = 0 then ((s2_begin f 0 0).2) else ((s2_lockOut f 3).2)) → ∀ (H : Heap) (locs : List Loc), va_P D vwCl [(xf, c2 (.ref xs) (.ref xp) (.ref xq) w13), (xp, c1 ep), (xq, c1 eq), (xs, c5 st)] H → va_D A [(xf, c2 (.ref xs) (.ref xp) (.ref xq) w13), (xp, c1 ep), (xq, c1 eq), (xs, c5 st)] → va_S A s.heap H locs → W p l e (cw_rm 3) s m args below meth c H locs 0 0 (Q) (F0 m 37 ls [.int w12]) := by
      intro w12 hw12 w13 hw13 H locs hP hD hS
      have hsp : (s2_sequenceAfterPurge f ep eq st) = (w12, w13) := by subst hw13; subst hw12; subst hr3; simp only [s2_sequenceAfterPurge, if_pos z1]
      exact hret _ _ _ _ _ _ _ _ hP hD hS dX2_sequenceAfterPurge_37 (cw_b01 (by subst hw12; subst hr3; (repeat' split) <;> first | exact Or.inl rfl | exact Or.inr rfl | assumption | exact z2_begin _ _ _ | exact z2_hasFlame _ _ _ _ | exact z2_lockOut _ _)) ⟨(), (by rw [hsp]), (by rw [hsp])⟩ (Nat.le_of_ble_eq_true rfl) (Nat.le_of_ble_eq_true rfl)
    refine lv_if_eq (tgt := 31) hx hb dX2_sequenceAfterPurge_20 (by decide) (fun z4 => ?_) (fun z4 => ?_)
    · refine lv_aload_n hx hb dX2_sequenceAfterPurge_31 rfl (lv_at hl 0 rfl) ?_
      refine lv_iconst (v := 0) hx hb dX2_sequenceAfterPurge_32 (by decide) ?_
      refine lv_iconst (v := 0) hx hb dX2_sequenceAfterPurge_33 (by decide) ?_
      refine cw_cVi (As := [.int 0, .int 0]) (rest := []) (wc := [(xf, c2 (.ref xs) (.ref xp) (.ref xq) f)]) (wr := [(xp, c1 ep), (xq, c1 eq), (xs, c5 st)]) ⟨hx, hb, hml, hown, hts⟩ (k2_begin l D cI cJ xf (.ref xs) (.ref xp) (.ref xq) f 0 0) (cwV 2 hts gX2_sequenceAfterPurge_X2_begin rfl rfl rfl (by decide +kernel) ⟨Nat.le_of_ble_eq_true rfl, Nat.le_of_ble_eq_true rfl⟩) hK hN hP hD hS hA [0] [1, 2, 3] rfl rfl (by decide) (by decide) (by decide) 0 (ci := 2) rfl rfl rfl rfl hl.1 rfl (Nat.le_of_ble_eq_true rfl) dX2_sequenceAfterPurge_34 ⟨Nat.le_of_ble_eq_true rfl, Nat.le_of_ble_eq_true rfl⟩ (fun r6 u5 H locs hw hP hD hS => ?_)
      have hr6 : r6 = ((s2_begin f 0 0).1) := hw
      obtain ⟨v7, hv7⟩ : ∃ z : Nat → Int32, z = ((s2_begin f 0 0).2) := ⟨_, rfl⟩
      have hP : va_P D vwCl [(xp, c1 ep), (xq, c1 eq), (xs, c5 st), (xf, c2 (.ref xs) (.ref xp) (.ref xq) v7)] H := by rw [hv7]; exact hP
      have hD : va_D A [(xp, c1 ep), (xq, c1 eq), (xs, c5 st), (xf, c2 (.ref xs) (.ref xp) (.ref xq) v7)] := by rw [hv7]; exact hD
      exact J11 r6 (by subst hr6; subst hv7; simp only [if_pos z4]) v7 (by subst hr6; subst hv7; simp only [if_pos z4]) _ _ (hP.sub [3, 0, 1, 2] rfl) (hD.sub [3, 0, 1, 2] (by decide) rfl) hS
    · refine lv_aload_n hx hb dX2_sequenceAfterPurge_23 rfl (lv_at hl 0 rfl) ?_
      refine lv_iconst (v := 3) hx hb dX2_sequenceAfterPurge_24 (by decide) ?_
      refine cw_cVi (As := [.int 3]) (rest := []) (wc := [(xf, c2 (.ref xs) (.ref xp) (.ref xq) f)]) (wr := [(xp, c1 ep), (xq, c1 eq), (xs, c5 st)]) ⟨hx, hb, hml, hown, hts⟩ (k2_lockOut l D cI cJ xf (.ref xs) (.ref xp) (.ref xq) f 3) (cwV 1 hts gX2_sequenceAfterPurge_X2_lockOut rfl rfl rfl (by decide +kernel) ⟨Nat.le_of_ble_eq_true rfl, Nat.le_of_ble_eq_true rfl⟩) hK hN hP hD hS hA [0] [1, 2, 3] rfl rfl (by decide) (by decide) (by decide) 0 (ci := 2) rfl rfl rfl rfl hl.1 rfl (Nat.le_of_ble_eq_true rfl) dX2_sequenceAfterPurge_25 ⟨Nat.le_of_ble_eq_true rfl, Nat.le_of_ble_eq_true rfl⟩ (fun r9 u8 H locs hw hP hD hS => ?_)
      have hr9 : r9 = ((s2_lockOut f 3).1) := hw
      obtain ⟨v10, hv10⟩ : ∃ z : Nat → Int32, z = ((s2_lockOut f 3).2) := ⟨_, rfl⟩
      have hP : va_P D vwCl [(xp, c1 ep), (xq, c1 eq), (xs, c5 st), (xf, c2 (.ref xs) (.ref xp) (.ref xq) v10)] H := by rw [hv10]; exact hP
      have hD : va_D A [(xp, c1 ep), (xq, c1 eq), (xs, c5 st), (xf, c2 (.ref xs) (.ref xp) (.ref xq) v10)] := by rw [hv10]; exact hD
      refine lv_goto (tgt := 37) hx hb dX2_sequenceAfterPurge_28 (by decide) ?_
      exact J11 r9 (by subst hr9; subst hv10; simp only [if_neg z4]) v10 (by subst hr9; subst hv10; simp only [if_neg z4]) _ _ (hP.sub [3, 0, 1, 2] rfl) (hD.sub [3, 0, 1, 2] (by decide) rfl) hS
  · refine lv_iconst (v := 0) hx hb dX2_sequenceAfterPurge_14 (by decide) ?_
    have hsp : (s2_sequenceAfterPurge f ep eq st) = (0, f) := by simp only [s2_sequenceAfterPurge, if_neg z1]
    exact hret _ _ _ _ _ _ _ _ hP hD hS dX2_sequenceAfterPurge_15 rfl ⟨(), (by rw [hsp]), (by rw [hsp])⟩ (Nat.le_of_ble_eq_true rfl) (Nat.le_of_ble_eq_true rfl)

set_option maxHeartbeats 4000000 in
set_option maxRecDepth 100000 in
theorem k2_sequenceOff (l : Launch) (D : va_G) (cI cJ : ClassId) (xf xp xq xs : Nat) (f : Nat → Int32) (ep : Nat → Int32) (eq : Nat → Int32) (st : Nat → Int32) (a1 : Int32) : cw_Mi l yX2_sequenceOff wsX2_sequenceOff (cw_rm 3) D [(cI, .int), (cJ, .long)] [.ref xf, .int a1] [(xf, c2 (.ref xs) (.ref xp) (.ref xq) f), (xp, c1 ep), (xq, c1 eq), (xs, c5 st)] 0 0 (fun r (_ : Unit) => r = (s2_sequenceOff f ep eq st a1).1) (fun _ : Unit => [(xf, c2 (.ref xs) (.ref xp) (.ref xq) (s2_sequenceOff f ep eq st a1).2), (xp, c1 ep), (xq, c1 eq), (xs, c5 st)]) := by
  refine cw_ofi (cc := cX2_sequenceOff) (maxL := 2) (ret := (some .boolean)) (by decide) rfl (Nat.le_of_ble_eq_true rfl) rfl ?_
  intro p e s m args below meth c A ls Q hin0 hret
  obtain ⟨hx, hb, hr, hml, hts, hown, hlocks, hin, hP, hK, hD, hN, hA, hl⟩ := hin0
  have hS : va_S A s.heap s.heap [] := va_S.rf
  have hl : lv_has ls 2 [(0, .ref xf), (1, .int a1)] := hl
  have ln65 : va_Nw (.methodLinkNest RX2 65 yX6_isOn "Burnerline") s := hN _ (by decide +kernel)
  have ls65 := hts (.static yX6_isOn) (by decide +kernel)
  have liRX6 := hts (.initialized RX6) (by decide +kernel)
  refine lv_aload_n hx hb dX2_sequenceOff_0 rfl (lv_at hl 0 rfl) ?_
  refine cw_cVi (As := []) (rest := []) (wc := [(xf, c2 (.ref xs) (.ref xp) (.ref xq) f), (xp, c1 ep), (xq, c1 eq), (xs, c5 st)]) (wr := []) ⟨hx, hb, hml, hown, hts⟩ (k2_hasFlame l D cI cJ xf xp xq xs f ep eq st) (cwV 0 hts gX2_sequenceOff_X2_hasFlame rfl rfl rfl (by decide +kernel) ⟨Nat.le_of_ble_eq_true rfl, Nat.le_of_ble_eq_true rfl⟩) hK hN hP hD hS hA [0, 1, 2, 3] [] rfl rfl (by decide) (by decide) (by decide) 0 (ci := 2) rfl rfl rfl rfl hl.1 rfl (Nat.le_of_ble_eq_true rfl) dX2_sequenceOff_1 ⟨Nat.le_of_ble_eq_true rfl, Nat.le_of_ble_eq_true rfl⟩ (fun r2 u1 H locs hw hP hD hS => ?_)
  have hr2 : r2 = (s2_hasFlame f ep eq st) := hw
  have hP : va_P D vwCl [(xf, c2 (.ref xs) (.ref xp) (.ref xq) f), (xp, c1 ep), (xq, c1 eq), (xs, c5 st)] H := hP
  have hD : va_D A [(xf, c2 (.ref xs) (.ref xp) (.ref xq) f), (xp, c1 ep), (xq, c1 eq), (xs, c5 st)] := hD
  refine lv_if_eq (tgt := 13) hx hb dX2_sequenceOff_4 (by decide) (fun z3 => ?_) (fun z3 => ?_)
  · refine lv_iload_n hx hb dX2_sequenceOff_13 rfl (lv_at hl 1 rfl) ?_
    refine lv_iconst (v := 1) hx hb dX2_sequenceOff_14 (by decide) ?_
    refine cw_cSNi (As := [.int a1, .int 1]) (rest := []) (wc := []) (wr := [(xf, c2 (.ref xs) (.ref xp) (.ref xq) f), (xp, c1 ep), (xq, c1 eq), (xs, c5 st)]) ⟨hx, hb, hml, hown, hts⟩ (k6_isOn l D cI cJ a1 1) (va_cnB 2 hts gX2_sequenceOff_X6_isOn_n65 rfl rfl rfl ln65 liRX6 (by decide +kernel) ⟨Nat.le_of_ble_eq_true rfl, Nat.le_of_ble_eq_true rfl⟩) ls65 hK hN hP hD hS hA [] [0, 1, 2, 3] rfl rfl (by decide) (by decide) (by decide) rfl hl.1 rfl (Nat.le_of_ble_eq_true rfl) dX2_sequenceOff_15 ⟨Nat.le_of_ble_eq_true rfl, Nat.le_of_ble_eq_true rfl⟩ (fun r5 u4 H locs hw hP hD hS => ?_)
    have hr5 : r5 = (s6_isOn a1 1) := hw
    have hP : va_P D vwCl [(xf, c2 (.ref xs) (.ref xp) (.ref xq) f), (xp, c1 ep), (xq, c1 eq), (xs, c5 st)] H := hP
    have hD : va_D A [(xf, c2 (.ref xs) (.ref xp) (.ref xq) f), (xp, c1 ep), (xq, c1 eq), (xs, c5 st)] := hD
    have J11 : ∀ (w12 : Int32), w12 = (if r5 = 0 then 0 else (if ((s2_begin f 1 0).1) = 0 then 0 else 1)) → ∀ (w13 : Nat → Int32), w13 = (if r5 = 0 then f else ((s2_begin f 1 0).2)) → ∀ (H : Heap) (locs : List Loc), va_P D vwCl [(xf, c2 (.ref xs) (.ref xp) (.ref xq) w13), (xp, c1 ep), (xq, c1 eq), (xs, c5 st)] H → va_D A [(xf, c2 (.ref xs) (.ref xp) (.ref xq) w13), (xp, c1 ep), (xq, c1 eq), (xs, c5 st)] → va_S A s.heap H locs → W p l e (cw_rm 3) s m args below meth c H locs 0 0 (Q) (F0 m 35 ls [.int w12]) := by
      intro w12 hw12 w13 hw13 H locs hP hD hS
      have hsp : (s2_sequenceOff f ep eq st a1) = (w12, w13) := by subst hw13; subst hw12; subst hr5; subst hr2; simp only [s2_sequenceOff, if_pos z3]
      exact hret _ _ _ _ _ _ _ _ hP hD hS dX2_sequenceOff_35 (cw_b01 (by subst hw12; subst hr5; (repeat' split) <;> first | exact Or.inl rfl | exact Or.inr rfl | assumption | exact z2_begin _ _ _ | exact z6_isOn _ _)) ⟨(), (by rw [hsp]), (by rw [hsp])⟩ (Nat.le_of_ble_eq_true rfl) (Nat.le_of_ble_eq_true rfl)
    refine lv_if_eq (tgt := 34) hx hb dX2_sequenceOff_18 (by decide) (fun z6 => ?_) (fun z6 => ?_)
    · refine lv_iconst (v := 0) hx hb dX2_sequenceOff_34 (by decide) ?_
      exact J11 0 (by simp only [if_pos z6]) f (by simp only [if_pos z6]) _ _ hP hD hS
    · refine lv_aload_n hx hb dX2_sequenceOff_21 rfl (lv_at hl 0 rfl) ?_
      refine lv_iconst (v := 1) hx hb dX2_sequenceOff_22 (by decide) ?_
      refine lv_iconst (v := 0) hx hb dX2_sequenceOff_23 (by decide) ?_
      refine cw_cVi (As := [.int 1, .int 0]) (rest := []) (wc := [(xf, c2 (.ref xs) (.ref xp) (.ref xq) f)]) (wr := [(xp, c1 ep), (xq, c1 eq), (xs, c5 st)]) ⟨hx, hb, hml, hown, hts⟩ (k2_begin l D cI cJ xf (.ref xs) (.ref xp) (.ref xq) f 1 0) (cwV 2 hts gX2_sequenceOff_X2_begin rfl rfl rfl (by decide +kernel) ⟨Nat.le_of_ble_eq_true rfl, Nat.le_of_ble_eq_true rfl⟩) hK hN hP hD hS hA [0] [1, 2, 3] rfl rfl (by decide) (by decide) (by decide) 0 (ci := 2) rfl rfl rfl rfl hl.1 rfl (Nat.le_of_ble_eq_true rfl) dX2_sequenceOff_24 ⟨Nat.le_of_ble_eq_true rfl, Nat.le_of_ble_eq_true rfl⟩ (fun r8 u7 H locs hw hP hD hS => ?_)
      have hr8 : r8 = ((s2_begin f 1 0).1) := hw
      obtain ⟨v9, hv9⟩ : ∃ z : Nat → Int32, z = ((s2_begin f 1 0).2) := ⟨_, rfl⟩
      have hP : va_P D vwCl [(xp, c1 ep), (xq, c1 eq), (xs, c5 st), (xf, c2 (.ref xs) (.ref xp) (.ref xq) v9)] H := by rw [hv9]; exact hP
      have hD : va_D A [(xp, c1 ep), (xq, c1 eq), (xs, c5 st), (xf, c2 (.ref xs) (.ref xp) (.ref xq) v9)] := by rw [hv9]; exact hD
      refine lv_if_eq (tgt := 34) hx hb dX2_sequenceOff_27 (by decide) (fun z10 => ?_) (fun z10 => ?_)
      · refine lv_iconst (v := 0) hx hb dX2_sequenceOff_34 (by decide) ?_
        exact J11 0 (by subst hr8; subst hv9; simp only [if_neg z6, if_pos z10]) v9 (by subst hr8; subst hv9; simp only [if_neg z6, if_pos z10]) _ _ (hP.sub [3, 0, 1, 2] rfl) (hD.sub [3, 0, 1, 2] (by decide) rfl) hS
      · refine lv_iconst (v := 1) hx hb dX2_sequenceOff_30 (by decide) ?_
        refine lv_goto (tgt := 35) hx hb dX2_sequenceOff_31 (by decide) ?_
        exact J11 1 (by subst hr8; subst hv9; simp only [if_neg z6, if_neg z10]) v9 (by subst hr8; subst hv9; simp only [if_neg z6, if_neg z10]) _ _ (hP.sub [3, 0, 1, 2] rfl) (hD.sub [3, 0, 1, 2] (by decide) rfl) hS
  · refine lv_aload_n hx hb dX2_sequenceOff_7 rfl (lv_at hl 0 rfl) ?_
    refine lv_iconst (v := 3) hx hb dX2_sequenceOff_8 (by decide) ?_
    refine cw_cVi (As := [.int 3]) (rest := []) (wc := [(xf, c2 (.ref xs) (.ref xp) (.ref xq) f)]) (wr := [(xp, c1 ep), (xq, c1 eq), (xs, c5 st)]) ⟨hx, hb, hml, hown, hts⟩ (k2_lockOut l D cI cJ xf (.ref xs) (.ref xp) (.ref xq) f 3) (cwV 1 hts gX2_sequenceOff_X2_lockOut rfl rfl rfl (by decide +kernel) ⟨Nat.le_of_ble_eq_true rfl, Nat.le_of_ble_eq_true rfl⟩) hK hN hP hD hS hA [0] [1, 2, 3] rfl rfl (by decide) (by decide) (by decide) 0 (ci := 2) rfl rfl rfl rfl hl.1 rfl (Nat.le_of_ble_eq_true rfl) dX2_sequenceOff_9 ⟨Nat.le_of_ble_eq_true rfl, Nat.le_of_ble_eq_true rfl⟩ (fun r15 u14 H locs hw hP hD hS => ?_)
    have hr15 : r15 = ((s2_lockOut f 3).1) := hw
    obtain ⟨v16, hv16⟩ : ∃ z : Nat → Int32, z = ((s2_lockOut f 3).2) := ⟨_, rfl⟩
    have hP : va_P D vwCl [(xp, c1 ep), (xq, c1 eq), (xs, c5 st), (xf, c2 (.ref xs) (.ref xp) (.ref xq) v16)] H := by rw [hv16]; exact hP
    have hD : va_D A [(xp, c1 ep), (xq, c1 eq), (xs, c5 st), (xf, c2 (.ref xs) (.ref xp) (.ref xq) v16)] := by rw [hv16]; exact hD
    have hsp : (s2_sequenceOff f ep eq st a1) = (r15, v16) := by subst hr15; subst hv16; subst hr2; simp only [s2_sequenceOff, if_neg z3]
    exact hret _ _ _ _ _ _ _ _ (hP.sub (ws' := [(xf, c2 (.ref xs) (.ref xp) (.ref xq) v16), (xp, c1 ep), (xq, c1 eq), (xs, c5 st)]) [3, 0, 1, 2] rfl) (hD.sub (ws' := [(xf, c2 (.ref xs) (.ref xp) (.ref xq) v16), (xp, c1 ep), (xq, c1 eq), (xs, c5 st)]) [3, 0, 1, 2] (by decide) rfl) hS dX2_sequenceOff_12 (cw_b01 (by subst hr15; (repeat' split) <;> first | exact Or.inl rfl | exact Or.inr rfl | assumption | exact z2_lockOut _ _)) ⟨(), (by rw [hsp]), (by rw [hsp])⟩ (Nat.le_of_ble_eq_true rfl) (Nat.le_of_ble_eq_true rfl)

set_option maxHeartbeats 4000000 in
set_option maxRecDepth 100000 in
theorem k2_sequencePurge (l : Launch) (D : va_G) (cI cJ : ClassId) (xf xp xq xs : Nat) (f : Nat → Int32) (ep : Nat → Int32) (eq : Nat → Int32) (st : Nat → Int32) (a1 : Int32) : cw_Mi l yX2_sequencePurge wsX2_sequencePurge (cw_rm 3) D [(cI, .int), (cJ, .long)] [.ref xf, .int a1] [(xf, c2 (.ref xs) (.ref xp) (.ref xq) f), (xp, c1 ep), (xq, c1 eq), (xs, c5 st)] 0 0 (fun r (_ : Unit) => r = (s2_sequencePurge f ep eq st a1).1) (fun _ : Unit => [(xf, c2 (.ref xs) (.ref xp) (.ref xq) (s2_sequencePurge f ep eq st a1).2), (xp, c1 ep), (xq, c1 eq), (xs, c5 st)]) := by
  refine cw_ofi (cc := cX2_sequencePurge) (maxL := 2) (ret := (some .boolean)) (by decide) rfl (Nat.le_of_ble_eq_true rfl) rfl ?_
  intro p e s m args below meth c A ls Q hin0 hret
  obtain ⟨hx, hb, hr, hml, hts, hown, hlocks, hin, hP, hK, hD, hN, hA, hl⟩ := hin0
  have hS : va_S A s.heap s.heap [] := va_S.rf
  have hl : lv_has ls 2 [(0, .ref xf), (1, .int a1)] := hl
  have ln65 : va_Nw (.methodLinkNest RX2 65 yX6_isOn "Burnerline") s := hN _ (by decide +kernel)
  have ls65 := hts (.static yX6_isOn) (by decide +kernel)
  have liRX6 := hts (.initialized RX6) (by decide +kernel)
  have lf39 := hts (.fieldLink RX2 39 "Burnerline$Furnace" "air" "I") (by decide +kernel)
  have i2 : ∀ w ∈ wsX20, w ∈ wsX2_sequencePurge := by decide +kernel
  have lf45 := hts (.fieldLink RX2 45 "Burnerline$Furnace" "purged" "I") (by decide +kernel)
  have lf21 := hts (.fieldLink RX2 21 "Burnerline$Furnace" "settings" "LBurnerline$Settings;") (by decide +kernel)
  have lf148 := hN.use (args := args) (w := .fieldLinkNest "Burnerline$Furnace" 148 "Burnerline$Settings" "volume" "I" "Burnerline") (by decide +kernel)
  have i5 : ∀ w ∈ wsX50, w ∈ wsX2_sequencePurge := by decide +kernel
  have lf36 := hts (.fieldLink RX2 36 "Burnerline$Furnace" "time" "I") (by decide +kernel)
  have lf151 := hN.use (args := args) (w := .fieldLinkNest "Burnerline$Furnace" 151 "Burnerline$Settings" "longestPurge" "I" "Burnerline") (by decide +kernel)
  refine lv_iload_n hx hb dX2_sequencePurge_0 rfl (lv_at hl 1 rfl) ?_
  refine lv_iconst (v := 1) hx hb dX2_sequencePurge_1 (by decide) ?_
  refine cw_cSNi (As := [.int a1, .int 1]) (rest := []) (wc := []) (wr := [(xf, c2 (.ref xs) (.ref xp) (.ref xq) f), (xp, c1 ep), (xq, c1 eq), (xs, c5 st)]) ⟨hx, hb, hml, hown, hts⟩ (k6_isOn l D cI cJ a1 1) (va_cnB 2 hts gX2_sequencePurge_X6_isOn_n65 rfl rfl rfl ln65 liRX6 (by decide +kernel) ⟨Nat.le_of_ble_eq_true rfl, Nat.le_of_ble_eq_true rfl⟩) ls65 hK hN hP hD hS hA [] [0, 1, 2, 3] rfl rfl (by decide) (by decide) (by decide) rfl hl.1 rfl (Nat.le_of_ble_eq_true rfl) dX2_sequencePurge_2 ⟨Nat.le_of_ble_eq_true rfl, Nat.le_of_ble_eq_true rfl⟩ (fun r2 u1 H locs hw hP hD hS => ?_)
  have hr2 : r2 = (s6_isOn a1 1) := hw
  have hP : va_P D vwCl [(xf, c2 (.ref xs) (.ref xp) (.ref xq) f), (xp, c1 ep), (xq, c1 eq), (xs, c5 st)] H := hP
  have hD : va_D A [(xf, c2 (.ref xs) (.ref xp) (.ref xq) f), (xp, c1 ep), (xq, c1 eq), (xs, c5 st)] := hD
  refine lv_if_ne (tgt := 15) hx hb dX2_sequencePurge_5 (by decide) (fun z3 => ?_) (fun z3 => ?_)
  · refine lv_aload_n hx hb dX2_sequencePurge_15 rfl (lv_at hl 0 rfl) ?_
    refine cw_cVi (As := []) (rest := []) (wc := [(xf, c2 (.ref xs) (.ref xp) (.ref xq) f), (xp, c1 ep), (xq, c1 eq), (xs, c5 st)]) (wr := []) ⟨hx, hb, hml, hown, hts⟩ (k2_hasFlame l D cI cJ xf xp xq xs f ep eq st) (cwV 0 hts gX2_sequencePurge_X2_hasFlame rfl rfl rfl (by decide +kernel) ⟨Nat.le_of_ble_eq_true rfl, Nat.le_of_ble_eq_true rfl⟩) hK hN hP hD hS hA [0, 1, 2, 3] [] rfl rfl (by decide) (by decide) (by decide) 0 (ci := 2) rfl rfl rfl rfl hl.1 rfl (Nat.le_of_ble_eq_true rfl) dX2_sequencePurge_16 ⟨Nat.le_of_ble_eq_true rfl, Nat.le_of_ble_eq_true rfl⟩ (fun r5 u4 H locs hw hP hD hS => ?_)
    have hr5 : r5 = (s2_hasFlame f ep eq st) := hw
    have hP : va_P D vwCl [(xf, c2 (.ref xs) (.ref xp) (.ref xq) f), (xp, c1 ep), (xq, c1 eq), (xs, c5 st)] H := hP
    have hD : va_D A [(xf, c2 (.ref xs) (.ref xp) (.ref xq) f), (xp, c1 ep), (xq, c1 eq), (xs, c5 st)] := hD
    refine lv_if_eq (tgt := 28) hx hb dX2_sequencePurge_19 (by decide) (fun z6 => ?_) (fun z6 => ?_)
    · refine lv_aload_n hx hb dX2_sequencePurge_28 rfl (lv_at hl 0 rfl) ?_
      refine lv_iload_n hx hb dX2_sequencePurge_29 rfl (lv_at hl 1 rfl) ?_
      refine lv_iconst (v := 2) hx hb dX2_sequencePurge_30 (by decide) ?_
      refine cw_cSNi (As := [.int a1, .int 2]) (rest := [.ref xf]) (wc := []) (wr := [(xf, c2 (.ref xs) (.ref xp) (.ref xq) f), (xp, c1 ep), (xq, c1 eq), (xs, c5 st)]) ⟨hx, hb, hml, hown, hts⟩ (k6_isOn l D cI cJ a1 2) (va_cnB 2 hts gX2_sequencePurge_X6_isOn_n65 rfl rfl rfl ln65 liRX6 (by decide +kernel) ⟨Nat.le_of_ble_eq_true rfl, Nat.le_of_ble_eq_true rfl⟩) ls65 hK hN hP hD hS hA [] [0, 1, 2, 3] rfl rfl (by decide) (by decide) (by decide) rfl hl.1 rfl (Nat.le_of_ble_eq_true rfl) dX2_sequencePurge_31 ⟨Nat.le_of_ble_eq_true rfl, Nat.le_of_ble_eq_true rfl⟩ (fun r8 u7 H locs hw hP hD hS => ?_)
      have hr8 : r8 = (s6_isOn a1 2) := hw
      have hP : va_P D vwCl [(xf, c2 (.ref xs) (.ref xp) (.ref xq) f), (xp, c1 ep), (xq, c1 eq), (xs, c5 st)] H := hP
      have hD : va_D A [(xf, c2 (.ref xs) (.ref xp) (.ref xq) f), (xp, c1 ep), (xq, c1 eq), (xs, c5 st)] := hD
      have J11 : ∀ (w12 : Int32), w12 = (if r8 = 0 then 0 else (if (f 6) < 70 then 0 else ((f 8) + (f 6)))) → W p l e (cw_rm 3) s m args below meth c H locs 0 0 (Q) (F0 m 59 ls [.int w12, .ref xf]) := by
        intro w12 hw12
        refine va_put (D := D) (ci := 2) (v := .int w12) (ty := .int) (C := RX2) (T := TX2) (N := 11) hx hb hts i2 tyX2 tyX2_ok nmX2 hown hK hP hD hS 0 rfl rfl 8 (by decide) lf45 (fun _ h9 => h9) rfl (by decide +kernel) rfl rfl (Nat.le_of_ble_eq_true rfl) dX2_sequencePurge_59 (fun H locs hP hD hS => ?_)
        have hP : va_P D vwCl [(xf, c2 (.ref xs) (.ref xp) (.ref xq) (upd f 8 w12)), (xp, c1 ep), (xq, c1 eq), (xs, c5 st)] H := (congrArg (fun z9 => va_P D vwCl [(xf, .inr (2, z9)), (xp, c1 ep), (xq, c1 eq), (xs, c5 st)] H) (cs2_8 (.ref xs) (.ref xp) (.ref xq) f w12)).mp hP
        have hD : va_D A [(xf, c2 (.ref xs) (.ref xp) (.ref xq) (upd f 8 w12)), (xp, c1 ep), (xq, c1 eq), (xs, c5 st)] := (congrArg (fun z9 => va_D A [(xf, .inr (2, z9)), (xp, c1 ep), (xq, c1 eq), (xs, c5 st)]) (cs2_8 (.ref xs) (.ref xp) (.ref xq) f w12)).mp hD
        refine lv_aload_n hx hb dX2_sequencePurge_62 rfl (lv_at hl 0 rfl) ?_
        refine va_get (D := D) (ci := 2) (v := .int ((upd f 8 w12) 8)) (C := RX2) (T := TX2) (N := 11) hx hb hts i2 hown hK hP 0 rfl rfl 8 (by decide) lf45 (fun _ h9 => h9) rfl dX2_sequencePurge_63 ?_
        refine cw_topi (y := w12) (cw_upd0 _ _ _) ?_
        refine lv_iconst (v := 4) hx hb dX2_sequencePurge_66 (by decide) ?_
        refine lv_aload_n hx hb dX2_sequencePurge_67 rfl (lv_at hl 0 rfl) ?_
        refine va_get (D := D) (ci := 2) (v := .ref xs) (C := RX2) (T := TX2) (N := 11) hx hb hts i2 hown hK hP 0 rfl rfl 0 (by decide) lf21 (fun _ h9 => h9) rfl dX2_sequencePurge_68 ?_
        refine va_getN (D := D) (ci := 5) (v := .int (st 8)) (C := RX5) (T := TX5) (N := 11) hx hb hts i5 hown hK hP 3 rfl rfl 8 (by decide) lf148 (fun _ h9 => h9) rfl dX2_sequencePurge_71 ?_
        refine lv_imul hx hb dX2_sequencePurge_74 ?_
        refine lv_icmp_lt (tgt := 85) hx hb dX2_sequencePurge_75 (by decide) (fun z13 => ?_) (fun z13 => ?_)
        · refine lv_aload_n hx hb dX2_sequencePurge_85 rfl (lv_at hl 0 rfl) ?_
          refine va_get (D := D) (ci := 2) (v := .int ((upd f 8 w12) 5)) (C := RX2) (T := TX2) (N := 11) hx hb hts i2 hown hK hP 0 rfl rfl 5 (by decide) lf36 (fun _ h9 => h9) rfl dX2_sequencePurge_86 ?_
          refine cw_topi (y := (f 5)) (cw_updn _ _ (by decide)) ?_
          refine lv_aload_n hx hb dX2_sequencePurge_89 rfl (lv_at hl 0 rfl) ?_
          refine va_get (D := D) (ci := 2) (v := .ref xs) (C := RX2) (T := TX2) (N := 11) hx hb hts i2 hown hK hP 0 rfl rfl 0 (by decide) lf21 (fun _ h9 => h9) rfl dX2_sequencePurge_90 ?_
          refine va_getN (D := D) (ci := 5) (v := .int (st 1)) (C := RX5) (T := TX5) (N := 11) hx hb hts i5 hown hK hP 3 rfl rfl 1 (by decide) lf151 (fun _ h9 => h9) rfl dX2_sequencePurge_93 ?_
          have J19 : ∀ (w20 : Int32), w20 = (if (f 5) < (st 1) then 0 else (if ((s2_lockOut (upd f 8 w12) 7).1) = 0 then 0 else 1)) → ∀ (w21 : Nat → Int32), w21 = (if (f 5) < (st 1) then (upd f 8 w12) else ((s2_lockOut (upd f 8 w12) 7).2)) → ∀ (H : Heap) (locs : List Loc), va_P D vwCl [(xf, c2 (.ref xs) (.ref xp) (.ref xq) w21), (xp, c1 ep), (xq, c1 eq), (xs, c5 st)] H → va_D A [(xf, c2 (.ref xs) (.ref xp) (.ref xq) w21), (xp, c1 ep), (xq, c1 eq), (xs, c5 st)] → va_S A s.heap H locs → W p l e (cw_rm 3) s m args below meth c H locs 0 0 (Q) (F0 m 113 ls [.int w20]) := by
            intro w20 hw20 w21 hw21 H locs hP hD hS
            have hsp : (s2_sequencePurge f ep eq st a1) = (w20, w21) := by subst hw21; subst hw20; subst hw12; subst hr8; subst hr5; subst hr2; simp only [s2_sequencePurge, if_neg z3, if_pos z6, if_pos z13]
            exact hret _ _ _ _ _ _ _ _ hP hD hS dX2_sequencePurge_113 (cw_b01 (by subst hw20; subst hw12; subst hr8; (repeat' split) <;> first | exact Or.inl rfl | exact Or.inr rfl | assumption | exact z2_lockOut _ _ | exact z6_isOn _ _)) ⟨(), (by rw [hsp]), (by rw [hsp])⟩ (Nat.le_of_ble_eq_true rfl) (Nat.le_of_ble_eq_true rfl)
          refine lv_icmp_lt (tgt := 112) hx hb dX2_sequencePurge_96 (by decide) (fun z14 => ?_) (fun z14 => ?_)
          · refine lv_iconst (v := 0) hx hb dX2_sequencePurge_112 (by decide) ?_
            exact J19 0 (by simp only [if_pos z14]) (upd f 8 w12) (by simp only [if_pos z14]) _ _ hP hD hS
          · refine lv_aload_n hx hb dX2_sequencePurge_99 rfl (lv_at hl 0 rfl) ?_
            refine lv_bipush (v := 7) hx hb dX2_sequencePurge_100 (by decide) ?_
            refine cw_cVi (As := [.int 7]) (rest := []) (wc := [(xf, c2 (.ref xs) (.ref xp) (.ref xq) (upd f 8 w12))]) (wr := [(xp, c1 ep), (xq, c1 eq), (xs, c5 st)]) ⟨hx, hb, hml, hown, hts⟩ (k2_lockOut l D cI cJ xf (.ref xs) (.ref xp) (.ref xq) (upd f 8 w12) 7) (cwV 1 hts gX2_sequencePurge_X2_lockOut rfl rfl rfl (by decide +kernel) ⟨Nat.le_of_ble_eq_true rfl, Nat.le_of_ble_eq_true rfl⟩) hK hN hP hD hS hA [0] [1, 2, 3] rfl rfl (by decide) (by decide) (by decide) 0 (ci := 2) rfl rfl rfl rfl hl.1 rfl (Nat.le_of_ble_eq_true rfl) dX2_sequencePurge_102 ⟨Nat.le_of_ble_eq_true rfl, Nat.le_of_ble_eq_true rfl⟩ (fun r16 u15 H locs hw hP hD hS => ?_)
            have hr16 : r16 = ((s2_lockOut (upd f 8 w12) 7).1) := hw
            obtain ⟨v17, hv17⟩ : ∃ z : Nat → Int32, z = ((s2_lockOut (upd f 8 w12) 7).2) := ⟨_, rfl⟩
            have hP : va_P D vwCl [(xp, c1 ep), (xq, c1 eq), (xs, c5 st), (xf, c2 (.ref xs) (.ref xp) (.ref xq) v17)] H := by rw [hv17]; exact hP
            have hD : va_D A [(xp, c1 ep), (xq, c1 eq), (xs, c5 st), (xf, c2 (.ref xs) (.ref xp) (.ref xq) v17)] := by rw [hv17]; exact hD
            refine lv_if_eq (tgt := 112) hx hb dX2_sequencePurge_105 (by decide) (fun z18 => ?_) (fun z18 => ?_)
            · refine lv_iconst (v := 0) hx hb dX2_sequencePurge_112 (by decide) ?_
              exact J19 0 (by subst hr16; subst hv17; simp only [if_neg z14, if_pos z18]) v17 (by subst hr16; subst hv17; simp only [if_neg z14, if_pos z18]) _ _ (hP.sub [3, 0, 1, 2] rfl) (hD.sub [3, 0, 1, 2] (by decide) rfl) hS
            · refine lv_iconst (v := 1) hx hb dX2_sequencePurge_108 (by decide) ?_
              refine lv_goto (tgt := 113) hx hb dX2_sequencePurge_109 (by decide) ?_
              exact J19 1 (by subst hr16; subst hv17; simp only [if_neg z14, if_neg z18]) v17 (by subst hr16; subst hv17; simp only [if_neg z14, if_neg z18]) _ _ (hP.sub [3, 0, 1, 2] rfl) (hD.sub [3, 0, 1, 2] (by decide) rfl) hS
        · refine lv_aload_n hx hb dX2_sequencePurge_78 rfl (lv_at hl 0 rfl) ?_
          refine lv_iconst (v := 2) hx hb dX2_sequencePurge_79 (by decide) ?_
          refine lv_iconst (v := 0) hx hb dX2_sequencePurge_80 (by decide) ?_
          refine cw_cVi (As := [.int 2, .int 0]) (rest := []) (wc := [(xf, c2 (.ref xs) (.ref xp) (.ref xq) (upd f 8 w12))]) (wr := [(xp, c1 ep), (xq, c1 eq), (xs, c5 st)]) ⟨hx, hb, hml, hown, hts⟩ (k2_begin l D cI cJ xf (.ref xs) (.ref xp) (.ref xq) (upd f 8 w12) 2 0) (cwV 2 hts gX2_sequencePurge_X2_begin rfl rfl rfl (by decide +kernel) ⟨Nat.le_of_ble_eq_true rfl, Nat.le_of_ble_eq_true rfl⟩) hK hN hP hD hS hA [0] [1, 2, 3] rfl rfl (by decide) (by decide) (by decide) 0 (ci := 2) rfl rfl rfl rfl hl.1 rfl (Nat.le_of_ble_eq_true rfl) dX2_sequencePurge_81 ⟨Nat.le_of_ble_eq_true rfl, Nat.le_of_ble_eq_true rfl⟩ (fun r23 u22 H locs hw hP hD hS => ?_)
          have hr23 : r23 = ((s2_begin (upd f 8 w12) 2 0).1) := hw
          obtain ⟨v24, hv24⟩ : ∃ z : Nat → Int32, z = ((s2_begin (upd f 8 w12) 2 0).2) := ⟨_, rfl⟩
          have hP : va_P D vwCl [(xp, c1 ep), (xq, c1 eq), (xs, c5 st), (xf, c2 (.ref xs) (.ref xp) (.ref xq) v24)] H := by rw [hv24]; exact hP
          have hD : va_D A [(xp, c1 ep), (xq, c1 eq), (xs, c5 st), (xf, c2 (.ref xs) (.ref xp) (.ref xq) v24)] := by rw [hv24]; exact hD
          have hsp : (s2_sequencePurge f ep eq st a1) = (r23, v24) := by subst hr23; subst hv24; subst hw12; subst hr8; subst hr5; subst hr2; simp only [s2_sequencePurge, if_neg z3, if_pos z6, if_neg z13]
          exact hret _ _ _ _ _ _ _ _ (hP.sub (ws' := [(xf, c2 (.ref xs) (.ref xp) (.ref xq) v24), (xp, c1 ep), (xq, c1 eq), (xs, c5 st)]) [3, 0, 1, 2] rfl) (hD.sub (ws' := [(xf, c2 (.ref xs) (.ref xp) (.ref xq) v24), (xp, c1 ep), (xq, c1 eq), (xs, c5 st)]) [3, 0, 1, 2] (by decide) rfl) hS dX2_sequencePurge_84 (cw_b01 (by subst hr23; subst hw12; subst hr8; (repeat' split) <;> first | exact Or.inl rfl | exact Or.inr rfl | assumption | exact z2_begin _ _ _ | exact z6_isOn _ _)) ⟨(), (by rw [hsp]), (by rw [hsp])⟩ (Nat.le_of_ble_eq_true rfl) (Nat.le_of_ble_eq_true rfl)
      refine lv_if_eq (tgt := 58) hx hb dX2_sequencePurge_34 (by decide) (fun z9 => ?_) (fun z9 => ?_)
      · refine lv_iconst (v := 0) hx hb dX2_sequencePurge_58 (by decide) ?_
        exact J11 0 (by simp only [if_pos z9])
      · refine lv_aload_n hx hb dX2_sequencePurge_37 rfl (lv_at hl 0 rfl) ?_
        refine va_get (D := D) (ci := 2) (v := .int (f 6)) (C := RX2) (T := TX2) (N := 11) hx hb hts i2 hown hK hP 0 rfl rfl 6 (by decide) lf39 (fun _ h9 => h9) rfl dX2_sequencePurge_38 ?_
        refine lv_bipush (v := 70) hx hb dX2_sequencePurge_41 (by decide) ?_
        refine lv_icmp_lt (tgt := 58) hx hb dX2_sequencePurge_43 (by decide) (fun z10 => ?_) (fun z10 => ?_)
        · refine lv_iconst (v := 0) hx hb dX2_sequencePurge_58 (by decide) ?_
          exact J11 0 (by simp only [if_neg z9, if_pos z10])
        · refine lv_aload_n hx hb dX2_sequencePurge_46 rfl (lv_at hl 0 rfl) ?_
          refine va_get (D := D) (ci := 2) (v := .int (f 8)) (C := RX2) (T := TX2) (N := 11) hx hb hts i2 hown hK hP 0 rfl rfl 8 (by decide) lf45 (fun _ h9 => h9) rfl dX2_sequencePurge_47 ?_
          refine lv_aload_n hx hb dX2_sequencePurge_50 rfl (lv_at hl 0 rfl) ?_
          refine va_get (D := D) (ci := 2) (v := .int (f 6)) (C := RX2) (T := TX2) (N := 11) hx hb hts i2 hown hK hP 0 rfl rfl 6 (by decide) lf39 (fun _ h9 => h9) rfl dX2_sequencePurge_51 ?_
          refine lv_iadd hx hb dX2_sequencePurge_54 ?_
          refine lv_goto (tgt := 59) hx hb dX2_sequencePurge_55 (by decide) ?_
          exact J11 ((f 8) + (f 6)) (by simp only [if_neg z9, if_neg z10])
    · refine lv_aload_n hx hb dX2_sequencePurge_22 rfl (lv_at hl 0 rfl) ?_
      refine lv_iconst (v := 3) hx hb dX2_sequencePurge_23 (by decide) ?_
      refine cw_cVi (As := [.int 3]) (rest := []) (wc := [(xf, c2 (.ref xs) (.ref xp) (.ref xq) f)]) (wr := [(xp, c1 ep), (xq, c1 eq), (xs, c5 st)]) ⟨hx, hb, hml, hown, hts⟩ (k2_lockOut l D cI cJ xf (.ref xs) (.ref xp) (.ref xq) f 3) (cwV 1 hts gX2_sequencePurge_X2_lockOut rfl rfl rfl (by decide +kernel) ⟨Nat.le_of_ble_eq_true rfl, Nat.le_of_ble_eq_true rfl⟩) hK hN hP hD hS hA [0] [1, 2, 3] rfl rfl (by decide) (by decide) (by decide) 0 (ci := 2) rfl rfl rfl rfl hl.1 rfl (Nat.le_of_ble_eq_true rfl) dX2_sequencePurge_24 ⟨Nat.le_of_ble_eq_true rfl, Nat.le_of_ble_eq_true rfl⟩ (fun r26 u25 H locs hw hP hD hS => ?_)
      have hr26 : r26 = ((s2_lockOut f 3).1) := hw
      obtain ⟨v27, hv27⟩ : ∃ z : Nat → Int32, z = ((s2_lockOut f 3).2) := ⟨_, rfl⟩
      have hP : va_P D vwCl [(xp, c1 ep), (xq, c1 eq), (xs, c5 st), (xf, c2 (.ref xs) (.ref xp) (.ref xq) v27)] H := by rw [hv27]; exact hP
      have hD : va_D A [(xp, c1 ep), (xq, c1 eq), (xs, c5 st), (xf, c2 (.ref xs) (.ref xp) (.ref xq) v27)] := by rw [hv27]; exact hD
      have hsp : (s2_sequencePurge f ep eq st a1) = (r26, v27) := by subst hr26; subst hv27; subst hr5; subst hr2; simp only [s2_sequencePurge, if_neg z3, if_neg z6]
      exact hret _ _ _ _ _ _ _ _ (hP.sub (ws' := [(xf, c2 (.ref xs) (.ref xp) (.ref xq) v27), (xp, c1 ep), (xq, c1 eq), (xs, c5 st)]) [3, 0, 1, 2] rfl) (hD.sub (ws' := [(xf, c2 (.ref xs) (.ref xp) (.ref xq) v27), (xp, c1 ep), (xq, c1 eq), (xs, c5 st)]) [3, 0, 1, 2] (by decide) rfl) hS dX2_sequencePurge_27 (cw_b01 (by subst hr26; (repeat' split) <;> first | exact Or.inl rfl | exact Or.inr rfl | assumption | exact z2_lockOut _ _)) ⟨(), (by rw [hsp]), (by rw [hsp])⟩ (Nat.le_of_ble_eq_true rfl) (Nat.le_of_ble_eq_true rfl)
  · refine lv_aload_n hx hb dX2_sequencePurge_8 rfl (lv_at hl 0 rfl) ?_
    refine lv_iconst (v := 0) hx hb dX2_sequencePurge_9 (by decide) ?_
    refine lv_iconst (v := 0) hx hb dX2_sequencePurge_10 (by decide) ?_
    refine cw_cVi (As := [.int 0, .int 0]) (rest := []) (wc := [(xf, c2 (.ref xs) (.ref xp) (.ref xq) f)]) (wr := [(xp, c1 ep), (xq, c1 eq), (xs, c5 st)]) ⟨hx, hb, hml, hown, hts⟩ (k2_begin l D cI cJ xf (.ref xs) (.ref xp) (.ref xq) f 0 0) (cwV 2 hts gX2_sequencePurge_X2_begin rfl rfl rfl (by decide +kernel) ⟨Nat.le_of_ble_eq_true rfl, Nat.le_of_ble_eq_true rfl⟩) hK hN hP hD hS hA [0] [1, 2, 3] rfl rfl (by decide) (by decide) (by decide) 0 (ci := 2) rfl rfl rfl rfl hl.1 rfl (Nat.le_of_ble_eq_true rfl) dX2_sequencePurge_11 ⟨Nat.le_of_ble_eq_true rfl, Nat.le_of_ble_eq_true rfl⟩ (fun r29 u28 H locs hw hP hD hS => ?_)
    have hr29 : r29 = ((s2_begin f 0 0).1) := hw
    obtain ⟨v30, hv30⟩ : ∃ z : Nat → Int32, z = ((s2_begin f 0 0).2) := ⟨_, rfl⟩
    have hP : va_P D vwCl [(xp, c1 ep), (xq, c1 eq), (xs, c5 st), (xf, c2 (.ref xs) (.ref xp) (.ref xq) v30)] H := by rw [hv30]; exact hP
    have hD : va_D A [(xp, c1 ep), (xq, c1 eq), (xs, c5 st), (xf, c2 (.ref xs) (.ref xp) (.ref xq) v30)] := by rw [hv30]; exact hD
    have hsp : (s2_sequencePurge f ep eq st a1) = (r29, v30) := by subst hr29; subst hv30; subst hr2; simp only [s2_sequencePurge, if_pos z3]
    exact hret _ _ _ _ _ _ _ _ (hP.sub (ws' := [(xf, c2 (.ref xs) (.ref xp) (.ref xq) v30), (xp, c1 ep), (xq, c1 eq), (xs, c5 st)]) [3, 0, 1, 2] rfl) (hD.sub (ws' := [(xf, c2 (.ref xs) (.ref xp) (.ref xq) v30), (xp, c1 ep), (xq, c1 eq), (xs, c5 st)]) [3, 0, 1, 2] (by decide) rfl) hS dX2_sequencePurge_14 (cw_b01 (by subst hr29; (repeat' split) <;> first | exact Or.inl rfl | exact Or.inr rfl | assumption | exact z2_begin _ _ _)) ⟨(), (by rw [hsp]), (by rw [hsp])⟩ (Nat.le_of_ble_eq_true rfl) (Nat.le_of_ble_eq_true rfl)

set_option maxHeartbeats 4000000 in
set_option maxRecDepth 100000 in
theorem k2_sequenceLighting (l : Launch) (D : va_G) (cI cJ : ClassId) (xf xp xq xs : Nat) (f : Nat → Int32) (ep : Nat → Int32) (eq : Nat → Int32) (st : Nat → Int32) (a1 : Int32) : cw_Mi l yX2_sequenceLighting wsX2_sequenceLighting (cw_rm 4) D [(cI, .int), (cJ, .long)] [.ref xf, .int a1] [(xf, c2 (.ref xs) (.ref xp) (.ref xq) f), (xp, c1 ep), (xq, c1 eq), (xs, c5 st)] 0 0 (fun r (_ : Unit) => r = (s2_sequenceLighting f ep eq st a1).1) (fun _ : Unit => [(xf, c2 (.ref xs) (.ref xp) (.ref xq) (s2_sequenceLighting f ep eq st a1).2), (xp, c1 ep), (xq, c1 eq), (xs, c5 st)]) := by
  refine cw_ofi (cc := cX2_sequenceLighting) (maxL := 2) (ret := (some .boolean)) (by decide) rfl (Nat.le_of_ble_eq_true rfl) rfl ?_
  intro p e s m args below meth c A ls Q hin0 hret
  obtain ⟨hx, hb, hr, hml, hts, hown, hlocks, hin, hP, hK, hD, hN, hA, hl⟩ := hin0
  have hS : va_S A s.heap s.heap [] := va_S.rf
  have hl : lv_has ls 2 [(0, .ref xf), (1, .int a1)] := hl
  have ln65 : va_Nw (.methodLinkNest RX2 65 yX6_isOn "Burnerline") s := hN _ (by decide +kernel)
  have ls65 := hts (.static yX6_isOn) (by decide +kernel)
  have liRX6 := hts (.initialized RX6) (by decide +kernel)
  have lf29 := hts (.fieldLink RX2 29 "Burnerline$Furnace" "state" "I") (by decide +kernel)
  have i2 : ∀ w ∈ wsX20, w ∈ wsX2_sequenceLighting := by decide +kernel
  refine lv_iload_n hx hb dX2_sequenceLighting_0 rfl (lv_at hl 1 rfl) ?_
  refine lv_iconst (v := 2) hx hb dX2_sequenceLighting_1 (by decide) ?_
  refine cw_cSNi (As := [.int a1, .int 2]) (rest := []) (wc := []) (wr := [(xf, c2 (.ref xs) (.ref xp) (.ref xq) f), (xp, c1 ep), (xq, c1 eq), (xs, c5 st)]) ⟨hx, hb, hml, hown, hts⟩ (k6_isOn l D cI cJ a1 2) (va_cnB 2 hts gX2_sequenceLighting_X6_isOn_n65 rfl rfl rfl ln65 liRX6 (by decide +kernel) ⟨Nat.le_of_ble_eq_true rfl, Nat.le_of_ble_eq_true rfl⟩) ls65 hK hN hP hD hS hA [] [0, 1, 2, 3] rfl rfl (by decide) (by decide) (by decide) rfl hl.1 rfl (Nat.le_of_ble_eq_true rfl) dX2_sequenceLighting_2 ⟨Nat.le_of_ble_eq_true rfl, Nat.le_of_ble_eq_true rfl⟩ (fun r2 u1 H locs hw hP hD hS => ?_)
  have hr2 : r2 = (s6_isOn a1 2) := hw
  have hP : va_P D vwCl [(xf, c2 (.ref xs) (.ref xp) (.ref xq) f), (xp, c1 ep), (xq, c1 eq), (xs, c5 st)] H := hP
  have hD : va_D A [(xf, c2 (.ref xs) (.ref xp) (.ref xq) f), (xp, c1 ep), (xq, c1 eq), (xs, c5 st)] := hD
  refine lv_if_ne (tgt := 14) hx hb dX2_sequenceLighting_5 (by decide) (fun z3 => ?_) (fun z3 => ?_)
  · refine lv_iload_n hx hb dX2_sequenceLighting_14 rfl (lv_at hl 1 rfl) ?_
    refine lv_iconst (v := 4) hx hb dX2_sequenceLighting_15 (by decide) ?_
    refine cw_cSNi (As := [.int a1, .int 4]) (rest := []) (wc := []) (wr := [(xf, c2 (.ref xs) (.ref xp) (.ref xq) f), (xp, c1 ep), (xq, c1 eq), (xs, c5 st)]) ⟨hx, hb, hml, hown, hts⟩ (k6_isOn l D cI cJ a1 4) (va_cnB 2 hts gX2_sequenceLighting_X6_isOn_n65 rfl rfl rfl ln65 liRX6 (by decide +kernel) ⟨Nat.le_of_ble_eq_true rfl, Nat.le_of_ble_eq_true rfl⟩) ls65 hK hN hP hD hS hA [] [0, 1, 2, 3] rfl rfl (by decide) (by decide) (by decide) rfl hl.1 rfl (Nat.le_of_ble_eq_true rfl) dX2_sequenceLighting_16 ⟨Nat.le_of_ble_eq_true rfl, Nat.le_of_ble_eq_true rfl⟩ (fun r5 u4 H locs hw hP hD hS => ?_)
    have hr5 : r5 = (s6_isOn a1 4) := hw
    have hP : va_P D vwCl [(xf, c2 (.ref xs) (.ref xp) (.ref xq) f), (xp, c1 ep), (xq, c1 eq), (xs, c5 st)] H := hP
    have hD : va_D A [(xf, c2 (.ref xs) (.ref xp) (.ref xq) f), (xp, c1 ep), (xq, c1 eq), (xs, c5 st)] := hD
    refine lv_if_ne (tgt := 28) hx hb dX2_sequenceLighting_19 (by decide) (fun z6 => ?_) (fun z6 => ?_)
    · refine lv_iload_n hx hb dX2_sequenceLighting_28 rfl (lv_at hl 1 rfl) ?_
      refine lv_iconst (v := 1) hx hb dX2_sequenceLighting_29 (by decide) ?_
      refine cw_cSNi (As := [.int a1, .int 1]) (rest := []) (wc := []) (wr := [(xf, c2 (.ref xs) (.ref xp) (.ref xq) f), (xp, c1 ep), (xq, c1 eq), (xs, c5 st)]) ⟨hx, hb, hml, hown, hts⟩ (k6_isOn l D cI cJ a1 1) (va_cnB 2 hts gX2_sequenceLighting_X6_isOn_n65 rfl rfl rfl ln65 liRX6 (by decide +kernel) ⟨Nat.le_of_ble_eq_true rfl, Nat.le_of_ble_eq_true rfl⟩) ls65 hK hN hP hD hS hA [] [0, 1, 2, 3] rfl rfl (by decide) (by decide) (by decide) rfl hl.1 rfl (Nat.le_of_ble_eq_true rfl) dX2_sequenceLighting_30 ⟨Nat.le_of_ble_eq_true rfl, Nat.le_of_ble_eq_true rfl⟩ (fun r8 u7 H locs hw hP hD hS => ?_)
      have hr8 : r8 = (s6_isOn a1 1) := hw
      have hP : va_P D vwCl [(xf, c2 (.ref xs) (.ref xp) (.ref xq) f), (xp, c1 ep), (xq, c1 eq), (xs, c5 st)] H := hP
      have hD : va_D A [(xf, c2 (.ref xs) (.ref xp) (.ref xq) f), (xp, c1 ep), (xq, c1 eq), (xs, c5 st)] := hD
      refine lv_if_ne (tgt := 43) hx hb dX2_sequenceLighting_33 (by decide) (fun z9 => ?_) (fun z9 => ?_)
      · refine lv_aload_n hx hb dX2_sequenceLighting_43 rfl (lv_at hl 0 rfl) ?_
        refine va_get (D := D) (ci := 2) (v := .int (f 3)) (C := RX2) (T := TX2) (N := 11) hx hb hts i2 hown hK hP 0 rfl rfl 3 (by decide) lf29 (fun _ h9 => h9) rfl dX2_sequenceLighting_44 ?_
        refine lv_iconst (v := 2) hx hb dX2_sequenceLighting_47 (by decide) ?_
        have J17 : ∀ (w18 : Int32), w18 = (if (f 3) = 2 then ((s2_lightPilot f ep eq st).1) else ((s2_lightMain f ep eq st).1)) → ∀ (w19 : Nat → Int32), w19 = (if (f 3) = 2 then ((s2_lightPilot f ep eq st).2) else ((s2_lightMain f ep eq st).2)) → ∀ (H : Heap) (locs : List Loc), va_P D vwCl [(xf, c2 (.ref xs) (.ref xp) (.ref xq) w19), (xp, c1 ep), (xq, c1 eq), (xs, c5 st)] H → va_D A [(xf, c2 (.ref xs) (.ref xp) (.ref xq) w19), (xp, c1 ep), (xq, c1 eq), (xs, c5 st)] → va_S A s.heap H locs → W p l e (cw_rm 4) s m args below meth c H locs 0 0 (Q) (F0 m 62 ls [.int w18]) := by
          intro w18 hw18 w19 hw19 H locs hP hD hS
          have hsp : (s2_sequenceLighting f ep eq st a1) = (w18, w19) := by subst hw19; subst hw18; subst hr8; subst hr5; subst hr2; simp only [s2_sequenceLighting, if_neg z3, if_neg z6, if_neg z9]
          exact hret _ _ _ _ _ _ _ _ hP hD hS dX2_sequenceLighting_62 (cw_b01 (by subst hw18; (repeat' split) <;> first | exact Or.inl rfl | exact Or.inr rfl | assumption | exact z2_lightMain _ _ _ _ | exact z2_lightPilot _ _ _ _)) ⟨(), (by rw [hsp]), (by rw [hsp])⟩ (Nat.le_of_ble_eq_true rfl) (Nat.le_of_ble_eq_true rfl)
        refine lv_icmp_ne (tgt := 58) hx hb dX2_sequenceLighting_48 (by decide) (fun z10 => ?_) (fun z10 => ?_)
        · refine lv_aload_n hx hb dX2_sequenceLighting_58 rfl (lv_at hl 0 rfl) ?_
          refine cw_cVi (As := []) (rest := []) (wc := [(xf, c2 (.ref xs) (.ref xp) (.ref xq) f), (xp, c1 ep), (xq, c1 eq), (xs, c5 st)]) (wr := []) ⟨hx, hb, hml, hown, hts⟩ (k2_lightMain l D cI cJ xf xp xq xs f ep eq st) (cwV 0 hts gX2_sequenceLighting_X2_lightMain rfl rfl rfl (by decide +kernel) ⟨Nat.le_of_ble_eq_true rfl, Nat.le_of_ble_eq_true rfl⟩) hK hN hP hD hS hA [0, 1, 2, 3] [] rfl rfl (by decide) (by decide) (by decide) 0 (ci := 2) rfl rfl rfl rfl hl.1 rfl (Nat.le_of_ble_eq_true rfl) dX2_sequenceLighting_59 ⟨Nat.le_of_ble_eq_true rfl, Nat.le_of_ble_eq_true rfl⟩ (fun r12 u11 H locs hw hP hD hS => ?_)
          have hr12 : r12 = ((s2_lightMain f ep eq st).1) := hw
          obtain ⟨v13, hv13⟩ : ∃ z : Nat → Int32, z = ((s2_lightMain f ep eq st).2) := ⟨_, rfl⟩
          have hP : va_P D vwCl [(xf, c2 (.ref xs) (.ref xp) (.ref xq) v13), (xp, c1 ep), (xq, c1 eq), (xs, c5 st)] H := by rw [hv13]; exact hP
          have hD : va_D A [(xf, c2 (.ref xs) (.ref xp) (.ref xq) v13), (xp, c1 ep), (xq, c1 eq), (xs, c5 st)] := by rw [hv13]; exact hD
          exact J17 r12 (by subst hr12; subst hv13; simp only [if_neg z10]) v13 (by subst hr12; subst hv13; simp only [if_neg z10]) _ _ hP hD hS
        · refine lv_aload_n hx hb dX2_sequenceLighting_51 rfl (lv_at hl 0 rfl) ?_
          refine cw_cVi (As := []) (rest := []) (wc := [(xf, c2 (.ref xs) (.ref xp) (.ref xq) f), (xp, c1 ep), (xq, c1 eq), (xs, c5 st)]) (wr := []) ⟨hx, hb, hml, hown, hts⟩ (k2_lightPilot l D cI cJ xf xp xq xs f ep eq st) (cwV 0 hts gX2_sequenceLighting_X2_lightPilot rfl rfl rfl (by decide +kernel) ⟨Nat.le_of_ble_eq_true rfl, Nat.le_of_ble_eq_true rfl⟩) hK hN hP hD hS hA [0, 1, 2, 3] [] rfl rfl (by decide) (by decide) (by decide) 0 (ci := 2) rfl rfl rfl rfl hl.1 rfl (Nat.le_of_ble_eq_true rfl) dX2_sequenceLighting_52 ⟨Nat.le_of_ble_eq_true rfl, Nat.le_of_ble_eq_true rfl⟩ (fun r15 u14 H locs hw hP hD hS => ?_)
          have hr15 : r15 = ((s2_lightPilot f ep eq st).1) := hw
          obtain ⟨v16, hv16⟩ : ∃ z : Nat → Int32, z = ((s2_lightPilot f ep eq st).2) := ⟨_, rfl⟩
          have hP : va_P D vwCl [(xf, c2 (.ref xs) (.ref xp) (.ref xq) v16), (xp, c1 ep), (xq, c1 eq), (xs, c5 st)] H := by rw [hv16]; exact hP
          have hD : va_D A [(xf, c2 (.ref xs) (.ref xp) (.ref xq) v16), (xp, c1 ep), (xq, c1 eq), (xs, c5 st)] := by rw [hv16]; exact hD
          refine lv_goto (tgt := 62) hx hb dX2_sequenceLighting_55 (by decide) ?_
          exact J17 r15 (by subst hr15; subst hv16; simp only [if_pos z10]) v16 (by subst hr15; subst hv16; simp only [if_pos z10]) _ _ hP hD hS
      · refine lv_aload_n hx hb dX2_sequenceLighting_36 rfl (lv_at hl 0 rfl) ?_
        refine lv_iconst (v := 5) hx hb dX2_sequenceLighting_37 (by decide) ?_
        refine lv_iconst (v := 0) hx hb dX2_sequenceLighting_38 (by decide) ?_
        refine cw_cVi (As := [.int 5, .int 0]) (rest := []) (wc := [(xf, c2 (.ref xs) (.ref xp) (.ref xq) f)]) (wr := [(xp, c1 ep), (xq, c1 eq), (xs, c5 st)]) ⟨hx, hb, hml, hown, hts⟩ (k2_begin l D cI cJ xf (.ref xs) (.ref xp) (.ref xq) f 5 0) (cwV 2 hts gX2_sequenceLighting_X2_begin rfl rfl rfl (by decide +kernel) ⟨Nat.le_of_ble_eq_true rfl, Nat.le_of_ble_eq_true rfl⟩) hK hN hP hD hS hA [0] [1, 2, 3] rfl rfl (by decide) (by decide) (by decide) 0 (ci := 2) rfl rfl rfl rfl hl.1 rfl (Nat.le_of_ble_eq_true rfl) dX2_sequenceLighting_39 ⟨Nat.le_of_ble_eq_true rfl, Nat.le_of_ble_eq_true rfl⟩ (fun r21 u20 H locs hw hP hD hS => ?_)
        have hr21 : r21 = ((s2_begin f 5 0).1) := hw
        obtain ⟨v22, hv22⟩ : ∃ z : Nat → Int32, z = ((s2_begin f 5 0).2) := ⟨_, rfl⟩
        have hP : va_P D vwCl [(xp, c1 ep), (xq, c1 eq), (xs, c5 st), (xf, c2 (.ref xs) (.ref xp) (.ref xq) v22)] H := by rw [hv22]; exact hP
        have hD : va_D A [(xp, c1 ep), (xq, c1 eq), (xs, c5 st), (xf, c2 (.ref xs) (.ref xp) (.ref xq) v22)] := by rw [hv22]; exact hD
        have hsp : (s2_sequenceLighting f ep eq st a1) = (r21, v22) := by subst hr21; subst hv22; subst hr8; subst hr5; subst hr2; simp only [s2_sequenceLighting, if_neg z3, if_neg z6, if_pos z9]
        exact hret _ _ _ _ _ _ _ _ (hP.sub (ws' := [(xf, c2 (.ref xs) (.ref xp) (.ref xq) v22), (xp, c1 ep), (xq, c1 eq), (xs, c5 st)]) [3, 0, 1, 2] rfl) (hD.sub (ws' := [(xf, c2 (.ref xs) (.ref xp) (.ref xq) v22), (xp, c1 ep), (xq, c1 eq), (xs, c5 st)]) [3, 0, 1, 2] (by decide) rfl) hS dX2_sequenceLighting_42 (cw_b01 (by subst hr21; (repeat' split) <;> first | exact Or.inl rfl | exact Or.inr rfl | assumption | exact z2_begin _ _ _)) ⟨(), (by rw [hsp]), (by rw [hsp])⟩ (Nat.le_of_ble_eq_true rfl) (Nat.le_of_ble_eq_true rfl)
    · refine lv_aload_n hx hb dX2_sequenceLighting_22 rfl (lv_at hl 0 rfl) ?_
      refine lv_iconst (v := 2) hx hb dX2_sequenceLighting_23 (by decide) ?_
      refine cw_cVi (As := [.int 2]) (rest := []) (wc := [(xf, c2 (.ref xs) (.ref xp) (.ref xq) f)]) (wr := [(xp, c1 ep), (xq, c1 eq), (xs, c5 st)]) ⟨hx, hb, hml, hown, hts⟩ (k2_lockOut l D cI cJ xf (.ref xs) (.ref xp) (.ref xq) f 2) (cwV 1 hts gX2_sequenceLighting_X2_lockOut rfl rfl rfl (by decide +kernel) ⟨Nat.le_of_ble_eq_true rfl, Nat.le_of_ble_eq_true rfl⟩) hK hN hP hD hS hA [0] [1, 2, 3] rfl rfl (by decide) (by decide) (by decide) 0 (ci := 2) rfl rfl rfl rfl hl.1 rfl (Nat.le_of_ble_eq_true rfl) dX2_sequenceLighting_24 ⟨Nat.le_of_ble_eq_true rfl, Nat.le_of_ble_eq_true rfl⟩ (fun r24 u23 H locs hw hP hD hS => ?_)
      have hr24 : r24 = ((s2_lockOut f 2).1) := hw
      obtain ⟨v25, hv25⟩ : ∃ z : Nat → Int32, z = ((s2_lockOut f 2).2) := ⟨_, rfl⟩
      have hP : va_P D vwCl [(xp, c1 ep), (xq, c1 eq), (xs, c5 st), (xf, c2 (.ref xs) (.ref xp) (.ref xq) v25)] H := by rw [hv25]; exact hP
      have hD : va_D A [(xp, c1 ep), (xq, c1 eq), (xs, c5 st), (xf, c2 (.ref xs) (.ref xp) (.ref xq) v25)] := by rw [hv25]; exact hD
      have hsp : (s2_sequenceLighting f ep eq st a1) = (r24, v25) := by subst hr24; subst hv25; subst hr5; subst hr2; simp only [s2_sequenceLighting, if_neg z3, if_pos z6]
      exact hret _ _ _ _ _ _ _ _ (hP.sub (ws' := [(xf, c2 (.ref xs) (.ref xp) (.ref xq) v25), (xp, c1 ep), (xq, c1 eq), (xs, c5 st)]) [3, 0, 1, 2] rfl) (hD.sub (ws' := [(xf, c2 (.ref xs) (.ref xp) (.ref xq) v25), (xp, c1 ep), (xq, c1 eq), (xs, c5 st)]) [3, 0, 1, 2] (by decide) rfl) hS dX2_sequenceLighting_27 (cw_b01 (by subst hr24; (repeat' split) <;> first | exact Or.inl rfl | exact Or.inr rfl | assumption | exact z2_lockOut _ _)) ⟨(), (by rw [hsp]), (by rw [hsp])⟩ (Nat.le_of_ble_eq_true rfl) (Nat.le_of_ble_eq_true rfl)
  · refine lv_aload_n hx hb dX2_sequenceLighting_8 rfl (lv_at hl 0 rfl) ?_
    refine lv_iconst (v := 1) hx hb dX2_sequenceLighting_9 (by decide) ?_
    refine cw_cVi (As := [.int 1]) (rest := []) (wc := [(xf, c2 (.ref xs) (.ref xp) (.ref xq) f)]) (wr := [(xp, c1 ep), (xq, c1 eq), (xs, c5 st)]) ⟨hx, hb, hml, hown, hts⟩ (k2_lockOut l D cI cJ xf (.ref xs) (.ref xp) (.ref xq) f 1) (cwV 1 hts gX2_sequenceLighting_X2_lockOut rfl rfl rfl (by decide +kernel) ⟨Nat.le_of_ble_eq_true rfl, Nat.le_of_ble_eq_true rfl⟩) hK hN hP hD hS hA [0] [1, 2, 3] rfl rfl (by decide) (by decide) (by decide) 0 (ci := 2) rfl rfl rfl rfl hl.1 rfl (Nat.le_of_ble_eq_true rfl) dX2_sequenceLighting_10 ⟨Nat.le_of_ble_eq_true rfl, Nat.le_of_ble_eq_true rfl⟩ (fun r27 u26 H locs hw hP hD hS => ?_)
    have hr27 : r27 = ((s2_lockOut f 1).1) := hw
    obtain ⟨v28, hv28⟩ : ∃ z : Nat → Int32, z = ((s2_lockOut f 1).2) := ⟨_, rfl⟩
    have hP : va_P D vwCl [(xp, c1 ep), (xq, c1 eq), (xs, c5 st), (xf, c2 (.ref xs) (.ref xp) (.ref xq) v28)] H := by rw [hv28]; exact hP
    have hD : va_D A [(xp, c1 ep), (xq, c1 eq), (xs, c5 st), (xf, c2 (.ref xs) (.ref xp) (.ref xq) v28)] := by rw [hv28]; exact hD
    have hsp : (s2_sequenceLighting f ep eq st a1) = (r27, v28) := by subst hr27; subst hv28; subst hr2; simp only [s2_sequenceLighting, if_pos z3]
    exact hret _ _ _ _ _ _ _ _ (hP.sub (ws' := [(xf, c2 (.ref xs) (.ref xp) (.ref xq) v28), (xp, c1 ep), (xq, c1 eq), (xs, c5 st)]) [3, 0, 1, 2] rfl) (hD.sub (ws' := [(xf, c2 (.ref xs) (.ref xp) (.ref xq) v28), (xp, c1 ep), (xq, c1 eq), (xs, c5 st)]) [3, 0, 1, 2] (by decide) rfl) hS dX2_sequenceLighting_13 (cw_b01 (by subst hr27; (repeat' split) <;> first | exact Or.inl rfl | exact Or.inr rfl | assumption | exact z2_lockOut _ _)) ⟨(), (by rw [hsp]), (by rw [hsp])⟩ (Nat.le_of_ble_eq_true rfl) (Nat.le_of_ble_eq_true rfl)

set_option maxHeartbeats 4000000 in
set_option maxRecDepth 100000 in
theorem k2_sequenceRun (l : Launch) (D : va_G) (cI cJ : ClassId) (xf xp xq xs : Nat) (f : Nat → Int32) (ep : Nat → Int32) (eq : Nat → Int32) (st : Nat → Int32) (a1 : Int32) : cw_Mi l yX2_sequenceRun wsX2_sequenceRun (cw_rm 3) D [(cI, .int), (cJ, .long)] [.ref xf, .int a1] [(xf, c2 (.ref xs) (.ref xp) (.ref xq) f), (xp, c1 ep), (xq, c1 eq), (xs, c5 st)] 0 0 (fun r (_ : Unit) => r = (s2_sequenceRun f ep eq st a1).1) (fun _ : Unit => [(xf, c2 (.ref xs) (.ref xp) (.ref xq) (s2_sequenceRun f ep eq st a1).2), (xp, c1 ep), (xq, c1 eq), (xs, c5 st)]) := by
  refine cw_ofi (cc := cX2_sequenceRun) (maxL := 2) (ret := (some .boolean)) (by decide) rfl (Nat.le_of_ble_eq_true rfl) rfl ?_
  intro p e s m args below meth c A ls Q hin0 hret
  obtain ⟨hx, hb, hr, hml, hts, hown, hlocks, hin, hP, hK, hD, hN, hA, hl⟩ := hin0
  have hS : va_S A s.heap s.heap [] := va_S.rf
  have hl : lv_has ls 2 [(0, .ref xf), (1, .int a1)] := hl
  have ln65 : va_Nw (.methodLinkNest RX2 65 yX6_isOn "Burnerline") s := hN _ (by decide +kernel)
  have ls65 := hts (.static yX6_isOn) (by decide +kernel)
  have liRX6 := hts (.initialized RX6) (by decide +kernel)
  have lf18 := hts (.fieldLink RX2 18 "Burnerline$Furnace" "mainEye" "LBurnerline$Eye;") (by decide +kernel)
  have i2 : ∀ w ∈ wsX20, w ∈ wsX2_sequenceRun := by decide +kernel
  have lf54 := hN.use (args := args) (w := .fieldLinkNest "Burnerline$Furnace" 54 "Burnerline$Eye" "seesFlame" "Z" "Burnerline") (by decide +kernel)
  have i1 : ∀ w ∈ wsX10, w ∈ wsX2_sequenceRun := by decide +kernel
  refine lv_iload_n hx hb dX2_sequenceRun_0 rfl (lv_at hl 1 rfl) ?_
  refine lv_iconst (v := 2) hx hb dX2_sequenceRun_1 (by decide) ?_
  refine cw_cSNi (As := [.int a1, .int 2]) (rest := []) (wc := []) (wr := [(xf, c2 (.ref xs) (.ref xp) (.ref xq) f), (xp, c1 ep), (xq, c1 eq), (xs, c5 st)]) ⟨hx, hb, hml, hown, hts⟩ (k6_isOn l D cI cJ a1 2) (va_cnB 2 hts gX2_sequenceRun_X6_isOn_n65 rfl rfl rfl ln65 liRX6 (by decide +kernel) ⟨Nat.le_of_ble_eq_true rfl, Nat.le_of_ble_eq_true rfl⟩) ls65 hK hN hP hD hS hA [] [0, 1, 2, 3] rfl rfl (by decide) (by decide) (by decide) rfl hl.1 rfl (Nat.le_of_ble_eq_true rfl) dX2_sequenceRun_2 ⟨Nat.le_of_ble_eq_true rfl, Nat.le_of_ble_eq_true rfl⟩ (fun r2 u1 H locs hw hP hD hS => ?_)
  have hr2 : r2 = (s6_isOn a1 2) := hw
  have hP : va_P D vwCl [(xf, c2 (.ref xs) (.ref xp) (.ref xq) f), (xp, c1 ep), (xq, c1 eq), (xs, c5 st)] H := hP
  have hD : va_D A [(xf, c2 (.ref xs) (.ref xp) (.ref xq) f), (xp, c1 ep), (xq, c1 eq), (xs, c5 st)] := hD
  refine lv_if_ne (tgt := 14) hx hb dX2_sequenceRun_5 (by decide) (fun z3 => ?_) (fun z3 => ?_)
  · refine lv_iload_n hx hb dX2_sequenceRun_14 rfl (lv_at hl 1 rfl) ?_
    refine lv_iconst (v := 4) hx hb dX2_sequenceRun_15 (by decide) ?_
    refine cw_cSNi (As := [.int a1, .int 4]) (rest := []) (wc := []) (wr := [(xf, c2 (.ref xs) (.ref xp) (.ref xq) f), (xp, c1 ep), (xq, c1 eq), (xs, c5 st)]) ⟨hx, hb, hml, hown, hts⟩ (k6_isOn l D cI cJ a1 4) (va_cnB 2 hts gX2_sequenceRun_X6_isOn_n65 rfl rfl rfl ln65 liRX6 (by decide +kernel) ⟨Nat.le_of_ble_eq_true rfl, Nat.le_of_ble_eq_true rfl⟩) ls65 hK hN hP hD hS hA [] [0, 1, 2, 3] rfl rfl (by decide) (by decide) (by decide) rfl hl.1 rfl (Nat.le_of_ble_eq_true rfl) dX2_sequenceRun_16 ⟨Nat.le_of_ble_eq_true rfl, Nat.le_of_ble_eq_true rfl⟩ (fun r5 u4 H locs hw hP hD hS => ?_)
    have hr5 : r5 = (s6_isOn a1 4) := hw
    have hP : va_P D vwCl [(xf, c2 (.ref xs) (.ref xp) (.ref xq) f), (xp, c1 ep), (xq, c1 eq), (xs, c5 st)] H := hP
    have hD : va_D A [(xf, c2 (.ref xs) (.ref xp) (.ref xq) f), (xp, c1 ep), (xq, c1 eq), (xs, c5 st)] := hD
    refine lv_if_ne (tgt := 28) hx hb dX2_sequenceRun_19 (by decide) (fun z6 => ?_) (fun z6 => ?_)
    · refine lv_aload_n hx hb dX2_sequenceRun_28 rfl (lv_at hl 0 rfl) ?_
      refine va_get (D := D) (ci := 2) (v := .ref xq) (C := RX2) (T := TX2) (N := 11) hx hb hts i2 hown hK hP 0 rfl rfl 2 (by decide) lf18 (fun _ h9 => h9) rfl dX2_sequenceRun_29 ?_
      refine va_getN (D := D) (ci := 1) (v := .int (eq 0)) (C := RX1) (T := TX1) (N := 2) hx hb hts i1 hown hK hP 2 rfl rfl 0 (by decide) lf54 (fun _ h9 => h9) rfl dX2_sequenceRun_32 ?_
      refine lv_if_ne (tgt := 45) hx hb dX2_sequenceRun_35 (by decide) (fun z7 => ?_) (fun z7 => ?_)
      · refine lv_aload_n hx hb dX2_sequenceRun_45 rfl (lv_at hl 0 rfl) ?_
        refine cw_cVi (As := []) (rest := []) (wc := [(xf, c2 (.ref xs) (.ref xp) (.ref xq) f), (xp, c1 ep), (xq, c1 eq), (xs, c5 st)]) (wr := []) ⟨hx, hb, hml, hown, hts⟩ (k2_isCheckDue l D cI cJ xf xp xq xs f ep eq st) (cwV 0 hts gX2_sequenceRun_X2_isCheckDue rfl rfl rfl (by decide +kernel) ⟨Nat.le_of_ble_eq_true rfl, Nat.le_of_ble_eq_true rfl⟩) hK hN hP hD hS hA [0, 1, 2, 3] [] rfl rfl (by decide) (by decide) (by decide) 0 (ci := 2) rfl rfl rfl rfl hl.1 rfl (Nat.le_of_ble_eq_true rfl) dX2_sequenceRun_46 ⟨Nat.le_of_ble_eq_true rfl, Nat.le_of_ble_eq_true rfl⟩ (fun r9 u8 H locs hw hP hD hS => ?_)
        have hr9 : r9 = (s2_isCheckDue f ep eq st) := hw
        have hP : va_P D vwCl [(xf, c2 (.ref xs) (.ref xp) (.ref xq) f), (xp, c1 ep), (xq, c1 eq), (xs, c5 st)] H := hP
        have hD : va_D A [(xf, c2 (.ref xs) (.ref xp) (.ref xq) f), (xp, c1 ep), (xq, c1 eq), (xs, c5 st)] := hD
        refine lv_if_eq (tgt := 68) hx hb dX2_sequenceRun_49 (by decide) (fun z10 => ?_) (fun z10 => ?_)
        · refine lv_iload_n hx hb dX2_sequenceRun_68 rfl (lv_at hl 1 rfl) ?_
          refine lv_iconst (v := 1) hx hb dX2_sequenceRun_69 (by decide) ?_
          refine cw_cSNi (As := [.int a1, .int 1]) (rest := []) (wc := []) (wr := [(xf, c2 (.ref xs) (.ref xp) (.ref xq) f), (xp, c1 ep), (xq, c1 eq), (xs, c5 st)]) ⟨hx, hb, hml, hown, hts⟩ (k6_isOn l D cI cJ a1 1) (va_cnB 2 hts gX2_sequenceRun_X6_isOn_n65 rfl rfl rfl ln65 liRX6 (by decide +kernel) ⟨Nat.le_of_ble_eq_true rfl, Nat.le_of_ble_eq_true rfl⟩) ls65 hK hN hP hD hS hA [] [0, 1, 2, 3] rfl rfl (by decide) (by decide) (by decide) rfl hl.1 rfl (Nat.le_of_ble_eq_true rfl) dX2_sequenceRun_70 ⟨Nat.le_of_ble_eq_true rfl, Nat.le_of_ble_eq_true rfl⟩ (fun r12 u11 H locs hw hP hD hS => ?_)
          have hr12 : r12 = (s6_isOn a1 1) := hw
          have hP : va_P D vwCl [(xf, c2 (.ref xs) (.ref xp) (.ref xq) f), (xp, c1 ep), (xq, c1 eq), (xs, c5 st)] H := hP
          have hD : va_D A [(xf, c2 (.ref xs) (.ref xp) (.ref xq) f), (xp, c1 ep), (xq, c1 eq), (xs, c5 st)] := hD
          have J18 : ∀ (w19 : Int32), w19 = (if r12 = 0 then (if ((s2_begin f 5 0).1) = 0 then 0 else 1) else 0) → ∀ (w20 : Nat → Int32), w20 = (if r12 = 0 then ((s2_begin f 5 0).2) else f) → ∀ (H : Heap) (locs : List Loc), va_P D vwCl [(xf, c2 (.ref xs) (.ref xp) (.ref xq) w20), (xp, c1 ep), (xq, c1 eq), (xs, c5 st)] H → va_D A [(xf, c2 (.ref xs) (.ref xp) (.ref xq) w20), (xp, c1 ep), (xq, c1 eq), (xs, c5 st)] → va_S A s.heap H locs → W p l e (cw_rm 3) s m args below meth c H locs 0 0 (Q) (F0 m 90 ls [.int w19]) := by
            intro w19 hw19 w20 hw20 H locs hP hD hS
            have hsp : (s2_sequenceRun f ep eq st a1) = (w19, w20) := by subst hw20; subst hw19; subst hr12; subst hr9; subst hr5; subst hr2; simp only [s2_sequenceRun, if_neg z3, if_neg z6, if_neg z7, if_pos z10]
            exact hret _ _ _ _ _ _ _ _ hP hD hS dX2_sequenceRun_90 (cw_b01 (by subst hw19; subst hr12; (repeat' split) <;> first | exact Or.inl rfl | exact Or.inr rfl | assumption | exact z2_begin _ _ _ | exact z6_isOn _ _)) ⟨(), (by rw [hsp]), (by rw [hsp])⟩ (Nat.le_of_ble_eq_true rfl) (Nat.le_of_ble_eq_true rfl)
          refine lv_if_ne (tgt := 89) hx hb dX2_sequenceRun_73 (by decide) (fun z13 => ?_) (fun z13 => ?_)
          · refine lv_iconst (v := 0) hx hb dX2_sequenceRun_89 (by decide) ?_
            exact J18 0 (by simp only [if_neg z13]) f (by simp only [if_neg z13]) _ _ hP hD hS
          · refine lv_aload_n hx hb dX2_sequenceRun_76 rfl (lv_at hl 0 rfl) ?_
            refine lv_iconst (v := 5) hx hb dX2_sequenceRun_77 (by decide) ?_
            refine lv_iconst (v := 0) hx hb dX2_sequenceRun_78 (by decide) ?_
            refine cw_cVi (As := [.int 5, .int 0]) (rest := []) (wc := [(xf, c2 (.ref xs) (.ref xp) (.ref xq) f)]) (wr := [(xp, c1 ep), (xq, c1 eq), (xs, c5 st)]) ⟨hx, hb, hml, hown, hts⟩ (k2_begin l D cI cJ xf (.ref xs) (.ref xp) (.ref xq) f 5 0) (cwV 2 hts gX2_sequenceRun_X2_begin rfl rfl rfl (by decide +kernel) ⟨Nat.le_of_ble_eq_true rfl, Nat.le_of_ble_eq_true rfl⟩) hK hN hP hD hS hA [0] [1, 2, 3] rfl rfl (by decide) (by decide) (by decide) 0 (ci := 2) rfl rfl rfl rfl hl.1 rfl (Nat.le_of_ble_eq_true rfl) dX2_sequenceRun_79 ⟨Nat.le_of_ble_eq_true rfl, Nat.le_of_ble_eq_true rfl⟩ (fun r15 u14 H locs hw hP hD hS => ?_)
            have hr15 : r15 = ((s2_begin f 5 0).1) := hw
            obtain ⟨v16, hv16⟩ : ∃ z : Nat → Int32, z = ((s2_begin f 5 0).2) := ⟨_, rfl⟩
            have hP : va_P D vwCl [(xp, c1 ep), (xq, c1 eq), (xs, c5 st), (xf, c2 (.ref xs) (.ref xp) (.ref xq) v16)] H := by rw [hv16]; exact hP
            have hD : va_D A [(xp, c1 ep), (xq, c1 eq), (xs, c5 st), (xf, c2 (.ref xs) (.ref xp) (.ref xq) v16)] := by rw [hv16]; exact hD
            refine lv_if_eq (tgt := 89) hx hb dX2_sequenceRun_82 (by decide) (fun z17 => ?_) (fun z17 => ?_)
            · refine lv_iconst (v := 0) hx hb dX2_sequenceRun_89 (by decide) ?_
              exact J18 0 (by subst hr15; subst hv16; simp only [if_pos z13, if_pos z17]) v16 (by subst hr15; subst hv16; simp only [if_pos z13, if_pos z17]) _ _ (hP.sub [3, 0, 1, 2] rfl) (hD.sub [3, 0, 1, 2] (by decide) rfl) hS
            · refine lv_iconst (v := 1) hx hb dX2_sequenceRun_85 (by decide) ?_
              refine lv_goto (tgt := 90) hx hb dX2_sequenceRun_86 (by decide) ?_
              exact J18 1 (by subst hr15; subst hv16; simp only [if_pos z13, if_neg z17]) v16 (by subst hr15; subst hv16; simp only [if_pos z13, if_neg z17]) _ _ (hP.sub [3, 0, 1, 2] rfl) (hD.sub [3, 0, 1, 2] (by decide) rfl) hS
        · refine lv_iload_n hx hb dX2_sequenceRun_52 rfl (lv_at hl 1 rfl) ?_
          refine lv_bipush (v := 32) hx hb dX2_sequenceRun_53 (by decide) ?_
          refine cw_cSNi (As := [.int a1, .int 32]) (rest := []) (wc := []) (wr := [(xf, c2 (.ref xs) (.ref xp) (.ref xq) f), (xp, c1 ep), (xq, c1 eq), (xs, c5 st)]) ⟨hx, hb, hml, hown, hts⟩ (k6_isOn l D cI cJ a1 32) (va_cnB 2 hts gX2_sequenceRun_X6_isOn_n65 rfl rfl rfl ln65 liRX6 (by decide +kernel) ⟨Nat.le_of_ble_eq_true rfl, Nat.le_of_ble_eq_true rfl⟩) ls65 hK hN hP hD hS hA [] [0, 1, 2, 3] rfl rfl (by decide) (by decide) (by decide) rfl hl.1 rfl (Nat.le_of_ble_eq_true rfl) dX2_sequenceRun_55 ⟨Nat.le_of_ble_eq_true rfl, Nat.le_of_ble_eq_true rfl⟩ (fun r22 u21 H locs hw hP hD hS => ?_)
          have hr22 : r22 = (s6_isOn a1 32) := hw
          have hP : va_P D vwCl [(xf, c2 (.ref xs) (.ref xp) (.ref xq) f), (xp, c1 ep), (xq, c1 eq), (xs, c5 st)] H := hP
          have hD : va_D A [(xf, c2 (.ref xs) (.ref xp) (.ref xq) f), (xp, c1 ep), (xq, c1 eq), (xs, c5 st)] := hD
          refine lv_if_ne (tgt := 68) hx hb dX2_sequenceRun_58 (by decide) (fun z23 => ?_) (fun z23 => ?_)
          · refine lv_iload_n hx hb dX2_sequenceRun_68 rfl (lv_at hl 1 rfl) ?_
            refine lv_iconst (v := 1) hx hb dX2_sequenceRun_69 (by decide) ?_
            refine cw_cSNi (As := [.int a1, .int 1]) (rest := []) (wc := []) (wr := [(xf, c2 (.ref xs) (.ref xp) (.ref xq) f), (xp, c1 ep), (xq, c1 eq), (xs, c5 st)]) ⟨hx, hb, hml, hown, hts⟩ (k6_isOn l D cI cJ a1 1) (va_cnB 2 hts gX2_sequenceRun_X6_isOn_n65 rfl rfl rfl ln65 liRX6 (by decide +kernel) ⟨Nat.le_of_ble_eq_true rfl, Nat.le_of_ble_eq_true rfl⟩) ls65 hK hN hP hD hS hA [] [0, 1, 2, 3] rfl rfl (by decide) (by decide) (by decide) rfl hl.1 rfl (Nat.le_of_ble_eq_true rfl) dX2_sequenceRun_70 ⟨Nat.le_of_ble_eq_true rfl, Nat.le_of_ble_eq_true rfl⟩ (fun r25 u24 H locs hw hP hD hS => ?_)
            have hr25 : r25 = (s6_isOn a1 1) := hw
            have hP : va_P D vwCl [(xf, c2 (.ref xs) (.ref xp) (.ref xq) f), (xp, c1 ep), (xq, c1 eq), (xs, c5 st)] H := hP
            have hD : va_D A [(xf, c2 (.ref xs) (.ref xp) (.ref xq) f), (xp, c1 ep), (xq, c1 eq), (xs, c5 st)] := hD
            have J31 : ∀ (w32 : Int32), w32 = (if r25 = 0 then (if ((s2_begin f 5 0).1) = 0 then 0 else 1) else 0) → ∀ (w33 : Nat → Int32), w33 = (if r25 = 0 then ((s2_begin f 5 0).2) else f) → ∀ (H : Heap) (locs : List Loc), va_P D vwCl [(xf, c2 (.ref xs) (.ref xp) (.ref xq) w33), (xp, c1 ep), (xq, c1 eq), (xs, c5 st)] H → va_D A [(xf, c2 (.ref xs) (.ref xp) (.ref xq) w33), (xp, c1 ep), (xq, c1 eq), (xs, c5 st)] → va_S A s.heap H locs → W p l e (cw_rm 3) s m args below meth c H locs 0 0 (Q) (F0 m 90 ls [.int w32]) := by
              intro w32 hw32 w33 hw33 H locs hP hD hS
              have hsp : (s2_sequenceRun f ep eq st a1) = (w32, w33) := by subst hw33; subst hw32; subst hr25; subst hr22; subst hr9; subst hr5; subst hr2; simp only [s2_sequenceRun, if_neg z3, if_neg z6, if_neg z7, if_neg z10, if_neg z23]
              exact hret _ _ _ _ _ _ _ _ hP hD hS dX2_sequenceRun_90 (cw_b01 (by subst hw32; subst hr25; (repeat' split) <;> first | exact Or.inl rfl | exact Or.inr rfl | assumption | exact z2_begin _ _ _ | exact z6_isOn _ _)) ⟨(), (by rw [hsp]), (by rw [hsp])⟩ (Nat.le_of_ble_eq_true rfl) (Nat.le_of_ble_eq_true rfl)
            refine lv_if_ne (tgt := 89) hx hb dX2_sequenceRun_73 (by decide) (fun z26 => ?_) (fun z26 => ?_)
            · refine lv_iconst (v := 0) hx hb dX2_sequenceRun_89 (by decide) ?_
              exact J31 0 (by simp only [if_neg z26]) f (by simp only [if_neg z26]) _ _ hP hD hS
            · refine lv_aload_n hx hb dX2_sequenceRun_76 rfl (lv_at hl 0 rfl) ?_
              refine lv_iconst (v := 5) hx hb dX2_sequenceRun_77 (by decide) ?_
              refine lv_iconst (v := 0) hx hb dX2_sequenceRun_78 (by decide) ?_
              refine cw_cVi (As := [.int 5, .int 0]) (rest := []) (wc := [(xf, c2 (.ref xs) (.ref xp) (.ref xq) f)]) (wr := [(xp, c1 ep), (xq, c1 eq), (xs, c5 st)]) ⟨hx, hb, hml, hown, hts⟩ (k2_begin l D cI cJ xf (.ref xs) (.ref xp) (.ref xq) f 5 0) (cwV 2 hts gX2_sequenceRun_X2_begin rfl rfl rfl (by decide +kernel) ⟨Nat.le_of_ble_eq_true rfl, Nat.le_of_ble_eq_true rfl⟩) hK hN hP hD hS hA [0] [1, 2, 3] rfl rfl (by decide) (by decide) (by decide) 0 (ci := 2) rfl rfl rfl rfl hl.1 rfl (Nat.le_of_ble_eq_true rfl) dX2_sequenceRun_79 ⟨Nat.le_of_ble_eq_true rfl, Nat.le_of_ble_eq_true rfl⟩ (fun r28 u27 H locs hw hP hD hS => ?_)
              have hr28 : r28 = ((s2_begin f 5 0).1) := hw
              obtain ⟨v29, hv29⟩ : ∃ z : Nat → Int32, z = ((s2_begin f 5 0).2) := ⟨_, rfl⟩
              have hP : va_P D vwCl [(xp, c1 ep), (xq, c1 eq), (xs, c5 st), (xf, c2 (.ref xs) (.ref xp) (.ref xq) v29)] H := by rw [hv29]; exact hP
              have hD : va_D A [(xp, c1 ep), (xq, c1 eq), (xs, c5 st), (xf, c2 (.ref xs) (.ref xp) (.ref xq) v29)] := by rw [hv29]; exact hD
              refine lv_if_eq (tgt := 89) hx hb dX2_sequenceRun_82 (by decide) (fun z30 => ?_) (fun z30 => ?_)
              · refine lv_iconst (v := 0) hx hb dX2_sequenceRun_89 (by decide) ?_
                exact J31 0 (by subst hr28; subst hv29; simp only [if_pos z26, if_pos z30]) v29 (by subst hr28; subst hv29; simp only [if_pos z26, if_pos z30]) _ _ (hP.sub [3, 0, 1, 2] rfl) (hD.sub [3, 0, 1, 2] (by decide) rfl) hS
              · refine lv_iconst (v := 1) hx hb dX2_sequenceRun_85 (by decide) ?_
                refine lv_goto (tgt := 90) hx hb dX2_sequenceRun_86 (by decide) ?_
                exact J31 1 (by subst hr28; subst hv29; simp only [if_pos z26, if_neg z30]) v29 (by subst hr28; subst hv29; simp only [if_pos z26, if_neg z30]) _ _ (hP.sub [3, 0, 1, 2] rfl) (hD.sub [3, 0, 1, 2] (by decide) rfl) hS
          · refine lv_aload_n hx hb dX2_sequenceRun_61 rfl (lv_at hl 0 rfl) ?_
            refine lv_bipush (v := 8) hx hb dX2_sequenceRun_62 (by decide) ?_
            refine cw_cVi (As := [.int 8]) (rest := []) (wc := [(xf, c2 (.ref xs) (.ref xp) (.ref xq) f)]) (wr := [(xp, c1 ep), (xq, c1 eq), (xs, c5 st)]) ⟨hx, hb, hml, hown, hts⟩ (k2_lockOut l D cI cJ xf (.ref xs) (.ref xp) (.ref xq) f 8) (cwV 1 hts gX2_sequenceRun_X2_lockOut rfl rfl rfl (by decide +kernel) ⟨Nat.le_of_ble_eq_true rfl, Nat.le_of_ble_eq_true rfl⟩) hK hN hP hD hS hA [0] [1, 2, 3] rfl rfl (by decide) (by decide) (by decide) 0 (ci := 2) rfl rfl rfl rfl hl.1 rfl (Nat.le_of_ble_eq_true rfl) dX2_sequenceRun_64 ⟨Nat.le_of_ble_eq_true rfl, Nat.le_of_ble_eq_true rfl⟩ (fun r35 u34 H locs hw hP hD hS => ?_)
            have hr35 : r35 = ((s2_lockOut f 8).1) := hw
            obtain ⟨v36, hv36⟩ : ∃ z : Nat → Int32, z = ((s2_lockOut f 8).2) := ⟨_, rfl⟩
            have hP : va_P D vwCl [(xp, c1 ep), (xq, c1 eq), (xs, c5 st), (xf, c2 (.ref xs) (.ref xp) (.ref xq) v36)] H := by rw [hv36]; exact hP
            have hD : va_D A [(xp, c1 ep), (xq, c1 eq), (xs, c5 st), (xf, c2 (.ref xs) (.ref xp) (.ref xq) v36)] := by rw [hv36]; exact hD
            have hsp : (s2_sequenceRun f ep eq st a1) = (r35, v36) := by subst hr35; subst hv36; subst hr22; subst hr9; subst hr5; subst hr2; simp only [s2_sequenceRun, if_neg z3, if_neg z6, if_neg z7, if_neg z10, if_pos z23]
            exact hret _ _ _ _ _ _ _ _ (hP.sub (ws' := [(xf, c2 (.ref xs) (.ref xp) (.ref xq) v36), (xp, c1 ep), (xq, c1 eq), (xs, c5 st)]) [3, 0, 1, 2] rfl) (hD.sub (ws' := [(xf, c2 (.ref xs) (.ref xp) (.ref xq) v36), (xp, c1 ep), (xq, c1 eq), (xs, c5 st)]) [3, 0, 1, 2] (by decide) rfl) hS dX2_sequenceRun_67 (cw_b01 (by subst hr35; (repeat' split) <;> first | exact Or.inl rfl | exact Or.inr rfl | assumption | exact z2_lockOut _ _)) ⟨(), (by rw [hsp]), (by rw [hsp])⟩ (Nat.le_of_ble_eq_true rfl) (Nat.le_of_ble_eq_true rfl)
      · refine lv_aload_n hx hb dX2_sequenceRun_38 rfl (lv_at hl 0 rfl) ?_
        refine lv_bipush (v := 6) hx hb dX2_sequenceRun_39 (by decide) ?_
        refine cw_cVi (As := [.int 6]) (rest := []) (wc := [(xf, c2 (.ref xs) (.ref xp) (.ref xq) f)]) (wr := [(xp, c1 ep), (xq, c1 eq), (xs, c5 st)]) ⟨hx, hb, hml, hown, hts⟩ (k2_lockOut l D cI cJ xf (.ref xs) (.ref xp) (.ref xq) f 6) (cwV 1 hts gX2_sequenceRun_X2_lockOut rfl rfl rfl (by decide +kernel) ⟨Nat.le_of_ble_eq_true rfl, Nat.le_of_ble_eq_true rfl⟩) hK hN hP hD hS hA [0] [1, 2, 3] rfl rfl (by decide) (by decide) (by decide) 0 (ci := 2) rfl rfl rfl rfl hl.1 rfl (Nat.le_of_ble_eq_true rfl) dX2_sequenceRun_41 ⟨Nat.le_of_ble_eq_true rfl, Nat.le_of_ble_eq_true rfl⟩ (fun r38 u37 H locs hw hP hD hS => ?_)
        have hr38 : r38 = ((s2_lockOut f 6).1) := hw
        obtain ⟨v39, hv39⟩ : ∃ z : Nat → Int32, z = ((s2_lockOut f 6).2) := ⟨_, rfl⟩
        have hP : va_P D vwCl [(xp, c1 ep), (xq, c1 eq), (xs, c5 st), (xf, c2 (.ref xs) (.ref xp) (.ref xq) v39)] H := by rw [hv39]; exact hP
        have hD : va_D A [(xp, c1 ep), (xq, c1 eq), (xs, c5 st), (xf, c2 (.ref xs) (.ref xp) (.ref xq) v39)] := by rw [hv39]; exact hD
        have hsp : (s2_sequenceRun f ep eq st a1) = (r38, v39) := by subst hr38; subst hv39; subst hr5; subst hr2; simp only [s2_sequenceRun, if_neg z3, if_neg z6, if_pos z7]
        exact hret _ _ _ _ _ _ _ _ (hP.sub (ws' := [(xf, c2 (.ref xs) (.ref xp) (.ref xq) v39), (xp, c1 ep), (xq, c1 eq), (xs, c5 st)]) [3, 0, 1, 2] rfl) (hD.sub (ws' := [(xf, c2 (.ref xs) (.ref xp) (.ref xq) v39), (xp, c1 ep), (xq, c1 eq), (xs, c5 st)]) [3, 0, 1, 2] (by decide) rfl) hS dX2_sequenceRun_44 (cw_b01 (by subst hr38; (repeat' split) <;> first | exact Or.inl rfl | exact Or.inr rfl | assumption | exact z2_lockOut _ _)) ⟨(), (by rw [hsp]), (by rw [hsp])⟩ (Nat.le_of_ble_eq_true rfl) (Nat.le_of_ble_eq_true rfl)
    · refine lv_aload_n hx hb dX2_sequenceRun_22 rfl (lv_at hl 0 rfl) ?_
      refine lv_iconst (v := 2) hx hb dX2_sequenceRun_23 (by decide) ?_
      refine cw_cVi (As := [.int 2]) (rest := []) (wc := [(xf, c2 (.ref xs) (.ref xp) (.ref xq) f)]) (wr := [(xp, c1 ep), (xq, c1 eq), (xs, c5 st)]) ⟨hx, hb, hml, hown, hts⟩ (k2_lockOut l D cI cJ xf (.ref xs) (.ref xp) (.ref xq) f 2) (cwV 1 hts gX2_sequenceRun_X2_lockOut rfl rfl rfl (by decide +kernel) ⟨Nat.le_of_ble_eq_true rfl, Nat.le_of_ble_eq_true rfl⟩) hK hN hP hD hS hA [0] [1, 2, 3] rfl rfl (by decide) (by decide) (by decide) 0 (ci := 2) rfl rfl rfl rfl hl.1 rfl (Nat.le_of_ble_eq_true rfl) dX2_sequenceRun_24 ⟨Nat.le_of_ble_eq_true rfl, Nat.le_of_ble_eq_true rfl⟩ (fun r41 u40 H locs hw hP hD hS => ?_)
      have hr41 : r41 = ((s2_lockOut f 2).1) := hw
      obtain ⟨v42, hv42⟩ : ∃ z : Nat → Int32, z = ((s2_lockOut f 2).2) := ⟨_, rfl⟩
      have hP : va_P D vwCl [(xp, c1 ep), (xq, c1 eq), (xs, c5 st), (xf, c2 (.ref xs) (.ref xp) (.ref xq) v42)] H := by rw [hv42]; exact hP
      have hD : va_D A [(xp, c1 ep), (xq, c1 eq), (xs, c5 st), (xf, c2 (.ref xs) (.ref xp) (.ref xq) v42)] := by rw [hv42]; exact hD
      have hsp : (s2_sequenceRun f ep eq st a1) = (r41, v42) := by subst hr41; subst hv42; subst hr5; subst hr2; simp only [s2_sequenceRun, if_neg z3, if_pos z6]
      exact hret _ _ _ _ _ _ _ _ (hP.sub (ws' := [(xf, c2 (.ref xs) (.ref xp) (.ref xq) v42), (xp, c1 ep), (xq, c1 eq), (xs, c5 st)]) [3, 0, 1, 2] rfl) (hD.sub (ws' := [(xf, c2 (.ref xs) (.ref xp) (.ref xq) v42), (xp, c1 ep), (xq, c1 eq), (xs, c5 st)]) [3, 0, 1, 2] (by decide) rfl) hS dX2_sequenceRun_27 (cw_b01 (by subst hr41; (repeat' split) <;> first | exact Or.inl rfl | exact Or.inr rfl | assumption | exact z2_lockOut _ _)) ⟨(), (by rw [hsp]), (by rw [hsp])⟩ (Nat.le_of_ble_eq_true rfl) (Nat.le_of_ble_eq_true rfl)
  · refine lv_aload_n hx hb dX2_sequenceRun_8 rfl (lv_at hl 0 rfl) ?_
    refine lv_iconst (v := 1) hx hb dX2_sequenceRun_9 (by decide) ?_
    refine cw_cVi (As := [.int 1]) (rest := []) (wc := [(xf, c2 (.ref xs) (.ref xp) (.ref xq) f)]) (wr := [(xp, c1 ep), (xq, c1 eq), (xs, c5 st)]) ⟨hx, hb, hml, hown, hts⟩ (k2_lockOut l D cI cJ xf (.ref xs) (.ref xp) (.ref xq) f 1) (cwV 1 hts gX2_sequenceRun_X2_lockOut rfl rfl rfl (by decide +kernel) ⟨Nat.le_of_ble_eq_true rfl, Nat.le_of_ble_eq_true rfl⟩) hK hN hP hD hS hA [0] [1, 2, 3] rfl rfl (by decide) (by decide) (by decide) 0 (ci := 2) rfl rfl rfl rfl hl.1 rfl (Nat.le_of_ble_eq_true rfl) dX2_sequenceRun_10 ⟨Nat.le_of_ble_eq_true rfl, Nat.le_of_ble_eq_true rfl⟩ (fun r44 u43 H locs hw hP hD hS => ?_)
    have hr44 : r44 = ((s2_lockOut f 1).1) := hw
    obtain ⟨v45, hv45⟩ : ∃ z : Nat → Int32, z = ((s2_lockOut f 1).2) := ⟨_, rfl⟩
    have hP : va_P D vwCl [(xp, c1 ep), (xq, c1 eq), (xs, c5 st), (xf, c2 (.ref xs) (.ref xp) (.ref xq) v45)] H := by rw [hv45]; exact hP
    have hD : va_D A [(xp, c1 ep), (xq, c1 eq), (xs, c5 st), (xf, c2 (.ref xs) (.ref xp) (.ref xq) v45)] := by rw [hv45]; exact hD
    have hsp : (s2_sequenceRun f ep eq st a1) = (r44, v45) := by subst hr44; subst hv45; subst hr2; simp only [s2_sequenceRun, if_pos z3]
    exact hret _ _ _ _ _ _ _ _ (hP.sub (ws' := [(xf, c2 (.ref xs) (.ref xp) (.ref xq) v45), (xp, c1 ep), (xq, c1 eq), (xs, c5 st)]) [3, 0, 1, 2] rfl) (hD.sub (ws' := [(xf, c2 (.ref xs) (.ref xp) (.ref xq) v45), (xp, c1 ep), (xq, c1 eq), (xs, c5 st)]) [3, 0, 1, 2] (by decide) rfl) hS dX2_sequenceRun_13 (cw_b01 (by subst hr44; (repeat' split) <;> first | exact Or.inl rfl | exact Or.inr rfl | assumption | exact z2_lockOut _ _)) ⟨(), (by rw [hsp]), (by rw [hsp])⟩ (Nat.le_of_ble_eq_true rfl) (Nat.le_of_ble_eq_true rfl)

set_option maxHeartbeats 4000000 in
set_option maxRecDepth 100000 in
theorem k2_sequence (l : Launch) (D : va_G) (cI cJ : ClassId) (xf xp xq xs : Nat) (f : Nat → Int32) (ep : Nat → Int32) (eq : Nat → Int32) (st : Nat → Int32) (a1 : Int32) : cw_Mi l yX2_sequence wsX2_sequence (cw_rm 5) D [(cI, .int), (cJ, .long)] [.ref xf, .int a1] [(xf, c2 (.ref xs) (.ref xp) (.ref xq) f), (xp, c1 ep), (xq, c1 eq), (xs, c5 st)] 0 0 (fun r (_ : Unit) => r = (s2_sequence f ep eq st a1).1) (fun _ : Unit => [(xf, c2 (.ref xs) (.ref xp) (.ref xq) (s2_sequence f ep eq st a1).2), (xp, c1 ep), (xq, c1 eq), (xs, c5 st)]) := by
  refine cw_ofi (cc := cX2_sequence) (maxL := 2) (ret := (some .boolean)) (by decide) rfl (Nat.le_of_ble_eq_true rfl) rfl ?_
  intro p e s m args below meth c A ls Q hin0 hret
  obtain ⟨hx, hb, hr, hml, hts, hown, hlocks, hin, hP, hK, hD, hN, hA, hl⟩ := hin0
  have hS : va_S A s.heap s.heap [] := va_S.rf
  have hl : lv_has ls 2 [(0, .ref xf), (1, .int a1)] := hl
  have lf29 := hts (.fieldLink RX2 29 "Burnerline$Furnace" "state" "I") (by decide +kernel)
  have i2 : ∀ w ∈ wsX20, w ∈ wsX2_sequence := by decide +kernel
  refine lv_aload_n hx hb dX2_sequence_0 rfl (lv_at hl 0 rfl) ?_
  refine va_get (D := D) (ci := 2) (v := .int (f 3)) (C := RX2) (T := TX2) (N := 11) hx hb hts i2 hown hK hP 0 rfl rfl 3 (by decide) lf29 (fun _ h9 => h9) rfl dX2_sequence_1 ?_
  by_cases z1 : (f 3) = 0
  · refine lv_tableIn (off := 40) (tgt := 44) hx hb dX2_sequence_4 (by rw [z1]; decide) (by rw [z1]; decide) (by rw [z1]; rfl) (by decide) ?_
    refine lv_aload_n hx hb dX2_sequence_44 rfl (lv_at hl 0 rfl) ?_
    refine lv_iload_n hx hb dX2_sequence_45 rfl (lv_at hl 1 rfl) ?_
    refine cw_cVi (As := [.int a1]) (rest := []) (wc := [(xf, c2 (.ref xs) (.ref xp) (.ref xq) f), (xp, c1 ep), (xq, c1 eq), (xs, c5 st)]) (wr := []) ⟨hx, hb, hml, hown, hts⟩ (k2_sequenceOff l D cI cJ xf xp xq xs f ep eq st a1) (cwV 1 hts gX2_sequence_X2_sequenceOff rfl rfl rfl (by decide +kernel) ⟨Nat.le_of_ble_eq_true rfl, Nat.le_of_ble_eq_true rfl⟩) hK hN hP hD hS hA [0, 1, 2, 3] [] rfl rfl (by decide) (by decide) (by decide) 0 (ci := 2) rfl rfl rfl rfl hl.1 rfl (Nat.le_of_ble_eq_true rfl) dX2_sequence_46 ⟨Nat.le_of_ble_eq_true rfl, Nat.le_of_ble_eq_true rfl⟩ (fun r3 u2 H locs hw hP hD hS => ?_)
    have hr3 : r3 = ((s2_sequenceOff f ep eq st a1).1) := hw
    obtain ⟨v4, hv4⟩ : ∃ z : Nat → Int32, z = ((s2_sequenceOff f ep eq st a1).2) := ⟨_, rfl⟩
    have hP : va_P D vwCl [(xf, c2 (.ref xs) (.ref xp) (.ref xq) v4), (xp, c1 ep), (xq, c1 eq), (xs, c5 st)] H := by rw [hv4]; exact hP
    have hD : va_D A [(xf, c2 (.ref xs) (.ref xp) (.ref xq) v4), (xp, c1 ep), (xq, c1 eq), (xs, c5 st)] := by rw [hv4]; exact hD
    have hsp : (s2_sequence f ep eq st a1) = (r3, v4) := by subst hr3; subst hv4; simp only [s2_sequence, if_pos z1]
    exact hret _ _ _ _ _ _ _ _ hP hD hS dX2_sequence_49 (cw_b01 (by subst hr3; (repeat' split) <;> first | exact Or.inl rfl | exact Or.inr rfl | assumption | exact z2_sequenceOff _ _ _ _ _)) ⟨(), (by rw [hsp]), (by rw [hsp])⟩ (Nat.le_of_ble_eq_true rfl) (Nat.le_of_ble_eq_true rfl)
  · by_cases z5 : (f 3) = 1
    · refine lv_tableIn (off := 46) (tgt := 50) hx hb dX2_sequence_4 (by rw [z5]; decide) (by rw [z5]; decide) (by rw [z5]; rfl) (by decide) ?_
      refine lv_aload_n hx hb dX2_sequence_50 rfl (lv_at hl 0 rfl) ?_
      refine lv_iload_n hx hb dX2_sequence_51 rfl (lv_at hl 1 rfl) ?_
      refine cw_cVi (As := [.int a1]) (rest := []) (wc := [(xf, c2 (.ref xs) (.ref xp) (.ref xq) f), (xp, c1 ep), (xq, c1 eq), (xs, c5 st)]) (wr := []) ⟨hx, hb, hml, hown, hts⟩ (k2_sequencePurge l D cI cJ xf xp xq xs f ep eq st a1) (cwV 1 hts gX2_sequence_X2_sequencePurge rfl rfl rfl (by decide +kernel) ⟨Nat.le_of_ble_eq_true rfl, Nat.le_of_ble_eq_true rfl⟩) hK hN hP hD hS hA [0, 1, 2, 3] [] rfl rfl (by decide) (by decide) (by decide) 0 (ci := 2) rfl rfl rfl rfl hl.1 rfl (Nat.le_of_ble_eq_true rfl) dX2_sequence_52 ⟨Nat.le_of_ble_eq_true rfl, Nat.le_of_ble_eq_true rfl⟩ (fun r7 u6 H locs hw hP hD hS => ?_)
      have hr7 : r7 = ((s2_sequencePurge f ep eq st a1).1) := hw
      obtain ⟨v8, hv8⟩ : ∃ z : Nat → Int32, z = ((s2_sequencePurge f ep eq st a1).2) := ⟨_, rfl⟩
      have hP : va_P D vwCl [(xf, c2 (.ref xs) (.ref xp) (.ref xq) v8), (xp, c1 ep), (xq, c1 eq), (xs, c5 st)] H := by rw [hv8]; exact hP
      have hD : va_D A [(xf, c2 (.ref xs) (.ref xp) (.ref xq) v8), (xp, c1 ep), (xq, c1 eq), (xs, c5 st)] := by rw [hv8]; exact hD
      have hsp : (s2_sequence f ep eq st a1) = (r7, v8) := by subst hr7; subst hv8; simp only [s2_sequence, if_neg z1, if_pos z5]
      exact hret _ _ _ _ _ _ _ _ hP hD hS dX2_sequence_55 (cw_b01 (by subst hr7; (repeat' split) <;> first | exact Or.inl rfl | exact Or.inr rfl | assumption | exact z2_sequencePurge _ _ _ _ _)) ⟨(), (by rw [hsp]), (by rw [hsp])⟩ (Nat.le_of_ble_eq_true rfl) (Nat.le_of_ble_eq_true rfl)
    · by_cases z9 : (f 3) = 2
      · refine lv_tableIn (off := 52) (tgt := 56) hx hb dX2_sequence_4 (by rw [z9]; decide) (by rw [z9]; decide) (by rw [z9]; rfl) (by decide) ?_
        refine lv_aload_n hx hb dX2_sequence_56 rfl (lv_at hl 0 rfl) ?_
        refine lv_iload_n hx hb dX2_sequence_57 rfl (lv_at hl 1 rfl) ?_
        refine cw_cVi (As := [.int a1]) (rest := []) (wc := [(xf, c2 (.ref xs) (.ref xp) (.ref xq) f), (xp, c1 ep), (xq, c1 eq), (xs, c5 st)]) (wr := []) ⟨hx, hb, hml, hown, hts⟩ (k2_sequenceLighting l D cI cJ xf xp xq xs f ep eq st a1) (cwV 1 hts gX2_sequence_X2_sequenceLighting rfl rfl rfl (by decide +kernel) ⟨Nat.le_of_ble_eq_true rfl, Nat.le_of_ble_eq_true rfl⟩) hK hN hP hD hS hA [0, 1, 2, 3] [] rfl rfl (by decide) (by decide) (by decide) 0 (ci := 2) rfl rfl rfl rfl hl.1 rfl (Nat.le_of_ble_eq_true rfl) dX2_sequence_58 ⟨Nat.le_of_ble_eq_true rfl, Nat.le_of_ble_eq_true rfl⟩ (fun r11 u10 H locs hw hP hD hS => ?_)
        have hr11 : r11 = ((s2_sequenceLighting f ep eq st a1).1) := hw
        obtain ⟨v12, hv12⟩ : ∃ z : Nat → Int32, z = ((s2_sequenceLighting f ep eq st a1).2) := ⟨_, rfl⟩
        have hP : va_P D vwCl [(xf, c2 (.ref xs) (.ref xp) (.ref xq) v12), (xp, c1 ep), (xq, c1 eq), (xs, c5 st)] H := by rw [hv12]; exact hP
        have hD : va_D A [(xf, c2 (.ref xs) (.ref xp) (.ref xq) v12), (xp, c1 ep), (xq, c1 eq), (xs, c5 st)] := by rw [hv12]; exact hD
        have hsp : (s2_sequence f ep eq st a1) = (r11, v12) := by subst hr11; subst hv12; simp only [s2_sequence, if_neg z1, if_neg z5, if_pos z9]
        exact hret _ _ _ _ _ _ _ _ hP hD hS dX2_sequence_61 (cw_b01 (by subst hr11; (repeat' split) <;> first | exact Or.inl rfl | exact Or.inr rfl | assumption | exact z2_sequenceLighting _ _ _ _ _)) ⟨(), (by rw [hsp]), (by rw [hsp])⟩ (Nat.le_of_ble_eq_true rfl) (Nat.le_of_ble_eq_true rfl)
      · by_cases z13 : (f 3) = 3
        · refine lv_tableIn (off := 52) (tgt := 56) hx hb dX2_sequence_4 (by rw [z13]; decide) (by rw [z13]; decide) (by rw [z13]; rfl) (by decide) ?_
          refine lv_aload_n hx hb dX2_sequence_56 rfl (lv_at hl 0 rfl) ?_
          refine lv_iload_n hx hb dX2_sequence_57 rfl (lv_at hl 1 rfl) ?_
          refine cw_cVi (As := [.int a1]) (rest := []) (wc := [(xf, c2 (.ref xs) (.ref xp) (.ref xq) f), (xp, c1 ep), (xq, c1 eq), (xs, c5 st)]) (wr := []) ⟨hx, hb, hml, hown, hts⟩ (k2_sequenceLighting l D cI cJ xf xp xq xs f ep eq st a1) (cwV 1 hts gX2_sequence_X2_sequenceLighting rfl rfl rfl (by decide +kernel) ⟨Nat.le_of_ble_eq_true rfl, Nat.le_of_ble_eq_true rfl⟩) hK hN hP hD hS hA [0, 1, 2, 3] [] rfl rfl (by decide) (by decide) (by decide) 0 (ci := 2) rfl rfl rfl rfl hl.1 rfl (Nat.le_of_ble_eq_true rfl) dX2_sequence_58 ⟨Nat.le_of_ble_eq_true rfl, Nat.le_of_ble_eq_true rfl⟩ (fun r15 u14 H locs hw hP hD hS => ?_)
          have hr15 : r15 = ((s2_sequenceLighting f ep eq st a1).1) := hw
          obtain ⟨v16, hv16⟩ : ∃ z : Nat → Int32, z = ((s2_sequenceLighting f ep eq st a1).2) := ⟨_, rfl⟩
          have hP : va_P D vwCl [(xf, c2 (.ref xs) (.ref xp) (.ref xq) v16), (xp, c1 ep), (xq, c1 eq), (xs, c5 st)] H := by rw [hv16]; exact hP
          have hD : va_D A [(xf, c2 (.ref xs) (.ref xp) (.ref xq) v16), (xp, c1 ep), (xq, c1 eq), (xs, c5 st)] := by rw [hv16]; exact hD
          have hsp : (s2_sequence f ep eq st a1) = (r15, v16) := by subst hr15; subst hv16; simp only [s2_sequence, if_neg z1, if_neg z5, if_neg z9, if_pos z13]
          exact hret _ _ _ _ _ _ _ _ hP hD hS dX2_sequence_61 (cw_b01 (by subst hr15; (repeat' split) <;> first | exact Or.inl rfl | exact Or.inr rfl | assumption | exact z2_sequenceLighting _ _ _ _ _)) ⟨(), (by rw [hsp]), (by rw [hsp])⟩ (Nat.le_of_ble_eq_true rfl) (Nat.le_of_ble_eq_true rfl)
        · by_cases z17 : (f 3) = 4
          · refine lv_tableIn (off := 58) (tgt := 62) hx hb dX2_sequence_4 (by rw [z17]; decide) (by rw [z17]; decide) (by rw [z17]; rfl) (by decide) ?_
            refine lv_aload_n hx hb dX2_sequence_62 rfl (lv_at hl 0 rfl) ?_
            refine lv_iload_n hx hb dX2_sequence_63 rfl (lv_at hl 1 rfl) ?_
            refine cw_cVi (As := [.int a1]) (rest := []) (wc := [(xf, c2 (.ref xs) (.ref xp) (.ref xq) f), (xp, c1 ep), (xq, c1 eq), (xs, c5 st)]) (wr := []) ⟨hx, hb, hml, hown, hts⟩ (k2_sequenceRun l D cI cJ xf xp xq xs f ep eq st a1) (cwV 1 hts gX2_sequence_X2_sequenceRun rfl rfl rfl (by decide +kernel) ⟨Nat.le_of_ble_eq_true rfl, Nat.le_of_ble_eq_true rfl⟩) hK hN hP hD hS hA [0, 1, 2, 3] [] rfl rfl (by decide) (by decide) (by decide) 0 (ci := 2) rfl rfl rfl rfl hl.1 rfl (Nat.le_of_ble_eq_true rfl) dX2_sequence_64 ⟨Nat.le_of_ble_eq_true rfl, Nat.le_of_ble_eq_true rfl⟩ (fun r19 u18 H locs hw hP hD hS => ?_)
            have hr19 : r19 = ((s2_sequenceRun f ep eq st a1).1) := hw
            obtain ⟨v20, hv20⟩ : ∃ z : Nat → Int32, z = ((s2_sequenceRun f ep eq st a1).2) := ⟨_, rfl⟩
            have hP : va_P D vwCl [(xf, c2 (.ref xs) (.ref xp) (.ref xq) v20), (xp, c1 ep), (xq, c1 eq), (xs, c5 st)] H := by rw [hv20]; exact hP
            have hD : va_D A [(xf, c2 (.ref xs) (.ref xp) (.ref xq) v20), (xp, c1 ep), (xq, c1 eq), (xs, c5 st)] := by rw [hv20]; exact hD
            have hsp : (s2_sequence f ep eq st a1) = (r19, v20) := by subst hr19; subst hv20; simp only [s2_sequence, if_neg z1, if_neg z5, if_neg z9, if_neg z13, if_pos z17]
            exact hret _ _ _ _ _ _ _ _ hP hD hS dX2_sequence_67 (cw_b01 (by subst hr19; (repeat' split) <;> first | exact Or.inl rfl | exact Or.inr rfl | assumption | exact z2_sequenceRun _ _ _ _ _)) ⟨(), (by rw [hsp]), (by rw [hsp])⟩ (Nat.le_of_ble_eq_true rfl) (Nat.le_of_ble_eq_true rfl)
          · by_cases z21 : (f 3) = 5
            · refine lv_tableIn (off := 64) (tgt := 68) hx hb dX2_sequence_4 (by rw [z21]; decide) (by rw [z21]; decide) (by rw [z21]; rfl) (by decide) ?_
              refine lv_aload_n hx hb dX2_sequence_68 rfl (lv_at hl 0 rfl) ?_
              refine cw_cVi (As := []) (rest := []) (wc := [(xf, c2 (.ref xs) (.ref xp) (.ref xq) f), (xp, c1 ep), (xq, c1 eq), (xs, c5 st)]) (wr := []) ⟨hx, hb, hml, hown, hts⟩ (k2_sequenceAfterPurge l D cI cJ xf xp xq xs f ep eq st) (cwV 0 hts gX2_sequence_X2_sequenceAfterPurge rfl rfl rfl (by decide +kernel) ⟨Nat.le_of_ble_eq_true rfl, Nat.le_of_ble_eq_true rfl⟩) hK hN hP hD hS hA [0, 1, 2, 3] [] rfl rfl (by decide) (by decide) (by decide) 0 (ci := 2) rfl rfl rfl rfl hl.1 rfl (Nat.le_of_ble_eq_true rfl) dX2_sequence_69 ⟨Nat.le_of_ble_eq_true rfl, Nat.le_of_ble_eq_true rfl⟩ (fun r23 u22 H locs hw hP hD hS => ?_)
              have hr23 : r23 = ((s2_sequenceAfterPurge f ep eq st).1) := hw
              obtain ⟨v24, hv24⟩ : ∃ z : Nat → Int32, z = ((s2_sequenceAfterPurge f ep eq st).2) := ⟨_, rfl⟩
              have hP : va_P D vwCl [(xf, c2 (.ref xs) (.ref xp) (.ref xq) v24), (xp, c1 ep), (xq, c1 eq), (xs, c5 st)] H := by rw [hv24]; exact hP
              have hD : va_D A [(xf, c2 (.ref xs) (.ref xp) (.ref xq) v24), (xp, c1 ep), (xq, c1 eq), (xs, c5 st)] := by rw [hv24]; exact hD
              have hsp : (s2_sequence f ep eq st a1) = (r23, v24) := by subst hr23; subst hv24; simp only [s2_sequence, if_neg z1, if_neg z5, if_neg z9, if_neg z13, if_neg z17, if_pos z21]
              exact hret _ _ _ _ _ _ _ _ hP hD hS dX2_sequence_72 (cw_b01 (by subst hr23; (repeat' split) <;> first | exact Or.inl rfl | exact Or.inr rfl | assumption | exact z2_sequenceAfterPurge _ _ _ _)) ⟨(), (by rw [hsp]), (by rw [hsp])⟩ (Nat.le_of_ble_eq_true rfl) (Nat.le_of_ble_eq_true rfl)
            · refine lv_tableOut (tgt := 73) hx hb dX2_sequence_4 (by have y0 := lv_neT z1 (a := 0) (by decide); have y1 := lv_neT z5 (a := 1) (by decide); have y2 := lv_neT z9 (a := 2) (by decide); have y3 := lv_neT z13 (a := 3) (by decide); have y4 := lv_neT z17 (a := 4) (by decide); have y5 := lv_neT z21 (a := 5) (by decide); omega) (by decide) ?_
              refine lv_iconst (v := 0) hx hb dX2_sequence_73 (by decide) ?_
              have hsp : (s2_sequence f ep eq st a1) = (0, f) := by simp only [s2_sequence, if_neg z1, if_neg z5, if_neg z9, if_neg z13, if_neg z17, if_neg z21]
              exact hret _ _ _ _ _ _ _ _ hP hD hS dX2_sequence_74 rfl ⟨(), (by rw [hsp]), (by rw [hsp])⟩ (Nat.le_of_ble_eq_true rfl) (Nat.le_of_ble_eq_true rfl)

set_option maxHeartbeats 4000000 in
set_option maxRecDepth 100000 in
theorem k2_tick (l : Launch) (D : va_G) (cI cJ : ClassId) (xf xp xq xs : Nat) (f : Nat → Int32) (ep : Nat → Int32) (eq : Nat → Int32) (st : Nat → Int32) (a1 : Int32) : cw_Mi l yX2_tick wsX2_tick (cw_rm 6) D [(cI, .int), (cJ, .long)] [.ref xf, .int a1] [(xf, c2 (.ref xs) (.ref xp) (.ref xq) f), (xp, c1 ep), (xq, c1 eq), (xs, c5 st)] 0 0 (fun r (_ : Unit) => r = (s2_tick f ep eq st a1).1) (fun _ : Unit => [(xf, c2 (.ref xs) (.ref xp) (.ref xq) (s2_tick f ep eq st a1).2.1), (xp, c1 (s2_tick f ep eq st a1).2.2.1), (xq, c1 (s2_tick f ep eq st a1).2.2.2), (xs, c5 st)]) := by
  refine cw_ofi (cc := cX2_tick) (maxL := 4) (ret := (some .boolean)) (by decide) rfl (Nat.le_of_ble_eq_true rfl) rfl ?_
  intro p e s m args below meth c A ls Q hin0 hret
  obtain ⟨hx, hb, hr, hml, hts, hown, hlocks, hin, hP, hK, hD, hN, hA, hl⟩ := hin0
  have hS : va_S A s.heap s.heap [] := va_S.rf
  have hl : lv_has ls 4 [(0, .ref xf), (1, .int a1)] := hl
  have lf12 := hts (.fieldLink RX2 12 "Burnerline$Furnace" "pilotEye" "LBurnerline$Eye;") (by decide +kernel)
  have i2 : ∀ w ∈ wsX20, w ∈ wsX2_tick := by decide +kernel
  have ln65 : va_Nw (.methodLinkNest RX2 65 yX6_isOn "Burnerline") s := hN _ (by decide +kernel)
  have ls65 := hts (.static yX6_isOn) (by decide +kernel)
  have liRX6 := hts (.initialized RX6) (by decide +kernel)
  have lf18 := hts (.fieldLink RX2 18 "Burnerline$Furnace" "mainEye" "LBurnerline$Eye;") (by decide +kernel)
  have lf36 := hts (.fieldLink RX2 36 "Burnerline$Furnace" "time" "I") (by decide +kernel)
  refine lv_aload_n hx hb dX2_tick_0 rfl (lv_at hl 0 rfl) ?_
  refine cw_cVi (As := []) (rest := []) (wc := [(xf, c2 (.ref xs) (.ref xp) (.ref xq) f)]) (wr := [(xp, c1 ep), (xq, c1 eq), (xs, c5 st)]) ⟨hx, hb, hml, hown, hts⟩ (k2_isPilotOpen l D cI cJ xf (.ref xs) (.ref xp) (.ref xq) f) (cwV 0 hts gX2_tick_X2_isPilotOpen rfl rfl rfl (by decide +kernel) ⟨Nat.le_of_ble_eq_true rfl, Nat.le_of_ble_eq_true rfl⟩) hK hN hP hD hS hA [0] [1, 2, 3] rfl rfl (by decide) (by decide) (by decide) 0 (ci := 2) rfl rfl rfl rfl hl.1 rfl (Nat.le_of_ble_eq_true rfl) dX2_tick_1 ⟨Nat.le_of_ble_eq_true rfl, Nat.le_of_ble_eq_true rfl⟩ (fun r2 u1 H locs hw hP hD hS => ?_)
  have hr2 : r2 = (s2_isPilotOpen f) := hw
  have hP : va_P D vwCl [(xp, c1 ep), (xq, c1 eq), (xs, c5 st), (xf, c2 (.ref xs) (.ref xp) (.ref xq) f)] H := hP
  have hD : va_D A [(xp, c1 ep), (xq, c1 eq), (xs, c5 st), (xf, c2 (.ref xs) (.ref xp) (.ref xq) f)] := hD
  have J7 : ∀ (w8 : Int32), w8 = (if r2 = 0 then (if (s2_isMainOpen f) = 0 then 0 else 1) else 1) → ∀ (H : Heap) (locs : List Loc), va_P D vwCl [(xp, c1 ep), (xq, c1 eq), (xs, c5 st), (xf, c2 (.ref xs) (.ref xp) (.ref xq) f)] H → va_D A [(xp, c1 ep), (xq, c1 eq), (xs, c5 st), (xf, c2 (.ref xs) (.ref xp) (.ref xq) f)] → va_S A s.heap H locs → W p l e (cw_rm 6) s m args below meth c H locs 0 0 (Q) (F0 m 19 ls [.int w8]) := by
    intro w8 hw8 H locs hP hD hS
    refine lv_istore_n (lv' := [(2, .int w8), (0, .ref xf), (1, .int a1)]) hx hb dX2_tick_19 rfl hl (by decide) rfl (fun ls hl => ?_)
    refine lv_aload_n hx hb dX2_tick_20 rfl (lv_at hl 1 rfl) ?_
    refine lv_aload_n hx hb dX2_tick_21 rfl (lv_at hl 1 rfl) ?_
    refine va_get (D := D) (ci := 2) (v := .ref xp) (C := RX2) (T := TX2) (N := 11) hx hb hts i2 hown hK hP 3 rfl rfl 1 (by decide) lf12 (fun _ h9 => h9) rfl dX2_tick_22 ?_
    refine lv_iload_n hx hb dX2_tick_25 rfl (lv_at hl 2 rfl) ?_
    refine lv_bipush (v := 8) hx hb dX2_tick_26 (by decide) ?_
    refine cw_cSNi (As := [.int a1, .int 8]) (rest := [.ref xp, .ref xf]) (wc := []) (wr := [(xp, c1 ep), (xq, c1 eq), (xs, c5 st), (xf, c2 (.ref xs) (.ref xp) (.ref xq) f)]) ⟨hx, hb, hml, hown, hts⟩ (k6_isOn l D cI cJ a1 8) (va_cnB 2 hts gX2_tick_X6_isOn_n65 rfl rfl rfl ln65 liRX6 (by decide +kernel) ⟨Nat.le_of_ble_eq_true rfl, Nat.le_of_ble_eq_true rfl⟩) ls65 hK hN hP hD hS hA [] [0, 1, 2, 3] rfl rfl (by decide) (by decide) (by decide) rfl hl.1 rfl (Nat.le_of_ble_eq_true rfl) dX2_tick_28 ⟨Nat.le_of_ble_eq_true rfl, Nat.le_of_ble_eq_true rfl⟩ (fun r10 u9 H locs hw hP hD hS => ?_)
    have hr10 : r10 = (s6_isOn a1 8) := hw
    have hP : va_P D vwCl [(xp, c1 ep), (xq, c1 eq), (xs, c5 st), (xf, c2 (.ref xs) (.ref xp) (.ref xq) f)] H := hP
    have hD : va_D A [(xp, c1 ep), (xq, c1 eq), (xs, c5 st), (xf, c2 (.ref xs) (.ref xp) (.ref xq) f)] := hD
    refine cw_cVv (As := [.ref xp, .int r10]) (rest := []) (wc := [(xf, c2 (.ref xs) (.ref xp) (.ref xq) f), (xs, c5 st), (xp, c1 ep)]) (wr := [(xq, c1 eq)]) ⟨hx, hb, hml, hown, hts⟩ (k2_look l D cI cJ xf xs xp (.ref xp) (.ref xq) f st ep r10 (by subst hr10; (repeat' split) <;> first | exact Or.inl rfl | exact Or.inr rfl | assumption | exact z6_isOn _ _)) (cwV 2 hts gX2_tick_X2_look rfl rfl rfl (by decide +kernel) ⟨Nat.le_of_ble_eq_true rfl, Nat.le_of_ble_eq_true rfl⟩) hK hN hP hD hS hA [3, 2, 0] [1] rfl rfl (by decide) (by decide) (by decide) 0 (ci := 2) rfl rfl rfl rfl hl.1 rfl (Nat.le_of_ble_eq_true rfl) dX2_tick_31 ⟨Nat.le_of_ble_eq_true rfl, Nat.le_of_ble_eq_true rfl⟩ (fun u11 H locs hw hP hD hS => ?_)
    obtain ⟨v13, hv13⟩ : ∃ z : Nat → Int32, z = (s2_look f st ep r10) := ⟨_, rfl⟩
    have hP : va_P D vwCl [(xq, c1 eq), (xf, c2 (.ref xs) (.ref xp) (.ref xq) f), (xs, c5 st), (xp, c1 v13)] H := by rw [hv13]; exact hP
    have hD : va_D A [(xq, c1 eq), (xf, c2 (.ref xs) (.ref xp) (.ref xq) f), (xs, c5 st), (xp, c1 v13)] := by rw [hv13]; exact hD
    refine lv_aload_n hx hb dX2_tick_34 rfl (lv_at hl 1 rfl) ?_
    refine lv_aload_n hx hb dX2_tick_35 rfl (lv_at hl 1 rfl) ?_
    refine va_get (D := D) (ci := 2) (v := .ref xq) (C := RX2) (T := TX2) (N := 11) hx hb hts i2 hown hK hP 1 rfl rfl 2 (by decide) lf18 (fun _ h9 => h9) rfl dX2_tick_36 ?_
    refine lv_iload_n hx hb dX2_tick_39 rfl (lv_at hl 2 rfl) ?_
    refine lv_bipush (v := 16) hx hb dX2_tick_40 (by decide) ?_
    refine cw_cSNi (As := [.int a1, .int 16]) (rest := [.ref xq, .ref xf]) (wc := []) (wr := [(xq, c1 eq), (xf, c2 (.ref xs) (.ref xp) (.ref xq) f), (xs, c5 st), (xp, c1 v13)]) ⟨hx, hb, hml, hown, hts⟩ (k6_isOn l D cI cJ a1 16) (va_cnB 2 hts gX2_tick_X6_isOn_n65 rfl rfl rfl ln65 liRX6 (by decide +kernel) ⟨Nat.le_of_ble_eq_true rfl, Nat.le_of_ble_eq_true rfl⟩) ls65 hK hN hP hD hS hA [] [0, 1, 2, 3] rfl rfl (by decide) (by decide) (by decide) rfl hl.1 rfl (Nat.le_of_ble_eq_true rfl) dX2_tick_42 ⟨Nat.le_of_ble_eq_true rfl, Nat.le_of_ble_eq_true rfl⟩ (fun r15 u14 H locs hw hP hD hS => ?_)
    have hr15 : r15 = (s6_isOn a1 16) := hw
    have hP : va_P D vwCl [(xq, c1 eq), (xf, c2 (.ref xs) (.ref xp) (.ref xq) f), (xs, c5 st), (xp, c1 v13)] H := hP
    have hD : va_D A [(xq, c1 eq), (xf, c2 (.ref xs) (.ref xp) (.ref xq) f), (xs, c5 st), (xp, c1 v13)] := hD
    refine cw_cVv (As := [.ref xq, .int r15]) (rest := []) (wc := [(xf, c2 (.ref xs) (.ref xp) (.ref xq) f), (xs, c5 st), (xq, c1 eq)]) (wr := [(xp, c1 v13)]) ⟨hx, hb, hml, hown, hts⟩ (k2_look l D cI cJ xf xs xq (.ref xp) (.ref xq) f st eq r15 (by subst hr15; (repeat' split) <;> first | exact Or.inl rfl | exact Or.inr rfl | assumption | exact z6_isOn _ _)) (cwV 2 hts gX2_tick_X2_look rfl rfl rfl (by decide +kernel) ⟨Nat.le_of_ble_eq_true rfl, Nat.le_of_ble_eq_true rfl⟩) hK hN hP hD hS hA [1, 2, 0] [3] rfl rfl (by decide) (by decide) (by decide) 0 (ci := 2) rfl rfl rfl rfl hl.1 rfl (Nat.le_of_ble_eq_true rfl) dX2_tick_45 ⟨Nat.le_of_ble_eq_true rfl, Nat.le_of_ble_eq_true rfl⟩ (fun u16 H locs hw hP hD hS => ?_)
    obtain ⟨v18, hv18⟩ : ∃ z : Nat → Int32, z = (s2_look f st eq r15) := ⟨_, rfl⟩
    have hP : va_P D vwCl [(xp, c1 v13), (xf, c2 (.ref xs) (.ref xp) (.ref xq) f), (xs, c5 st), (xq, c1 v18)] H := by rw [hv18]; exact hP
    have hD : va_D A [(xp, c1 v13), (xf, c2 (.ref xs) (.ref xp) (.ref xq) f), (xs, c5 st), (xq, c1 v18)] := by rw [hv18]; exact hD
    refine lv_aload_n hx hb dX2_tick_48 rfl (lv_at hl 1 rfl) ?_
    refine cw_cVv (As := []) (rest := []) (wc := [(xf, c2 (.ref xs) (.ref xp) (.ref xq) f), (xp, c1 v13), (xq, c1 v18), (xs, c5 st)]) (wr := []) ⟨hx, hb, hml, hown, hts⟩ (k2_movePositions l D cI cJ xf xp xq xs f v13 v18 st) (cwV 0 hts gX2_tick_X2_movePositions rfl rfl rfl (by decide +kernel) ⟨Nat.le_of_ble_eq_true rfl, Nat.le_of_ble_eq_true rfl⟩) hK hN hP hD hS hA [1, 0, 3, 2] [] rfl rfl (by decide) (by decide) (by decide) 0 (ci := 2) rfl rfl rfl rfl hl.1 rfl (Nat.le_of_ble_eq_true rfl) dX2_tick_49 ⟨Nat.le_of_ble_eq_true rfl, Nat.le_of_ble_eq_true rfl⟩ (fun u19 H locs hw hP hD hS => ?_)
    obtain ⟨v21, hv21⟩ : ∃ z : Nat → Int32, z = (s2_movePositions f v13 v18 st) := ⟨_, rfl⟩
    have hP : va_P D vwCl [(xf, c2 (.ref xs) (.ref xp) (.ref xq) v21), (xp, c1 v13), (xq, c1 v18), (xs, c5 st)] H := by rw [hv21]; exact hP
    have hD : va_D A [(xf, c2 (.ref xs) (.ref xp) (.ref xq) v21), (xp, c1 v13), (xq, c1 v18), (xs, c5 st)] := by rw [hv21]; exact hD
    refine lv_aload_n hx hb dX2_tick_52 rfl (lv_at hl 1 rfl) ?_
    refine lv_dup hx hb dX2_tick_53 rfl ?_
    refine va_get (D := D) (ci := 2) (v := .int (v21 5)) (C := RX2) (T := TX2) (N := 11) hx hb hts i2 hown hK hP 0 rfl rfl 5 (by decide) lf36 (fun _ h9 => h9) rfl dX2_tick_54 ?_
    refine lv_iconst (v := 1) hx hb dX2_tick_57 (by decide) ?_
    refine lv_iadd hx hb dX2_tick_58 ?_
    refine va_put (D := D) (ci := 2) (v := .int ((v21 5) + 1)) (ty := .int) (C := RX2) (T := TX2) (N := 11) hx hb hts i2 tyX2 tyX2_ok nmX2 hown hK hP hD hS 0 rfl rfl 5 (by decide) lf36 (fun _ h9 => h9) rfl (by decide +kernel) rfl rfl (Nat.le_of_ble_eq_true rfl) dX2_tick_59 (fun H locs hP hD hS => ?_)
    have hP : va_P D vwCl [(xf, c2 (.ref xs) (.ref xp) (.ref xq) (upd v21 5 ((v21 5) + 1))), (xp, c1 v13), (xq, c1 v18), (xs, c5 st)] H := (congrArg (fun z9 => va_P D vwCl [(xf, .inr (2, z9)), (xp, c1 v13), (xq, c1 v18), (xs, c5 st)] H) (cs2_5 (.ref xs) (.ref xp) (.ref xq) v21 ((v21 5) + 1))).mp hP
    have hD : va_D A [(xf, c2 (.ref xs) (.ref xp) (.ref xq) (upd v21 5 ((v21 5) + 1))), (xp, c1 v13), (xq, c1 v18), (xs, c5 st)] := (congrArg (fun z9 => va_D A [(xf, .inr (2, z9)), (xp, c1 v13), (xq, c1 v18), (xs, c5 st)]) (cs2_5 (.ref xs) (.ref xp) (.ref xq) v21 ((v21 5) + 1))).mp hD
    refine lv_aload_n hx hb dX2_tick_62 rfl (lv_at hl 1 rfl) ?_
    refine lv_iload_n hx hb dX2_tick_63 rfl (lv_at hl 2 rfl) ?_
    refine cw_cVi (As := [.int a1]) (rest := []) (wc := [(xf, c2 (.ref xs) (.ref xp) (.ref xq) (upd v21 5 ((v21 5) + 1))), (xp, c1 v13), (xq, c1 v18), (xs, c5 st)]) (wr := []) ⟨hx, hb, hml, hown, hts⟩ (k2_sequence l D cI cJ xf xp xq xs (upd v21 5 ((v21 5) + 1)) v13 v18 st a1) (cwV 1 hts gX2_tick_X2_sequence rfl rfl rfl (by decide +kernel) ⟨Nat.le_of_ble_eq_true rfl, Nat.le_of_ble_eq_true rfl⟩) hK hN hP hD hS hA [0, 1, 2, 3] [] rfl rfl (by decide) (by decide) (by decide) 0 (ci := 2) rfl rfl rfl rfl hl.1 rfl (Nat.le_of_ble_eq_true rfl) dX2_tick_64 ⟨Nat.le_of_ble_eq_true rfl, Nat.le_of_ble_eq_true rfl⟩ (fun r23 u22 H locs hw hP hD hS => ?_)
    have hr23 : r23 = ((s2_sequence (upd v21 5 ((v21 5) + 1)) v13 v18 st a1).1) := hw
    obtain ⟨v24, hv24⟩ : ∃ z : Nat → Int32, z = ((s2_sequence (upd v21 5 ((v21 5) + 1)) v13 v18 st a1).2) := ⟨_, rfl⟩
    have hP : va_P D vwCl [(xf, c2 (.ref xs) (.ref xp) (.ref xq) v24), (xp, c1 v13), (xq, c1 v18), (xs, c5 st)] H := by rw [hv24]; exact hP
    have hD : va_D A [(xf, c2 (.ref xs) (.ref xp) (.ref xq) v24), (xp, c1 v13), (xq, c1 v18), (xs, c5 st)] := by rw [hv24]; exact hD
    refine lv_istore_n (lv' := [(3, .int r23), (2, .int w8), (0, .ref xf), (1, .int a1)]) hx hb dX2_tick_67 rfl hl (by decide) rfl (fun ls hl => ?_)
    refine lv_aload_n hx hb dX2_tick_68 rfl (lv_at hl 2 rfl) ?_
    refine lv_iload_n hx hb dX2_tick_69 rfl (lv_at hl 1 rfl) ?_
    refine cw_cVv (As := [.int w8]) (rest := []) (wc := [(xf, c2 (.ref xs) (.ref xp) (.ref xq) v24), (xp, c1 v13), (xq, c1 v18), (xs, c5 st)]) (wr := []) ⟨hx, hb, hml, hown, hts⟩ (k2_countUnlit l D cI cJ xf xp xq xs v24 v13 v18 st w8) (cwV 1 hts gX2_tick_X2_countUnlit rfl rfl rfl (by decide +kernel) ⟨Nat.le_of_ble_eq_true rfl, Nat.le_of_ble_eq_true rfl⟩) hK hN hP hD hS hA [0, 1, 2, 3] [] rfl rfl (by decide) (by decide) (by decide) 0 (ci := 2) rfl rfl rfl rfl hl.1 rfl (Nat.le_of_ble_eq_true rfl) dX2_tick_70 ⟨Nat.le_of_ble_eq_true rfl, Nat.le_of_ble_eq_true rfl⟩ (fun u25 H locs hw hP hD hS => ?_)
    obtain ⟨v27, hv27⟩ : ∃ z : Nat → Int32, z = (s2_countUnlit v24 v13 v18 st w8) := ⟨_, rfl⟩
    have hP : va_P D vwCl [(xf, c2 (.ref xs) (.ref xp) (.ref xq) v27), (xp, c1 v13), (xq, c1 v18), (xs, c5 st)] H := by rw [hv27]; exact hP
    have hD : va_D A [(xf, c2 (.ref xs) (.ref xp) (.ref xq) v27), (xp, c1 v13), (xq, c1 v18), (xs, c5 st)] := by rw [hv27]; exact hD
    refine lv_iload_n hx hb dX2_tick_73 rfl (lv_at hl 0 rfl) ?_
    have hsp : (s2_tick f ep eq st a1) = (r23, v27, v13, v18) := by subst hv27; subst hr23; subst hv24; subst hv21; subst hv18; subst hr15; subst hv13; subst hr10; subst hw8; subst hr2; rfl
    exact hret _ _ _ _ _ _ _ _ hP hD hS dX2_tick_74 (cw_b01 (by subst hr23; subst hv21; subst hv18; subst hr15; subst hv13; subst hr10; (repeat' split) <;> first | exact Or.inl rfl | exact Or.inr rfl | assumption | exact z2_sequence _ _ _ _ _ | exact z6_isOn _ _)) ⟨(), (by rw [hsp]), (by rw [hsp])⟩ (Nat.le_of_ble_eq_true rfl) (Nat.le_of_ble_eq_true rfl)
  refine lv_if_ne (tgt := 14) hx hb dX2_tick_4 (by decide) (fun z3 => ?_) (fun z3 => ?_)
  · refine lv_iconst (v := 1) hx hb dX2_tick_14 (by decide) ?_
    refine lv_goto (tgt := 19) hx hb dX2_tick_15 (by decide) ?_
    exact J7 1 (by simp only [if_neg z3]) _ _ hP hD hS
  · refine lv_aload_n hx hb dX2_tick_7 rfl (lv_at hl 0 rfl) ?_
    refine cw_cVi (As := []) (rest := []) (wc := [(xf, c2 (.ref xs) (.ref xp) (.ref xq) f)]) (wr := [(xp, c1 ep), (xq, c1 eq), (xs, c5 st)]) ⟨hx, hb, hml, hown, hts⟩ (k2_isMainOpen l D cI cJ xf (.ref xs) (.ref xp) (.ref xq) f) (cwV 0 hts gX2_tick_X2_isMainOpen rfl rfl rfl (by decide +kernel) ⟨Nat.le_of_ble_eq_true rfl, Nat.le_of_ble_eq_true rfl⟩) hK hN hP hD hS hA [3] [0, 1, 2] rfl rfl (by decide) (by decide) (by decide) 0 (ci := 2) rfl rfl rfl rfl hl.1 rfl (Nat.le_of_ble_eq_true rfl) dX2_tick_8 ⟨Nat.le_of_ble_eq_true rfl, Nat.le_of_ble_eq_true rfl⟩ (fun r5 u4 H locs hw hP hD hS => ?_)
    have hr5 : r5 = (s2_isMainOpen f) := hw
    have hP : va_P D vwCl [(xp, c1 ep), (xq, c1 eq), (xs, c5 st), (xf, c2 (.ref xs) (.ref xp) (.ref xq) f)] H := hP
    have hD : va_D A [(xp, c1 ep), (xq, c1 eq), (xs, c5 st), (xf, c2 (.ref xs) (.ref xp) (.ref xq) f)] := hD
    refine lv_if_eq (tgt := 18) hx hb dX2_tick_11 (by decide) (fun z6 => ?_) (fun z6 => ?_)
    · refine lv_iconst (v := 0) hx hb dX2_tick_18 (by decide) ?_
      exact J7 0 (by subst hr5; simp only [if_pos z3, if_pos z6]) _ _ hP hD hS
    · refine lv_iconst (v := 1) hx hb dX2_tick_14 (by decide) ?_
      refine lv_goto (tgt := 19) hx hb dX2_tick_15 (by decide) ?_
      exact J7 1 (by subst hr5; simp only [if_pos z3, if_neg z6]) _ _ hP hD hS
end
